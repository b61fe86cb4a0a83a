/-! the text as tokens: the class's side -/
def blB (c : Int) : Bool := decide (c = 32 ∨ c = 10)
def ltB (c : Int) : Bool := decide (97 ≤ c ∧ c ≤ 122)
def dgB (c : Int) : Bool := decide (48 ≤ c ∧ c ≤ 57)
def runF (P : Int → Bool) (g : Nat → Int) : Nat → Nat → Nat
  | 0, p => p
  | r + 1, p => if P (g p) = true then runF P g r (p + 1) else p
def dvF (g : Nat → Int) (p : Nat) : Nat → Int
  | 0 => 0
  | n + 1 => wr (wr (wr (dvF g p n * 10) + g (p + n)) - 48)
def nmF (g : Nat → Int) (p : Nat) : Nat → Int
  | 0 => 0
  | n + 1 => nmF g p n * 256 + g (p + n)
def chF (j k : Nat) : Int := ((sByt.getD j []).getD k 0).toInt
def wsF (x : Int) : Int := if x = 6513010 then 0 else if x = 6452595 then 1 else if x = 500136502123 then 2 else if x = 1651075941 then 3 else if x = 6384748 then 4 else if x = 28526 then 5 else if x = 1718775661 then 6 else if x = 29807 then 7 else if x = 7168377 then 8 else if x = 7237492 then 9 else if x = 465625246068 then 10 else 11
/-- digits behind an s -/
def snF (g : Nat → Int) (L p : Nat) : Nat := runF dgB g (L - (p + 1)) (p + 1) - (p + 1)
abbrev isSt (g : Nat → Int) (L p : Nat) : Prop := g p = 115 ∧ 1 ≤ snF g L p ∧ snF g L p ≤ 2 ∧ dvF g (p + 1) (snF g L p) < 16 ∧ ltB (g (p + 1 + snF g L p)) = false
def tokF (g : Nat → Int) (L p : Nat) : Int × Nat × Int :=
  if L ≤ p then (15, p, 0)
  else if isSt g L p then (12, p + 1 + snF g L p, dvF g (p + 1) (snF g L p))
  else if ltB (g p) = true then (if 8 < runF ltB g (L - p) p - p then 16 else wsF (nmF g p (runF ltB g (L - p) p - p)), runF ltB g (L - p) p, 0)
  else if dgB (g p) = true then (if runF dgB g (L - p) p - p ≤ 4 ∧ ltB (g (runF dgB g (L - p) p)) = false then 13 else 16, runF dgB g (L - p) p, dvF g p (runF dgB g (L - p) p - p))
  else (if g p = 59 then 14 else 16, p + 1, 0)
def bgF (g : Nat → Int) (L p : Nat) : Nat := runF blB g (L - p) p
def enF (g : Nat → Int) (L : Nat) : Nat → Nat
  | 0 => 0
  | k + 1 => (tokF g L (bgF g L (enF g L k))).2.1
def tkF (g : Nat → Int) (L k : Nat) : Nat := bgF g L (enF g L k)
def sF (g : Nat → Int) (L k : Nat) : Int := (tokF g L (tkF g L k)).1
def vF (g : Nat → Int) (L k : Nat) : Int := (tokF g L (tkF g L k)).2.2
def NE (s : Nat → Int) (k : Nat) : Prop := ∀ j, j < k → s j ≠ 15
/-- the text itself: bytes, and -1 behind them -/
def TG (g : Nat → Int) (L : Nat) : Prop := L ≤ 800 ∧ (∀ p, p < L → 0 ≤ g p ∧ g p < 256) ∧ ∀ p, L ≤ p → g p = -1
def TX (g : Nat → Int) (L : Nat) (σ : Sto) : Prop := gi σ 705 = (L : Int) ∧ ∀ p, p < L → ga σ 12 p = g p
theorem runF_bd {P : Int → Bool} {g : Nat → Int} : ∀ r p, p ≤ runF P g r p ∧ runF P g r p ≤ p + r := by
  intro r
  induction r with
  | zero => intro p; exact ⟨Nat.le_refl _, Nat.le_refl _⟩
  | succ r ih =>
    intro p
    simp only [runF]
    split
    · have := ih (p + 1); omega
    · omega
theorem runF_in {P : Int → Bool} {g : Nat → Int} : ∀ r p k, p ≤ k → k < runF P g r p → P (g k) = true := by
  intro r
  induction r with
  | zero => intro p k h1 h2; simp only [runF] at h2; omega
  | succ r ih =>
    intro p k h1 h2
    simp only [runF] at h2
    split at h2
    · rename_i hp
      rcases Nat.eq_or_lt_of_le h1 with e | e
      · rw [← e]; exact hp
      · exact ih (p + 1) k e h2
    · omega
theorem runF_out {P : Int → Bool} {g : Nat → Int} {L : Nat} (hP : P (-1) = false) (hg : ∀ p, L ≤ p → g p = -1) : ∀ r p, p + r = L → P (g (runF P g r p)) = false := by
  intro r
  induction r with
  | zero => intro p h; simp only [runF]; rw [hg p (by omega)]; exact hP
  | succ r ih =>
    intro p h
    simp only [runF]
    split
    · exact ih (p + 1) (by omega)
    · rename_i hp; simpa using hp
theorem runF_lt {P : Int → Bool} {g : Nat → Int} {r p : Nat} (h : P (g p) = true) (hr : 0 < r) : p < runF P g r p := by
  cases r with
  | zero => omega
  | succ r =>
    simp only [runF, h, if_true]
    have := (runF_bd (P := P) (g := g) r (p + 1)).1
    omega
theorem nm_nn {f : Nat → Int} {p : Nat} : ∀ n, (∀ k, k < n → 97 ≤ f (p + k) ∧ f (p + k) ≤ 122) → 0 ≤ nmF f p n := by
  intro n
  induction n with
  | zero => intro _; exact Int.le_refl _
  | succ n ih =>
    intro h
    have h1 := ih (fun k hk => h k (by omega))
    have h2 := h n (by omega)
    simp only [nmF]
    omega
theorem nm_inj {f h : Nat → Int} {p q : Nat} : ∀ n m, (∀ k, k < n → 97 ≤ f (p + k) ∧ f (p + k) ≤ 122) → (∀ k, k < m → 97 ≤ h (q + k) ∧ h (q + k) ≤ 122) → (nmF f p n = nmF h q m ↔ n = m ∧ ∀ k, k < m → f (p + k) = h (q + k)) := by
  intro n
  induction n with
  | zero =>
    intro m hf hh
    cases m with
    | zero => exact ⟨fun _ => ⟨rfl, fun k hk => absurd hk (Nat.not_lt_zero k)⟩, fun _ => rfl⟩
    | succ m =>
      have h1 := nm_nn (f := h) (p := q) m (fun k hk => hh k (by omega))
      have h2 := hh m (by omega)
      simp only [nmF]
      constructor
      · intro e; omega
      · intro e; omega
  | succ n ih =>
    intro m hf hh
    have h3 := nm_nn (f := f) (p := p) n (fun k hk => hf k (by omega))
    have h4 := hf n (by omega)
    cases m with
    | zero =>
      simp only [nmF]
      constructor
      · intro e; omega
      · intro e; omega
    | succ m =>
      have h1 := nm_nn (f := h) (p := q) m (fun k hk => hh k (by omega))
      have h2 := hh m (by omega)
      have ih := ih m (fun k hk => hf k (by omega)) (fun k hk => hh k (by omega))
      simp only [nmF]
      constructor
      · intro e
        have e1 : nmF f p n = nmF h q m := by omega
        have e2 : f (p + n) = h (q + m) := by omega
        obtain ⟨rfl, u⟩ := ih.mp e1
        refine ⟨rfl, fun k hk => ?_⟩
        rcases Nat.lt_succ_iff_lt_or_eq.mp hk with q1 | q1
        · exact u k q1
        · rw [q1]; exact e2
      · intro ⟨e, u⟩
        have e0 : n = m := by omega
        subst e0
        rw [ih.mpr ⟨rfl, fun k hk => u k (by omega)⟩, u n (by omega)]
theorem ch_lt : ∀ j : Fin 11, ∀ k : Fin 5, k.val < sLen.getD j.val 0 → 97 ≤ chF j.val k.val ∧ chF j.val k.val ≤ 122 := by decide +kernel
theorem sl_le : ∀ j : Fin 11, sLen.getD j.val 0 ≤ 5 ∧ 1 ≤ sLen.getD j.val 0 := by decide
theorem ch_ok : ∀ j : Fin 11, ∀ k : Fin 5, ((Int32.ofInt (i2 (· &&& ·) (chF j.val k.val) 255)).toUInt32 % 65536).toInt32.toInt = chF j.val k.val ∧ retOk .char (chF j.val k.val) = true := by decide +kernel
def wcF : Nat → Int
  | 0 => 6513010
  | 1 => 6452595
  | 2 => 500136502123
  | 3 => 1651075941
  | 4 => 6384748
  | 5 => 28526
  | 6 => 1718775661
  | 7 => 29807
  | 8 => 7168377
  | 9 => 7237492
  | _ => 465625246068
theorem wd_nm : ∀ j : Fin 11, nmF (chF j.val) 0 (sLen.getD j.val 0) = wcF j.val := by decide +kernel
theorem itc {P : Prop} [Decidable P] {A : Prop} {f : Int → Prop} {a b : Int} (h : A ↔ f b) : ((if (if P then (1 : Int) else 0) = 0 then A else f a) ↔ f (if P then a else b)) := by
  by_cases q : P
  · simp only [if_pos q]
    exact Iff.rfl
  · simp only [if_neg q, if_true]
    exact h
section LEX
variable {S : Scr} {σ : Sto} {post : Pst} {g : Nat → Int} {L : Nat}
theorem TX_Fr {σ' : Sto} {KI KA : List Nat} (h : TX g L σ) (hf : Fr KI KA σ σ') (h1 : 705 ∉ KI := by decide) (h2 : 12 ∉ KA := by decide) : TX g L σ' := by
  refine ⟨by rw [hf.1 _ h1]; exact h.1, fun p hp => by rw [hf.2 _ h2]; exact h.2 p hp⟩
theorem S_at (hG : TG g L) (h : TX g L σ) {p : Nat} : WP S 83 0 [some (vr 11), some (vi (p : Int))] [] σ post ↔ post (some (vi (g p))) σ := by
  obtain ⟨g1, g2, g3⟩ := hG
  have c1 : ((p : Int) < 0) = False := eq_false (by omega)
  have c2 : (0 ≤ (p : Int)) = True := eq_true (by omega)
  by_cases hp : p < L
  · have c3 : ((L : Int) ≤ (p : Int)) = False := eq_false (by omega)
    have c4 : ((p : Int) < 800) = True := eq_true (by omega)
    simp only [w83_0, w83_1, w83_4, w83_5, w83_6, w83_9, w83_12, w83_13, w83_16, w83_17, w83_18, w83_21, w83_22, ↓reduceIte, okp_i, okp_r, okp_n, catS_nil, catS_cons, catV_i, catV_r, catV_l, Option.toList_some, Option.toList_none, List.cons_append, List.nil_append, gi_si, ga_si, gi_sa, ga_sa, gi_sl, ga_sl, gi_sf, ga_sf, gl_si, gl_sa, gl_sf, gl_sl, and_true, true_and, if_true, if_false, ite_true, ite_false, not_false_eq_true, not_true_eq_false, Nat.reduceEqDiff, reduceCtorEq, Nat.reduceLeDiff, Nat.reduceAdd, Nat.reduceMul, Nat.reduceLT, Int.reduceNeg, Int.reduceEq, Int.reduceLT, Int.reduceLE, eq_self, Nat.reduceSub, or_true, true_or, or_false, false_or, and_false, false_and, Int.reduceToNat, rc0, rc1, ib2, ib3, ib4, ib5, ib6, ib7, ib8, ib9, ib10, rc11, ib12, rc13, ib14, ib15, ib16, ib17, ib18, ib19, rc20, rc21, ib22, ib23, ib24, rc25, ib26, ib27, ib28, ib29, ib30, ib31, rc32, ib33, rc34, ib35, rc36, ib37, rc38, ib39, ib40, ib41, ib42, ib43, ib44, ib45, ib46, ib47, rc48, ib49, ib50, ib51, ib52, ib53, rc54, ib55, ib56, ib57, ib58, ib59, ib60, ib61, ib62, ib63, ib64, ib65, ib66, ib67, ib68, ib69, ib70, ib71, ib72, ib73, ib74, ib75, ib76, ib77, ib78, ib79, ib80, ib81, h.1, c1, c2, c3, c4, Int.toNat_natCast, h.2 p hp]
  · have c3 : ((L : Int) ≤ (p : Int)) = True := eq_true (by omega)
    rw [g3 p (by omega)]
    simp only [w83_0, w83_1, w83_4, w83_5, w83_6, w83_9, w83_12, w83_13, w83_16, w83_17, w83_18, w83_21, w83_22, ↓reduceIte, okp_i, okp_r, okp_n, catS_nil, catS_cons, catV_i, catV_r, catV_l, Option.toList_some, Option.toList_none, List.cons_append, List.nil_append, gi_si, ga_si, gi_sa, ga_sa, gi_sl, ga_sl, gi_sf, ga_sf, gl_si, gl_sa, gl_sf, gl_sl, and_true, true_and, if_true, if_false, ite_true, ite_false, not_false_eq_true, not_true_eq_false, Nat.reduceEqDiff, reduceCtorEq, Nat.reduceLeDiff, Nat.reduceAdd, Nat.reduceMul, Nat.reduceLT, Int.reduceNeg, Int.reduceEq, Int.reduceLT, Int.reduceLE, eq_self, Nat.reduceSub, or_true, true_or, or_false, false_or, and_false, false_and, Int.reduceToNat, rc0, rc1, ib2, ib3, ib4, ib5, ib6, ib7, ib8, ib9, ib10, rc11, ib12, rc13, ib14, ib15, ib16, ib17, ib18, ib19, rc20, rc21, ib22, ib23, ib24, rc25, ib26, ib27, ib28, ib29, ib30, ib31, rc32, ib33, rc34, ib35, rc36, ib37, rc38, ib39, ib40, ib41, ib42, ib43, ib44, ib45, ib46, ib47, rc48, ib49, ib50, ib51, ib52, ib53, rc54, ib55, ib56, ib57, ib58, ib59, ib60, ib61, ib62, ib63, ib64, ib65, ib66, ib67, ib68, ib69, ib70, ib71, ib72, ib73, ib74, ib75, ib76, ib77, ib78, ib79, ib80, ib81, h.1, c1, c2, c3]
theorem S_blank {c : Int} : WP S 31 0 [some (vi c)] [] σ post ↔ post (some (vi (if blB c = true then 1 else 0))) σ := by
  unfold blB
  simp only [w31_0, w31_1, w31_3, w31_6, w31_7, w31_9, w31_12, w31_13, w31_16, w31_17, ↓reduceIte, okp_i, okp_r, okp_n, catS_nil, catS_cons, catV_i, catV_r, catV_l, Option.toList_some, Option.toList_none, List.cons_append, List.nil_append, gi_si, ga_si, gi_sa, ga_sa, gi_sl, ga_sl, gi_sf, ga_sf, gl_si, gl_sa, gl_sf, gl_sl, and_true, true_and, if_true, if_false, ite_true, ite_false, not_false_eq_true, not_true_eq_false, Nat.reduceEqDiff, reduceCtorEq, Nat.reduceLeDiff, Nat.reduceAdd, Nat.reduceMul, Nat.reduceLT, Int.reduceNeg, Int.reduceEq, Int.reduceLT, Int.reduceLE, eq_self, Nat.reduceSub, or_true, true_or, or_false, false_or, and_false, false_and, Int.reduceToNat, rc0, rc1, ib2, ib3, ib4, ib5, ib6, ib7, ib8, ib9, ib10, rc11, ib12, rc13, ib14, ib15, ib16, ib17, ib18, ib19, rc20, rc21, ib22, ib23, ib24, rc25, ib26, ib27, ib28, ib29, ib30, ib31, rc32, ib33, rc34, ib35, rc36, ib37, rc38, ib39, ib40, ib41, ib42, ib43, ib44, ib45, ib46, ib47, rc48, ib49, ib50, ib51, ib52, ib53, rc54, ib55, ib56, ib57, ib58, ib59, ib60, ib61, ib62, ib63, ib64, ib65, ib66, ib67, ib68, ib69, ib70, ib71, ib72, ib73, ib74, ib75, ib76, ib77, ib78, ib79, ib80, ib81, decide_eq_true_eq]
  by_cases h : c = 32 ∨ c = 10
  · rw [if_pos h]
    repeat' split
    all_goals first | exact Iff.rfl | (exfalso; omega)
  · rw [if_neg h]
    repeat' split
    all_goals first | exact Iff.rfl | (exfalso; omega)
theorem S_letter {c : Int} : WP S 32 0 [some (vi c)] [] σ post ↔ post (some (vi (if ltB c = true then 1 else 0))) σ := by
  unfold ltB
  simp only [w32_0, w32_1, w32_3, w32_6, w32_7, w32_9, w32_12, w32_13, w32_16, w32_17, ↓reduceIte, okp_i, okp_r, okp_n, catS_nil, catS_cons, catV_i, catV_r, catV_l, Option.toList_some, Option.toList_none, List.cons_append, List.nil_append, gi_si, ga_si, gi_sa, ga_sa, gi_sl, ga_sl, gi_sf, ga_sf, gl_si, gl_sa, gl_sf, gl_sl, and_true, true_and, if_true, if_false, ite_true, ite_false, not_false_eq_true, not_true_eq_false, Nat.reduceEqDiff, reduceCtorEq, Nat.reduceLeDiff, Nat.reduceAdd, Nat.reduceMul, Nat.reduceLT, Int.reduceNeg, Int.reduceEq, Int.reduceLT, Int.reduceLE, eq_self, Nat.reduceSub, or_true, true_or, or_false, false_or, and_false, false_and, Int.reduceToNat, rc0, rc1, ib2, ib3, ib4, ib5, ib6, ib7, ib8, ib9, ib10, rc11, ib12, rc13, ib14, ib15, ib16, ib17, ib18, ib19, rc20, rc21, ib22, ib23, ib24, rc25, ib26, ib27, ib28, ib29, ib30, ib31, rc32, ib33, rc34, ib35, rc36, ib37, rc38, ib39, ib40, ib41, ib42, ib43, ib44, ib45, ib46, ib47, rc48, ib49, ib50, ib51, ib52, ib53, rc54, ib55, ib56, ib57, ib58, ib59, ib60, ib61, ib62, ib63, ib64, ib65, ib66, ib67, ib68, ib69, ib70, ib71, ib72, ib73, ib74, ib75, ib76, ib77, ib78, ib79, ib80, ib81, decide_eq_true_eq]
  by_cases h : 97 ≤ c ∧ c ≤ 122
  · rw [if_pos h]
    repeat' split
    all_goals first | exact Iff.rfl | (exfalso; omega)
  · rw [if_neg h]
    repeat' split
    all_goals first | exact Iff.rfl | (exfalso; omega)
theorem S_digit {c : Int} : WP S 33 0 [some (vi c)] [] σ post ↔ post (some (vi (if dgB c = true then 1 else 0))) σ := by
  unfold dgB
  simp only [w33_0, w33_1, w33_3, w33_6, w33_7, w33_9, w33_12, w33_13, w33_16, w33_17, ↓reduceIte, okp_i, okp_r, okp_n, catS_nil, catS_cons, catV_i, catV_r, catV_l, Option.toList_some, Option.toList_none, List.cons_append, List.nil_append, gi_si, ga_si, gi_sa, ga_sa, gi_sl, ga_sl, gi_sf, ga_sf, gl_si, gl_sa, gl_sf, gl_sl, and_true, true_and, if_true, if_false, ite_true, ite_false, not_false_eq_true, not_true_eq_false, Nat.reduceEqDiff, reduceCtorEq, Nat.reduceLeDiff, Nat.reduceAdd, Nat.reduceMul, Nat.reduceLT, Int.reduceNeg, Int.reduceEq, Int.reduceLT, Int.reduceLE, eq_self, Nat.reduceSub, or_true, true_or, or_false, false_or, and_false, false_and, Int.reduceToNat, rc0, rc1, ib2, ib3, ib4, ib5, ib6, ib7, ib8, ib9, ib10, rc11, ib12, rc13, ib14, ib15, ib16, ib17, ib18, ib19, rc20, rc21, ib22, ib23, ib24, rc25, ib26, ib27, ib28, ib29, ib30, ib31, rc32, ib33, rc34, ib35, rc36, ib37, rc38, ib39, ib40, ib41, ib42, ib43, ib44, ib45, ib46, ib47, rc48, ib49, ib50, ib51, ib52, ib53, rc54, ib55, ib56, ib57, ib58, ib59, ib60, ib61, ib62, ib63, ib64, ib65, ib66, ib67, ib68, ib69, ib70, ib71, ib72, ib73, ib74, ib75, ib76, ib77, ib78, ib79, ib80, ib81, decide_eq_true_eq]
  by_cases h : 48 ≤ c ∧ c ≤ 57
  · rw [if_pos h]
    repeat' split
    all_goals first | exact Iff.rfl | (exfalso; omega)
  · rw [if_neg h]
    repeat' split
    all_goals first | exact Iff.rfl | (exfalso; omega)
theorem L_skipB (hG : TG g L) : ∀ (r p : Nat) (σ : Sto), TX g L σ → p + r = L → gi σ 1349 = (p : Int) → (∀ σ', Fr [1349] [] σ σ' → gi σ' 1349 = (runF blB g r p : Nat) → post none σ') → WP S 23 0 [some (vr 21)] [] σ post := by
  intro r
  induction r with
  | zero =>
    intro p σ h hp hs kk
    have c : ((L : Int) ≤ (p : Int)) = True := eq_true (by omega)
    rw [w23_0]
    simp only [w23_1, w23_4, w23_5, w23_8, w23_11, w23_14, w23_15, w23_18, w23_19, w23_22, w23_25, w23_28, w23_31, w23_32, w23_32r, w23_33, w23_36, w23_37, w23_38, w23_41, w23_44, w79_0, w79_1, w79_4, ↓reduceIte, okp_i, okp_r, okp_n, catS_nil, catS_cons, catV_i, catV_r, catV_l, Option.toList_some, Option.toList_none, List.cons_append, List.nil_append, gi_si, ga_si, gi_sa, ga_sa, gi_sl, ga_sl, gi_sf, ga_sf, gl_si, gl_sa, gl_sf, gl_sl, and_true, true_and, if_true, if_false, ite_true, ite_false, not_false_eq_true, not_true_eq_false, Nat.reduceEqDiff, reduceCtorEq, Nat.reduceLeDiff, Nat.reduceAdd, Nat.reduceMul, Nat.reduceLT, Int.reduceNeg, Int.reduceEq, Int.reduceLT, Int.reduceLE, eq_self, Nat.reduceSub, or_true, true_or, or_false, false_or, and_false, false_and, Int.reduceToNat, rc0, rc1, ib2, ib3, ib4, ib5, ib6, ib7, ib8, ib9, ib10, rc11, ib12, rc13, ib14, ib15, ib16, ib17, ib18, ib19, rc20, rc21, ib22, ib23, ib24, rc25, ib26, ib27, ib28, ib29, ib30, ib31, rc32, ib33, rc34, ib35, rc36, ib37, rc38, ib39, ib40, ib41, ib42, ib43, ib44, ib45, ib46, ib47, rc48, ib49, ib50, ib51, ib52, ib53, rc54, ib55, ib56, ib57, ib58, ib59, ib60, ib61, ib62, ib63, ib64, ib65, ib66, ib67, ib68, ib69, ib70, ib71, ib72, ib73, ib74, ib75, ib76, ib77, ib78, ib79, ib80, ib81, hs, h.1, c]
    exact kk σ Fr_r hs
  | succ r ih =>
    intro p σ h hp hs kk
    have hG1 := hG.1
    have c : ((L : Int) ≤ (p : Int)) = False := eq_false (by omega)
    have e1 : wr ((p : Int) + 1) = ((p + 1 : Nat) : Int) := by rw [wr_id (by omega) (by omega)]; omega
    rw [w23_0]
    simp only [w23_1, w23_4, w23_5, w23_8, w23_11, w23_14, w23_15, w23_18, w23_19, w23_22, w23_25, w23_28, w23_31, w23_32, w23_32r, w23_33, w23_36, w23_37, w23_38, w23_41, w23_44, w79_0, w79_1, w79_4, ↓reduceIte, okp_i, okp_r, okp_n, catS_nil, catS_cons, catV_i, catV_r, catV_l, Option.toList_some, Option.toList_none, List.cons_append, List.nil_append, gi_si, ga_si, gi_sa, ga_sa, gi_sl, ga_sl, gi_sf, ga_sf, gl_si, gl_sa, gl_sf, gl_sl, and_true, true_and, if_true, if_false, ite_true, ite_false, not_false_eq_true, not_true_eq_false, Nat.reduceEqDiff, reduceCtorEq, Nat.reduceLeDiff, Nat.reduceAdd, Nat.reduceMul, Nat.reduceLT, Int.reduceNeg, Int.reduceEq, Int.reduceLT, Int.reduceLE, eq_self, Nat.reduceSub, or_true, true_or, or_false, false_or, and_false, false_and, Int.reduceToNat, rc0, rc1, ib2, ib3, ib4, ib5, ib6, ib7, ib8, ib9, ib10, rc11, ib12, rc13, ib14, ib15, ib16, ib17, ib18, ib19, rc20, rc21, ib22, ib23, ib24, rc25, ib26, ib27, ib28, ib29, ib30, ib31, rc32, ib33, rc34, ib35, rc36, ib37, rc38, ib39, ib40, ib41, ib42, ib43, ib44, ib45, ib46, ib47, rc48, ib49, ib50, ib51, ib52, ib53, rc54, ib55, ib56, ib57, ib58, ib59, ib60, ib61, ib62, ib63, ib64, ib65, ib66, ib67, ib68, ib69, ib70, ib71, ib72, ib73, ib74, ib75, ib76, ib77, ib78, ib79, ib80, ib81, hs, h.1, c, S_at hG h, S_blank]
    by_cases hb : blB (g p) = true
    · rw [if_pos hb]
      simp only [w23_1, w23_4, w23_5, w23_8, w23_11, w23_14, w23_15, w23_18, w23_19, w23_22, w23_25, w23_28, w23_31, w23_32, w23_32r, w23_33, w23_36, w23_37, w23_38, w23_41, w23_44, ↓reduceIte, okp_i, okp_r, okp_n, catS_nil, catS_cons, catV_i, catV_r, catV_l, Option.toList_some, Option.toList_none, List.cons_append, List.nil_append, gi_si, ga_si, gi_sa, ga_sa, gi_sl, ga_sl, gi_sf, ga_sf, gl_si, gl_sa, gl_sf, gl_sl, and_true, true_and, if_true, if_false, ite_true, ite_false, not_false_eq_true, not_true_eq_false, Nat.reduceEqDiff, reduceCtorEq, Nat.reduceLeDiff, Nat.reduceAdd, Nat.reduceMul, Nat.reduceLT, Int.reduceNeg, Int.reduceEq, Int.reduceLT, Int.reduceLE, eq_self, Nat.reduceSub, or_true, true_or, or_false, false_or, and_false, false_and, Int.reduceToNat, rc0, rc1, ib2, ib3, ib4, ib5, ib6, ib7, ib8, ib9, ib10, rc11, ib12, rc13, ib14, ib15, ib16, ib17, ib18, ib19, rc20, rc21, ib22, ib23, ib24, rc25, ib26, ib27, ib28, ib29, ib30, ib31, rc32, ib33, rc34, ib35, rc36, ib37, rc38, ib39, ib40, ib41, ib42, ib43, ib44, ib45, ib46, ib47, rc48, ib49, ib50, ib51, ib52, ib53, rc54, ib55, ib56, ib57, ib58, ib59, ib60, ib61, ib62, ib63, ib64, ib65, ib66, ib67, ib68, ib69, ib70, ib71, ib72, ib73, ib74, ib75, ib76, ib77, ib78, ib79, ib80, ib81, hs, e1]
      have hF : Fr [1349] [] σ (si σ 1349 ((p + 1 : Nat) : Int)) := Fr_si Fr_r (by decide)
      refine ih (p + 1) _ (TX_Fr h hF) (by omega) (by simp only [↓reduceIte, okp_i, okp_r, okp_n, catS_nil, catS_cons, catV_i, catV_r, catV_l, Option.toList_some, Option.toList_none, List.cons_append, List.nil_append, gi_si, ga_si, gi_sa, ga_sa, gi_sl, ga_sl, gi_sf, ga_sf, gl_si, gl_sa, gl_sf, gl_sl, and_true, true_and, if_true, if_false, ite_true, ite_false, not_false_eq_true, not_true_eq_false, Nat.reduceEqDiff, reduceCtorEq, Nat.reduceLeDiff, Nat.reduceAdd, Nat.reduceMul, Nat.reduceLT, Int.reduceNeg, Int.reduceEq, Int.reduceLT, Int.reduceLE, eq_self, Nat.reduceSub, or_true, true_or, or_false, false_or, and_false, false_and, Int.reduceToNat, rc0, rc1, ib2, ib3, ib4, ib5, ib6, ib7, ib8, ib9, ib10, rc11, ib12, rc13, ib14, ib15, ib16, ib17, ib18, ib19, rc20, rc21, ib22, ib23, ib24, rc25, ib26, ib27, ib28, ib29, ib30, ib31, rc32, ib33, rc34, ib35, rc36, ib37, rc38, ib39, ib40, ib41, ib42, ib43, ib44, ib45, ib46, ib47, rc48, ib49, ib50, ib51, ib52, ib53, rc54, ib55, ib56, ib57, ib58, ib59, ib60, ib61, ib62, ib63, ib64, ib65, ib66, ib67, ib68, ib69, ib70, ib71, ib72, ib73, ib74, ib75, ib76, ib77, ib78, ib79, ib80, ib81]) ?_
      intro σ' h1 h2
      refine kk σ' (Fr_t hF h1) ?_
      rw [h2]
      simp only [runF, hb, if_true]
    · rw [if_neg hb]
      simp only [w23_1, w23_4, w23_5, w23_8, w23_11, w23_14, w23_15, w23_18, w23_19, w23_22, w23_25, w23_28, w23_31, w23_32, w23_32r, w23_33, w23_36, w23_37, w23_38, w23_41, w23_44, ↓reduceIte, okp_i, okp_r, okp_n, catS_nil, catS_cons, catV_i, catV_r, catV_l, Option.toList_some, Option.toList_none, List.cons_append, List.nil_append, gi_si, ga_si, gi_sa, ga_sa, gi_sl, ga_sl, gi_sf, ga_sf, gl_si, gl_sa, gl_sf, gl_sl, and_true, true_and, if_true, if_false, ite_true, ite_false, not_false_eq_true, not_true_eq_false, Nat.reduceEqDiff, reduceCtorEq, Nat.reduceLeDiff, Nat.reduceAdd, Nat.reduceMul, Nat.reduceLT, Int.reduceNeg, Int.reduceEq, Int.reduceLT, Int.reduceLE, eq_self, Nat.reduceSub, or_true, true_or, or_false, false_or, and_false, false_and, Int.reduceToNat, rc0, rc1, ib2, ib3, ib4, ib5, ib6, ib7, ib8, ib9, ib10, rc11, ib12, rc13, ib14, ib15, ib16, ib17, ib18, ib19, rc20, rc21, ib22, ib23, ib24, rc25, ib26, ib27, ib28, ib29, ib30, ib31, rc32, ib33, rc34, ib35, rc36, ib37, rc38, ib39, ib40, ib41, ib42, ib43, ib44, ib45, ib46, ib47, rc48, ib49, ib50, ib51, ib52, ib53, rc54, ib55, ib56, ib57, ib58, ib59, ib60, ib61, ib62, ib63, ib64, ib65, ib66, ib67, ib68, ib69, ib70, ib71, ib72, ib73, ib74, ib75, ib76, ib77, ib78, ib79, ib80, ib81]
      refine kk σ Fr_r ?_
      rw [hs]
      simp only [runF, hb, ↓reduceIte, okp_i, okp_r, okp_n, catS_nil, catS_cons, catV_i, catV_r, catV_l, Option.toList_some, Option.toList_none, List.cons_append, List.nil_append, gi_si, ga_si, gi_sa, ga_sa, gi_sl, ga_sl, gi_sf, ga_sf, gl_si, gl_sa, gl_sf, gl_sl, and_true, true_and, if_true, if_false, ite_true, ite_false, not_false_eq_true, not_true_eq_false, Nat.reduceEqDiff, reduceCtorEq, Nat.reduceLeDiff, Nat.reduceAdd, Nat.reduceMul, Nat.reduceLT, Int.reduceNeg, Int.reduceEq, Int.reduceLT, Int.reduceLE, eq_self, Nat.reduceSub, or_true, true_or, or_false, false_or, and_false, false_and, Int.reduceToNat, rc0, rc1, ib2, ib3, ib4, ib5, ib6, ib7, ib8, ib9, ib10, rc11, ib12, rc13, ib14, ib15, ib16, ib17, ib18, ib19, rc20, rc21, ib22, ib23, ib24, rc25, ib26, ib27, ib28, ib29, ib30, ib31, rc32, ib33, rc34, ib35, rc36, ib37, rc38, ib39, ib40, ib41, ib42, ib43, ib44, ib45, ib46, ib47, rc48, ib49, ib50, ib51, ib52, ib53, rc54, ib55, ib56, ib57, ib58, ib59, ib60, ib61, ib62, ib63, ib64, ib65, ib66, ib67, ib68, ib69, ib70, ib71, ib72, ib73, ib74, ib75, ib76, ib77, ib78, ib79, ib80, ib81]
theorem L_skipL (hG : TG g L) : ∀ (r p : Nat) (σ : Sto), TX g L σ → p + r = L → gi σ 1349 = (p : Int) → (∀ σ', Fr [1349] [] σ σ' → gi σ' 1349 = (runF ltB g r p : Nat) → post none σ') → WP S 28 0 [some (vr 21)] [] σ post := by
  intro r
  induction r with
  | zero =>
    intro p σ h hp hs kk
    have c : ((L : Int) ≤ (p : Int)) = True := eq_true (by omega)
    rw [w28_0]
    simp only [w28_1, w28_4, w28_5, w28_8, w28_11, w28_14, w28_15, w28_18, w28_19, w28_22, w28_25, w28_28, w28_31, w28_32, w28_32r, w28_33, w28_36, w28_37, w28_38, w28_41, w28_44, w79_0, w79_1, w79_4, ↓reduceIte, okp_i, okp_r, okp_n, catS_nil, catS_cons, catV_i, catV_r, catV_l, Option.toList_some, Option.toList_none, List.cons_append, List.nil_append, gi_si, ga_si, gi_sa, ga_sa, gi_sl, ga_sl, gi_sf, ga_sf, gl_si, gl_sa, gl_sf, gl_sl, and_true, true_and, if_true, if_false, ite_true, ite_false, not_false_eq_true, not_true_eq_false, Nat.reduceEqDiff, reduceCtorEq, Nat.reduceLeDiff, Nat.reduceAdd, Nat.reduceMul, Nat.reduceLT, Int.reduceNeg, Int.reduceEq, Int.reduceLT, Int.reduceLE, eq_self, Nat.reduceSub, or_true, true_or, or_false, false_or, and_false, false_and, Int.reduceToNat, rc0, rc1, ib2, ib3, ib4, ib5, ib6, ib7, ib8, ib9, ib10, rc11, ib12, rc13, ib14, ib15, ib16, ib17, ib18, ib19, rc20, rc21, ib22, ib23, ib24, rc25, ib26, ib27, ib28, ib29, ib30, ib31, rc32, ib33, rc34, ib35, rc36, ib37, rc38, ib39, ib40, ib41, ib42, ib43, ib44, ib45, ib46, ib47, rc48, ib49, ib50, ib51, ib52, ib53, rc54, ib55, ib56, ib57, ib58, ib59, ib60, ib61, ib62, ib63, ib64, ib65, ib66, ib67, ib68, ib69, ib70, ib71, ib72, ib73, ib74, ib75, ib76, ib77, ib78, ib79, ib80, ib81, hs, h.1, c]
    exact kk σ Fr_r hs
  | succ r ih =>
    intro p σ h hp hs kk
    have hG1 := hG.1
    have c : ((L : Int) ≤ (p : Int)) = False := eq_false (by omega)
    have e1 : wr ((p : Int) + 1) = ((p + 1 : Nat) : Int) := by rw [wr_id (by omega) (by omega)]; omega
    rw [w28_0]
    simp only [w28_1, w28_4, w28_5, w28_8, w28_11, w28_14, w28_15, w28_18, w28_19, w28_22, w28_25, w28_28, w28_31, w28_32, w28_32r, w28_33, w28_36, w28_37, w28_38, w28_41, w28_44, w79_0, w79_1, w79_4, ↓reduceIte, okp_i, okp_r, okp_n, catS_nil, catS_cons, catV_i, catV_r, catV_l, Option.toList_some, Option.toList_none, List.cons_append, List.nil_append, gi_si, ga_si, gi_sa, ga_sa, gi_sl, ga_sl, gi_sf, ga_sf, gl_si, gl_sa, gl_sf, gl_sl, and_true, true_and, if_true, if_false, ite_true, ite_false, not_false_eq_true, not_true_eq_false, Nat.reduceEqDiff, reduceCtorEq, Nat.reduceLeDiff, Nat.reduceAdd, Nat.reduceMul, Nat.reduceLT, Int.reduceNeg, Int.reduceEq, Int.reduceLT, Int.reduceLE, eq_self, Nat.reduceSub, or_true, true_or, or_false, false_or, and_false, false_and, Int.reduceToNat, rc0, rc1, ib2, ib3, ib4, ib5, ib6, ib7, ib8, ib9, ib10, rc11, ib12, rc13, ib14, ib15, ib16, ib17, ib18, ib19, rc20, rc21, ib22, ib23, ib24, rc25, ib26, ib27, ib28, ib29, ib30, ib31, rc32, ib33, rc34, ib35, rc36, ib37, rc38, ib39, ib40, ib41, ib42, ib43, ib44, ib45, ib46, ib47, rc48, ib49, ib50, ib51, ib52, ib53, rc54, ib55, ib56, ib57, ib58, ib59, ib60, ib61, ib62, ib63, ib64, ib65, ib66, ib67, ib68, ib69, ib70, ib71, ib72, ib73, ib74, ib75, ib76, ib77, ib78, ib79, ib80, ib81, hs, h.1, c, S_at hG h, S_letter]
    by_cases hb : ltB (g p) = true
    · rw [if_pos hb]
      simp only [w28_1, w28_4, w28_5, w28_8, w28_11, w28_14, w28_15, w28_18, w28_19, w28_22, w28_25, w28_28, w28_31, w28_32, w28_32r, w28_33, w28_36, w28_37, w28_38, w28_41, w28_44, ↓reduceIte, okp_i, okp_r, okp_n, catS_nil, catS_cons, catV_i, catV_r, catV_l, Option.toList_some, Option.toList_none, List.cons_append, List.nil_append, gi_si, ga_si, gi_sa, ga_sa, gi_sl, ga_sl, gi_sf, ga_sf, gl_si, gl_sa, gl_sf, gl_sl, and_true, true_and, if_true, if_false, ite_true, ite_false, not_false_eq_true, not_true_eq_false, Nat.reduceEqDiff, reduceCtorEq, Nat.reduceLeDiff, Nat.reduceAdd, Nat.reduceMul, Nat.reduceLT, Int.reduceNeg, Int.reduceEq, Int.reduceLT, Int.reduceLE, eq_self, Nat.reduceSub, or_true, true_or, or_false, false_or, and_false, false_and, Int.reduceToNat, rc0, rc1, ib2, ib3, ib4, ib5, ib6, ib7, ib8, ib9, ib10, rc11, ib12, rc13, ib14, ib15, ib16, ib17, ib18, ib19, rc20, rc21, ib22, ib23, ib24, rc25, ib26, ib27, ib28, ib29, ib30, ib31, rc32, ib33, rc34, ib35, rc36, ib37, rc38, ib39, ib40, ib41, ib42, ib43, ib44, ib45, ib46, ib47, rc48, ib49, ib50, ib51, ib52, ib53, rc54, ib55, ib56, ib57, ib58, ib59, ib60, ib61, ib62, ib63, ib64, ib65, ib66, ib67, ib68, ib69, ib70, ib71, ib72, ib73, ib74, ib75, ib76, ib77, ib78, ib79, ib80, ib81, hs, e1]
      have hF : Fr [1349] [] σ (si σ 1349 ((p + 1 : Nat) : Int)) := Fr_si Fr_r (by decide)
      refine ih (p + 1) _ (TX_Fr h hF) (by omega) (by simp only [↓reduceIte, okp_i, okp_r, okp_n, catS_nil, catS_cons, catV_i, catV_r, catV_l, Option.toList_some, Option.toList_none, List.cons_append, List.nil_append, gi_si, ga_si, gi_sa, ga_sa, gi_sl, ga_sl, gi_sf, ga_sf, gl_si, gl_sa, gl_sf, gl_sl, and_true, true_and, if_true, if_false, ite_true, ite_false, not_false_eq_true, not_true_eq_false, Nat.reduceEqDiff, reduceCtorEq, Nat.reduceLeDiff, Nat.reduceAdd, Nat.reduceMul, Nat.reduceLT, Int.reduceNeg, Int.reduceEq, Int.reduceLT, Int.reduceLE, eq_self, Nat.reduceSub, or_true, true_or, or_false, false_or, and_false, false_and, Int.reduceToNat, rc0, rc1, ib2, ib3, ib4, ib5, ib6, ib7, ib8, ib9, ib10, rc11, ib12, rc13, ib14, ib15, ib16, ib17, ib18, ib19, rc20, rc21, ib22, ib23, ib24, rc25, ib26, ib27, ib28, ib29, ib30, ib31, rc32, ib33, rc34, ib35, rc36, ib37, rc38, ib39, ib40, ib41, ib42, ib43, ib44, ib45, ib46, ib47, rc48, ib49, ib50, ib51, ib52, ib53, rc54, ib55, ib56, ib57, ib58, ib59, ib60, ib61, ib62, ib63, ib64, ib65, ib66, ib67, ib68, ib69, ib70, ib71, ib72, ib73, ib74, ib75, ib76, ib77, ib78, ib79, ib80, ib81]) ?_
      intro σ' h1 h2
      refine kk σ' (Fr_t hF h1) ?_
      rw [h2]
      simp only [runF, hb, if_true]
    · rw [if_neg hb]
      simp only [w28_1, w28_4, w28_5, w28_8, w28_11, w28_14, w28_15, w28_18, w28_19, w28_22, w28_25, w28_28, w28_31, w28_32, w28_32r, w28_33, w28_36, w28_37, w28_38, w28_41, w28_44, ↓reduceIte, okp_i, okp_r, okp_n, catS_nil, catS_cons, catV_i, catV_r, catV_l, Option.toList_some, Option.toList_none, List.cons_append, List.nil_append, gi_si, ga_si, gi_sa, ga_sa, gi_sl, ga_sl, gi_sf, ga_sf, gl_si, gl_sa, gl_sf, gl_sl, and_true, true_and, if_true, if_false, ite_true, ite_false, not_false_eq_true, not_true_eq_false, Nat.reduceEqDiff, reduceCtorEq, Nat.reduceLeDiff, Nat.reduceAdd, Nat.reduceMul, Nat.reduceLT, Int.reduceNeg, Int.reduceEq, Int.reduceLT, Int.reduceLE, eq_self, Nat.reduceSub, or_true, true_or, or_false, false_or, and_false, false_and, Int.reduceToNat, rc0, rc1, ib2, ib3, ib4, ib5, ib6, ib7, ib8, ib9, ib10, rc11, ib12, rc13, ib14, ib15, ib16, ib17, ib18, ib19, rc20, rc21, ib22, ib23, ib24, rc25, ib26, ib27, ib28, ib29, ib30, ib31, rc32, ib33, rc34, ib35, rc36, ib37, rc38, ib39, ib40, ib41, ib42, ib43, ib44, ib45, ib46, ib47, rc48, ib49, ib50, ib51, ib52, ib53, rc54, ib55, ib56, ib57, ib58, ib59, ib60, ib61, ib62, ib63, ib64, ib65, ib66, ib67, ib68, ib69, ib70, ib71, ib72, ib73, ib74, ib75, ib76, ib77, ib78, ib79, ib80, ib81]
      refine kk σ Fr_r ?_
      rw [hs]
      simp only [runF, hb, ↓reduceIte, okp_i, okp_r, okp_n, catS_nil, catS_cons, catV_i, catV_r, catV_l, Option.toList_some, Option.toList_none, List.cons_append, List.nil_append, gi_si, ga_si, gi_sa, ga_sa, gi_sl, ga_sl, gi_sf, ga_sf, gl_si, gl_sa, gl_sf, gl_sl, and_true, true_and, if_true, if_false, ite_true, ite_false, not_false_eq_true, not_true_eq_false, Nat.reduceEqDiff, reduceCtorEq, Nat.reduceLeDiff, Nat.reduceAdd, Nat.reduceMul, Nat.reduceLT, Int.reduceNeg, Int.reduceEq, Int.reduceLT, Int.reduceLE, eq_self, Nat.reduceSub, or_true, true_or, or_false, false_or, and_false, false_and, Int.reduceToNat, rc0, rc1, ib2, ib3, ib4, ib5, ib6, ib7, ib8, ib9, ib10, rc11, ib12, rc13, ib14, ib15, ib16, ib17, ib18, ib19, rc20, rc21, ib22, ib23, ib24, rc25, ib26, ib27, ib28, ib29, ib30, ib31, rc32, ib33, rc34, ib35, rc36, ib37, rc38, ib39, ib40, ib41, ib42, ib43, ib44, ib45, ib46, ib47, rc48, ib49, ib50, ib51, ib52, ib53, rc54, ib55, ib56, ib57, ib58, ib59, ib60, ib61, ib62, ib63, ib64, ib65, ib66, ib67, ib68, ib69, ib70, ib71, ib72, ib73, ib74, ib75, ib76, ib77, ib78, ib79, ib80, ib81]
theorem L_digits (hG : TG g L) {fr : Nat} : ∀ (r n : Nat) (σ : Sto), TX g L σ → fr + n + r = L → gi σ 1349 = ((fr + n : Nat) : Int) → gi σ 1350 = dvF g fr n → (∀ σ', Fr [1349, 1350] [] σ σ' → gi σ' 1349 = (runF dgB g r (fr + n) : Nat) → gi σ' 1350 = dvF g fr (runF dgB g r (fr + n) - fr) → post (some (vi ((runF dgB g r (fr + n) - fr : Nat) : Int))) σ') → WP S 27 5 [some (vr 21), some (vi (fr : Int))] [] σ post := by
  intro r
  induction r with
  | zero =>
    intro n σ h hp hs hv kk
    have hG1 := hG.1
    have c : ((L : Int) ≤ ((fr + n : Nat) : Int)) = True := eq_true (by omega)
    have e2 : wr (((fr + n : Nat) : Int) - (fr : Int)) = ((fr + n - fr : Nat) : Int) := by rw [wr_id (by omega) (by omega)]; omega
    rw [w27_5]
    simp only [w27_0, w27_1, w27_2, w27_6, w27_9, w27_10, w27_13, w27_16, w27_19, w27_20, w27_23, w27_24, w27_27, w27_30, w27_33, w27_36, w27_37, w27_38, w27_41, w27_43, w27_44, w27_45, w27_48, w27_49, w27_52, w27_55, w27_56, w27_58, w27_59, w27_62, w27_63, w27_63r, w27_64, w27_67, w27_68, w27_69, w27_72, w27_75, w27_76, w27_79, w27_80, w27_81, w79_0, w79_1, w79_4, ↓reduceIte, okp_i, okp_r, okp_n, catS_nil, catS_cons, catV_i, catV_r, catV_l, Option.toList_some, Option.toList_none, List.cons_append, List.nil_append, gi_si, ga_si, gi_sa, ga_sa, gi_sl, ga_sl, gi_sf, ga_sf, gl_si, gl_sa, gl_sf, gl_sl, and_true, true_and, if_true, if_false, ite_true, ite_false, not_false_eq_true, not_true_eq_false, Nat.reduceEqDiff, reduceCtorEq, Nat.reduceLeDiff, Nat.reduceAdd, Nat.reduceMul, Nat.reduceLT, Int.reduceNeg, Int.reduceEq, Int.reduceLT, Int.reduceLE, eq_self, Nat.reduceSub, or_true, true_or, or_false, false_or, and_false, false_and, Int.reduceToNat, rc0, rc1, ib2, ib3, ib4, ib5, ib6, ib7, ib8, ib9, ib10, rc11, ib12, rc13, ib14, ib15, ib16, ib17, ib18, ib19, rc20, rc21, ib22, ib23, ib24, rc25, ib26, ib27, ib28, ib29, ib30, ib31, rc32, ib33, rc34, ib35, rc36, ib37, rc38, ib39, ib40, ib41, ib42, ib43, ib44, ib45, ib46, ib47, rc48, ib49, ib50, ib51, ib52, ib53, rc54, ib55, ib56, ib57, ib58, ib59, ib60, ib61, ib62, ib63, ib64, ib65, ib66, ib67, ib68, ib69, ib70, ib71, ib72, ib73, ib74, ib75, ib76, ib77, ib78, ib79, ib80, ib81, hs, h.1, c, e2]
    refine kk σ Fr_r hs ?_
    rw [hv, show runF dgB g 0 (fr + n) - fr = n by simp only [runF]; omega]
  | succ r ih =>
    intro n σ h hp hs hv kk
    have hG1 := hG.1
    have c : ((L : Int) ≤ ((fr + n : Nat) : Int)) = False := eq_false (by omega)
    have e1 : wr (((fr + n : Nat) : Int) + 1) = ((fr + (n + 1) : Nat) : Int) := by rw [wr_id (by omega) (by omega)]; omega
    have e2 : wr (((fr + n : Nat) : Int) - (fr : Int)) = ((fr + n - fr : Nat) : Int) := by rw [wr_id (by omega) (by omega)]; omega
    rw [w27_5]
    simp only [w27_0, w27_1, w27_2, w27_6, w27_9, w27_10, w27_13, w27_16, w27_19, w27_20, w27_23, w27_24, w27_27, w27_30, w27_33, w27_36, w27_37, w27_38, w27_41, w27_43, w27_44, w27_45, w27_48, w27_49, w27_52, w27_55, w27_56, w27_58, w27_59, w27_62, w27_63, w27_63r, w27_64, w27_67, w27_68, w27_69, w27_72, w27_75, w27_76, w27_79, w27_80, w27_81, w79_0, w79_1, w79_4, ↓reduceIte, okp_i, okp_r, okp_n, catS_nil, catS_cons, catV_i, catV_r, catV_l, Option.toList_some, Option.toList_none, List.cons_append, List.nil_append, gi_si, ga_si, gi_sa, ga_sa, gi_sl, ga_sl, gi_sf, ga_sf, gl_si, gl_sa, gl_sf, gl_sl, and_true, true_and, if_true, if_false, ite_true, ite_false, not_false_eq_true, not_true_eq_false, Nat.reduceEqDiff, reduceCtorEq, Nat.reduceLeDiff, Nat.reduceAdd, Nat.reduceMul, Nat.reduceLT, Int.reduceNeg, Int.reduceEq, Int.reduceLT, Int.reduceLE, eq_self, Nat.reduceSub, or_true, true_or, or_false, false_or, and_false, false_and, Int.reduceToNat, rc0, rc1, ib2, ib3, ib4, ib5, ib6, ib7, ib8, ib9, ib10, rc11, ib12, rc13, ib14, ib15, ib16, ib17, ib18, ib19, rc20, rc21, ib22, ib23, ib24, rc25, ib26, ib27, ib28, ib29, ib30, ib31, rc32, ib33, rc34, ib35, rc36, ib37, rc38, ib39, ib40, ib41, ib42, ib43, ib44, ib45, ib46, ib47, rc48, ib49, ib50, ib51, ib52, ib53, rc54, ib55, ib56, ib57, ib58, ib59, ib60, ib61, ib62, ib63, ib64, ib65, ib66, ib67, ib68, ib69, ib70, ib71, ib72, ib73, ib74, ib75, ib76, ib77, ib78, ib79, ib80, ib81, hs, h.1, c, S_at hG h, S_digit]
    by_cases hb : dgB (g (fr + n)) = true
    · rw [if_pos hb]
      simp only [w27_0, w27_1, w27_2, w27_6, w27_9, w27_10, w27_13, w27_16, w27_19, w27_20, w27_23, w27_24, w27_27, w27_30, w27_33, w27_36, w27_37, w27_38, w27_41, w27_43, w27_44, w27_45, w27_48, w27_49, w27_52, w27_55, w27_56, w27_58, w27_59, w27_62, w27_63, w27_63r, w27_64, w27_67, w27_68, w27_69, w27_72, w27_75, w27_76, w27_79, w27_80, w27_81, ↓reduceIte, okp_i, okp_r, okp_n, catS_nil, catS_cons, catV_i, catV_r, catV_l, Option.toList_some, Option.toList_none, List.cons_append, List.nil_append, gi_si, ga_si, gi_sa, ga_sa, gi_sl, ga_sl, gi_sf, ga_sf, gl_si, gl_sa, gl_sf, gl_sl, and_true, true_and, if_true, if_false, ite_true, ite_false, not_false_eq_true, not_true_eq_false, Nat.reduceEqDiff, reduceCtorEq, Nat.reduceLeDiff, Nat.reduceAdd, Nat.reduceMul, Nat.reduceLT, Int.reduceNeg, Int.reduceEq, Int.reduceLT, Int.reduceLE, eq_self, Nat.reduceSub, or_true, true_or, or_false, false_or, and_false, false_and, Int.reduceToNat, rc0, rc1, ib2, ib3, ib4, ib5, ib6, ib7, ib8, ib9, ib10, rc11, ib12, rc13, ib14, ib15, ib16, ib17, ib18, ib19, rc20, rc21, ib22, ib23, ib24, rc25, ib26, ib27, ib28, ib29, ib30, ib31, rc32, ib33, rc34, ib35, rc36, ib37, rc38, ib39, ib40, ib41, ib42, ib43, ib44, ib45, ib46, ib47, rc48, ib49, ib50, ib51, ib52, ib53, rc54, ib55, ib56, ib57, ib58, ib59, ib60, ib61, ib62, ib63, ib64, ib65, ib66, ib67, ib68, ib69, ib70, ib71, ib72, ib73, ib74, ib75, ib76, ib77, ib78, ib79, ib80, ib81, hs, hv, S_at hG h, e1]
      have hF : Fr [1349, 1350] [] σ (si (si σ 1350 (wr (wr (wr (dvF g fr n * 10) + g (fr + n)) - 48))) 1349 ((fr + (n + 1) : Nat) : Int)) := Fr_si (Fr_si Fr_r (by decide)) (by decide)
      have er : runF dgB g (r + 1) (fr + n) = runF dgB g r (fr + (n + 1)) := by simp only [runF, hb, if_true]; rfl
      rw [er] at kk
      refine ih (n + 1) _ (TX_Fr h hF) (by omega) (by simp only [↓reduceIte, okp_i, okp_r, okp_n, catS_nil, catS_cons, catV_i, catV_r, catV_l, Option.toList_some, Option.toList_none, List.cons_append, List.nil_append, gi_si, ga_si, gi_sa, ga_sa, gi_sl, ga_sl, gi_sf, ga_sf, gl_si, gl_sa, gl_sf, gl_sl, and_true, true_and, if_true, if_false, ite_true, ite_false, not_false_eq_true, not_true_eq_false, Nat.reduceEqDiff, reduceCtorEq, Nat.reduceLeDiff, Nat.reduceAdd, Nat.reduceMul, Nat.reduceLT, Int.reduceNeg, Int.reduceEq, Int.reduceLT, Int.reduceLE, eq_self, Nat.reduceSub, or_true, true_or, or_false, false_or, and_false, false_and, Int.reduceToNat, rc0, rc1, ib2, ib3, ib4, ib5, ib6, ib7, ib8, ib9, ib10, rc11, ib12, rc13, ib14, ib15, ib16, ib17, ib18, ib19, rc20, rc21, ib22, ib23, ib24, rc25, ib26, ib27, ib28, ib29, ib30, ib31, rc32, ib33, rc34, ib35, rc36, ib37, rc38, ib39, ib40, ib41, ib42, ib43, ib44, ib45, ib46, ib47, rc48, ib49, ib50, ib51, ib52, ib53, rc54, ib55, ib56, ib57, ib58, ib59, ib60, ib61, ib62, ib63, ib64, ib65, ib66, ib67, ib68, ib69, ib70, ib71, ib72, ib73, ib74, ib75, ib76, ib77, ib78, ib79, ib80, ib81]) (by simp only [↓reduceIte, okp_i, okp_r, okp_n, catS_nil, catS_cons, catV_i, catV_r, catV_l, Option.toList_some, Option.toList_none, List.cons_append, List.nil_append, gi_si, ga_si, gi_sa, ga_sa, gi_sl, ga_sl, gi_sf, ga_sf, gl_si, gl_sa, gl_sf, gl_sl, and_true, true_and, if_true, if_false, ite_true, ite_false, not_false_eq_true, not_true_eq_false, Nat.reduceEqDiff, reduceCtorEq, Nat.reduceLeDiff, Nat.reduceAdd, Nat.reduceMul, Nat.reduceLT, Int.reduceNeg, Int.reduceEq, Int.reduceLT, Int.reduceLE, eq_self, Nat.reduceSub, or_true, true_or, or_false, false_or, and_false, false_and, Int.reduceToNat, rc0, rc1, ib2, ib3, ib4, ib5, ib6, ib7, ib8, ib9, ib10, rc11, ib12, rc13, ib14, ib15, ib16, ib17, ib18, ib19, rc20, rc21, ib22, ib23, ib24, rc25, ib26, ib27, ib28, ib29, ib30, ib31, rc32, ib33, rc34, ib35, rc36, ib37, rc38, ib39, ib40, ib41, ib42, ib43, ib44, ib45, ib46, ib47, rc48, ib49, ib50, ib51, ib52, ib53, rc54, ib55, ib56, ib57, ib58, ib59, ib60, ib61, ib62, ib63, ib64, ib65, ib66, ib67, ib68, ib69, ib70, ib71, ib72, ib73, ib74, ib75, ib76, ib77, ib78, ib79, ib80, ib81]; rfl) ?_
      intro σ' h1 h2 h3
      exact kk σ' (Fr_t hF h1) h2 h3
    · rw [if_neg hb]
      have er : runF dgB g (r + 1) (fr + n) = fr + n := by simp only [runF, hb, ↓reduceIte, okp_i, okp_r, okp_n, catS_nil, catS_cons, catV_i, catV_r, catV_l, Option.toList_some, Option.toList_none, List.cons_append, List.nil_append, gi_si, ga_si, gi_sa, ga_sa, gi_sl, ga_sl, gi_sf, ga_sf, gl_si, gl_sa, gl_sf, gl_sl, and_true, true_and, if_true, if_false, ite_true, ite_false, not_false_eq_true, not_true_eq_false, Nat.reduceEqDiff, reduceCtorEq, Nat.reduceLeDiff, Nat.reduceAdd, Nat.reduceMul, Nat.reduceLT, Int.reduceNeg, Int.reduceEq, Int.reduceLT, Int.reduceLE, eq_self, Nat.reduceSub, or_true, true_or, or_false, false_or, and_false, false_and, Int.reduceToNat, rc0, rc1, ib2, ib3, ib4, ib5, ib6, ib7, ib8, ib9, ib10, rc11, ib12, rc13, ib14, ib15, ib16, ib17, ib18, ib19, rc20, rc21, ib22, ib23, ib24, rc25, ib26, ib27, ib28, ib29, ib30, ib31, rc32, ib33, rc34, ib35, rc36, ib37, rc38, ib39, ib40, ib41, ib42, ib43, ib44, ib45, ib46, ib47, rc48, ib49, ib50, ib51, ib52, ib53, rc54, ib55, ib56, ib57, ib58, ib59, ib60, ib61, ib62, ib63, ib64, ib65, ib66, ib67, ib68, ib69, ib70, ib71, ib72, ib73, ib74, ib75, ib76, ib77, ib78, ib79, ib80, ib81]
      rw [er] at kk
      simp only [w27_0, w27_1, w27_2, w27_6, w27_9, w27_10, w27_13, w27_16, w27_19, w27_20, w27_23, w27_24, w27_27, w27_30, w27_33, w27_36, w27_37, w27_38, w27_41, w27_43, w27_44, w27_45, w27_48, w27_49, w27_52, w27_55, w27_56, w27_58, w27_59, w27_62, w27_63, w27_63r, w27_64, w27_67, w27_68, w27_69, w27_72, w27_75, w27_76, w27_79, w27_80, w27_81, ↓reduceIte, okp_i, okp_r, okp_n, catS_nil, catS_cons, catV_i, catV_r, catV_l, Option.toList_some, Option.toList_none, List.cons_append, List.nil_append, gi_si, ga_si, gi_sa, ga_sa, gi_sl, ga_sl, gi_sf, ga_sf, gl_si, gl_sa, gl_sf, gl_sl, and_true, true_and, if_true, if_false, ite_true, ite_false, not_false_eq_true, not_true_eq_false, Nat.reduceEqDiff, reduceCtorEq, Nat.reduceLeDiff, Nat.reduceAdd, Nat.reduceMul, Nat.reduceLT, Int.reduceNeg, Int.reduceEq, Int.reduceLT, Int.reduceLE, eq_self, Nat.reduceSub, or_true, true_or, or_false, false_or, and_false, false_and, Int.reduceToNat, rc0, rc1, ib2, ib3, ib4, ib5, ib6, ib7, ib8, ib9, ib10, rc11, ib12, rc13, ib14, ib15, ib16, ib17, ib18, ib19, rc20, rc21, ib22, ib23, ib24, rc25, ib26, ib27, ib28, ib29, ib30, ib31, rc32, ib33, rc34, ib35, rc36, ib37, rc38, ib39, ib40, ib41, ib42, ib43, ib44, ib45, ib46, ib47, rc48, ib49, ib50, ib51, ib52, ib53, rc54, ib55, ib56, ib57, ib58, ib59, ib60, ib61, ib62, ib63, ib64, ib65, ib66, ib67, ib68, ib69, ib70, ib71, ib72, ib73, ib74, ib75, ib76, ib77, ib78, ib79, ib80, ib81, hs, e2]
      refine kk σ Fr_r hs ?_
      rw [hv, show fr + n - fr = n by omega]
theorem S_digits (hG : TG g L) (h : TX g L σ) {fr : Nat} (hf : fr ≤ L) (hv : gi σ 1350 = 0) (kk : ∀ σ', Fr [1349, 1350] [] σ σ' → gi σ' 1349 = (runF dgB g (L - fr) fr : Nat) → gi σ' 1350 = dvF g fr (runF dgB g (L - fr) fr - fr) → post (some (vi ((runF dgB g (L - fr) fr - fr : Nat) : Int))) σ') : WP S 27 0 [some (vr 21), some (vi (fr : Int))] [] σ post := by
  simp only [w27_0, w27_1, w27_2, w27_6, w27_9, w27_10, w27_13, w27_16, w27_19, w27_20, w27_23, w27_24, w27_27, w27_30, w27_33, w27_36, w27_37, w27_38, w27_41, w27_43, w27_44, w27_45, w27_48, w27_49, w27_52, w27_55, w27_56, w27_58, w27_59, w27_62, w27_63, w27_63r, w27_64, w27_67, w27_68, w27_69, w27_72, w27_75, w27_76, w27_79, w27_80, w27_81, ↓reduceIte, okp_i, okp_r, okp_n, catS_nil, catS_cons, catV_i, catV_r, catV_l, Option.toList_some, Option.toList_none, List.cons_append, List.nil_append, gi_si, ga_si, gi_sa, ga_sa, gi_sl, ga_sl, gi_sf, ga_sf, gl_si, gl_sa, gl_sf, gl_sl, and_true, true_and, if_true, if_false, ite_true, ite_false, not_false_eq_true, not_true_eq_false, Nat.reduceEqDiff, reduceCtorEq, Nat.reduceLeDiff, Nat.reduceAdd, Nat.reduceMul, Nat.reduceLT, Int.reduceNeg, Int.reduceEq, Int.reduceLT, Int.reduceLE, eq_self, Nat.reduceSub, or_true, true_or, or_false, false_or, and_false, false_and, Int.reduceToNat, rc0, rc1, ib2, ib3, ib4, ib5, ib6, ib7, ib8, ib9, ib10, rc11, ib12, rc13, ib14, ib15, ib16, ib17, ib18, ib19, rc20, rc21, ib22, ib23, ib24, rc25, ib26, ib27, ib28, ib29, ib30, ib31, rc32, ib33, rc34, ib35, rc36, ib37, rc38, ib39, ib40, ib41, ib42, ib43, ib44, ib45, ib46, ib47, rc48, ib49, ib50, ib51, ib52, ib53, rc54, ib55, ib56, ib57, ib58, ib59, ib60, ib61, ib62, ib63, ib64, ib65, ib66, ib67, ib68, ib69, ib70, ib71, ib72, ib73, ib74, ib75, ib76, ib77, ib78, ib79, ib80, ib81]
  have hF : Fr [1349, 1350] [] σ (si σ 1349 (fr : Int)) := Fr_si Fr_r (by decide)
  refine L_digits hG (fr := fr) (L - fr) 0 _ (TX_Fr h hF) (by omega) (by simp only [↓reduceIte, okp_i, okp_r, okp_n, catS_nil, catS_cons, catV_i, catV_r, catV_l, Option.toList_some, Option.toList_none, List.cons_append, List.nil_append, gi_si, ga_si, gi_sa, ga_sa, gi_sl, ga_sl, gi_sf, ga_sf, gl_si, gl_sa, gl_sf, gl_sl, and_true, true_and, if_true, if_false, ite_true, ite_false, not_false_eq_true, not_true_eq_false, Nat.reduceEqDiff, reduceCtorEq, Nat.reduceLeDiff, Nat.reduceAdd, Nat.reduceMul, Nat.reduceLT, Int.reduceNeg, Int.reduceEq, Int.reduceLT, Int.reduceLE, eq_self, Nat.reduceSub, or_true, true_or, or_false, false_or, and_false, false_and, Int.reduceToNat, rc0, rc1, ib2, ib3, ib4, ib5, ib6, ib7, ib8, ib9, ib10, rc11, ib12, rc13, ib14, ib15, ib16, ib17, ib18, ib19, rc20, rc21, ib22, ib23, ib24, rc25, ib26, ib27, ib28, ib29, ib30, ib31, rc32, ib33, rc34, ib35, rc36, ib37, rc38, ib39, ib40, ib41, ib42, ib43, ib44, ib45, ib46, ib47, rc48, ib49, ib50, ib51, ib52, ib53, rc54, ib55, ib56, ib57, ib58, ib59, ib60, ib61, ib62, ib63, ib64, ib65, ib66, ib67, ib68, ib69, ib70, ib71, ib72, ib73, ib74, ib75, ib76, ib77, ib78, ib79, ib80, ib81]; rfl) (by simp only [↓reduceIte, okp_i, okp_r, okp_n, catS_nil, catS_cons, catV_i, catV_r, catV_l, Option.toList_some, Option.toList_none, List.cons_append, List.nil_append, gi_si, ga_si, gi_sa, ga_sa, gi_sl, ga_sl, gi_sf, ga_sf, gl_si, gl_sa, gl_sf, gl_sl, and_true, true_and, if_true, if_false, ite_true, ite_false, not_false_eq_true, not_true_eq_false, Nat.reduceEqDiff, reduceCtorEq, Nat.reduceLeDiff, Nat.reduceAdd, Nat.reduceMul, Nat.reduceLT, Int.reduceNeg, Int.reduceEq, Int.reduceLT, Int.reduceLE, eq_self, Nat.reduceSub, or_true, true_or, or_false, false_or, and_false, false_and, Int.reduceToNat, rc0, rc1, ib2, ib3, ib4, ib5, ib6, ib7, ib8, ib9, ib10, rc11, ib12, rc13, ib14, ib15, ib16, ib17, ib18, ib19, rc20, rc21, ib22, ib23, ib24, rc25, ib26, ib27, ib28, ib29, ib30, ib31, rc32, ib33, rc34, ib35, rc36, ib37, rc38, ib39, ib40, ib41, ib42, ib43, ib44, ib45, ib46, ib47, rc48, ib49, ib50, ib51, ib52, ib53, rc54, ib55, ib56, ib57, ib58, ib59, ib60, ib61, ib62, ib63, ib64, ib65, ib66, ib67, ib68, ib69, ib70, ib71, ib72, ib73, ib74, ib75, ib76, ib77, ib78, ib79, ib80, ib81, hv]; rfl) ?_
  intro σ' h1 h2 h3
  exact kk σ' (Fr_t hF h1) h2 h3
theorem S_slen {x : Nat} (hx : 1000 ≤ x ∧ x < 1011) : WP S 200 0 [some (vr x)] [] σ post ↔ post (some (vi ((sLen.getD (x - 1000) 0 : Nat) : Int))) σ := by
  have h1 : 2000 ≤ x + 1000 ∧ x + 1000 < 2011 := by omega
  have h2 : ¬ x = 4000 := by omega
  have h3 : rcls x = some 11 := by simp only [rcls, hx, and_self, if_true]
  have h4 : x + 1000 - 2000 = x - 1000 := by omega
  have h5 := sl_le ⟨x - 1000, by omega⟩
  have h6 : i2 ishrF ((sLen.getD (x - 1000) 0 : Nat) : Int) 0 = ((sLen.getD (x - 1000) 0 : Nat) : Int) := (bt_shr (by unfold inR; simp only at h5; omega)).2.2.2
  have h7 : retOk .byte 0 = true := by decide
  simp only [w200_0, w200_1, w200_4, w200_5, w200_6, w200_9, w200_10, w202_0, w202_3, w202_6, w202_7, w202_10, w202_13, w202_14, ↓reduceIte, okp_i, okp_r, okp_n, catS_nil, catS_cons, catV_i, catV_r, catV_l, Option.toList_some, Option.toList_none, List.cons_append, List.nil_append, gi_si, ga_si, gi_sa, ga_sa, gi_sl, ga_sl, gi_sf, ga_sf, gl_si, gl_sa, gl_sf, gl_sl, and_true, true_and, if_true, if_false, ite_true, ite_false, not_false_eq_true, not_true_eq_false, Nat.reduceEqDiff, reduceCtorEq, Nat.reduceLeDiff, Nat.reduceAdd, Nat.reduceMul, Nat.reduceLT, Int.reduceNeg, Int.reduceEq, Int.reduceLT, Int.reduceLE, eq_self, Nat.reduceSub, or_true, true_or, or_false, false_or, and_false, false_and, Int.reduceToNat, rc0, rc1, ib2, ib3, ib4, ib5, ib6, ib7, ib8, ib9, ib10, rc11, ib12, rc13, ib14, ib15, ib16, ib17, ib18, ib19, rc20, rc21, ib22, ib23, ib24, rc25, ib26, ib27, ib28, ib29, ib30, ib31, rc32, ib33, rc34, ib35, rc36, ib37, rc38, ib39, ib40, ib41, ib42, ib43, ib44, ib45, ib46, ib47, rc48, ib49, ib50, ib51, ib52, ib53, rc54, ib55, ib56, ib57, ib58, ib59, ib60, ib61, ib62, ib63, ib64, ib65, ib66, ib67, ib68, ib69, ib70, ib71, ib72, ib73, ib74, ib75, ib76, ib77, ib78, ib79, ib80, ib81, w200_1 hx, w202_7 hx, w200_4 h1, h2, h3, h4, h6, h7]
theorem S_schr {x k : Nat} (hx : 1000 ≤ x ∧ x < 1011) (hk : k < sLen.getD (x - 1000) 0) : WP S 201 0 [some (vr x), some (vi (k : Int))] [] σ post ↔ post (some (vi (chF (x - 1000) k))) σ := by
  have h1 : 2000 ≤ x + 1000 ∧ x + 1000 < 2011 := by omega
  have h2 : ¬ x = 4000 := by omega
  have h2' : ¬ x + 1000 = 4000 := by omega
  have h3 : rcls x = some 11 := by simp only [rcls, hx, and_self, if_true]
  have h4 : x + 1000 - 2000 = x - 1000 := by omega
  have h5 := sl_le ⟨x - 1000, by omega⟩
  have h6 := ch_ok ⟨x - 1000, by omega⟩ ⟨k, by simp only at h5; omega⟩
  simp only at h6
  obtain ⟨h6, h8⟩ := h6
  have c1 : ((k : Int) < 0) = False := eq_false (by omega)
  have c2 : (0 ≤ (k : Int)) = True := eq_true (by omega)
  have c3 : ((k : Int) < ((sLen.getD (x - 1000) 0 : Nat) : Int)) = True := eq_true (by omega)
  have h9 : ((sByt.getD (x - 1000) []).getD k 0).toInt = chF (x - 1000) k := rfl
  simp only [w201_0, w201_1, w201_4, w201_7, w201_8, w201_11, w201_12, w201_15, w201_16, w201_17, w201_20, w201_24, w203_0, w203_3, w203_6, w203_7, w203_10, w203_13, w203_14, w203_17, w203_18, w205_0, w205_1, w205_2, w205_3, w205_6, w205_7, w205_8, w205_9, w205_12, w205_13, w205_14, w204_0, w204_1, w204_2, w204_5, w204_8, w204_8r, w204_9, w207_0, w207_1, w207_4, w207_5, w207_6, w207_9, w207_10, w207_11, w207_16, w207_17, ↓reduceIte, okp_i, okp_r, okp_n, catS_nil, catS_cons, catV_i, catV_r, catV_l, Option.toList_some, Option.toList_none, List.cons_append, List.nil_append, gi_si, ga_si, gi_sa, ga_sa, gi_sl, ga_sl, gi_sf, ga_sf, gl_si, gl_sa, gl_sf, gl_sl, and_true, true_and, if_true, if_false, ite_true, ite_false, not_false_eq_true, not_true_eq_false, Nat.reduceEqDiff, reduceCtorEq, Nat.reduceLeDiff, Nat.reduceAdd, Nat.reduceMul, Nat.reduceLT, Int.reduceNeg, Int.reduceEq, Int.reduceLT, Int.reduceLE, eq_self, Nat.reduceSub, or_true, true_or, or_false, false_or, and_false, false_and, Int.reduceToNat, rc0, rc1, ib2, ib3, ib4, ib5, ib6, ib7, ib8, ib9, ib10, rc11, ib12, rc13, ib14, ib15, ib16, ib17, ib18, ib19, rc20, rc21, ib22, ib23, ib24, rc25, ib26, ib27, ib28, ib29, ib30, ib31, rc32, ib33, rc34, ib35, rc36, ib37, rc38, ib39, ib40, ib41, ib42, ib43, ib44, ib45, ib46, ib47, rc48, ib49, ib50, ib51, ib52, ib53, rc54, ib55, ib56, ib57, ib58, ib59, ib60, ib61, ib62, ib63, ib64, ib65, ib66, ib67, ib68, ib69, ib70, ib71, ib72, ib73, ib74, ib75, ib76, ib77, ib78, ib79, ib80, ib81, w201_8 hx, w203_7 hx, w205_2 h1, w205_8 h1, h2, h2', h3, h4, c1, c2, c3, Int.toNat_natCast, h9, h6, h8]
theorem L_isWord (hG : TG g L) (h : TX g L σ) {x p : Nat} (hx : 1000 ≤ x ∧ x < 1011) (hs : gi σ 1348 = (p : Int)) (hp : p ≤ 800) : ∀ r i : Nat, i + r = sLen.getD (x - 1000) 0 → (∀ k, k < i → g (p + k) = chF (x - 1000) k) → (WP S 30 20 [some (vr 21), some (vr x), some (vi (i : Int))] [] σ post ↔ post (some (vi (if ∀ k, k < sLen.getD (x - 1000) 0 → g (p + k) = chF (x - 1000) k then 1 else 0))) σ) := by
  intro r
  have h2 : ¬ x = 4000 := by omega
  have h3 : rcls x = some 11 := by simp only [rcls, hx, and_self, if_true]
  have h5 : sLen.getD (x - 1000) 0 ≤ 5 := (sl_le ⟨x - 1000, by omega⟩).1
  induction r with
  | zero =>
    intro i hi hk
    have c : (((sLen.getD (x - 1000) 0 : Nat) : Int) ≤ (i : Int)) = True := eq_true (by omega)
    rw [if_pos (by rw [← hi]; exact hk), w30_20]
    simp only [w30_0, w30_1, w30_4, w30_5, w30_8, w30_9, w30_10, w30_13, w30_16, w30_17, w30_18, w30_19, w30_21, w30_22, w30_25, w30_28, w30_29, w30_32, w30_33, w30_36, w30_37, w30_38, w30_41, w30_42, w30_43, w30_46, w30_49, w30_50, w30_51, w30_54, w30_57, w30_58, ↓reduceIte, okp_i, okp_r, okp_n, catS_nil, catS_cons, catV_i, catV_r, catV_l, Option.toList_some, Option.toList_none, List.cons_append, List.nil_append, gi_si, ga_si, gi_sa, ga_sa, gi_sl, ga_sl, gi_sf, ga_sf, gl_si, gl_sa, gl_sf, gl_sl, and_true, true_and, if_true, if_false, ite_true, ite_false, not_false_eq_true, not_true_eq_false, Nat.reduceEqDiff, reduceCtorEq, Nat.reduceLeDiff, Nat.reduceAdd, Nat.reduceMul, Nat.reduceLT, Int.reduceNeg, Int.reduceEq, Int.reduceLT, Int.reduceLE, eq_self, Nat.reduceSub, or_true, true_or, or_false, false_or, and_false, false_and, Int.reduceToNat, rc0, rc1, ib2, ib3, ib4, ib5, ib6, ib7, ib8, ib9, ib10, rc11, ib12, rc13, ib14, ib15, ib16, ib17, ib18, ib19, rc20, rc21, ib22, ib23, ib24, rc25, ib26, ib27, ib28, ib29, ib30, ib31, rc32, ib33, rc34, ib35, rc36, ib37, rc38, ib39, ib40, ib41, ib42, ib43, ib44, ib45, ib46, ib47, rc48, ib49, ib50, ib51, ib52, ib53, rc54, ib55, ib56, ib57, ib58, ib59, ib60, ib61, ib62, ib63, ib64, ib65, ib66, ib67, ib68, ib69, ib70, ib71, ib72, ib73, ib74, ib75, ib76, ib77, ib78, ib79, ib80, ib81, S_slen hx, h2, h3, c]
  | succ r ih =>
    intro i hi hk
    have c : (((sLen.getD (x - 1000) 0 : Nat) : Int) ≤ (i : Int)) = False := eq_false (by omega)
    have e1 : wr ((p : Int) + (i : Int)) = ((p + i : Nat) : Int) := by rw [wr_id (by omega) (by omega)]; omega
    have e2 : wr ((i : Int) + 1) = ((i + 1 : Nat) : Int) := by rw [wr_id (by omega) (by omega)]; omega
    rw [w30_20]
    simp only [w30_0, w30_1, w30_4, w30_5, w30_8, w30_9, w30_10, w30_13, w30_16, w30_17, w30_18, w30_19, w30_21, w30_22, w30_25, w30_28, w30_29, w30_32, w30_33, w30_36, w30_37, w30_38, w30_41, w30_42, w30_43, w30_46, w30_49, w30_50, w30_51, w30_54, w30_57, w30_58, ↓reduceIte, okp_i, okp_r, okp_n, catS_nil, catS_cons, catV_i, catV_r, catV_l, Option.toList_some, Option.toList_none, List.cons_append, List.nil_append, gi_si, ga_si, gi_sa, ga_sa, gi_sl, ga_sl, gi_sf, ga_sf, gl_si, gl_sa, gl_sf, gl_sl, and_true, true_and, if_true, if_false, ite_true, ite_false, not_false_eq_true, not_true_eq_false, Nat.reduceEqDiff, reduceCtorEq, Nat.reduceLeDiff, Nat.reduceAdd, Nat.reduceMul, Nat.reduceLT, Int.reduceNeg, Int.reduceEq, Int.reduceLT, Int.reduceLE, eq_self, Nat.reduceSub, or_true, true_or, or_false, false_or, and_false, false_and, Int.reduceToNat, rc0, rc1, ib2, ib3, ib4, ib5, ib6, ib7, ib8, ib9, ib10, rc11, ib12, rc13, ib14, ib15, ib16, ib17, ib18, ib19, rc20, rc21, ib22, ib23, ib24, rc25, ib26, ib27, ib28, ib29, ib30, ib31, rc32, ib33, rc34, ib35, rc36, ib37, rc38, ib39, ib40, ib41, ib42, ib43, ib44, ib45, ib46, ib47, rc48, ib49, ib50, ib51, ib52, ib53, rc54, ib55, ib56, ib57, ib58, ib59, ib60, ib61, ib62, ib63, ib64, ib65, ib66, ib67, ib68, ib69, ib70, ib71, ib72, ib73, ib74, ib75, ib76, ib77, ib78, ib79, ib80, ib81, S_slen hx, h2, h3, c, hs, e1, S_at hG h, S_schr (k := i) hx (by omega)]
    by_cases hc : g (p + i) = chF (x - 1000) i
    · rw [if_pos hc]
      simp only [w30_0, w30_1, w30_4, w30_5, w30_8, w30_9, w30_10, w30_13, w30_16, w30_17, w30_18, w30_19, w30_21, w30_22, w30_25, w30_28, w30_29, w30_32, w30_33, w30_36, w30_37, w30_38, w30_41, w30_42, w30_43, w30_46, w30_49, w30_50, w30_51, w30_54, w30_57, w30_58, ↓reduceIte, okp_i, okp_r, okp_n, catS_nil, catS_cons, catV_i, catV_r, catV_l, Option.toList_some, Option.toList_none, List.cons_append, List.nil_append, gi_si, ga_si, gi_sa, ga_sa, gi_sl, ga_sl, gi_sf, ga_sf, gl_si, gl_sa, gl_sf, gl_sl, and_true, true_and, if_true, if_false, ite_true, ite_false, not_false_eq_true, not_true_eq_false, Nat.reduceEqDiff, reduceCtorEq, Nat.reduceLeDiff, Nat.reduceAdd, Nat.reduceMul, Nat.reduceLT, Int.reduceNeg, Int.reduceEq, Int.reduceLT, Int.reduceLE, eq_self, Nat.reduceSub, or_true, true_or, or_false, false_or, and_false, false_and, Int.reduceToNat, rc0, rc1, ib2, ib3, ib4, ib5, ib6, ib7, ib8, ib9, ib10, rc11, ib12, rc13, ib14, ib15, ib16, ib17, ib18, ib19, rc20, rc21, ib22, ib23, ib24, rc25, ib26, ib27, ib28, ib29, ib30, ib31, rc32, ib33, rc34, ib35, rc36, ib37, rc38, ib39, ib40, ib41, ib42, ib43, ib44, ib45, ib46, ib47, rc48, ib49, ib50, ib51, ib52, ib53, rc54, ib55, ib56, ib57, ib58, ib59, ib60, ib61, ib62, ib63, ib64, ib65, ib66, ib67, ib68, ib69, ib70, ib71, ib72, ib73, ib74, ib75, ib76, ib77, ib78, ib79, ib80, ib81, e2]
      refine ih (i + 1) (by omega) (fun k hk2 => ?_)
      rcases Nat.lt_succ_iff_lt_or_eq.mp hk2 with q | q
      · exact hk k q
      · rw [q]; exact hc
    · rw [if_neg hc, if_neg (fun q => hc (q i (by omega)))]
theorem S_isWord (hG : TG g L) (h : TX g L σ) {x p n : Nat} (hx : 1000 ≤ x ∧ x < 1011) (hs : gi σ 1348 = (p : Int)) (hq : gi σ 1349 = ((p + n : Nat) : Int)) (hp : p + n ≤ 800) (hl : ∀ k, k < n → 97 ≤ g (p + k) ∧ g (p + k) ≤ 122) : WP S 30 0 [some (vr 21), some (vr x), none] [] σ post ↔ post (some (vi (if nmF g p n = wcF (x - 1000) then 1 else 0))) σ := by
  have h2 : ¬ x = 4000 := by omega
  have h3 : rcls x = some 11 := by simp only [rcls, hx, and_self, if_true]
  have h5 : sLen.getD (x - 1000) 0 ≤ 5 := (sl_le ⟨x - 1000, by omega⟩).1
  have e1 : wr (((p + n : Nat) : Int) - (p : Int)) = (n : Int) := by rw [wr_id (by omega) (by omega)]; omega
  have hw : nmF (chF (x - 1000)) 0 (sLen.getD (x - 1000) 0) = wcF (x - 1000) := wd_nm ⟨x - 1000, by omega⟩
  have hi := nm_inj (f := g) (h := chF (x - 1000)) (p := p) (q := 0) n (sLen.getD (x - 1000) 0) hl (fun k hk => by
    rw [Nat.zero_add]
    exact ch_lt ⟨x - 1000, by omega⟩ ⟨k, by omega⟩ hk)
  rw [hw] at hi
  simp only [Nat.zero_add] at hi
  have hlp := L_isWord (S := S) (post := post) hG h hx hs (by omega) (sLen.getD (x - 1000) 0) 0 (by omega) (fun k hk => absurd hk (Nat.not_lt_zero k))
  simp only [w30_0, w30_1, w30_4, w30_5, w30_8, w30_9, w30_10, w30_13, w30_16, w30_17, w30_18, w30_19, w30_21, w30_22, w30_25, w30_28, w30_29, w30_32, w30_33, w30_36, w30_37, w30_38, w30_41, w30_42, w30_43, w30_46, w30_49, w30_50, w30_51, w30_54, w30_57, w30_58, ↓reduceIte, okp_i, okp_r, okp_n, catS_nil, catS_cons, catV_i, catV_r, catV_l, Option.toList_some, Option.toList_none, List.cons_append, List.nil_append, gi_si, ga_si, gi_sa, ga_sa, gi_sl, ga_sl, gi_sf, ga_sf, gl_si, gl_sa, gl_sf, gl_sl, and_true, true_and, if_true, if_false, ite_true, ite_false, not_false_eq_true, not_true_eq_false, Nat.reduceEqDiff, reduceCtorEq, Nat.reduceLeDiff, Nat.reduceAdd, Nat.reduceMul, Nat.reduceLT, Int.reduceNeg, Int.reduceEq, Int.reduceLT, Int.reduceLE, eq_self, Nat.reduceSub, or_true, true_or, or_false, false_or, and_false, false_and, Int.reduceToNat, rc0, rc1, ib2, ib3, ib4, ib5, ib6, ib7, ib8, ib9, ib10, rc11, ib12, rc13, ib14, ib15, ib16, ib17, ib18, ib19, rc20, rc21, ib22, ib23, ib24, rc25, ib26, ib27, ib28, ib29, ib30, ib31, rc32, ib33, rc34, ib35, rc36, ib37, rc38, ib39, ib40, ib41, ib42, ib43, ib44, ib45, ib46, ib47, rc48, ib49, ib50, ib51, ib52, ib53, rc54, ib55, ib56, ib57, ib58, ib59, ib60, ib61, ib62, ib63, ib64, ib65, ib66, ib67, ib68, ib69, ib70, ib71, ib72, ib73, ib74, ib75, ib76, ib77, ib78, ib79, ib80, ib81, S_slen hx, h2, h3, hs, hq, e1]
  by_cases hn : n = sLen.getD (x - 1000) 0
  · rw [if_pos (by omega)]
    refine Iff.trans hlp ?_
    by_cases hc : ∀ k, k < sLen.getD (x - 1000) 0 → g (p + k) = chF (x - 1000) k
    · rw [if_pos hc, if_pos (hi.mpr ⟨hn, hc⟩)]
    · rw [if_neg hc, if_neg (fun q => hc (hi.mp q).2)]
  · rw [if_neg (by omega), if_neg (fun q => hn (hi.mp q).1)]
theorem S_wordSort (hG : TG g L) (h : TX g L σ) {p n : Nat} (hs : gi σ 1348 = (p : Int)) (hq : gi σ 1349 = ((p + n : Nat) : Int)) (hp : p + n ≤ 800) (hl : ∀ k, k < n → 97 ≤ g (p + k) ∧ g (p + k) ≤ 122) : WP S 29 0 [some (vr 21)] [] σ post ↔ post (some (vi (if 8 < n then 16 else wsF (nmF g p n)))) σ := by
  have e1 : wr (((p + n : Nat) : Int) - (p : Int)) = (n : Int) := by rw [wr_id (by omega) (by omega)]; omega
  have hW : ∀ (x : Nat) (post : Pst), 1000 ≤ x ∧ x < 1011 → (WP S 30 0 [some (vr 21), some (vr x), none] [] σ post ↔ post (some (vi (if nmF g p n = wcF (x - 1000) then 1 else 0))) σ) := fun x post hx => S_isWord hG h hx hs hq hp hl
  by_cases h8 : 8 < n
  · have c : ((n : Int) ≤ 8) = False := eq_false (by omega)
    rw [if_pos h8]
    simp only [w29_0, w29_1, w29_4, w29_5, w29_8, w29_9, w29_11, w29_14, w29_16, w29_19, w29_20, w29_22, w29_25, w29_28, w29_29, w29_32, w29_33, w29_35, w29_38, w29_41, w29_42, w29_45, w29_46, w29_48, w29_51, w29_54, w29_55, w29_58, w29_59, w29_61, w29_64, w29_67, w29_68, w29_71, w29_72, w29_74, w29_77, w29_80, w29_81, w29_84, w29_85, w29_87, w29_90, w29_93, w29_94, w29_97, w29_98, w29_100, w29_103, w29_106, w29_108, w29_111, w29_112, w29_114, w29_117, w29_120, w29_122, w29_125, w29_126, w29_128, w29_131, w29_134, w29_136, w29_139, w29_140, w29_142, w29_145, w29_148, w29_150, w29_153, w29_154, w29_156, w29_159, w29_162, w29_164, w29_167, w29_169, ↓reduceIte, okp_i, okp_r, okp_n, catS_nil, catS_cons, catV_i, catV_r, catV_l, Option.toList_some, Option.toList_none, List.cons_append, List.nil_append, gi_si, ga_si, gi_sa, ga_sa, gi_sl, ga_sl, gi_sf, ga_sf, gl_si, gl_sa, gl_sf, gl_sl, and_true, true_and, if_true, if_false, ite_true, ite_false, not_false_eq_true, not_true_eq_false, Nat.reduceEqDiff, reduceCtorEq, Nat.reduceLeDiff, Nat.reduceAdd, Nat.reduceMul, Nat.reduceLT, Int.reduceNeg, Int.reduceEq, Int.reduceLT, Int.reduceLE, eq_self, Nat.reduceSub, or_true, true_or, or_false, false_or, and_false, false_and, Int.reduceToNat, rc0, rc1, ib2, ib3, ib4, ib5, ib6, ib7, ib8, ib9, ib10, rc11, ib12, rc13, ib14, ib15, ib16, ib17, ib18, ib19, rc20, rc21, ib22, ib23, ib24, rc25, ib26, ib27, ib28, ib29, ib30, ib31, rc32, ib33, rc34, ib35, rc36, ib37, rc38, ib39, ib40, ib41, ib42, ib43, ib44, ib45, ib46, ib47, rc48, ib49, ib50, ib51, ib52, ib53, rc54, ib55, ib56, ib57, ib58, ib59, ib60, ib61, ib62, ib63, ib64, ib65, ib66, ib67, ib68, ib69, ib70, ib71, ib72, ib73, ib74, ib75, ib76, ib77, ib78, ib79, ib80, ib81, hs, hq, e1, c]
  · have c : ((n : Int) ≤ 8) = True := eq_true (by omega)
    rw [if_neg h8]
    simp only [w29_0, w29_1, w29_4, w29_5, w29_8, w29_9, w29_11, w29_14, w29_16, w29_19, w29_20, w29_22, w29_25, w29_28, w29_29, w29_32, w29_33, w29_35, w29_38, w29_41, w29_42, w29_45, w29_46, w29_48, w29_51, w29_54, w29_55, w29_58, w29_59, w29_61, w29_64, w29_67, w29_68, w29_71, w29_72, w29_74, w29_77, w29_80, w29_81, w29_84, w29_85, w29_87, w29_90, w29_93, w29_94, w29_97, w29_98, w29_100, w29_103, w29_106, w29_108, w29_111, w29_112, w29_114, w29_117, w29_120, w29_122, w29_125, w29_126, w29_128, w29_131, w29_134, w29_136, w29_139, w29_140, w29_142, w29_145, w29_148, w29_150, w29_153, w29_154, w29_156, w29_159, w29_162, w29_164, w29_167, w29_169, ↓reduceIte, okp_i, okp_r, okp_n, catS_nil, catS_cons, catV_i, catV_r, catV_l, Option.toList_some, Option.toList_none, List.cons_append, List.nil_append, gi_si, ga_si, gi_sa, ga_sa, gi_sl, ga_sl, gi_sf, ga_sf, gl_si, gl_sa, gl_sf, gl_sl, and_true, true_and, if_true, if_false, ite_true, ite_false, not_false_eq_true, not_true_eq_false, Nat.reduceEqDiff, reduceCtorEq, Nat.reduceLeDiff, Nat.reduceAdd, Nat.reduceMul, Nat.reduceLT, Int.reduceNeg, Int.reduceEq, Int.reduceLT, Int.reduceLE, eq_self, Nat.reduceSub, or_true, true_or, or_false, false_or, and_false, false_and, Int.reduceToNat, rc0, rc1, ib2, ib3, ib4, ib5, ib6, ib7, ib8, ib9, ib10, rc11, ib12, rc13, ib14, ib15, ib16, ib17, ib18, ib19, rc20, rc21, ib22, ib23, ib24, rc25, ib26, ib27, ib28, ib29, ib30, ib31, rc32, ib33, rc34, ib35, rc36, ib37, rc38, ib39, ib40, ib41, ib42, ib43, ib44, ib45, ib46, ib47, rc48, ib49, ib50, ib51, ib52, ib53, rc54, ib55, ib56, ib57, ib58, ib59, ib60, ib61, ib62, ib63, ib64, ib65, ib66, ib67, ib68, ib69, ib70, ib71, ib72, ib73, ib74, ib75, ib76, ib77, ib78, ib79, ib80, ib81, hs, hq, e1, c, hW 1000 _ (by decide), hW 1001 _ (by decide), hW 1002 _ (by decide), hW 1003 _ (by decide), hW 1004 _ (by decide), hW 1005 _ (by decide), hW 1006 _ (by decide), hW 1007 _ (by decide), hW 1008 _ (by decide), hW 1009 _ (by decide), hW 1010 _ (by decide), wcF]
    generalize nmF g p n = y
    unfold wsF
    exact itc (f := fun z => post (some (vi z)) σ) (itc (f := fun z => post (some (vi z)) σ) (itc (f := fun z => post (some (vi z)) σ) (itc (f := fun z => post (some (vi z)) σ) (itc (f := fun z => post (some (vi z)) σ) (itc (f := fun z => post (some (vi z)) σ) (itc (f := fun z => post (some (vi z)) σ) (itc (f := fun z => post (some (vi z)) σ) (itc (f := fun z => post (some (vi z)) σ) (itc (f := fun z => post (some (vi z)) σ) (itc (f := fun z => post (some (vi z)) σ) Iff.rfl))))))))))
end LEX
