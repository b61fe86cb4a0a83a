/-! the class's ring of minutes -/
def cntF (f : Nat → Int) : Nat → Int
  | 0 => 0
  | n + 1 => cntF f n + (if f n = 0 then 0 else 1)
theorem cnt_bd {f : Nat → Int} : ∀ n, 0 ≤ cntF f n ∧ cntF f n ≤ (n : Int) := by
  intro n
  induction n with
  | zero => exact ⟨Int.le_refl _, Int.le_refl _⟩
  | succ n ih =>
    simp only [cntF]
    split <;> omega
theorem cnt_cg {f h : Nat → Int} : ∀ n, (∀ i, i < n → f i = h i) → cntF f n = cntF h n := by
  intro n
  induction n with
  | zero => intro _; rfl
  | succ n ih =>
    intro hi
    simp only [cntF]
    rw [ih (fun i q => hi i (by omega)), hi n (by omega)]
theorem cnt_upd {f : Nat → Int} {i : Nat} {y : Int} : ∀ n, i < n → cntF (fun j => if j = i then y else f j) n = cntF f n - (if f i = 0 then 0 else 1) + (if y = 0 then 0 else 1) := by
  intro n
  induction n with
  | zero => intro h; omega
  | succ n ih =>
    intro h
    simp only [cntF]
    by_cases q : i = n
    · subst q
      rw [cnt_cg (f := fun j => if j = i then y else f j) (h := f) i (fun j hj => by simp only [if_neg (Nat.ne_of_lt hj)])]
      simp only [if_true]
      omega
    · have hn : ¬ n = i := fun e => q e.symm
      rw [ih (by omega)]
      simp only [if_neg hn]
      omega
theorem cnt_0 {f : Nat → Int} : ∀ n, cntF f n ≤ 0 → ∀ i, i < n → f i = 0 := by
  intro n
  induction n with
  | zero => intro _ i hi; omega
  | succ n ih =>
    intro h i hi
    simp only [cntF] at h
    have hb := cnt_bd (f := f) n
    by_cases q : f n = 0
    · rw [if_pos q] at h
      rcases Nat.lt_succ_iff_lt_or_eq.mp hi with r | r
      · exact ih (by omega) i r
      · rw [r]; exact q
    · rw [if_neg q] at h
      omega
def RelC (x : Int) (σ : Sto) (F : Int → Nat → Int) : Prop := (∀ (t : Int) (l : Nat), x ≤ t → t < x + 610 → l < 32 → ga σ 33 (t.toNat % 610 * 32 + l) = F t l) ∧ (∀ (t : Int) (l : Nat), x + 610 ≤ t → F t l = 0) ∧ ∀ (t : Int) (l : Nat), 32 ≤ l → F t l = 0
def CNT (σ : Sto) : Prop := ∃ N : Nat, N = 19520 ∧ gi σ 2053 = cntF (ga σ 33) N
theorem ixR {a l : Nat} (ha : a ≤ 3000) (hl : l < 32) : wr ((a : Int).tmod 610) = ((a % 610 : Nat) : Int) ∧ wr (((a % 610 : Nat) : Int) * 32) = ((a % 610 * 32 : Nat) : Int) ∧ wr (((a % 610 * 32 : Nat) : Int) + (l : Int)) = ((a % 610 * 32 + l : Nat) : Int) ∧ ((0 ≤ ((a % 610 * 32 + l : Nat) : Int)) = True) ∧ ((((a % 610 * 32 + l : Nat) : Int) < 19520) = True) := by
  refine ⟨?_, ?_, ?_, eq_true (by omega), eq_true (by omega)⟩
  · rw [Int.tmod_eq_emod_of_nonneg (by omega), wr_id (by omega) (by omega)]; omega
  · rw [wr_id (by omega) (by omega)]; omega
  · rw [wr_id (by omega) (by omega)]; omega
theorem ixN {a l N : Nat} (hl : l < 32) (hN : N = 19520) : a % 610 * 32 + l < N := by omega
section RING
variable {S : Scr} {σ : Sto} {post : Pst} {x : Int} {F : Int → Nat → Int}
theorem idx_inj {t a : Int} {l b : Nat} (hx : 0 ≤ x) (h1 : x ≤ t) (h2 : t < x + 610) (h3 : x ≤ a) (h4 : a < x + 610) (hl : l < 32) (hb : b < 32) (h : t.toNat % 610 * 32 + l = a.toNat % 610 * 32 + b) : t = a ∧ l = b := by omega
theorem rel_upd {a : Int} {b : Nat} {y : Int} (hx : 0 ≤ x) (h : RelC x σ F) (h3 : x ≤ a) (h4 : a < x + 610) (hb : b < 32) {z : Int} (hz : z = (if F a b = 0 then y else minF (F a b) y)) : RelC x (sa σ 33 (a.toNat % 610 * 32 + b) z) (updF F a b y) := by
  obtain ⟨r1, r2, r3⟩ := h
  refine ⟨fun t l h1 h2 hl => ?_, fun t l h1 => ?_, fun t l h1 => ?_⟩
  · simp only [↓reduceIte, okp_i, okp_r, okp_n, catS_nil, catS_cons, catV_i, catV_r, catV_l, Option.toList_some, Option.toList_none, List.cons_append, List.nil_append, gi_si, ga_si, gi_sa, ga_sa, gi_sl, ga_sl, gi_sf, ga_sf, gl_si, gl_sa, gl_sf, gl_sl, and_true, true_and, if_true, if_false, ite_true, ite_false, not_false_eq_true, not_true_eq_false, Nat.reduceEqDiff, reduceCtorEq, Nat.reduceLeDiff, Nat.reduceAdd, Nat.reduceMul, Nat.reduceLT, Int.reduceNeg, Int.reduceEq, Int.reduceLT, Int.reduceLE, eq_self, Nat.reduceSub, or_true, true_or, or_false, false_or, and_false, false_and, Int.reduceToNat, rc0, rc1, ib2, ib3, ib4, ib5, ib6, ib7, ib8, ib9, ib10, rc11, ib12, rc13, ib14, ib15, ib16, ib17, ib18, ib19, rc20, rc21, ib22, ib23, ib24, rc25, ib26, ib27, ib28, ib29, ib30, ib31, rc32, ib33, rc34, ib35, rc36, ib37, rc38, ib39, ib40, ib41, ib42, ib43, ib44, ib45, ib46, ib47, rc48, ib49, ib50, ib51, ib52, ib53, rc54, ib55, ib56, ib57, ib58, ib59, ib60, ib61, ib62, ib63, ib64, ib65, ib66, ib67, ib68, ib69, ib70, ib71, ib72, ib73, ib74, ib75, ib76, ib77, ib78, ib79, ib80, ib81]
    unfold updF
    by_cases q : t = a ∧ l = b
    · obtain ⟨rfl, rfl⟩ := q
      rw [if_pos rfl, if_pos ⟨rfl, rfl⟩]
      exact hz
    · rw [if_neg q, if_neg (fun e => q (idx_inj hx h1 h2 h3 h4 hl hb e))]
      exact r1 t l h1 h2 hl
  · unfold updF
    rw [if_neg (fun q => by omega)]
    exact r2 t l h1
  · unfold updF
    rw [if_neg (fun q => by omega)]
    exact r3 t l h1
theorem rel_zer {b : Nat} (hx : 0 ≤ x) (h : RelC x σ F) (hb : b < 32) : RelC x (sa σ 33 (x.toNat % 610 * 32 + b) 0) (zerF F x b) := by
  obtain ⟨r1, r2, r3⟩ := h
  refine ⟨fun t l h1 h2 hl => ?_, fun t l h1 => ?_, fun t l h1 => ?_⟩
  · simp only [↓reduceIte, okp_i, okp_r, okp_n, catS_nil, catS_cons, catV_i, catV_r, catV_l, Option.toList_some, Option.toList_none, List.cons_append, List.nil_append, gi_si, ga_si, gi_sa, ga_sa, gi_sl, ga_sl, gi_sf, ga_sf, gl_si, gl_sa, gl_sf, gl_sl, and_true, true_and, if_true, if_false, ite_true, ite_false, not_false_eq_true, not_true_eq_false, Nat.reduceEqDiff, reduceCtorEq, Nat.reduceLeDiff, Nat.reduceAdd, Nat.reduceMul, Nat.reduceLT, Int.reduceNeg, Int.reduceEq, Int.reduceLT, Int.reduceLE, eq_self, Nat.reduceSub, or_true, true_or, or_false, false_or, and_false, false_and, Int.reduceToNat, rc0, rc1, ib2, ib3, ib4, ib5, ib6, ib7, ib8, ib9, ib10, rc11, ib12, rc13, ib14, ib15, ib16, ib17, ib18, ib19, rc20, rc21, ib22, ib23, ib24, rc25, ib26, ib27, ib28, ib29, ib30, ib31, rc32, ib33, rc34, ib35, rc36, ib37, rc38, ib39, ib40, ib41, ib42, ib43, ib44, ib45, ib46, ib47, rc48, ib49, ib50, ib51, ib52, ib53, rc54, ib55, ib56, ib57, ib58, ib59, ib60, ib61, ib62, ib63, ib64, ib65, ib66, ib67, ib68, ib69, ib70, ib71, ib72, ib73, ib74, ib75, ib76, ib77, ib78, ib79, ib80, ib81]
    unfold zerF
    by_cases q : t = x ∧ l = b
    · obtain ⟨rfl, rfl⟩ := q
      rw [if_pos rfl, if_pos ⟨rfl, rfl⟩]
    · rw [if_neg q, if_neg (fun e => q (idx_inj hx h1 h2 (Int.le_refl _) (by omega) hl hb e))]
      exact r1 t l h1 h2 hl
  · unfold zerF
    rw [if_neg (fun q => by omega)]
    exact r2 t l h1
  · unfold zerF
    rw [if_neg (fun q => by omega)]
    exact r3 t l h1
theorem rel_next (hx : 0 ≤ x) (h : RelC x σ F) (h0 : ∀ l, F x l = 0) : RelC (x + 1) σ F := by
  obtain ⟨r1, r2, r3⟩ := h
  refine ⟨fun t l h1 h2 hl => ?_, fun t l h1 => r2 t l (by omega), r3⟩
  by_cases q : t = x + 610
  · have e : t.toNat % 610 = x.toNat % 610 := by omega
    rw [e, r1 x l (Int.le_refl _) (by omega) hl, h0 l, r2 t l (by omega)]
  · exact r1 t l (by omega) (by omega) hl
theorem rel_Fr {σ' : Sto} {KI KA : List Nat} (h : RelC x σ F) (hf : Fr KI KA σ σ') (h33 : 33 ∉ KA := by decide) : RelC x σ' F := by
  refine ⟨fun t l h1 h2 hl => ?_, h.2.1, h.2.2⟩
  rw [hf.2 33 h33]
  exact h.1 t l h1 h2 hl
theorem cnt_Fr {σ' : Sto} {KI KA : List Nat} (h : CNT σ) (hf : Fr KI KA σ σ') (h33 : 33 ∉ KA := by decide) (h53 : 2053 ∉ KI := by decide) : CNT σ' := by
  obtain ⟨N, hN, hC⟩ := h
  refine ⟨N, hN, ?_⟩
  rw [hf.1 _ h53, hf.2 _ h33]
  exact hC
theorem S_enter (hR : RelC x σ F) (hC : CNT σ) (hx : 0 ≤ x) {l n : Nat} (hl : l < 32) {e dv : Int} (he : x ≤ e ∧ e ≤ x + 9) (hd : 0 ≤ dv ∧ dv ≤ 600) (hx2 : x ≤ 3000) (hn : 0 < n) (k0 : ¬ (1 ≤ dv ∧ e + dv ≤ 3000) → post none σ) (k1 : 1 ≤ dv → e + dv ≤ 3000 → ∀ σ', Fr [2053] [33] σ σ' → RelC x σ' (updF F (e + dv) l (n : Int)) → CNT σ' → post none σ') : WP S 75 0 [some (vr 32), some (vi (l : Int)), some (vi e), some (vi dv), some (vi (n : Int)), none, none] [] σ post := by
  obtain ⟨N, hN, hC⟩ := hC
  have ea : wr (e + dv) = e + dv := wr_id (by omega) (by omega)
  by_cases q1 : dv < 1
  · simp only [w75_0, w75_1, w75_2, w75_3, w75_5, w75_6, w75_7, w75_10, w75_12, w75_15, w75_18, w75_19, w75_21, w75_24, w75_25, w75_27, w75_28, w75_29, w75_30, w75_32, w75_33, w75_36, w75_38, w75_39, w75_42, w75_43, w75_46, w75_48, w75_50, w75_51, w75_52, w75_52r, w75_53, w75_56, w75_57, w75_58, w75_61, w75_64, w75_65, w75_68, w75_70, w75_71, w75_74, w75_76, w75_77, w75_79, w75_82, w75_83, ↓reduceIte, okp_i, okp_r, okp_n, catS_nil, catS_cons, catV_i, catV_r, catV_l, Option.toList_some, Option.toList_none, List.cons_append, List.nil_append, gi_si, ga_si, gi_sa, ga_sa, gi_sl, ga_sl, gi_sf, ga_sf, gl_si, gl_sa, gl_sf, gl_sl, and_true, true_and, if_true, if_false, ite_true, ite_false, not_false_eq_true, not_true_eq_false, Nat.reduceEqDiff, reduceCtorEq, Nat.reduceLeDiff, Nat.reduceAdd, Nat.reduceMul, Nat.reduceLT, Int.reduceNeg, Int.reduceEq, Int.reduceLT, Int.reduceLE, eq_self, Nat.reduceSub, or_true, true_or, or_false, false_or, and_false, false_and, Int.reduceToNat, rc0, rc1, ib2, ib3, ib4, ib5, ib6, ib7, ib8, ib9, ib10, rc11, ib12, rc13, ib14, ib15, ib16, ib17, ib18, ib19, rc20, rc21, ib22, ib23, ib24, rc25, ib26, ib27, ib28, ib29, ib30, ib31, rc32, ib33, rc34, ib35, rc36, ib37, rc38, ib39, ib40, ib41, ib42, ib43, ib44, ib45, ib46, ib47, rc48, ib49, ib50, ib51, ib52, ib53, rc54, ib55, ib56, ib57, ib58, ib59, ib60, ib61, ib62, ib63, ib64, ib65, ib66, ib67, ib68, ib69, ib70, ib71, ib72, ib73, ib74, ib75, ib76, ib77, ib78, ib79, ib80, ib81, ea, q1]
    exact k0 (by omega)
  · by_cases q2 : e + dv ≤ 3000
    · have k1 := k1 (by omega) q2
      clear k0
      have hae : x ≤ e + dv ∧ e + dv < x + 610 := by omega
      have hold := hR.1 (e + dv) l hae.1 hae.2 hl
      obtain ⟨a, hA⟩ : ∃ a : Nat, e + dv = (a : Int) := ⟨(e + dv).toNat, by omega⟩
      rw [hA] at hold k1 ea q2 hae
      have ha : a ≤ 3000 := by omega
      obtain ⟨i1, i2, i3, i4, i5⟩ := ixR ha hl
      have c6 : ((610 : Int) = 0) = False := eq_false (by decide)
      have hcb := cnt_bd (f := ga σ 33) N
      have hi : a % 610 * 32 + l < N := ixN hl hN
      have hcu := fun y => cnt_upd (f := ga σ 33) (i := a % 610 * 32 + l) (y := y) N hi
      rw [Int.toNat_natCast] at hold
      have hk1 : ∀ σ' z, z = (if F (a : Int) l = 0 then (n : Int) else minF (F (a : Int) l) (n : Int)) → ga σ' 33 = (fun j => if j = a % 610 * 32 + l then z else ga σ 33 j) → Fr [2053] [33] σ σ' → gi σ' 2053 = gi σ 2053 - (if ga σ 33 (a % 610 * 32 + l) = 0 then 0 else 1) + (if z = 0 then 0 else 1) → post none σ' := by
        intro σ' z hz h33 hF hg
        refine k1 σ' hF ?_ ?_
        · have := rel_upd (σ := σ) (a := (a : Int)) (b := l) (y := (n : Int)) hx hR hae.1 hae.2 hl hz
          rw [Int.toNat_natCast] at this
          refine ⟨fun t l h1 h2 h3 => ?_, this.2.1, this.2.2⟩
          have g := this.1 t l h1 h2 h3
          rw [ga_sa, if_pos rfl] at g
          rw [h33]
          exact g
        · refine ⟨N, hN, ?_⟩
          rw [hg, h33, hcu z, hC]
      by_cases q3 : F (a : Int) l = 0
      · have q3' : (ga σ 33 (a % 610 * 32 + l) = 0) = True := eq_true (by rw [hold]; exact q3)
        have ew : wr (gi σ 2053 + 1) = gi σ 2053 + 1 := by rw [hC]; exact wr_id (by omega) (by omega)
        simp only [w75_0, w75_1, w75_2, w75_3, w75_5, w75_6, w75_7, w75_10, w75_12, w75_15, w75_18, w75_19, w75_21, w75_24, w75_25, w75_27, w75_28, w75_29, w75_30, w75_32, w75_33, w75_36, w75_38, w75_39, w75_42, w75_43, w75_46, w75_48, w75_50, w75_51, w75_52, w75_52r, w75_53, w75_56, w75_57, w75_58, w75_61, w75_64, w75_65, w75_68, w75_70, w75_71, w75_74, w75_76, w75_77, w75_79, w75_82, w75_83, ↓reduceIte, okp_i, okp_r, okp_n, catS_nil, catS_cons, catV_i, catV_r, catV_l, Option.toList_some, Option.toList_none, List.cons_append, List.nil_append, gi_si, ga_si, gi_sa, ga_sa, gi_sl, ga_sl, gi_sf, ga_sf, gl_si, gl_sa, gl_sf, gl_sl, and_true, true_and, if_true, if_false, ite_true, ite_false, not_false_eq_true, not_true_eq_false, Nat.reduceEqDiff, reduceCtorEq, Nat.reduceLeDiff, Nat.reduceAdd, Nat.reduceMul, Nat.reduceLT, Int.reduceNeg, Int.reduceEq, Int.reduceLT, Int.reduceLE, eq_self, Nat.reduceSub, or_true, true_or, or_false, false_or, and_false, false_and, Int.reduceToNat, rc0, rc1, ib2, ib3, ib4, ib5, ib6, ib7, ib8, ib9, ib10, rc11, ib12, rc13, ib14, ib15, ib16, ib17, ib18, ib19, rc20, rc21, ib22, ib23, ib24, rc25, ib26, ib27, ib28, ib29, ib30, ib31, rc32, ib33, rc34, ib35, rc36, ib37, rc38, ib39, ib40, ib41, ib42, ib43, ib44, ib45, ib46, ib47, rc48, ib49, ib50, ib51, ib52, ib53, rc54, ib55, ib56, ib57, ib58, ib59, ib60, ib61, ib62, ib63, ib64, ib65, ib66, ib67, ib68, ib69, ib70, ib71, ib72, ib73, ib74, ib75, ib76, ib77, ib78, ib79, ib80, ib81, hA, ea, q1, q2, i1, i2, i3, i4, i5, c6, Int.toNat_natCast, q3', ew]
        refine hk1 _ (n : Int) (by rw [if_pos q3]) (by simp only [↓reduceIte, okp_i, okp_r, okp_n, catS_nil, catS_cons, catV_i, catV_r, catV_l, Option.toList_some, Option.toList_none, List.cons_append, List.nil_append, gi_si, ga_si, gi_sa, ga_sa, gi_sl, ga_sl, gi_sf, ga_sf, gl_si, gl_sa, gl_sf, gl_sl, and_true, true_and, if_true, if_false, ite_true, ite_false, not_false_eq_true, not_true_eq_false, Nat.reduceEqDiff, reduceCtorEq, Nat.reduceLeDiff, Nat.reduceAdd, Nat.reduceMul, Nat.reduceLT, Int.reduceNeg, Int.reduceEq, Int.reduceLT, Int.reduceLE, eq_self, Nat.reduceSub, or_true, true_or, or_false, false_or, and_false, false_and, Int.reduceToNat, rc0, rc1, ib2, ib3, ib4, ib5, ib6, ib7, ib8, ib9, ib10, rc11, ib12, rc13, ib14, ib15, ib16, ib17, ib18, ib19, rc20, rc21, ib22, ib23, ib24, rc25, ib26, ib27, ib28, ib29, ib30, ib31, rc32, ib33, rc34, ib35, rc36, ib37, rc38, ib39, ib40, ib41, ib42, ib43, ib44, ib45, ib46, ib47, rc48, ib49, ib50, ib51, ib52, ib53, rc54, ib55, ib56, ib57, ib58, ib59, ib60, ib61, ib62, ib63, ib64, ib65, ib66, ib67, ib68, ib69, ib70, ib71, ib72, ib73, ib74, ib75, ib76, ib77, ib78, ib79, ib80, ib81]) (Fr_si (Fr_sa Fr_r (by decide)) (by decide)) ?_
        have hn0 : ¬ (n : Int) = 0 := by omega
        simp only [↓reduceIte, okp_i, okp_r, okp_n, catS_nil, catS_cons, catV_i, catV_r, catV_l, Option.toList_some, Option.toList_none, List.cons_append, List.nil_append, gi_si, ga_si, gi_sa, ga_sa, gi_sl, ga_sl, gi_sf, ga_sf, gl_si, gl_sa, gl_sf, gl_sl, and_true, true_and, if_true, if_false, ite_true, ite_false, not_false_eq_true, not_true_eq_false, Nat.reduceEqDiff, reduceCtorEq, Nat.reduceLeDiff, Nat.reduceAdd, Nat.reduceMul, Nat.reduceLT, Int.reduceNeg, Int.reduceEq, Int.reduceLT, Int.reduceLE, eq_self, Nat.reduceSub, or_true, true_or, or_false, false_or, and_false, false_and, Int.reduceToNat, rc0, rc1, ib2, ib3, ib4, ib5, ib6, ib7, ib8, ib9, ib10, rc11, ib12, rc13, ib14, ib15, ib16, ib17, ib18, ib19, rc20, rc21, ib22, ib23, ib24, rc25, ib26, ib27, ib28, ib29, ib30, ib31, rc32, ib33, rc34, ib35, rc36, ib37, rc38, ib39, ib40, ib41, ib42, ib43, ib44, ib45, ib46, ib47, rc48, ib49, ib50, ib51, ib52, ib53, rc54, ib55, ib56, ib57, ib58, ib59, ib60, ib61, ib62, ib63, ib64, ib65, ib66, ib67, ib68, ib69, ib70, ib71, ib72, ib73, ib74, ib75, ib76, ib77, ib78, ib79, ib80, ib81, q3', hn0]
        omega
      · have q3' : (ga σ 33 (a % 610 * 32 + l) = 0) = False := eq_false (by rw [hold]; exact q3)
        simp only [w75_0, w75_1, w75_2, w75_3, w75_5, w75_6, w75_7, w75_10, w75_12, w75_15, w75_18, w75_19, w75_21, w75_24, w75_25, w75_27, w75_28, w75_29, w75_30, w75_32, w75_33, w75_36, w75_38, w75_39, w75_42, w75_43, w75_46, w75_48, w75_50, w75_51, w75_52, w75_52r, w75_53, w75_56, w75_57, w75_58, w75_61, w75_64, w75_65, w75_68, w75_70, w75_71, w75_74, w75_76, w75_77, w75_79, w75_82, w75_83, ↓reduceIte, okp_i, okp_r, okp_n, catS_nil, catS_cons, catV_i, catV_r, catV_l, Option.toList_some, Option.toList_none, List.cons_append, List.nil_append, gi_si, ga_si, gi_sa, ga_sa, gi_sl, ga_sl, gi_sf, ga_sf, gl_si, gl_sa, gl_sf, gl_sl, and_true, true_and, if_true, if_false, ite_true, ite_false, not_false_eq_true, not_true_eq_false, Nat.reduceEqDiff, reduceCtorEq, Nat.reduceLeDiff, Nat.reduceAdd, Nat.reduceMul, Nat.reduceLT, Int.reduceNeg, Int.reduceEq, Int.reduceLT, Int.reduceLE, eq_self, Nat.reduceSub, or_true, true_or, or_false, false_or, and_false, false_and, Int.reduceToNat, rc0, rc1, ib2, ib3, ib4, ib5, ib6, ib7, ib8, ib9, ib10, rc11, ib12, rc13, ib14, ib15, ib16, ib17, ib18, ib19, rc20, rc21, ib22, ib23, ib24, rc25, ib26, ib27, ib28, ib29, ib30, ib31, rc32, ib33, rc34, ib35, rc36, ib37, rc38, ib39, ib40, ib41, ib42, ib43, ib44, ib45, ib46, ib47, rc48, ib49, ib50, ib51, ib52, ib53, rc54, ib55, ib56, ib57, ib58, ib59, ib60, ib61, ib62, ib63, ib64, ib65, ib66, ib67, ib68, ib69, ib70, ib71, ib72, ib73, ib74, ib75, ib76, ib77, ib78, ib79, ib80, ib81, hA, ea, q1, q2, i1, i2, i3, i4, i5, c6, Int.toNat_natCast, q3']
        refine hk1 _ (minF (ga σ 33 (a % 610 * 32 + l)) (n : Int)) (by rw [if_neg q3, hold]) (by simp only [↓reduceIte, okp_i, okp_r, okp_n, catS_nil, catS_cons, catV_i, catV_r, catV_l, Option.toList_some, Option.toList_none, List.cons_append, List.nil_append, gi_si, ga_si, gi_sa, ga_sa, gi_sl, ga_sl, gi_sf, ga_sf, gl_si, gl_sa, gl_sf, gl_sl, and_true, true_and, if_true, if_false, ite_true, ite_false, not_false_eq_true, not_true_eq_false, Nat.reduceEqDiff, reduceCtorEq, Nat.reduceLeDiff, Nat.reduceAdd, Nat.reduceMul, Nat.reduceLT, Int.reduceNeg, Int.reduceEq, Int.reduceLT, Int.reduceLE, eq_self, Nat.reduceSub, or_true, true_or, or_false, false_or, and_false, false_and, Int.reduceToNat, rc0, rc1, ib2, ib3, ib4, ib5, ib6, ib7, ib8, ib9, ib10, rc11, ib12, rc13, ib14, ib15, ib16, ib17, ib18, ib19, rc20, rc21, ib22, ib23, ib24, rc25, ib26, ib27, ib28, ib29, ib30, ib31, rc32, ib33, rc34, ib35, rc36, ib37, rc38, ib39, ib40, ib41, ib42, ib43, ib44, ib45, ib46, ib47, rc48, ib49, ib50, ib51, ib52, ib53, rc54, ib55, ib56, ib57, ib58, ib59, ib60, ib61, ib62, ib63, ib64, ib65, ib66, ib67, ib68, ib69, ib70, ib71, ib72, ib73, ib74, ib75, ib76, ib77, ib78, ib79, ib80, ib81]) (Fr_sa Fr_r (by decide)) ?_
        have hz : ¬ minF (ga σ 33 (a % 610 * 32 + l)) (n : Int) = 0 := by
          have : ga σ 33 (a % 610 * 32 + l) ≠ 0 := by rw [hold]; exact q3
          unfold minF
          split <;> omega
        simp only [↓reduceIte, okp_i, okp_r, okp_n, catS_nil, catS_cons, catV_i, catV_r, catV_l, Option.toList_some, Option.toList_none, List.cons_append, List.nil_append, gi_si, ga_si, gi_sa, ga_sa, gi_sl, ga_sl, gi_sf, ga_sf, gl_si, gl_sa, gl_sf, gl_sl, and_true, true_and, if_true, if_false, ite_true, ite_false, not_false_eq_true, not_true_eq_false, Nat.reduceEqDiff, reduceCtorEq, Nat.reduceLeDiff, Nat.reduceAdd, Nat.reduceMul, Nat.reduceLT, Int.reduceNeg, Int.reduceEq, Int.reduceLT, Int.reduceLE, eq_self, Nat.reduceSub, or_true, true_or, or_false, false_or, and_false, false_and, Int.reduceToNat, rc0, rc1, ib2, ib3, ib4, ib5, ib6, ib7, ib8, ib9, ib10, rc11, ib12, rc13, ib14, ib15, ib16, ib17, ib18, ib19, rc20, rc21, ib22, ib23, ib24, rc25, ib26, ib27, ib28, ib29, ib30, ib31, rc32, ib33, rc34, ib35, rc36, ib37, rc38, ib39, ib40, ib41, ib42, ib43, ib44, ib45, ib46, ib47, rc48, ib49, ib50, ib51, ib52, ib53, rc54, ib55, ib56, ib57, ib58, ib59, ib60, ib61, ib62, ib63, ib64, ib65, ib66, ib67, ib68, ib69, ib70, ib71, ib72, ib73, ib74, ib75, ib76, ib77, ib78, ib79, ib80, ib81, q3', hz]
        omega
    · simp only [w75_0, w75_1, w75_2, w75_3, w75_5, w75_6, w75_7, w75_10, w75_12, w75_15, w75_18, w75_19, w75_21, w75_24, w75_25, w75_27, w75_28, w75_29, w75_30, w75_32, w75_33, w75_36, w75_38, w75_39, w75_42, w75_43, w75_46, w75_48, w75_50, w75_51, w75_52, w75_52r, w75_53, w75_56, w75_57, w75_58, w75_61, w75_64, w75_65, w75_68, w75_70, w75_71, w75_74, w75_76, w75_77, w75_79, w75_82, w75_83, ↓reduceIte, okp_i, okp_r, okp_n, catS_nil, catS_cons, catV_i, catV_r, catV_l, Option.toList_some, Option.toList_none, List.cons_append, List.nil_append, gi_si, ga_si, gi_sa, ga_sa, gi_sl, ga_sl, gi_sf, ga_sf, gl_si, gl_sa, gl_sf, gl_sl, and_true, true_and, if_true, if_false, ite_true, ite_false, not_false_eq_true, not_true_eq_false, Nat.reduceEqDiff, reduceCtorEq, Nat.reduceLeDiff, Nat.reduceAdd, Nat.reduceMul, Nat.reduceLT, Int.reduceNeg, Int.reduceEq, Int.reduceLT, Int.reduceLE, eq_self, Nat.reduceSub, or_true, true_or, or_false, false_or, and_false, false_and, Int.reduceToNat, rc0, rc1, ib2, ib3, ib4, ib5, ib6, ib7, ib8, ib9, ib10, rc11, ib12, rc13, ib14, ib15, ib16, ib17, ib18, ib19, rc20, rc21, ib22, ib23, ib24, rc25, ib26, ib27, ib28, ib29, ib30, ib31, rc32, ib33, rc34, ib35, rc36, ib37, rc38, ib39, ib40, ib41, ib42, ib43, ib44, ib45, ib46, ib47, rc48, ib49, ib50, ib51, ib52, ib53, rc54, ib55, ib56, ib57, ib58, ib59, ib60, ib61, ib62, ib63, ib64, ib65, ib66, ib67, ib68, ib69, ib70, ib71, ib72, ib73, ib74, ib75, ib76, ib77, ib78, ib79, ib80, ib81, ea, q1, q2]
      exact k0 (by omega)
end RING
