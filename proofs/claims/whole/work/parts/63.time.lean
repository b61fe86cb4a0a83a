/-! ways through the town: bounds, what is steady, Rch by lanes -/
def drL (σ : Sto) (kind : Int) (l : Nat) (m : Int) : Int := drvS σ kind (l / 2) (l % 2) m
def dsL (σ : Sto) (l : Nat) : Int := dstS σ (l / 2) (l % 2)
def ogL (σ : Sto) (l : Nat) : Int := orgS σ (l / 2) (l % 2)
def tnL (σ : Sto) (l0 l : Nat) (m : Int) : Int := trnS σ (dsL σ l0) (l0 / 2) (l / 2) m
def AS (σ : Sto) (kind frm beg t : Int) (l : Nat) : Prop := ((l / 2 : Nat) : Int) < gi σ 3461 ∧ ogL σ l = frm ∧ 0 < drL σ kind l beg ∧ t = drL σ kind l beg ∧ t ≤ 3000
def BS (σ : Sto) (kind beg t0 : Int) (l0 : Nat) (t : Int) (l : Nat) : Prop := ((l / 2 : Nat) : Int) < gi σ 3461 ∧ ogL σ l = dsL σ l0 ∧ l / 2 ≠ l0 / 2 ∧ 0 < drL σ kind l (beg + (t0 + tnL σ l0 l (beg + t0))) ∧ t = t0 + tnL σ l0 l (beg + t0) + drL σ kind l (beg + (t0 + tnL σ l0 l (beg + t0))) ∧ t ≤ 3000
theorem lw {s w : Nat} (hw : w < 2) : (2 * s + w) / 2 = s ∧ (2 * s + w) % 2 = w := by omega
section TIME
variable {S : Scr} {σ : Sto} {post : Pst} {kind frm to beg : Int}
theorem Rch_w : ∀ n t s w, Rch σ kind frm beg n t s w → w < 2 := by
  intro n
  cases n with
  | zero => intro t s w h; exact absurd h id
  | succ n => intro t s w h; exact h.2.1
theorem RA_Rch : ∀ n t l, RA (AS σ kind frm beg) (BS σ kind beg) n t l ↔ Rch σ kind frm beg n t (l / 2) (l % 2) := by
  intro n
  induction n with
  | zero => intro t l; exact Iff.rfl
  | succ n ih =>
    intro t l
    constructor
    · intro h
      rcases h with ⟨h0, h1, h2, h3, h4, h5⟩ | ⟨t0, l0, hr, h1, h2, h3, h4, h5, h6⟩
      · exact ⟨h1, by omega, h5, Or.inl ⟨h0, h2, h3, h4⟩⟩
      · exact ⟨h1, by omega, h6, Or.inr ⟨t0, l0 / 2, l0 % 2, (ih t0 l0).mp hr, h2, h3, h4, h5⟩⟩
    · intro ⟨h1, h2, h3, h4⟩
      rcases h4 with ⟨h0, g1, g2, g3⟩ | ⟨t0, s0, w0, hr, g1, g2, g3, g4⟩
      · exact Or.inl ⟨h0, h1, g1, g2, g3, h3⟩
      · have hw := Rch_w n t0 s0 w0 hr
        obtain ⟨e1, e2⟩ := lw (s := s0) hw
        refine Or.inr ⟨t0, 2 * s0 + w0, (ih _ _).mpr (by rw [e1, e2]; exact hr), h1, ?_, ?_, ?_, ?_, h3⟩
        · unfold ogL dsL; rw [e1, e2]; exact g1
        · rw [e1]; exact g2
        · unfold drL tnL dsL; rw [e1, e2]; exact g3
        · unfold drL tnL dsL; rw [e1, e2]; exact g4
theorem AnsR_of {T N : Int} (hne : frm ≠ to) (h : Ans (AS σ kind frm beg) (BS σ kind beg) (fun l => dsL σ l = to) T N) : AnsR σ kind frm to beg T N := by
  refine Or.inr ⟨hne, ?_⟩
  rcases h with ⟨h1, h2, h3⟩ | ⟨⟨n, l, h1, h2, h3⟩, h4, h5⟩
  · refine Or.inl ⟨h1, h2, fun n t s w hd hr => ?_⟩
    have hw := Rch_w n t s w hr
    obtain ⟨e1, e2⟩ := lw (s := s) hw
    refine h3 n t (2 * s + w) ?_ ((RA_Rch n t _).mpr (by rw [e1, e2]; exact hr))
    show dsL σ (2 * s + w) = to
    unfold dsL; rw [e1, e2]; exact hd
  · refine Or.inr ⟨⟨n, l / 2, l % 2, h1, (RA_Rch n T l).mp h2, h3⟩, fun n t s w hd hr => ?_, fun n s w hd hr => ?_⟩
    · have hw := Rch_w n t s w hr
      obtain ⟨e1, e2⟩ := lw (s := s) hw
      refine h4 n t (2 * s + w) ?_ ((RA_Rch n t _).mpr (by rw [e1, e2]; exact hr))
      show dsL σ (2 * s + w) = to
      unfold dsL; rw [e1, e2]; exact hd
    · have hw := Rch_w n T s w hr
      obtain ⟨e1, e2⟩ := lw (s := s) hw
      refine h5 n (2 * s + w) ?_ ((RA_Rch n T _).mpr (by rw [e1, e2]; exact hr))
      show dsL σ (2 * s + w) = to
      unfold dsL; rw [e1, e2]; exact hd
theorem cdv {len sp : Int} (h1 : 1 ≤ len) (h2 : len ≤ 60) (h3 : 1 ≤ sp) (h4 : sp ≤ 20) : 1 ≤ (10 * len + sp - 1).tdiv sp ∧ (10 * len + sp - 1).tdiv sp ≤ 600 := by
  rw [Int.tdiv_eq_ediv_of_nonneg (by omega)]
  constructor
  · exact (Int.le_ediv_iff_mul_le (by omega)).mpr (by omega)
  · refine Int.le_of_lt_add_one ((Int.ediv_lt_iff_lt_mul (by omega)).mpr ?_)
    have hc : sp = 1 ∨ sp = 2 ∨ sp = 3 ∨ sp = 4 ∨ sp = 5 ∨ sp = 6 ∨ sp = 7 ∨ sp = 8 ∨ sp = 9 ∨ sp = 10 ∨ sp = 11 ∨ sp = 12 ∨ sp = 13 ∨ sp = 14 ∨ sp = 15 ∨ sp = 16 ∨ sp = 17 ∨ sp = 18 ∨ sp = 19 ∨ sp = 20 := by omega
    rcases hc with rfl | rfl | rfl | rfl | rfl | rfl | rfl | rfl | rfl | rfl | rfl | rfl | rfl | rfl | rfl | rfl | rfl | rfl | rfl | rfl <;> omega
theorem ite_bd {P : Prop} [Decidable P] {x : Int} (h : 0 ≤ x ∧ x ≤ 600) : 0 ≤ (if P then 0 else x) ∧ (if P then 0 else x) ≤ 600 := by
  split
  · exact ⟨by decide, by decide⟩
  · exact h
theorem dr_bd (hT : InvT σ) (hB : InvB σ) {l : Nat} {m : Int} (hl : ((l / 2 : Nat) : Int) < gi σ 3461) : 0 ≤ drL σ kind l m ∧ drL σ kind l m ≤ 600 := by
  obtain ⟨-, -, -, -, -, -, -, -, -, -, t11⟩ := hT
  obtain ⟨-, -, -, -, -, -, -, u, -⟩ := t11 (l / 2) hl
  have hsp : 1 ≤ spS σ kind ((l / 2 : Nat) : Int) (witF m) ∧ spS σ kind ((l / 2 : Nat) : Int) (witF m) ≤ 20 := spF_bd hB _ (by have := hB.2.2.1; omega)
  have := cdv u.1 u.2 hsp.1 hsp.2
  unfold drL drvS drvF
  exact ite_bd ⟨by omega, this.2⟩
theorem tn_bd (hT : InvT σ) {l0 l : Nat} {m : Int} : 0 ≤ tnL σ l0 l m ∧ tnL σ l0 l m ≤ 9 := by
  obtain ⟨-, -, -, -, -, -, -, -, t9, t10, -⟩ := hT
  unfold tnL trnS
  split <;> omega
theorem hAS (hT : InvT σ) (hB : InvB σ) : ∀ t l, AS σ kind frm beg t l → 1 ≤ t ∧ t ≤ 3000 ∧ l < 2 * (gi σ 3461).toNat := by
  intro t l ⟨h1, h2, h3, h4, h5⟩
  omega
theorem hBS (hT : InvT σ) (hB : InvB σ) : ∀ t0 l0 t l, BS σ kind beg t0 l0 t l → t0 < t ∧ t ≤ 3000 ∧ l < 2 * (gi σ 3461).toNat := by
  intro t0 l0 t l ⟨h1, h2, h3, h4, h5, h6⟩
  have := tn_bd hT (l0 := l0) (l := l) (m := beg + t0)
  omega
/-- from st on nothing changes any more -/
def Stdy (σ : Sto) (st : Int) : Prop := gi σ 3462 ≤ st ∧ st ≤ 1439 ∧ ∀ k : Nat, (k : Int) < gi σ 838 → bkF σ 65 k ≤ st ∧ (bkF σ 66 k = 1440 ∨ bkF σ 66 k ≤ st)
theorem mayF_at {bW bK bS bF bT : Nat → Int} {s m m' : Int} : ∀ n, (∀ k, k < n → (bF k ≤ m ↔ bF k ≤ m') ∧ (m < bT k ↔ m' < bT k)) → mayF bW bK bS bF bT kind s m n = mayF bW bK bS bF bT kind s m' n := by
  intro n
  induction n with
  | zero => intro _; rfl
  | succ n ih =>
    intro h
    obtain ⟨a1, a2⟩ := h n (by omega)
    simp only [mayF, actF, a1, a2, ih (fun k hk => h k (by omega))]
theorem spF_at {bW bK bS bF bT : Nat → Int} {s m m' : Int} : ∀ n, (∀ k, k < n → (bF k ≤ m ↔ bF k ≤ m') ∧ (m < bT k ↔ m' < bT k)) → spF bW bK bS bF bT kind s m n = spF bW bK bS bF bT kind s m' n := by
  intro n
  induction n with
  | zero => intro _; rfl
  | succ n ih =>
    intro h
    obtain ⟨a1, a2⟩ := h n (by omega)
    simp only [spF, actF, a1, a2, ih (fun k hk => h k (by omega))]
theorem dr_at {m m' : Int} (hh : witF m < gi σ 3462 ↔ witF m' < gi σ 3462) (hk : ∀ k : Nat, (k : Int) < gi σ 838 → (bkF σ 65 k ≤ witF m ↔ bkF σ 65 k ≤ witF m') ∧ (witF m < bkF σ 66 k ↔ witF m' < bkF σ 66 k)) (l : Nat) : drL σ kind l m = drL σ kind l m' := by
  have h1 : mayS σ kind ((l / 2 : Nat) : Int) (witF m) = mayS σ kind ((l / 2 : Nat) : Int) (witF m') := mayF_at _ (fun k q => hk k (by omega))
  have h2 : spS σ kind ((l / 2 : Nat) : Int) (witF m) = spS σ kind ((l / 2 : Nat) : Int) (witF m') := spF_at _ (fun k q => hk k (by omega))
  unfold drL drvS drvF
  simp only [h1, h2, hh]
theorem wit_le {st m : Int} (h : st ≤ m) (h1 : st ≤ 1439) : st ≤ witF m ∧ witF m ≤ 1439 := by
  unfold witF
  split <;> omega
theorem dr_std {st m m' : Int} (hS : Stdy σ st) (h : st ≤ m) (h' : st ≤ m') (l : Nat) : drL σ kind l m = drL σ kind l m' := by
  obtain ⟨s1, s2, s3⟩ := hS
  have w1 := wit_le h s2
  have w2 := wit_le h' s2
  refine dr_at (by omega) (fun k hk => ?_) l
  have := s3 k hk
  omega
theorem tn_std {st m m' : Int} (hS : Stdy σ st) (h : st ≤ m) (h' : st ≤ m') {l0 l : Nat} : tnL σ l0 l m = tnL σ l0 l m' := by
  obtain ⟨s1, s2, s3⟩ := hS
  have w1 := wit_le h s2
  have w2 := wit_le h' s2
  have e1 : ¬ witF m < gi σ 3462 := by omega
  have e2 : ¬ witF m' < gi σ 3462 := by omega
  unfold tnL trnS
  rw [if_neg e1, if_neg e2]
def DS (σ : Sto) (kind frm beg st t : Int) (l : Nat) : Prop := ∃ t0 n0, t0 < t ∧ st ≤ beg + t0 ∧ RA (AS σ kind frm beg) (BS σ kind beg) n0 t0 l
theorem dI_S {st : Int} (hT : InvT σ) (hB : InvB σ) (hS : Stdy σ st) : ∀ t0 l0 t l, DS σ kind frm beg st t0 l0 → BS σ kind beg t0 l0 t l → DS σ kind frm beg st t l := by
  intro t0 l0 t l ⟨u, n0, h1, h2, h3⟩ ⟨b1, b2, b3, b4, b5, b6⟩
  have e1 : tnL σ l0 l (beg + u) = tnL σ l0 l (beg + t0) := tn_std hS h2 (by omega)
  have tb := tn_bd hT (l0 := l0) (l := l) (m := beg + t0)
  have e2 : drL σ kind l (beg + (u + tnL σ l0 l (beg + u))) = drL σ kind l (beg + (t0 + tnL σ l0 l (beg + t0))) := by
    rw [e1]
    exact dr_std hS (by omega) (by omega) l
  refine ⟨u + tnL σ l0 l (beg + u) + drL σ kind l (beg + (u + tnL σ l0 l (beg + u))), n0 + 1, ?_, ?_, RA_s h3 ⟨b1, b2, b3, by rw [e2]; exact b4, rfl, ?_⟩⟩
  · rw [e2, e1]; omega
  · rw [e2, e1]; omega
  · rw [e2, e1]; omega
theorem dE_S {st : Int} : ∀ t l, DS σ kind frm beg st t l → ∃ t0 n0, t0 < t ∧ RA (AS σ kind frm beg) (BS σ kind beg) n0 t0 l := fun t l ⟨t0, n0, h1, _, h3⟩ => ⟨t0, n0, h1, h3⟩
theorem L_last (hB : InvB σ) (kk : ∀ x, (0 ≤ x ∧ x ≤ 1439) → (∀ k : Nat, (k : Int) < gi σ 838 → ga σ 17 k ≤ x ∧ (ga σ 18 k = 1440 ∨ ga σ 18 k ≤ x)) → post (some (vi x)) σ) : ∀ (r k : Nat) (y : Int), ((k + r : Nat) : Int) = gi σ 838 → (0 ≤ y ∧ y ≤ 1439) → (∀ i : Nat, i < k → ga σ 17 i ≤ y ∧ (ga σ 18 i = 1440 ∨ ga σ 18 i ≤ y)) → WP S 9 4 [some (vr 13), some (vi y), some (vi (k : Int))] [] σ post := by
  obtain ⟨b1, b2, b3, b4⟩ := id hB
  intro r
  induction r with
  | zero =>
    intro k y hk hy hi
    have c1 : (gi σ 838 ≤ (k : Int)) = True := eq_true (by omega)
    rw [w9_4]
    simp only [w9_0, w9_1, w9_2, w9_3, w9_5, w9_6, w9_6b, w9_9, w9_12, w9_13, w9_14, w9_14b, w9_17, w9_18, w9_19, w9_22, w9_23, w9_24, w9_24b, w9_27, w9_28, w9_29, w9_32, w9_35, w9_36, w9_37, w9_37b, w9_40, w9_41, w9_42, w9_45, w9_46, w9_49, w9_52, w9_53, ↓reduceIte, okp_i, okp_r, okp_n, catS_nil, catS_cons, catV_i, catV_r, catV_l, Option.toList_some, Option.toList_none, List.cons_append, List.nil_append, gi_si, ga_si, gi_sa, ga_sa, gi_sl, ga_sl, gi_sf, ga_sf, gl_si, gl_sa, gl_sf, gl_sl, and_true, true_and, if_true, if_false, ite_true, ite_false, not_false_eq_true, not_true_eq_false, Nat.reduceEqDiff, reduceCtorEq, Nat.reduceLeDiff, Nat.reduceAdd, Nat.reduceMul, Nat.reduceLT, Int.reduceNeg, Int.reduceEq, Int.reduceLT, Int.reduceLE, eq_self, Nat.reduceSub, or_true, true_or, or_false, false_or, and_false, false_and, Int.reduceToNat, rc0, rc1, ib2, ib3, ib4, ib5, ib6, ib7, ib8, ib9, ib10, rc11, ib12, rc13, ib14, ib15, ib16, ib17, ib18, ib19, rc20, rc21, ib22, ib23, ib24, rc25, ib26, ib27, ib28, ib29, ib30, ib31, rc32, ib33, rc34, ib35, rc36, ib37, rc38, ib39, ib40, ib41, ib42, ib43, ib44, ib45, ib46, ib47, rc48, ib49, ib50, ib51, ib52, ib53, rc54, ib55, ib56, ib57, ib58, ib59, ib60, ib61, ib62, ib63, ib64, ib65, ib66, ib67, ib68, ib69, ib70, ib71, ib72, ib73, ib74, ib75, ib76, ib77, ib78, ib79, ib80, ib81, c1]
    exact kk y hy (fun i q => hi i (by omega))
  | succ r ih =>
    intro k y hk hy hi
    obtain ⟨-, -, -, -, -, -, u7, -⟩ := b4 k (by omega)
    have c1 : (gi σ 838 ≤ (k : Int)) = False := eq_false (by omega)
    have c2 : (0 ≤ (k : Int)) = True := eq_true (by omega)
    have c3 : ((k : Int) < 20) = True := eq_true (by omega)
    have e1 : wr ((k : Int) + 1) = ((k + 1 : Nat) : Int) := by rw [wr_id (by omega) (by omega)]; omega
    have m1 : y ≤ maxF y (ga σ 17 k) ∧ ga σ 17 k ≤ maxF y (ga σ 17 k) ∧ maxF y (ga σ 17 k) ≤ 1439 := by unfold maxF; split <;> omega
    rw [w9_4]
    by_cases q : 1440 ≤ ga σ 18 k
    · simp only [w9_0, w9_1, w9_2, w9_3, w9_5, w9_6, w9_6b, w9_9, w9_12, w9_13, w9_14, w9_14b, w9_17, w9_18, w9_19, w9_22, w9_23, w9_24, w9_24b, w9_27, w9_28, w9_29, w9_32, w9_35, w9_36, w9_37, w9_37b, w9_40, w9_41, w9_42, w9_45, w9_46, w9_49, w9_52, w9_53, ↓reduceIte, okp_i, okp_r, okp_n, catS_nil, catS_cons, catV_i, catV_r, catV_l, Option.toList_some, Option.toList_none, List.cons_append, List.nil_append, gi_si, ga_si, gi_sa, ga_sa, gi_sl, ga_sl, gi_sf, ga_sf, gl_si, gl_sa, gl_sf, gl_sl, and_true, true_and, if_true, if_false, ite_true, ite_false, not_false_eq_true, not_true_eq_false, Nat.reduceEqDiff, reduceCtorEq, Nat.reduceLeDiff, Nat.reduceAdd, Nat.reduceMul, Nat.reduceLT, Int.reduceNeg, Int.reduceEq, Int.reduceLT, Int.reduceLE, eq_self, Nat.reduceSub, or_true, true_or, or_false, false_or, and_false, false_and, Int.reduceToNat, rc0, rc1, ib2, ib3, ib4, ib5, ib6, ib7, ib8, ib9, ib10, rc11, ib12, rc13, ib14, ib15, ib16, ib17, ib18, ib19, rc20, rc21, ib22, ib23, ib24, rc25, ib26, ib27, ib28, ib29, ib30, ib31, rc32, ib33, rc34, ib35, rc36, ib37, rc38, ib39, ib40, ib41, ib42, ib43, ib44, ib45, ib46, ib47, rc48, ib49, ib50, ib51, ib52, ib53, rc54, ib55, ib56, ib57, ib58, ib59, ib60, ib61, ib62, ib63, ib64, ib65, ib66, ib67, ib68, ib69, ib70, ib71, ib72, ib73, ib74, ib75, ib76, ib77, ib78, ib79, ib80, ib81, c1, c2, c3, Int.toNat_natCast, q, e1]
      refine ih (k + 1) _ (by omega) (by omega) (fun i q2 => ?_)
      rcases Nat.lt_succ_iff_lt_or_eq.mp q2 with q3 | q3
      · have := hi i q3
        omega
      · subst q3
        omega
    · have m2 : maxF y (ga σ 17 k) ≤ maxF (maxF y (ga σ 17 k)) (ga σ 18 k) ∧ ga σ 18 k ≤ maxF (maxF y (ga σ 17 k)) (ga σ 18 k) ∧ maxF (maxF y (ga σ 17 k)) (ga σ 18 k) ≤ 1439 := by
        generalize maxF y (ga σ 17 k) = z at *
        unfold maxF
        split <;> omega
      simp only [w9_0, w9_1, w9_2, w9_3, w9_5, w9_6, w9_6b, w9_9, w9_12, w9_13, w9_14, w9_14b, w9_17, w9_18, w9_19, w9_22, w9_23, w9_24, w9_24b, w9_27, w9_28, w9_29, w9_32, w9_35, w9_36, w9_37, w9_37b, w9_40, w9_41, w9_42, w9_45, w9_46, w9_49, w9_52, w9_53, ↓reduceIte, okp_i, okp_r, okp_n, catS_nil, catS_cons, catV_i, catV_r, catV_l, Option.toList_some, Option.toList_none, List.cons_append, List.nil_append, gi_si, ga_si, gi_sa, ga_sa, gi_sl, ga_sl, gi_sf, ga_sf, gl_si, gl_sa, gl_sf, gl_sl, and_true, true_and, if_true, if_false, ite_true, ite_false, not_false_eq_true, not_true_eq_false, Nat.reduceEqDiff, reduceCtorEq, Nat.reduceLeDiff, Nat.reduceAdd, Nat.reduceMul, Nat.reduceLT, Int.reduceNeg, Int.reduceEq, Int.reduceLT, Int.reduceLE, eq_self, Nat.reduceSub, or_true, true_or, or_false, false_or, and_false, false_and, Int.reduceToNat, rc0, rc1, ib2, ib3, ib4, ib5, ib6, ib7, ib8, ib9, ib10, rc11, ib12, rc13, ib14, ib15, ib16, ib17, ib18, ib19, rc20, rc21, ib22, ib23, ib24, rc25, ib26, ib27, ib28, ib29, ib30, ib31, rc32, ib33, rc34, ib35, rc36, ib37, rc38, ib39, ib40, ib41, ib42, ib43, ib44, ib45, ib46, ib47, rc48, ib49, ib50, ib51, ib52, ib53, rc54, ib55, ib56, ib57, ib58, ib59, ib60, ib61, ib62, ib63, ib64, ib65, ib66, ib67, ib68, ib69, ib70, ib71, ib72, ib73, ib74, ib75, ib76, ib77, ib78, ib79, ib80, ib81, c1, c2, c3, Int.toNat_natCast, q, e1]
      generalize maxF (maxF y (ga σ 17 k)) (ga σ 18 k) = z2 at *
      generalize maxF y (ga σ 17 k) = z at *
      refine ih (k + 1) _ (by omega) (by omega) (fun i q2 => ?_)
      rcases Nat.lt_succ_iff_lt_or_eq.mp q2 with q3 | q3
      · have := hi i q3
        omega
      · subst q3
        omega
theorem S_last (hB : InvB σ) (kk : ∀ x, (0 ≤ x ∧ x ≤ 1439) → (∀ k : Nat, (k : Int) < gi σ 838 → ga σ 17 k ≤ x ∧ (ga σ 18 k = 1440 ∨ ga σ 18 k ≤ x)) → post (some (vi x)) σ) : WP S 9 0 [some (vr 13), none, none] [] σ post := by
  have h3 := hB.2.2.1
  simp only [w9_0, w9_1, w9_2, w9_3, w9_5, w9_6, w9_6b, w9_9, w9_12, w9_13, w9_14, w9_14b, w9_17, w9_18, w9_19, w9_22, w9_23, w9_24, w9_24b, w9_27, w9_28, w9_29, w9_32, w9_35, w9_36, w9_37, w9_37b, w9_40, w9_41, w9_42, w9_45, w9_46, w9_49, w9_52, w9_53, ↓reduceIte, okp_i, okp_r, okp_n, catS_nil, catS_cons, catV_i, catV_r, catV_l, Option.toList_some, Option.toList_none, List.cons_append, List.nil_append, gi_si, ga_si, gi_sa, ga_sa, gi_sl, ga_sl, gi_sf, ga_sf, gl_si, gl_sa, gl_sf, gl_sl, and_true, true_and, if_true, if_false, ite_true, ite_false, not_false_eq_true, not_true_eq_false, Nat.reduceEqDiff, reduceCtorEq, Nat.reduceLeDiff, Nat.reduceAdd, Nat.reduceMul, Nat.reduceLT, Int.reduceNeg, Int.reduceEq, Int.reduceLT, Int.reduceLE, eq_self, Nat.reduceSub, or_true, true_or, or_false, false_or, and_false, false_and, Int.reduceToNat, rc0, rc1, ib2, ib3, ib4, ib5, ib6, ib7, ib8, ib9, ib10, rc11, ib12, rc13, ib14, ib15, ib16, ib17, ib18, ib19, rc20, rc21, ib22, ib23, ib24, rc25, ib26, ib27, ib28, ib29, ib30, ib31, rc32, ib33, rc34, ib35, rc36, ib37, rc38, ib39, ib40, ib41, ib42, ib43, ib44, ib45, ib46, ib47, rc48, ib49, ib50, ib51, ib52, ib53, rc54, ib55, ib56, ib57, ib58, ib59, ib60, ib61, ib62, ib63, ib64, ib65, ib66, ib67, ib68, ib69, ib70, ib71, ib72, ib73, ib74, ib75, ib76, ib77, ib78, ib79, ib80, ib81]
  exact L_last hB kk (gi σ 838).toNat 0 0 (by omega) ⟨by decide, by decide⟩ (fun i hi => absurd hi (Nat.not_lt_zero i))
theorem L_nextC (hB : InvB σ) {m : Int} (kk : ∀ x, (∀ k : Nat, (k : Int) < gi σ 838 → (m < ga σ 17 k → x ≤ ga σ 17 k) ∧ (m < ga σ 18 k → x ≤ ga σ 18 k)) → post (some (vi x)) σ) : ∀ (r k : Nat) (y : Int), ((k + r : Nat) : Int) = gi σ 838 → (∀ i : Nat, i < k → (m < ga σ 17 i → y ≤ ga σ 17 i) ∧ (m < ga σ 18 i → y ≤ ga σ 18 i)) → WP S 8 5 [some (vr 13), some (vi m), some (vi y), some (vi (k : Int))] [] σ post := by
  obtain ⟨b1, b2, b3, b4⟩ := id hB
  intro r
  induction r with
  | zero =>
    intro k y hk hi
    have c1 : (gi σ 838 ≤ (k : Int)) = True := eq_true (by omega)
    rw [w8_5]
    simp only [w8_0, w8_2, w8_3, w8_4, w8_6, w8_7, w8_7b, w8_10, w8_13, w8_14, w8_14b, w8_17, w8_18, w8_19, w8_20, w8_23, w8_24, w8_25, w8_25b, w8_28, w8_29, w8_30, w8_33, w8_34, w8_35, w8_35b, w8_38, w8_39, w8_40, w8_41, w8_44, w8_45, w8_46, w8_46b, w8_49, w8_50, w8_51, w8_54, w8_55, w8_58, w8_61, w8_62, ↓reduceIte, okp_i, okp_r, okp_n, catS_nil, catS_cons, catV_i, catV_r, catV_l, Option.toList_some, Option.toList_none, List.cons_append, List.nil_append, gi_si, ga_si, gi_sa, ga_sa, gi_sl, ga_sl, gi_sf, ga_sf, gl_si, gl_sa, gl_sf, gl_sl, and_true, true_and, if_true, if_false, ite_true, ite_false, not_false_eq_true, not_true_eq_false, Nat.reduceEqDiff, reduceCtorEq, Nat.reduceLeDiff, Nat.reduceAdd, Nat.reduceMul, Nat.reduceLT, Int.reduceNeg, Int.reduceEq, Int.reduceLT, Int.reduceLE, eq_self, Nat.reduceSub, or_true, true_or, or_false, false_or, and_false, false_and, Int.reduceToNat, rc0, rc1, ib2, ib3, ib4, ib5, ib6, ib7, ib8, ib9, ib10, rc11, ib12, rc13, ib14, ib15, ib16, ib17, ib18, ib19, rc20, rc21, ib22, ib23, ib24, rc25, ib26, ib27, ib28, ib29, ib30, ib31, rc32, ib33, rc34, ib35, rc36, ib37, rc38, ib39, ib40, ib41, ib42, ib43, ib44, ib45, ib46, ib47, rc48, ib49, ib50, ib51, ib52, ib53, rc54, ib55, ib56, ib57, ib58, ib59, ib60, ib61, ib62, ib63, ib64, ib65, ib66, ib67, ib68, ib69, ib70, ib71, ib72, ib73, ib74, ib75, ib76, ib77, ib78, ib79, ib80, ib81, c1]
    exact kk y (fun i q => hi i (by omega))
  | succ r ih =>
    intro k y hk hi
    have c1 : (gi σ 838 ≤ (k : Int)) = False := eq_false (by omega)
    have c2 : (0 ≤ (k : Int)) = True := eq_true (by omega)
    have c3 : ((k : Int) < 20) = True := eq_true (by omega)
    have e1 : wr ((k : Int) + 1) = ((k + 1 : Nat) : Int) := by rw [wr_id (by omega) (by omega)]; omega
    have hk' : ((k + 1 + r : Nat) : Int) = gi σ 838 := by omega
    have key : ∀ z, z ≤ y → ((m < ga σ 17 k → z ≤ ga σ 17 k) ∧ (m < ga σ 18 k → z ≤ ga σ 18 k)) → WP S 8 5 [some (vr 13), some (vi m), some (vi z), some (vi ((k + 1 : Nat) : Int))] [] σ post := fun z hz hc => ih (k + 1) z hk' (fun i q2 => by
      rcases Nat.lt_succ_iff_lt_or_eq.mp q2 with q3 | q3
      · have := hi i q3
        omega
      · subst q3
        exact hc)
    rw [w8_5]
    have mle : ∀ a b, minF a b ≤ a ∧ minF a b ≤ b := fun a b => by unfold minF; split <;> omega
    by_cases q1 : ga σ 17 k ≤ m
    · by_cases q2 : ga σ 18 k ≤ m
      · simp only [w8_0, w8_2, w8_3, w8_4, w8_6, w8_7, w8_7b, w8_10, w8_13, w8_14, w8_14b, w8_17, w8_18, w8_19, w8_20, w8_23, w8_24, w8_25, w8_25b, w8_28, w8_29, w8_30, w8_33, w8_34, w8_35, w8_35b, w8_38, w8_39, w8_40, w8_41, w8_44, w8_45, w8_46, w8_46b, w8_49, w8_50, w8_51, w8_54, w8_55, w8_58, w8_61, w8_62, ↓reduceIte, okp_i, okp_r, okp_n, catS_nil, catS_cons, catV_i, catV_r, catV_l, Option.toList_some, Option.toList_none, List.cons_append, List.nil_append, gi_si, ga_si, gi_sa, ga_sa, gi_sl, ga_sl, gi_sf, ga_sf, gl_si, gl_sa, gl_sf, gl_sl, and_true, true_and, if_true, if_false, ite_true, ite_false, not_false_eq_true, not_true_eq_false, Nat.reduceEqDiff, reduceCtorEq, Nat.reduceLeDiff, Nat.reduceAdd, Nat.reduceMul, Nat.reduceLT, Int.reduceNeg, Int.reduceEq, Int.reduceLT, Int.reduceLE, eq_self, Nat.reduceSub, or_true, true_or, or_false, false_or, and_false, false_and, Int.reduceToNat, rc0, rc1, ib2, ib3, ib4, ib5, ib6, ib7, ib8, ib9, ib10, rc11, ib12, rc13, ib14, ib15, ib16, ib17, ib18, ib19, rc20, rc21, ib22, ib23, ib24, rc25, ib26, ib27, ib28, ib29, ib30, ib31, rc32, ib33, rc34, ib35, rc36, ib37, rc38, ib39, ib40, ib41, ib42, ib43, ib44, ib45, ib46, ib47, rc48, ib49, ib50, ib51, ib52, ib53, rc54, ib55, ib56, ib57, ib58, ib59, ib60, ib61, ib62, ib63, ib64, ib65, ib66, ib67, ib68, ib69, ib70, ib71, ib72, ib73, ib74, ib75, ib76, ib77, ib78, ib79, ib80, ib81, c1, c2, c3, Int.toNat_natCast, q1, q2, e1]
        exact key y (Int.le_refl _) (by omega)
      · simp only [w8_0, w8_2, w8_3, w8_4, w8_6, w8_7, w8_7b, w8_10, w8_13, w8_14, w8_14b, w8_17, w8_18, w8_19, w8_20, w8_23, w8_24, w8_25, w8_25b, w8_28, w8_29, w8_30, w8_33, w8_34, w8_35, w8_35b, w8_38, w8_39, w8_40, w8_41, w8_44, w8_45, w8_46, w8_46b, w8_49, w8_50, w8_51, w8_54, w8_55, w8_58, w8_61, w8_62, ↓reduceIte, okp_i, okp_r, okp_n, catS_nil, catS_cons, catV_i, catV_r, catV_l, Option.toList_some, Option.toList_none, List.cons_append, List.nil_append, gi_si, ga_si, gi_sa, ga_sa, gi_sl, ga_sl, gi_sf, ga_sf, gl_si, gl_sa, gl_sf, gl_sl, and_true, true_and, if_true, if_false, ite_true, ite_false, not_false_eq_true, not_true_eq_false, Nat.reduceEqDiff, reduceCtorEq, Nat.reduceLeDiff, Nat.reduceAdd, Nat.reduceMul, Nat.reduceLT, Int.reduceNeg, Int.reduceEq, Int.reduceLT, Int.reduceLE, eq_self, Nat.reduceSub, or_true, true_or, or_false, false_or, and_false, false_and, Int.reduceToNat, rc0, rc1, ib2, ib3, ib4, ib5, ib6, ib7, ib8, ib9, ib10, rc11, ib12, rc13, ib14, ib15, ib16, ib17, ib18, ib19, rc20, rc21, ib22, ib23, ib24, rc25, ib26, ib27, ib28, ib29, ib30, ib31, rc32, ib33, rc34, ib35, rc36, ib37, rc38, ib39, ib40, ib41, ib42, ib43, ib44, ib45, ib46, ib47, rc48, ib49, ib50, ib51, ib52, ib53, rc54, ib55, ib56, ib57, ib58, ib59, ib60, ib61, ib62, ib63, ib64, ib65, ib66, ib67, ib68, ib69, ib70, ib71, ib72, ib73, ib74, ib75, ib76, ib77, ib78, ib79, ib80, ib81, c1, c2, c3, Int.toNat_natCast, q1, q2, e1]
        have := mle y (ga σ 18 k)
        exact key _ this.1 (by omega)
    · by_cases q2 : ga σ 18 k ≤ m
      · simp only [w8_0, w8_2, w8_3, w8_4, w8_6, w8_7, w8_7b, w8_10, w8_13, w8_14, w8_14b, w8_17, w8_18, w8_19, w8_20, w8_23, w8_24, w8_25, w8_25b, w8_28, w8_29, w8_30, w8_33, w8_34, w8_35, w8_35b, w8_38, w8_39, w8_40, w8_41, w8_44, w8_45, w8_46, w8_46b, w8_49, w8_50, w8_51, w8_54, w8_55, w8_58, w8_61, w8_62, ↓reduceIte, okp_i, okp_r, okp_n, catS_nil, catS_cons, catV_i, catV_r, catV_l, Option.toList_some, Option.toList_none, List.cons_append, List.nil_append, gi_si, ga_si, gi_sa, ga_sa, gi_sl, ga_sl, gi_sf, ga_sf, gl_si, gl_sa, gl_sf, gl_sl, and_true, true_and, if_true, if_false, ite_true, ite_false, not_false_eq_true, not_true_eq_false, Nat.reduceEqDiff, reduceCtorEq, Nat.reduceLeDiff, Nat.reduceAdd, Nat.reduceMul, Nat.reduceLT, Int.reduceNeg, Int.reduceEq, Int.reduceLT, Int.reduceLE, eq_self, Nat.reduceSub, or_true, true_or, or_false, false_or, and_false, false_and, Int.reduceToNat, rc0, rc1, ib2, ib3, ib4, ib5, ib6, ib7, ib8, ib9, ib10, rc11, ib12, rc13, ib14, ib15, ib16, ib17, ib18, ib19, rc20, rc21, ib22, ib23, ib24, rc25, ib26, ib27, ib28, ib29, ib30, ib31, rc32, ib33, rc34, ib35, rc36, ib37, rc38, ib39, ib40, ib41, ib42, ib43, ib44, ib45, ib46, ib47, rc48, ib49, ib50, ib51, ib52, ib53, rc54, ib55, ib56, ib57, ib58, ib59, ib60, ib61, ib62, ib63, ib64, ib65, ib66, ib67, ib68, ib69, ib70, ib71, ib72, ib73, ib74, ib75, ib76, ib77, ib78, ib79, ib80, ib81, c1, c2, c3, Int.toNat_natCast, q1, q2, e1]
        have := mle y (ga σ 17 k)
        exact key _ this.1 (by omega)
      · simp only [w8_0, w8_2, w8_3, w8_4, w8_6, w8_7, w8_7b, w8_10, w8_13, w8_14, w8_14b, w8_17, w8_18, w8_19, w8_20, w8_23, w8_24, w8_25, w8_25b, w8_28, w8_29, w8_30, w8_33, w8_34, w8_35, w8_35b, w8_38, w8_39, w8_40, w8_41, w8_44, w8_45, w8_46, w8_46b, w8_49, w8_50, w8_51, w8_54, w8_55, w8_58, w8_61, w8_62, ↓reduceIte, okp_i, okp_r, okp_n, catS_nil, catS_cons, catV_i, catV_r, catV_l, Option.toList_some, Option.toList_none, List.cons_append, List.nil_append, gi_si, ga_si, gi_sa, ga_sa, gi_sl, ga_sl, gi_sf, ga_sf, gl_si, gl_sa, gl_sf, gl_sl, and_true, true_and, if_true, if_false, ite_true, ite_false, not_false_eq_true, not_true_eq_false, Nat.reduceEqDiff, reduceCtorEq, Nat.reduceLeDiff, Nat.reduceAdd, Nat.reduceMul, Nat.reduceLT, Int.reduceNeg, Int.reduceEq, Int.reduceLT, Int.reduceLE, eq_self, Nat.reduceSub, or_true, true_or, or_false, false_or, and_false, false_and, Int.reduceToNat, rc0, rc1, ib2, ib3, ib4, ib5, ib6, ib7, ib8, ib9, ib10, rc11, ib12, rc13, ib14, ib15, ib16, ib17, ib18, ib19, rc20, rc21, ib22, ib23, ib24, rc25, ib26, ib27, ib28, ib29, ib30, ib31, rc32, ib33, rc34, ib35, rc36, ib37, rc38, ib39, ib40, ib41, ib42, ib43, ib44, ib45, ib46, ib47, rc48, ib49, ib50, ib51, ib52, ib53, rc54, ib55, ib56, ib57, ib58, ib59, ib60, ib61, ib62, ib63, ib64, ib65, ib66, ib67, ib68, ib69, ib70, ib71, ib72, ib73, ib74, ib75, ib76, ib77, ib78, ib79, ib80, ib81, c1, c2, c3, Int.toNat_natCast, q1, q2, e1]
        have h1 := mle y (ga σ 17 k)
        have h2 := mle (minF y (ga σ 17 k)) (ga σ 18 k)
        exact key _ (by omega) (by omega)
theorem S_nextC (hB : InvB σ) {m : Int} (kk : ∀ x, (∀ k : Nat, (k : Int) < gi σ 838 → (m < ga σ 17 k → x ≤ ga σ 17 k) ∧ (m < ga σ 18 k → x ≤ ga σ 18 k)) → post (some (vi x)) σ) : WP S 8 0 [some (vr 13), some (vi m), none, none] [] σ post := by
  have h3 := hB.2.2.1
  simp only [w8_0, w8_2, w8_3, w8_4, w8_6, w8_7, w8_7b, w8_10, w8_13, w8_14, w8_14b, w8_17, w8_18, w8_19, w8_20, w8_23, w8_24, w8_25, w8_25b, w8_28, w8_29, w8_30, w8_33, w8_34, w8_35, w8_35b, w8_38, w8_39, w8_40, w8_41, w8_44, w8_45, w8_46, w8_46b, w8_49, w8_50, w8_51, w8_54, w8_55, w8_58, w8_61, w8_62, ↓reduceIte, okp_i, okp_r, okp_n, catS_nil, catS_cons, catV_i, catV_r, catV_l, Option.toList_some, Option.toList_none, List.cons_append, List.nil_append, gi_si, ga_si, gi_sa, ga_sa, gi_sl, ga_sl, gi_sf, ga_sf, gl_si, gl_sa, gl_sf, gl_sl, and_true, true_and, if_true, if_false, ite_true, ite_false, not_false_eq_true, not_true_eq_false, Nat.reduceEqDiff, reduceCtorEq, Nat.reduceLeDiff, Nat.reduceAdd, Nat.reduceMul, Nat.reduceLT, Int.reduceNeg, Int.reduceEq, Int.reduceLT, Int.reduceLE, eq_self, Nat.reduceSub, or_true, true_or, or_false, false_or, and_false, false_and, Int.reduceToNat, rc0, rc1, ib2, ib3, ib4, ib5, ib6, ib7, ib8, ib9, ib10, rc11, ib12, rc13, ib14, ib15, ib16, ib17, ib18, ib19, rc20, rc21, ib22, ib23, ib24, rc25, ib26, ib27, ib28, ib29, ib30, ib31, rc32, ib33, rc34, ib35, rc36, ib37, rc38, ib39, ib40, ib41, ib42, ib43, ib44, ib45, ib46, ib47, rc48, ib49, ib50, ib51, ib52, ib53, rc54, ib55, ib56, ib57, ib58, ib59, ib60, ib61, ib62, ib63, ib64, ib65, ib66, ib67, ib68, ib69, ib70, ib71, ib72, ib73, ib74, ib75, ib76, ib77, ib78, ib79, ib80, ib81]
  exact L_nextC hB kk (gi σ 838).toNat 0 _ (by omega) (fun i hi => absurd hi (Nat.not_lt_zero i))
end TIME
