/-! small sets of signs as bits -/
theorem bt_all : ∀ s : Fin 256, ∀ g : Fin 8, i2 (· &&& ·) (i2 iushrF ((s.val : Nat) : Int) ((g.val : Nat) : Int)) 1 = (if s.val.testBit g.val = true then 1 else 0) ∧ i2 (· &&& ·) (i2 ishrF ((s.val : Nat) : Int) ((g.val : Nat) : Int)) 1 = (if s.val.testBit g.val = true then 1 else 0) ∧ i2 (· &&& ·) ((s.val : Nat) : Int) (i2 (· ^^^ ·) ((2 ^ g.val : Nat) : Int) (-1)) = (if s.val.testBit g.val = true then ((s.val - 2 ^ g.val : Nat) : Int) else ((s.val : Nat) : Int)) ∧ (s.val.testBit g.val = true → i2 (· ^^^ ·) ((s.val : Nat) : Int) ((2 ^ g.val : Nat) : Int) = ((s.val - 2 ^ g.val : Nat) : Int)) ∧ (s.val < 2 ^ g.val → i2 (· ||| ·) ((s.val : Nat) : Int) ((2 ^ g.val : Nat) : Int) = ((s.val + 2 ^ g.val : Nat) : Int)) := by decide +kernel
theorem bt_shl : ∀ g : Fin 9, i2 ishlF 1 ((g.val : Nat) : Int) = ((2 ^ g.val : Nat) : Int) := by decide +kernel
theorem bt_or0 : ∀ s : Fin 256, i2 (· ||| ·) ((s.val : Nat) : Int) 0 = ((s.val : Nat) : Int) := by decide +kernel
theorem bt_h {s g : Nat} (hs : s < 256) (hg : g < 8) : i2 (· &&& ·) (i2 iushrF (s : Int) (g : Int)) 1 = (if s.testBit g = true then 1 else 0) := (bt_all ⟨s, hs⟩ ⟨g, hg⟩).1
theorem bt_h' {s g : Nat} (hs : s < 256) (hg : g < 8) : i2 (· &&& ·) (i2 ishrF (s : Int) (g : Int)) 1 = (if s.testBit g = true then 1 else 0) := (bt_all ⟨s, hs⟩ ⟨g, hg⟩).2.1
theorem bt_r {s g : Nat} (hs : s < 256) (hg : g < 8) (ht : s.testBit g = true) : i2 (· &&& ·) (s : Int) (i2 (· ^^^ ·) ((2 ^ g : Nat) : Int) (-1)) = ((s - 2 ^ g : Nat) : Int) := by
  have := (bt_all ⟨s, hs⟩ ⟨g, hg⟩).2.2.1
  rw [if_pos ht] at this
  exact this
theorem bt_x {s g : Nat} (hs : s < 256) (hg : g < 8) (ht : s.testBit g = true) : i2 (· ^^^ ·) (s : Int) ((2 ^ g : Nat) : Int) = ((s - 2 ^ g : Nat) : Int) := (bt_all ⟨s, hs⟩ ⟨g, hg⟩).2.2.2.1 ht
theorem bt_o {s g : Nat} (hg : g < 8) (ht : s < 2 ^ g) : i2 (· ||| ·) (s : Int) ((2 ^ g : Nat) : Int) = ((s + 2 ^ g : Nat) : Int) := (bt_all ⟨s, Nat.lt_of_lt_of_le ht (Nat.le_trans (Nat.pow_le_pow_right (by decide) (Nat.le_of_lt hg)) (by decide))⟩ ⟨g, hg⟩).2.2.2.2 ht
theorem bt_s {g : Nat} (hg : g < 9) : i2 ishlF 1 (g : Int) = ((2 ^ g : Nat) : Int) := bt_shl ⟨g, hg⟩
theorem bt_z {s : Nat} (hs : s < 256) : i2 (· ||| ·) (s : Int) 0 = (s : Int) := bt_or0 ⟨s, hs⟩
theorem tb_ge {s g : Nat} (h : s.testBit g = true) : 2 ^ g ≤ s := Nat.ge_two_pow_of_testBit h
theorem pw8 {n : Nat} (h : n ≤ 8) : 2 ^ n ≤ 256 := Nat.le_trans (Nat.pow_le_pow_right (by decide) h) (by decide)
/-! what the plan is made of -/
/-- bounds -/
def PC (n m X : Nat) (W gA gW wA : Nat → Int) : Prop := n ≤ 8 ∧ m ≤ 3 ∧ X ≤ 8 ∧ (∀ g, g < n → (0 ≤ gA g ∧ gA g < X) ∧ (1 ≤ gW g ∧ gW g ≤ 60)) ∧ (∀ w, w < m → 0 ≤ wA w ∧ wA w < X) ∧ ∀ x y : Nat, x < 8 → y < 8 → 0 ≤ W (8 * x + y) ∧ W (8 * x + y) ≤ 1000000
/-- the class's cells hold it -/
def CH (n m X : Nat) (W gA gW wA : Nat → Int) (σ : Sto) : Prop := gi σ 2442 = (n : Int) ∧ gi σ 2443 = (m : Int) ∧ gi σ 73 = (X : Int) ∧ (∀ g, g < n → ga σ 39 g = gA g ∧ ga σ 40 g = gW g) ∧ (∀ w, w < m → ga σ 41 w = wA w) ∧ ∀ x y : Nat, x < 8 → y < 8 → ga σ 10 (8 * x + y) = W (8 * x + y)
section PLAN
variable {S : Scr} {σ : Sto} {post : Pst} {n m X : Nat} {W gA gW wA T T' : Nat → Int}
theorem CH_fr {σ' : Sto} (h : CH n m X W gA gW wA σ) (h1 : eqI [2442, 2443, 73] σ σ') (h2 : eqA [39, 40, 41, 10] σ σ') : CH n m X W gA gW wA σ' := by
  simp only [eqI, eqA, List.forall_mem_cons] at h1 h2
  obtain ⟨a1, a2, a3, -⟩ := h1
  obtain ⟨b1, b2, b3, b4, -⟩ := h2
  simp only [CH, a1, a2, a3, b1, b2, b3, b4]
  exact h
theorem nbF_up {s c : Nat} : ∀ k, (∀ g, g < k → s.testBit g = true → T' (8 * (s - 2 ^ g) + (gA g).toNat) = T (8 * (s - 2 ^ g) + (gA g).toNat)) → nbF W gA gW T' s c k = nbF W gA gW T s c k := by
  intro k
  induction k with
  | zero => intro _; rfl
  | succ k ih =>
    intro h
    simp only [nbF]
    rw [ih (fun g hg => h g (by omega))]
    by_cases q : s.testBit k = true
    · rw [if_pos q, if_pos q, h k (by omega) q]
    · rw [if_neg q, if_neg q]
theorem nbF_bd (hP : PC n m X W gA gW wA) {s c : Nat} (hc : c < 8) : ∀ k, k ≤ n → (∀ g, g < k → s.testBit g = true → 0 ≤ T (8 * (s - 2 ^ g) + (gA g).toNat)) → 0 ≤ nbF W gA gW T s c k ∧ nbF W gA gW T s c k ≤ 1000000 := by
  obtain ⟨p1, p2, p3, p4, p5, p6⟩ := hP
  intro k
  induction k with
  | zero => intro _ _; exact ⟨by simp only [nbF]; decide, by simp only [nbF]; decide⟩
  | succ k ih =>
    intro hk h
    obtain ⟨i1, i2⟩ := ih (by omega) (fun g hg => h g (by omega))
    simp only [nbF]
    by_cases q : s.testBit k = true
    · rw [if_pos q]
      have := h k (by omega) q
      obtain ⟨a1, a2⟩ := p4 k (by omega)
      have := p6 c (gA k).toNat hc (by omega)
      unfold minF
      split <;> omega
    · rw [if_neg q]
      exact ⟨i1, i2⟩
/-- the table so far -/
def FT (n X : Nat) (W gA gW : Nat → Int) (set at_ : Nat) (T : Nat → Int) : Prop := ∀ s c, (s < set ∧ c < X) ∨ (s = set ∧ c < at_) → T (8 * s + c) = (if s = 0 then 0 else nbF W gA gW T s c n) ∧ (0 ≤ T (8 * s + c) ∧ T (8 * s + c) ≤ 1000000)
theorem FT_bd (hP : PC n m X W gA gW wA) {set at_ g : Nat} (h : FT n X W gA gW set at_ T) (hg : g < n) (ht : set.testBit g = true) : 0 ≤ T (8 * (set - 2 ^ g) + (gA g).toNat) ∧ T (8 * (set - 2 ^ g) + (gA g).toNat) ≤ 1000000 := by
  have h1 := tb_ge ht
  have h2 : 0 < 2 ^ g := Nat.two_pow_pos g
  have h3 := (hP.2.2.2.1 g hg).1
  exact (h (set - 2 ^ g) (gA g).toNat (Or.inl ⟨by omega, by omega⟩)).2
theorem FT_step (hP : PC n m X W gA gW wA) {set at_ : Nat} (hat : at_ < X) (h : FT n X W gA gW set at_ T) {v : Int} (hv : v = if set = 0 then 0 else nbF W gA gW T set at_ n) : FT n X W gA gW set (at_ + 1) (fun j => if j = 8 * set + at_ then v else T j) := by
  have x8 := hP.2.2.1
  have up : ∀ s c, s ≤ set → nbF W gA gW (fun j => if j = 8 * set + at_ then v else T j) s c n = nbF W gA gW T s c n := fun s c hs => nbF_up n (fun g hg ht => by
    have h1 := tb_ge ht
    have h2 : 0 < 2 ^ g := Nat.two_pow_pos g
    have h3 := (hP.2.2.2.1 g hg).1
    exact if_neg (by omega))
  have bv : 0 ≤ v ∧ v ≤ 1000000 := by
    rw [hv]
    split
    · exact ⟨by decide, by decide⟩
    · exact nbF_bd hP (by omega) n (Nat.le_refl n) (fun g hg ht => (FT_bd hP h hg ht).1)
  intro s c hsc
  by_cases e : 8 * s + c = 8 * set + at_
  · have e1 : s = set := by omega
    have e2 : c = at_ := by omega
    subst e1 e2
    rw [up s c (Nat.le_refl _), ← hv]
    dsimp only
    rw [if_pos rfl]
    exact ⟨rfl, bv⟩
  · have hs : s ≤ set := by omega
    rw [up s c hs]
    dsimp only
    rw [if_neg e]
    exact h s c (by omega)
theorem FT_row {set : Nat} (h : FT n X W gA gW set X T) : FT n X W gA gW (set + 1) 0 T := fun s c hsc => h s c (by omega)
theorem FT_end (hP : PC n m X W gA gW wA) (h : FT n X W gA gW (2 ^ n) 0 T) : IsN W gA gW wA n m T ∧ ∀ s c, s < 2 ^ n → c < X → 0 ≤ T (8 * s + c) ∧ T (8 * s + c) ≤ 1000000 := by
  refine ⟨fun set c hs hc => ?_, fun s c hs hc => (h s c (Or.inl ⟨hs, hc⟩)).2⟩
  have hX : c < X := by
    rcases hc with ⟨g, hg, e⟩ | ⟨w, hw, e⟩
    · have := (hP.2.2.2.1 g hg).1; omega
    · have := hP.2.2.2.2.1 w hw; omega
  exact (h set c (Or.inl ⟨hs, hX⟩)).1
/-! the class's own little methods -/
theorem S_need {set at_ : Nat} (hs : set < 256) (ha : at_ < 8) : WP S 61 0 [some (vr 38), some (vi (set : Int)), some (vi (at_ : Int))] [] σ post ↔ post (some (vi (ga σ 42 (8 * set + at_)))) σ := by
  have e1 : wr ((set : Int) * 8) = (set : Int) * 8 := wr_id (by omega) (by omega)
  have e2 : wr ((set : Int) * 8 + (at_ : Int)) = ((8 * set + at_ : Nat) : Int) := by rw [wr_id (by omega) (by omega)]; omega
  have c1 : 0 ≤ ((8 * set + at_ : Nat) : Int) := by omega
  have c2 : ((8 * set + at_ : Nat) : Int) < 2048 := by omega
  simp only [w61_0, w61_1, w61_4, w61_5, w61_7, w61_8, w61_9, w61_10, w61_11, ↓reduceIte, okp_i, okp_r, okp_n, catS_nil, catS_cons, catV_i, catV_r, catV_l, Option.toList_some, Option.toList_none, List.cons_append, List.nil_append, gi_si, ga_si, gi_sa, ga_sa, gi_sl, ga_sl, gi_sf, ga_sf, gl_si, gl_sa, gl_sf, gl_sl, and_true, true_and, if_true, if_false, ite_true, ite_false, not_false_eq_true, not_true_eq_false, Nat.reduceEqDiff, reduceCtorEq, Nat.reduceLeDiff, Nat.reduceAdd, Nat.reduceMul, Nat.reduceLT, Int.reduceNeg, Int.reduceEq, Int.reduceLT, Int.reduceLE, eq_self, Nat.reduceSub, or_true, true_or, or_false, false_or, and_false, false_and, Int.reduceToNat, rc0, rc1, ib2, ib3, ib4, ib5, ib6, ib7, ib8, ib9, ib10, rc11, ib12, rc13, ib14, ib15, ib16, ib17, ib18, ib19, rc20, rc21, ib22, ib23, ib24, rc25, ib26, ib27, ib28, ib29, ib30, ib31, rc32, ib33, rc34, ib35, rc36, ib37, rc38, ib39, ib40, ib41, ib42, ib43, ib44, ib45, ib46, ib47, rc48, ib49, ib50, ib51, ib52, ib53, rc54, ib55, ib56, ib57, ib58, ib59, ib60, ib61, ib62, ib63, ib64, ib65, ib66, ib67, ib68, ib69, ib70, ib71, ib72, ib73, ib74, ib75, ib76, ib77, ib78, ib79, ib80, ib81, e1, e2, c1, c2, Int.toNat_natCast]
theorem S_holds {set g : Nat} (hs : set < 256) (hg : g < 8) : WP S 62 0 [some (vi (set : Int)), some (vi (g : Int))] [] σ post ↔ post (some (vi (if set.testBit g = true then 1 else 0))) σ := by
  simp only [w62_0, w62_1, w62_2, w62_3, w62_4, w62_5, w62_6, w62_9, w62_10, w62_13, w62_14, ↓reduceIte, okp_i, okp_r, okp_n, catS_nil, catS_cons, catV_i, catV_r, catV_l, Option.toList_some, Option.toList_none, List.cons_append, List.nil_append, gi_si, ga_si, gi_sa, ga_sa, gi_sl, ga_sl, gi_sf, ga_sf, gl_si, gl_sa, gl_sf, gl_sl, and_true, true_and, if_true, if_false, ite_true, ite_false, not_false_eq_true, not_true_eq_false, Nat.reduceEqDiff, reduceCtorEq, Nat.reduceLeDiff, Nat.reduceAdd, Nat.reduceMul, Nat.reduceLT, Int.reduceNeg, Int.reduceEq, Int.reduceLT, Int.reduceLE, eq_self, Nat.reduceSub, or_true, true_or, or_false, false_or, and_false, false_and, Int.reduceToNat, rc0, rc1, ib2, ib3, ib4, ib5, ib6, ib7, ib8, ib9, ib10, rc11, ib12, rc13, ib14, ib15, ib16, ib17, ib18, ib19, rc20, rc21, ib22, ib23, ib24, rc25, ib26, ib27, ib28, ib29, ib30, ib31, rc32, ib33, rc34, ib35, rc36, ib37, rc38, ib39, ib40, ib41, ib42, ib43, ib44, ib45, ib46, ib47, rc48, ib49, ib50, ib51, ib52, ib53, rc54, ib55, ib56, ib57, ib58, ib59, ib60, ib61, ib62, ib63, ib64, ib65, ib66, ib67, ib68, ib69, ib70, ib71, ib72, ib73, ib74, ib75, ib76, ib77, ib78, ib79, ib80, ib81, bt_h hs hg]
  by_cases q : set.testBit g = true
  · simp only [q, ↓reduceIte, okp_i, okp_r, okp_n, catS_nil, catS_cons, catV_i, catV_r, catV_l, Option.toList_some, Option.toList_none, List.cons_append, List.nil_append, gi_si, ga_si, gi_sa, ga_sa, gi_sl, ga_sl, gi_sf, ga_sf, gl_si, gl_sa, gl_sf, gl_sl, and_true, true_and, if_true, if_false, ite_true, ite_false, not_false_eq_true, not_true_eq_false, Nat.reduceEqDiff, reduceCtorEq, Nat.reduceLeDiff, Nat.reduceAdd, Nat.reduceMul, Nat.reduceLT, Int.reduceNeg, Int.reduceEq, Int.reduceLT, Int.reduceLE, eq_self, Nat.reduceSub, or_true, true_or, or_false, false_or, and_false, false_and, Int.reduceToNat, rc0, rc1, ib2, ib3, ib4, ib5, ib6, ib7, ib8, ib9, ib10, rc11, ib12, rc13, ib14, ib15, ib16, ib17, ib18, ib19, rc20, rc21, ib22, ib23, ib24, rc25, ib26, ib27, ib28, ib29, ib30, ib31, rc32, ib33, rc34, ib35, rc36, ib37, rc38, ib39, ib40, ib41, ib42, ib43, ib44, ib45, ib46, ib47, rc48, ib49, ib50, ib51, ib52, ib53, rc54, ib55, ib56, ib57, ib58, ib59, ib60, ib61, ib62, ib63, ib64, ib65, ib66, ib67, ib68, ib69, ib70, ib71, ib72, ib73, ib74, ib75, ib76, ib77, ib78, ib79, ib80, ib81]
  · simp only [q, ↓reduceIte, okp_i, okp_r, okp_n, catS_nil, catS_cons, catV_i, catV_r, catV_l, Option.toList_some, Option.toList_none, List.cons_append, List.nil_append, gi_si, ga_si, gi_sa, ga_sa, gi_sl, ga_sl, gi_sf, ga_sf, gl_si, gl_sa, gl_sf, gl_sl, and_true, true_and, if_true, if_false, ite_true, ite_false, not_false_eq_true, not_true_eq_false, Nat.reduceEqDiff, reduceCtorEq, Nat.reduceLeDiff, Nat.reduceAdd, Nat.reduceMul, Nat.reduceLT, Int.reduceNeg, Int.reduceEq, Int.reduceLT, Int.reduceLE, eq_self, Nat.reduceSub, or_true, true_or, or_false, false_or, and_false, false_and, Int.reduceToNat, rc0, rc1, ib2, ib3, ib4, ib5, ib6, ib7, ib8, ib9, ib10, rc11, ib12, rc13, ib14, ib15, ib16, ib17, ib18, ib19, rc20, rc21, ib22, ib23, ib24, rc25, ib26, ib27, ib28, ib29, ib30, ib31, rc32, ib33, rc34, ib35, rc36, ib37, rc38, ib39, ib40, ib41, ib42, ib43, ib44, ib45, ib46, ib47, rc48, ib49, ib50, ib51, ib52, ib53, rc54, ib55, ib56, ib57, ib58, ib59, ib60, ib61, ib62, ib63, ib64, ib65, ib66, ib67, ib68, ib69, ib70, ib71, ib72, ib73, ib74, ib75, ib76, ib77, ib78, ib79, ib80, ib81]
theorem S_step (hP : PC n m X W gA gW wA) (hC : CH n m X W gA gW wA σ) {at_ g : Nat} (ha : at_ < 8) (hg : g < n) : WP S 60 0 [some (vr 38), some (vi (at_ : Int)), some (vi (g : Int))] [] σ post ↔ post (some (vi (W (8 * at_ + (gA g).toNat) + gW g))) σ := by
  obtain ⟨p1, p2, p3, p4, p5, p6⟩ := hP
  obtain ⟨c1, c2, c3, c4, c5, c6⟩ := hC
  obtain ⟨a1, a2⟩ := p4 g hg
  obtain ⟨e1, e2⟩ := c4 g hg
  obtain ⟨a, ea⟩ : ∃ a : Nat, gA g = (a : Int) := ⟨(gA g).toNat, by omega⟩
  have a8 : a < 8 := by omega
  have b1 := p6 at_ a ha a8
  have b2 := c6 at_ a ha a8
  have d1 : (0 : Int) ≤ (g : Int) := by omega
  have d2 : (g : Int) < 8 := by omega
  have d3 : wr (W (8 * at_ + a) + gW g) = W (8 * at_ + a) + gW g := wr_id (by omega) (by omega)
  simp only [w60_0, w60_1, w60_4, w60_5, w60_6, w60_9, w60_10, w60_11, w60_14, w60_15, w60_18, w60_19, w60_20, w60_21, ↓reduceIte, okp_i, okp_r, okp_n, catS_nil, catS_cons, catV_i, catV_r, catV_l, Option.toList_some, Option.toList_none, List.cons_append, List.nil_append, gi_si, ga_si, gi_sa, ga_sa, gi_sl, ga_sl, gi_sf, ga_sf, gl_si, gl_sa, gl_sf, gl_sl, and_true, true_and, if_true, if_false, ite_true, ite_false, not_false_eq_true, not_true_eq_false, Nat.reduceEqDiff, reduceCtorEq, Nat.reduceLeDiff, Nat.reduceAdd, Nat.reduceMul, Nat.reduceLT, Int.reduceNeg, Int.reduceEq, Int.reduceLT, Int.reduceLE, eq_self, Nat.reduceSub, or_true, true_or, or_false, false_or, and_false, false_and, Int.reduceToNat, rc0, rc1, ib2, ib3, ib4, ib5, ib6, ib7, ib8, ib9, ib10, rc11, ib12, rc13, ib14, ib15, ib16, ib17, ib18, ib19, rc20, rc21, ib22, ib23, ib24, rc25, ib26, ib27, ib28, ib29, ib30, ib31, rc32, ib33, rc34, ib35, rc36, ib37, rc38, ib39, ib40, ib41, ib42, ib43, ib44, ib45, ib46, ib47, rc48, ib49, ib50, ib51, ib52, ib53, rc54, ib55, ib56, ib57, ib58, ib59, ib60, ib61, ib62, ib63, ib64, ib65, ib66, ib67, ib68, ib69, ib70, ib71, ib72, ib73, ib74, ib75, ib76, ib77, ib78, ib79, ib80, ib81, d1, d2, d3, e1, e2, ea, b2, S_foot ha a8, Int.toNat_natCast]
theorem S_nif (hP : PC n m X W gA gW wA) (hC : CH n m X W gA gW wA σ) {set at_ g : Nat} (hs : set < 256) (ha : at_ < 8) (hg : g < n) (ht : set.testBit g = true) (hb : 0 ≤ ga σ 42 (8 * (set - 2 ^ g) + (gA g).toNat) ∧ ga σ 42 (8 * (set - 2 ^ g) + (gA g).toNat) ≤ 1000000) : WP S 59 0 [some (vr 38), some (vi (set : Int)), some (vi (at_ : Int)), some (vi (g : Int))] [] σ post ↔ post (some (vi (W (8 * at_ + (gA g).toNat) + gW g + ga σ 42 (8 * (set - 2 ^ g) + (gA g).toNat)))) σ := by
  have st := fun post => S_step (S := S) (post := post) hP hC ha hg
  obtain ⟨p1, p2, p3, p4, p5, p6⟩ := hP
  obtain ⟨c1, c2, c3, c4, c5, c6⟩ := hC
  obtain ⟨a1, a2⟩ := p4 g hg
  obtain ⟨e1, e2⟩ := c4 g hg
  obtain ⟨a, ea⟩ : ∃ a : Nat, gA g = (a : Int) := ⟨(gA g).toNat, by omega⟩
  have a8 : a < 8 := by omega
  have g8 : g < 8 := by omega
  have ss : set - 2 ^ g < 256 := Nat.lt_of_le_of_lt (Nat.sub_le _ _) hs
  have ea' : (gA g).toNat = a := by omega
  simp only [ea'] at hb st ⊢
  have b1 := p6 at_ a ha a8
  have d1 : (0 : Int) ≤ (g : Int) := by omega
  have d2 : (g : Int) < 8 := by omega
  have d3 : wr (W (8 * at_ + a) + gW g + ga σ 42 (8 * (set - 2 ^ g) + a)) = W (8 * at_ + a) + gW g + ga σ 42 (8 * (set - 2 ^ g) + a) := wr_id (by omega) (by omega)
  simp only [w59_0, w59_1, w59_2, w59_3, w59_6, w59_7, w59_8, w59_9, w59_10, w59_11, w59_12, w59_13, w59_14, w59_15, w59_18, w59_19, w59_20, w59_23, w59_24, ↓reduceIte, okp_i, okp_r, okp_n, catS_nil, catS_cons, catV_i, catV_r, catV_l, Option.toList_some, Option.toList_none, List.cons_append, List.nil_append, gi_si, ga_si, gi_sa, ga_sa, gi_sl, ga_sl, gi_sf, ga_sf, gl_si, gl_sa, gl_sf, gl_sl, and_true, true_and, if_true, if_false, ite_true, ite_false, not_false_eq_true, not_true_eq_false, Nat.reduceEqDiff, reduceCtorEq, Nat.reduceLeDiff, Nat.reduceAdd, Nat.reduceMul, Nat.reduceLT, Int.reduceNeg, Int.reduceEq, Int.reduceLT, Int.reduceLE, eq_self, Nat.reduceSub, or_true, true_or, or_false, false_or, and_false, false_and, Int.reduceToNat, rc0, rc1, ib2, ib3, ib4, ib5, ib6, ib7, ib8, ib9, ib10, rc11, ib12, rc13, ib14, ib15, ib16, ib17, ib18, ib19, rc20, rc21, ib22, ib23, ib24, rc25, ib26, ib27, ib28, ib29, ib30, ib31, rc32, ib33, rc34, ib35, rc36, ib37, rc38, ib39, ib40, ib41, ib42, ib43, ib44, ib45, ib46, ib47, rc48, ib49, ib50, ib51, ib52, ib53, rc54, ib55, ib56, ib57, ib58, ib59, ib60, ib61, ib62, ib63, ib64, ib65, ib66, ib67, ib68, ib69, ib70, ib71, ib72, ib73, ib74, ib75, ib76, ib77, ib78, ib79, ib80, ib81, d1, d2, d3, e1, e2, ea, st, S_need ss a8, bt_s (Nat.lt_succ_of_lt g8), bt_r hs g8 ht, Int.toNat_natCast]
theorem L_nbs (hP : PC n m X W gA gW wA) (hC : CH n m X W gA gW wA σ) {set at_ : Nat} (hs : set < 256) (ha : at_ < 8) (hb : ∀ g, g < n → set.testBit g = true → 0 ≤ ga σ 42 (8 * (set - 2 ^ g) + (gA g).toNat) ∧ ga σ 42 (8 * (set - 2 ^ g) + (gA g).toNat) ≤ 1000000) : ∀ r k : Nat, k + r = n → (WP S 58 6 [some (vr 38), some (vi (set : Int)), some (vi (at_ : Int)), some (vi (nbF W gA gW (ga σ 42) set at_ k)), some (vi (k : Int))] [] σ post ↔ post (some (vi (nbF W gA gW (ga σ 42) set at_ n))) σ) := by
  have hn := hC.1
  have n8 := hP.1
  intro r
  induction r with
  | zero =>
    intro k hk
    have e : k = n := by omega
    subst e
    rw [w58_6]
    simp only [w58_0, w58_2, w58_3, w58_4, w58_8, w58_9, w58_12, w58_15, w58_16, w58_18, w58_21, w58_24, w58_25, w58_26, w58_27, w58_28, w58_30, w58_33, w58_36, w58_37, w58_40, w58_43, w58_44, ↓reduceIte, okp_i, okp_r, okp_n, catS_nil, catS_cons, catV_i, catV_r, catV_l, Option.toList_some, Option.toList_none, List.cons_append, List.nil_append, gi_si, ga_si, gi_sa, ga_sa, gi_sl, ga_sl, gi_sf, ga_sf, gl_si, gl_sa, gl_sf, gl_sl, and_true, true_and, if_true, if_false, ite_true, ite_false, not_false_eq_true, not_true_eq_false, Nat.reduceEqDiff, reduceCtorEq, Nat.reduceLeDiff, Nat.reduceAdd, Nat.reduceMul, Nat.reduceLT, Int.reduceNeg, Int.reduceEq, Int.reduceLT, Int.reduceLE, eq_self, Nat.reduceSub, or_true, true_or, or_false, false_or, and_false, false_and, Int.reduceToNat, rc0, rc1, ib2, ib3, ib4, ib5, ib6, ib7, ib8, ib9, ib10, rc11, ib12, rc13, ib14, ib15, ib16, ib17, ib18, ib19, rc20, rc21, ib22, ib23, ib24, rc25, ib26, ib27, ib28, ib29, ib30, ib31, rc32, ib33, rc34, ib35, rc36, ib37, rc38, ib39, ib40, ib41, ib42, ib43, ib44, ib45, ib46, ib47, rc48, ib49, ib50, ib51, ib52, ib53, rc54, ib55, ib56, ib57, ib58, ib59, ib60, ib61, ib62, ib63, ib64, ib65, ib66, ib67, ib68, ib69, ib70, ib71, ib72, ib73, ib74, ib75, ib76, ib77, ib78, ib79, ib80, ib81, hn, Int.le_refl]
  | succ r ih =>
    intro k hk
    have c1 : ¬ ((n : Int) ≤ (k : Int)) := by omega
    have kn : k < n := by omega
    have k8 : k < 8 := by omega
    have q7 := wr_n1 (x := k) (by omega)
    have sm : k + 1 + r = n := by omega
    have i := ih (k + 1) sm
    simp only [nbF] at i
    rw [w58_6]
    by_cases q : set.testBit k = true
    · rw [if_pos q] at i
      simp only [w58_0, w58_2, w58_3, w58_4, w58_8, w58_9, w58_12, w58_15, w58_16, w58_18, w58_21, w58_24, w58_25, w58_26, w58_27, w58_28, w58_30, w58_33, w58_36, w58_37, w58_40, w58_43, w58_44, ↓reduceIte, okp_i, okp_r, okp_n, catS_nil, catS_cons, catV_i, catV_r, catV_l, Option.toList_some, Option.toList_none, List.cons_append, List.nil_append, gi_si, ga_si, gi_sa, ga_sa, gi_sl, ga_sl, gi_sf, ga_sf, gl_si, gl_sa, gl_sf, gl_sl, and_true, true_and, if_true, if_false, ite_true, ite_false, not_false_eq_true, not_true_eq_false, Nat.reduceEqDiff, reduceCtorEq, Nat.reduceLeDiff, Nat.reduceAdd, Nat.reduceMul, Nat.reduceLT, Int.reduceNeg, Int.reduceEq, Int.reduceLT, Int.reduceLE, eq_self, Nat.reduceSub, or_true, true_or, or_false, false_or, and_false, false_and, Int.reduceToNat, rc0, rc1, ib2, ib3, ib4, ib5, ib6, ib7, ib8, ib9, ib10, rc11, ib12, rc13, ib14, ib15, ib16, ib17, ib18, ib19, rc20, rc21, ib22, ib23, ib24, rc25, ib26, ib27, ib28, ib29, ib30, ib31, rc32, ib33, rc34, ib35, rc36, ib37, rc38, ib39, ib40, ib41, ib42, ib43, ib44, ib45, ib46, ib47, rc48, ib49, ib50, ib51, ib52, ib53, rc54, ib55, ib56, ib57, ib58, ib59, ib60, ib61, ib62, ib63, ib64, ib65, ib66, ib67, ib68, ib69, ib70, ib71, ib72, ib73, ib74, ib75, ib76, ib77, ib78, ib79, ib80, ib81, hn, c1, S_holds hs k8, q, S_nif hP hC hs ha kn q (hb k kn q), q7]
      exact i
    · rw [if_neg q] at i
      simp only [w58_0, w58_2, w58_3, w58_4, w58_8, w58_9, w58_12, w58_15, w58_16, w58_18, w58_21, w58_24, w58_25, w58_26, w58_27, w58_28, w58_30, w58_33, w58_36, w58_37, w58_40, w58_43, w58_44, ↓reduceIte, okp_i, okp_r, okp_n, catS_nil, catS_cons, catV_i, catV_r, catV_l, Option.toList_some, Option.toList_none, List.cons_append, List.nil_append, gi_si, ga_si, gi_sa, ga_sa, gi_sl, ga_sl, gi_sf, ga_sf, gl_si, gl_sa, gl_sf, gl_sl, and_true, true_and, if_true, if_false, ite_true, ite_false, not_false_eq_true, not_true_eq_false, Nat.reduceEqDiff, reduceCtorEq, Nat.reduceLeDiff, Nat.reduceAdd, Nat.reduceMul, Nat.reduceLT, Int.reduceNeg, Int.reduceEq, Int.reduceLT, Int.reduceLE, eq_self, Nat.reduceSub, or_true, true_or, or_false, false_or, and_false, false_and, Int.reduceToNat, rc0, rc1, ib2, ib3, ib4, ib5, ib6, ib7, ib8, ib9, ib10, rc11, ib12, rc13, ib14, ib15, ib16, ib17, ib18, ib19, rc20, rc21, ib22, ib23, ib24, rc25, ib26, ib27, ib28, ib29, ib30, ib31, rc32, ib33, rc34, ib35, rc36, ib37, rc38, ib39, ib40, ib41, ib42, ib43, ib44, ib45, ib46, ib47, rc48, ib49, ib50, ib51, ib52, ib53, rc54, ib55, ib56, ib57, ib58, ib59, ib60, ib61, ib62, ib63, ib64, ib65, ib66, ib67, ib68, ib69, ib70, ib71, ib72, ib73, ib74, ib75, ib76, ib77, ib78, ib79, ib80, ib81, hn, c1, S_holds hs k8, q, q7]
      exact i
theorem S_nbs (hP : PC n m X W gA gW wA) (hC : CH n m X W gA gW wA σ) {set at_ : Nat} (hs : set < 256) (ha : at_ < 8) (hb : ∀ g, g < n → set.testBit g = true → 0 ≤ ga σ 42 (8 * (set - 2 ^ g) + (gA g).toNat) ∧ ga σ 42 (8 * (set - 2 ^ g) + (gA g).toNat) ≤ 1000000) : WP S 58 0 [some (vr 38), some (vi (set : Int)), some (vi (at_ : Int)), none, none] [] σ post ↔ post (some (vi (nbF W gA gW (ga σ 42) set at_ n))) σ := by
  have := L_nbs (S := S) (post := post) hP hC hs ha hb n 0 (by omega)
  rw [← this]
  simp only [w58_0, w58_2, w58_3, w58_4, ↓reduceIte, okp_i, okp_r, okp_n, catS_nil, catS_cons, catV_i, catV_r, catV_l, Option.toList_some, Option.toList_none, List.cons_append, List.nil_append, gi_si, ga_si, gi_sa, ga_sa, gi_sl, ga_sl, gi_sf, ga_sf, gl_si, gl_sa, gl_sf, gl_sl, and_true, true_and, if_true, if_false, ite_true, ite_false, not_false_eq_true, not_true_eq_false, Nat.reduceEqDiff, reduceCtorEq, Nat.reduceLeDiff, Nat.reduceAdd, Nat.reduceMul, Nat.reduceLT, Int.reduceNeg, Int.reduceEq, Int.reduceLT, Int.reduceLE, eq_self, Nat.reduceSub, or_true, true_or, or_false, false_or, and_false, false_and, Int.reduceToNat, rc0, rc1, ib2, ib3, ib4, ib5, ib6, ib7, ib8, ib9, ib10, rc11, ib12, rc13, ib14, ib15, ib16, ib17, ib18, ib19, rc20, rc21, ib22, ib23, ib24, rc25, ib26, ib27, ib28, ib29, ib30, ib31, rc32, ib33, rc34, ib35, rc36, ib37, rc38, ib39, ib40, ib41, ib42, ib43, ib44, ib45, ib46, ib47, rc48, ib49, ib50, ib51, ib52, ib53, rc54, ib55, ib56, ib57, ib58, ib59, ib60, ib61, ib62, ib63, ib64, ib65, ib66, ib67, ib68, ib69, ib70, ib71, ib72, ib73, ib74, ib75, ib76, ib77, ib78, ib79, ib80, ib81]
  exact Iff.rfl
theorem L_fnA (hP : PC n m X W gA gW wA) (hC : CH n m X W gA gW wA σ) {set : Nat} (hs : set < 256) (kk : ∀ (T : Nat → Int) (l2 : Option AV), FT n X W gA gW set X T → WP S 57 56 [some (vr 38), some (vi (set : Int)), l2] [] (sf σ 42 T) post) : ∀ (r k : Nat) (T : Nat → Int), k + r = X → FT n X W gA gW set k T → WP S 57 14 [some (vr 38), some (vi (set : Int)), some (vi (k : Int))] [] (sf σ 42 T) post := by
  have hx := hC.2.2.1
  have x8 := hP.2.2.1
  intro r
  induction r with
  | zero =>
    intro k T hk hT
    have e : k = X := by omega
    subst e
    rw [w57_14]
    simp only [w57_15, w57_16, w57_19, w57_22, w87_0, w87_1, w87_4, ↓reduceIte, okp_i, okp_r, okp_n, catS_nil, catS_cons, catV_i, catV_r, catV_l, Option.toList_some, Option.toList_none, List.cons_append, List.nil_append, gi_si, ga_si, gi_sa, ga_sa, gi_sl, ga_sl, gi_sf, ga_sf, gl_si, gl_sa, gl_sf, gl_sl, and_true, true_and, if_true, if_false, ite_true, ite_false, not_false_eq_true, not_true_eq_false, Nat.reduceEqDiff, reduceCtorEq, Nat.reduceLeDiff, Nat.reduceAdd, Nat.reduceMul, Nat.reduceLT, Int.reduceNeg, Int.reduceEq, Int.reduceLT, Int.reduceLE, eq_self, Nat.reduceSub, or_true, true_or, or_false, false_or, and_false, false_and, Int.reduceToNat, rc0, rc1, ib2, ib3, ib4, ib5, ib6, ib7, ib8, ib9, ib10, rc11, ib12, rc13, ib14, ib15, ib16, ib17, ib18, ib19, rc20, rc21, ib22, ib23, ib24, rc25, ib26, ib27, ib28, ib29, ib30, ib31, rc32, ib33, rc34, ib35, rc36, ib37, rc38, ib39, ib40, ib41, ib42, ib43, ib44, ib45, ib46, ib47, rc48, ib49, ib50, ib51, ib52, ib53, rc54, ib55, ib56, ib57, ib58, ib59, ib60, ib61, ib62, ib63, ib64, ib65, ib66, ib67, ib68, ib69, ib70, ib71, ib72, ib73, ib74, ib75, ib76, ib77, ib78, ib79, ib80, ib81, hx, Int.le_refl]
    exact kk T _ hT
  | succ r ih =>
    intro k T hk hT
    have c1 : ¬ ((X : Int) ≤ (k : Int)) := by omega
    have kX : k < X := by omega
    have k8 : k < 8 := by omega
    have q7 := wr_n1 (x := k) (by omega)
    have sm : k + 1 + r = X := by omega
    have e1 : wr ((set : Int) * 8) = (set : Int) * 8 := wr_id (by omega) (by omega)
    have e2 : wr ((set : Int) * 8 + (k : Int)) = ((8 * set + k : Nat) : Int) := by rw [wr_id (by omega) (by omega)]; omega
    have c2 : 0 ≤ ((8 * set + k : Nat) : Int) := by omega
    have c3 : ((8 * set + k : Nat) : Int) < 2048 := by omega
    have C2 : CH n m X W gA gW wA (sf σ 42 T) := CH_fr hC (by simp only [eqI, eqA, List.forall_mem_cons, List.not_mem_nil, false_implies, implies_true, ↓reduceIte, okp_i, okp_r, okp_n, catS_nil, catS_cons, catV_i, catV_r, catV_l, Option.toList_some, Option.toList_none, List.cons_append, List.nil_append, gi_si, ga_si, gi_sa, ga_sa, gi_sl, ga_sl, gi_sf, ga_sf, gl_si, gl_sa, gl_sf, gl_sl, and_true, true_and, if_true, if_false, ite_true, ite_false, not_false_eq_true, not_true_eq_false, Nat.reduceEqDiff, reduceCtorEq, Nat.reduceLeDiff, Nat.reduceAdd, Nat.reduceMul, Nat.reduceLT, Int.reduceNeg, Int.reduceEq, Int.reduceLT, Int.reduceLE, eq_self, Nat.reduceSub, or_true, true_or, or_false, false_or, and_false, false_and, Int.reduceToNat, rc0, rc1, ib2, ib3, ib4, ib5, ib6, ib7, ib8, ib9, ib10, rc11, ib12, rc13, ib14, ib15, ib16, ib17, ib18, ib19, rc20, rc21, ib22, ib23, ib24, rc25, ib26, ib27, ib28, ib29, ib30, ib31, rc32, ib33, rc34, ib35, rc36, ib37, rc38, ib39, ib40, ib41, ib42, ib43, ib44, ib45, ib46, ib47, rc48, ib49, ib50, ib51, ib52, ib53, rc54, ib55, ib56, ib57, ib58, ib59, ib60, ib61, ib62, ib63, ib64, ib65, ib66, ib67, ib68, ib69, ib70, ib71, ib72, ib73, ib74, ib75, ib76, ib77, ib78, ib79, ib80, ib81]) (by simp only [eqI, eqA, List.forall_mem_cons, List.not_mem_nil, false_implies, implies_true, ↓reduceIte, okp_i, okp_r, okp_n, catS_nil, catS_cons, catV_i, catV_r, catV_l, Option.toList_some, Option.toList_none, List.cons_append, List.nil_append, gi_si, ga_si, gi_sa, ga_sa, gi_sl, ga_sl, gi_sf, ga_sf, gl_si, gl_sa, gl_sf, gl_sl, and_true, true_and, if_true, if_false, ite_true, ite_false, not_false_eq_true, not_true_eq_false, Nat.reduceEqDiff, reduceCtorEq, Nat.reduceLeDiff, Nat.reduceAdd, Nat.reduceMul, Nat.reduceLT, Int.reduceNeg, Int.reduceEq, Int.reduceLT, Int.reduceLE, eq_self, Nat.reduceSub, or_true, true_or, or_false, false_or, and_false, false_and, Int.reduceToNat, rc0, rc1, ib2, ib3, ib4, ib5, ib6, ib7, ib8, ib9, ib10, rc11, ib12, rc13, ib14, ib15, ib16, ib17, ib18, ib19, rc20, rc21, ib22, ib23, ib24, rc25, ib26, ib27, ib28, ib29, ib30, ib31, rc32, ib33, rc34, ib35, rc36, ib37, rc38, ib39, ib40, ib41, ib42, ib43, ib44, ib45, ib46, ib47, rc48, ib49, ib50, ib51, ib52, ib53, rc54, ib55, ib56, ib57, ib58, ib59, ib60, ib61, ib62, ib63, ib64, ib65, ib66, ib67, ib68, ib69, ib70, ib71, ib72, ib73, ib74, ib75, ib76, ib77, ib78, ib79, ib80, ib81])
    rw [w57_14]
    by_cases q : set = 0
    · have q' : ((set : Int) = 0) = True := eq_true (by omega)
      simp only [w57_0, w57_1, w57_3, w57_4, w57_5, w57_8, w57_9, w57_12, w57_13, w57_15, w57_16, w57_19, w57_22, w57_25, w57_26, w57_29, w57_30, w57_32, w57_33, w57_34, w57_35, w57_36, w57_39, w57_40, w57_43, w57_44, w57_45, w57_46, w57_49, w57_50, w57_53, w57_59, w57_62, w87_0, w87_1, w87_4, ↓reduceIte, okp_i, okp_r, okp_n, catS_nil, catS_cons, catV_i, catV_r, catV_l, Option.toList_some, Option.toList_none, List.cons_append, List.nil_append, gi_si, ga_si, gi_sa, ga_sa, gi_sl, ga_sl, gi_sf, ga_sf, gl_si, gl_sa, gl_sf, gl_sl, and_true, true_and, if_true, if_false, ite_true, ite_false, not_false_eq_true, not_true_eq_false, Nat.reduceEqDiff, reduceCtorEq, Nat.reduceLeDiff, Nat.reduceAdd, Nat.reduceMul, Nat.reduceLT, Int.reduceNeg, Int.reduceEq, Int.reduceLT, Int.reduceLE, eq_self, Nat.reduceSub, or_true, true_or, or_false, false_or, and_false, false_and, Int.reduceToNat, rc0, rc1, ib2, ib3, ib4, ib5, ib6, ib7, ib8, ib9, ib10, rc11, ib12, rc13, ib14, ib15, ib16, ib17, ib18, ib19, rc20, rc21, ib22, ib23, ib24, rc25, ib26, ib27, ib28, ib29, ib30, ib31, rc32, ib33, rc34, ib35, rc36, ib37, rc38, ib39, ib40, ib41, ib42, ib43, ib44, ib45, ib46, ib47, rc48, ib49, ib50, ib51, ib52, ib53, rc54, ib55, ib56, ib57, ib58, ib59, ib60, ib61, ib62, ib63, ib64, ib65, ib66, ib67, ib68, ib69, ib70, ib71, ib72, ib73, ib74, ib75, ib76, ib77, ib78, ib79, ib80, ib81, hx, c1, c2, c3, e1, e2, q7, q', Int.toNat_natCast, sa_sf]
      exact ih (k + 1) _ sm (FT_step hP kX hT (by rw [if_pos q]))
    · have q' : ¬ (set : Int) = 0 := by omega
      have nb := fun post => S_nbs (S := S) (post := post) hP C2 hs k8 (fun g hg ht => by simp only [↓reduceIte, okp_i, okp_r, okp_n, catS_nil, catS_cons, catV_i, catV_r, catV_l, Option.toList_some, Option.toList_none, List.cons_append, List.nil_append, gi_si, ga_si, gi_sa, ga_sa, gi_sl, ga_sl, gi_sf, ga_sf, gl_si, gl_sa, gl_sf, gl_sl, and_true, true_and, if_true, if_false, ite_true, ite_false, not_false_eq_true, not_true_eq_false, Nat.reduceEqDiff, reduceCtorEq, Nat.reduceLeDiff, Nat.reduceAdd, Nat.reduceMul, Nat.reduceLT, Int.reduceNeg, Int.reduceEq, Int.reduceLT, Int.reduceLE, eq_self, Nat.reduceSub, or_true, true_or, or_false, false_or, and_false, false_and, Int.reduceToNat, rc0, rc1, ib2, ib3, ib4, ib5, ib6, ib7, ib8, ib9, ib10, rc11, ib12, rc13, ib14, ib15, ib16, ib17, ib18, ib19, rc20, rc21, ib22, ib23, ib24, rc25, ib26, ib27, ib28, ib29, ib30, ib31, rc32, ib33, rc34, ib35, rc36, ib37, rc38, ib39, ib40, ib41, ib42, ib43, ib44, ib45, ib46, ib47, rc48, ib49, ib50, ib51, ib52, ib53, rc54, ib55, ib56, ib57, ib58, ib59, ib60, ib61, ib62, ib63, ib64, ib65, ib66, ib67, ib68, ib69, ib70, ib71, ib72, ib73, ib74, ib75, ib76, ib77, ib78, ib79, ib80, ib81]; exact FT_bd hP hT hg ht)
      simp only [↓reduceIte, okp_i, okp_r, okp_n, catS_nil, catS_cons, catV_i, catV_r, catV_l, Option.toList_some, Option.toList_none, List.cons_append, List.nil_append, gi_si, ga_si, gi_sa, ga_sa, gi_sl, ga_sl, gi_sf, ga_sf, gl_si, gl_sa, gl_sf, gl_sl, and_true, true_and, if_true, if_false, ite_true, ite_false, not_false_eq_true, not_true_eq_false, Nat.reduceEqDiff, reduceCtorEq, Nat.reduceLeDiff, Nat.reduceAdd, Nat.reduceMul, Nat.reduceLT, Int.reduceNeg, Int.reduceEq, Int.reduceLT, Int.reduceLE, eq_self, Nat.reduceSub, or_true, true_or, or_false, false_or, and_false, false_and, Int.reduceToNat, rc0, rc1, ib2, ib3, ib4, ib5, ib6, ib7, ib8, ib9, ib10, rc11, ib12, rc13, ib14, ib15, ib16, ib17, ib18, ib19, rc20, rc21, ib22, ib23, ib24, rc25, ib26, ib27, ib28, ib29, ib30, ib31, rc32, ib33, rc34, ib35, rc36, ib37, rc38, ib39, ib40, ib41, ib42, ib43, ib44, ib45, ib46, ib47, rc48, ib49, ib50, ib51, ib52, ib53, rc54, ib55, ib56, ib57, ib58, ib59, ib60, ib61, ib62, ib63, ib64, ib65, ib66, ib67, ib68, ib69, ib70, ib71, ib72, ib73, ib74, ib75, ib76, ib77, ib78, ib79, ib80, ib81] at nb
      simp only [w57_0, w57_1, w57_3, w57_4, w57_5, w57_8, w57_9, w57_12, w57_13, w57_15, w57_16, w57_19, w57_22, w57_25, w57_26, w57_29, w57_30, w57_32, w57_33, w57_34, w57_35, w57_36, w57_39, w57_40, w57_43, w57_44, w57_45, w57_46, w57_49, w57_50, w57_53, w57_59, w57_62, w87_0, w87_1, w87_4, ↓reduceIte, okp_i, okp_r, okp_n, catS_nil, catS_cons, catV_i, catV_r, catV_l, Option.toList_some, Option.toList_none, List.cons_append, List.nil_append, gi_si, ga_si, gi_sa, ga_sa, gi_sl, ga_sl, gi_sf, ga_sf, gl_si, gl_sa, gl_sf, gl_sl, and_true, true_and, if_true, if_false, ite_true, ite_false, not_false_eq_true, not_true_eq_false, Nat.reduceEqDiff, reduceCtorEq, Nat.reduceLeDiff, Nat.reduceAdd, Nat.reduceMul, Nat.reduceLT, Int.reduceNeg, Int.reduceEq, Int.reduceLT, Int.reduceLE, eq_self, Nat.reduceSub, or_true, true_or, or_false, false_or, and_false, false_and, Int.reduceToNat, rc0, rc1, ib2, ib3, ib4, ib5, ib6, ib7, ib8, ib9, ib10, rc11, ib12, rc13, ib14, ib15, ib16, ib17, ib18, ib19, rc20, rc21, ib22, ib23, ib24, rc25, ib26, ib27, ib28, ib29, ib30, ib31, rc32, ib33, rc34, ib35, rc36, ib37, rc38, ib39, ib40, ib41, ib42, ib43, ib44, ib45, ib46, ib47, rc48, ib49, ib50, ib51, ib52, ib53, rc54, ib55, ib56, ib57, ib58, ib59, ib60, ib61, ib62, ib63, ib64, ib65, ib66, ib67, ib68, ib69, ib70, ib71, ib72, ib73, ib74, ib75, ib76, ib77, ib78, ib79, ib80, ib81, hx, c1, c2, c3, e1, e2, q7, q', nb, Int.toNat_natCast, sa_sf]
      exact ih (k + 1) _ sm (FT_step hP kX hT (by rw [if_neg q]))
theorem L_fnS (hP : PC n m X W gA gW wA) (hC : CH n m X W gA gW wA σ) (kk : ∀ (T : Nat → Int), FT n X W gA gW (2 ^ n) 0 T → post none (sf σ 42 T)) : ∀ (r k : Nat) (T : Nat → Int) (l2 : Option AV), k + r = 2 ^ n → FT n X W gA gW k 0 T → WP S 57 2 [some (vr 38), some (vi (k : Int)), l2] [] (sf σ 42 T) post := by
  have hn := hC.1
  have n8 := hP.1
  have pn := pw8 n8
  have e3 := bt_s (g := n) (by omega)
  intro r
  induction r with
  | zero =>
    intro k T l2 hk hT
    have e : k = 2 ^ n := by omega
    subst e
    rw [w57_2]
    simp only [w57_3, w57_4, w57_5, w57_8, w57_9, w57_62, ↓reduceIte, okp_i, okp_r, okp_n, catS_nil, catS_cons, catV_i, catV_r, catV_l, Option.toList_some, Option.toList_none, List.cons_append, List.nil_append, gi_si, ga_si, gi_sa, ga_sa, gi_sl, ga_sl, gi_sf, ga_sf, gl_si, gl_sa, gl_sf, gl_sl, and_true, true_and, if_true, if_false, ite_true, ite_false, not_false_eq_true, not_true_eq_false, Nat.reduceEqDiff, reduceCtorEq, Nat.reduceLeDiff, Nat.reduceAdd, Nat.reduceMul, Nat.reduceLT, Int.reduceNeg, Int.reduceEq, Int.reduceLT, Int.reduceLE, eq_self, Nat.reduceSub, or_true, true_or, or_false, false_or, and_false, false_and, Int.reduceToNat, rc0, rc1, ib2, ib3, ib4, ib5, ib6, ib7, ib8, ib9, ib10, rc11, ib12, rc13, ib14, ib15, ib16, ib17, ib18, ib19, rc20, rc21, ib22, ib23, ib24, rc25, ib26, ib27, ib28, ib29, ib30, ib31, rc32, ib33, rc34, ib35, rc36, ib37, rc38, ib39, ib40, ib41, ib42, ib43, ib44, ib45, ib46, ib47, rc48, ib49, ib50, ib51, ib52, ib53, rc54, ib55, ib56, ib57, ib58, ib59, ib60, ib61, ib62, ib63, ib64, ib65, ib66, ib67, ib68, ib69, ib70, ib71, ib72, ib73, ib74, ib75, ib76, ib77, ib78, ib79, ib80, ib81, hn, e3, Int.le_refl]
    exact kk T hT
  | succ r ih =>
    intro k T l2 hk hT
    have c1 : ¬ (((2 ^ n : Nat) : Int) ≤ (k : Int)) := by omega
    have k8 : k < 256 := by omega
    have q7 : wr ((k : Int) + 1) = ((k + 1 : Nat) : Int) := by rw [wr_id (by omega) (by omega)]; omega
    have sm : k + 1 + r = 2 ^ n := by omega
    rw [w57_2]
    simp only [w57_3, w57_4, w57_5, w57_8, w57_9, w57_12, w57_13, ↓reduceIte, okp_i, okp_r, okp_n, catS_nil, catS_cons, catV_i, catV_r, catV_l, Option.toList_some, Option.toList_none, List.cons_append, List.nil_append, gi_si, ga_si, gi_sa, ga_sa, gi_sl, ga_sl, gi_sf, ga_sf, gl_si, gl_sa, gl_sf, gl_sl, and_true, true_and, if_true, if_false, ite_true, ite_false, not_false_eq_true, not_true_eq_false, Nat.reduceEqDiff, reduceCtorEq, Nat.reduceLeDiff, Nat.reduceAdd, Nat.reduceMul, Nat.reduceLT, Int.reduceNeg, Int.reduceEq, Int.reduceLT, Int.reduceLE, eq_self, Nat.reduceSub, or_true, true_or, or_false, false_or, and_false, false_and, Int.reduceToNat, rc0, rc1, ib2, ib3, ib4, ib5, ib6, ib7, ib8, ib9, ib10, rc11, ib12, rc13, ib14, ib15, ib16, ib17, ib18, ib19, rc20, rc21, ib22, ib23, ib24, rc25, ib26, ib27, ib28, ib29, ib30, ib31, rc32, ib33, rc34, ib35, rc36, ib37, rc38, ib39, ib40, ib41, ib42, ib43, ib44, ib45, ib46, ib47, rc48, ib49, ib50, ib51, ib52, ib53, rc54, ib55, ib56, ib57, ib58, ib59, ib60, ib61, ib62, ib63, ib64, ib65, ib66, ib67, ib68, ib69, ib70, ib71, ib72, ib73, ib74, ib75, ib76, ib77, ib78, ib79, ib80, ib81, hn, e3, c1]
    refine L_fnA hP hC k8 ?_ X 0 T (by omega) hT
    intro T' l2 hT'
    simp only [w57_56, w57_59, ↓reduceIte, okp_i, okp_r, okp_n, catS_nil, catS_cons, catV_i, catV_r, catV_l, Option.toList_some, Option.toList_none, List.cons_append, List.nil_append, gi_si, ga_si, gi_sa, ga_sa, gi_sl, ga_sl, gi_sf, ga_sf, gl_si, gl_sa, gl_sf, gl_sl, and_true, true_and, if_true, if_false, ite_true, ite_false, not_false_eq_true, not_true_eq_false, Nat.reduceEqDiff, reduceCtorEq, Nat.reduceLeDiff, Nat.reduceAdd, Nat.reduceMul, Nat.reduceLT, Int.reduceNeg, Int.reduceEq, Int.reduceLT, Int.reduceLE, eq_self, Nat.reduceSub, or_true, true_or, or_false, false_or, and_false, false_and, Int.reduceToNat, rc0, rc1, ib2, ib3, ib4, ib5, ib6, ib7, ib8, ib9, ib10, rc11, ib12, rc13, ib14, ib15, ib16, ib17, ib18, ib19, rc20, rc21, ib22, ib23, ib24, rc25, ib26, ib27, ib28, ib29, ib30, ib31, rc32, ib33, rc34, ib35, rc36, ib37, rc38, ib39, ib40, ib41, ib42, ib43, ib44, ib45, ib46, ib47, rc48, ib49, ib50, ib51, ib52, ib53, rc54, ib55, ib56, ib57, ib58, ib59, ib60, ib61, ib62, ib63, ib64, ib65, ib66, ib67, ib68, ib69, ib70, ib71, ib72, ib73, ib74, ib75, ib76, ib77, ib78, ib79, ib80, ib81, q7]
    exact ih (k + 1) T' _ sm (FT_row hT')
theorem S_fill (hP : PC n m X W gA gW wA) (hC : CH n m X W gA gW wA σ) (kk : ∀ (T : Nat → Int), IsN W gA gW wA n m T → (∀ s c, s < 2 ^ n → c < X → 0 ≤ T (8 * s + c) ∧ T (8 * s + c) ≤ 1000000) → post none (sf σ 42 T)) : WP S 57 0 [some (vr 38), none, none] [] σ post := by
  have h0 := L_fnS (S := S) (post := post) hP hC (fun T hT => kk T (FT_end hP hT).1 (FT_end hP hT).2) (2 ^ n) 0 (ga σ 42) none (by omega) (fun s c h => by omega)
  rw [sf_id] at h0
  simp only [w57_0, w57_1, ↓reduceIte, okp_i, okp_r, okp_n, catS_nil, catS_cons, catV_i, catV_r, catV_l, Option.toList_some, Option.toList_none, List.cons_append, List.nil_append, gi_si, ga_si, gi_sa, ga_sa, gi_sl, ga_sl, gi_sf, ga_sf, gl_si, gl_sa, gl_sf, gl_sl, and_true, true_and, if_true, if_false, ite_true, ite_false, not_false_eq_true, not_true_eq_false, Nat.reduceEqDiff, reduceCtorEq, Nat.reduceLeDiff, Nat.reduceAdd, Nat.reduceMul, Nat.reduceLT, Int.reduceNeg, Int.reduceEq, Int.reduceLT, Int.reduceLE, eq_self, Nat.reduceSub, or_true, true_or, or_false, false_or, and_false, false_and, Int.reduceToNat, rc0, rc1, ib2, ib3, ib4, ib5, ib6, ib7, ib8, ib9, ib10, rc11, ib12, rc13, ib14, ib15, ib16, ib17, ib18, ib19, rc20, rc21, ib22, ib23, ib24, rc25, ib26, ib27, ib28, ib29, ib30, ib31, rc32, ib33, rc34, ib35, rc36, ib37, rc38, ib39, ib40, ib41, ib42, ib43, ib44, ib45, ib46, ib47, rc48, ib49, ib50, ib51, ib52, ib53, rc54, ib55, ib56, ib57, ib58, ib59, ib60, ib61, ib62, ib63, ib64, ib65, ib66, ib67, ib68, ib69, ib70, ib71, ib72, ib73, ib74, ib75, ib76, ib77, ib78, ib79, ib80, ib81]
  exact h0
end PLAN
