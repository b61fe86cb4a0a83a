/-! the reference's plan: its table -/
/-- the reference's cells hold it -/
def MH (n m X : Nat) (W gA gW wA : Nat → Int) (σ : Sto) : Prop := gi σ 3497 = (n : Int) ∧ gi σ 3498 = (m : Int) ∧ gi σ 3460 = (X : Int) ∧ ga σ 69 = gA ∧ ga σ 70 = gW ∧ ga σ 71 = wA ∧ ∀ x y : Nat, x < 8 → y < 8 → ga σ 68 (8 * x + y) = W (8 * x + y)
section RECK
variable {S : Scr} {σ : Sto} {post : Pst} {n m X : Nat} {W gA gW wA T T' : Nat → Int}
theorem MH_Fr {KI KA : List Nat} {σ' : Sto} (h : MH n m X W gA gW wA σ) (hf : Fr KI KA σ σ') (h1 : ∀ k ∈ KI, k ≠ 3497 ∧ k ≠ 3498 ∧ k ≠ 3460 := by decide) (h2 : ∀ k ∈ KA, k ≠ 68 ∧ k ≠ 69 ∧ k ≠ 70 ∧ k ≠ 71 := by decide) : MH n m X W gA gW wA σ' := by
  have a1 := hf.1 3497 (fun q => (h1 _ q).1 rfl)
  have a2 := hf.1 3498 (fun q => (h1 _ q).2.1 rfl)
  have a3 := hf.1 3460 (fun q => (h1 _ q).2.2 rfl)
  have b0 := hf.2 68 (fun q => (h2 _ q).1 rfl)
  have b1 := hf.2 69 (fun q => (h2 _ q).2.1 rfl)
  have b2 := hf.2 70 (fun q => (h2 _ q).2.2.1 rfl)
  have b3 := hf.2 71 (fun q => (h2 _ q).2.2.2 rfl)
  unfold MH
  rw [a1, a2, a3, b0, b1, b2, b3]
  exact h
theorem S_spot {set c : Nat} (hs : set < 256) (hc : c < 8) : WP S 183 0 [some (vi (set : Int)), some (vi (c : Int))] [] σ post ↔ post (some (vi ((8 * set + c : Nat) : Int))) σ := by
  have e1 : wr (8 * (set : Int)) = 8 * (set : Int) := wr_id (by omega) (by omega)
  have e2 : wr (8 * (set : Int) + (c : Int)) = ((8 * set + c : Nat) : Int) := by rw [wr_id (by omega) (by omega)]; omega
  simp only [w183_0, w183_2, w183_3, w183_4, w183_5, w183_6, ↓reduceIte, okp_i, okp_r, okp_n, catS_nil, catS_cons, catV_i, catV_r, catV_l, Option.toList_some, Option.toList_none, List.cons_append, List.nil_append, gi_si, ga_si, gi_sa, ga_sa, gi_sl, ga_sl, gi_sf, ga_sf, gl_si, gl_sa, gl_sf, gl_sl, and_true, true_and, if_true, if_false, ite_true, ite_false, not_false_eq_true, not_true_eq_false, Nat.reduceEqDiff, reduceCtorEq, Nat.reduceLeDiff, Nat.reduceAdd, Nat.reduceMul, Nat.reduceLT, Int.reduceNeg, Int.reduceEq, Int.reduceLT, Int.reduceLE, eq_self, Nat.reduceSub, or_true, true_or, or_false, false_or, and_false, false_and, Int.reduceToNat, rc0, rc1, ib2, ib3, ib4, ib5, ib6, ib7, ib8, ib9, ib10, rc11, ib12, rc13, ib14, ib15, ib16, ib17, ib18, ib19, rc20, rc21, ib22, ib23, ib24, rc25, ib26, ib27, ib28, ib29, ib30, ib31, rc32, ib33, rc34, ib35, rc36, ib37, rc38, ib39, ib40, ib41, ib42, ib43, ib44, ib45, ib46, ib47, rc48, ib49, ib50, ib51, ib52, ib53, rc54, ib55, ib56, ib57, ib58, ib59, ib60, ib61, ib62, ib63, ib64, ib65, ib66, ib67, ib68, ib69, ib70, ib71, ib72, ib73, ib74, ib75, ib76, ib77, ib78, ib79, ib80, ib81, e1, e2]
theorem ix2k {s a : Nat} (hs : s < 256) (ha : a < 8) : (0 : Int) ≤ ((8 * s + a : Nat) : Int) ∧ ((8 * s + a : Nat) : Int) < 2048 := by omega
theorem wr_3 {x y z : Int} (hx : 0 ≤ x ∧ x ≤ 1000000) (hy : 1 ≤ y ∧ y ≤ 60) (hz : 0 ≤ z ∧ z ≤ 1000000) : wr (x + y) = x + y ∧ wr (x + y + z) = x + y + z := ⟨wr_id (by omega) (by omega), wr_id (by omega) (by omega)⟩
set_option maxRecDepth 100000 in
theorem L_rkG (hP : PC n m X W gA gW wA) (hM : MH n m X W gA gW wA σ) {set c : Nat} (hs : set < 256) (hc : c < 8) (hb : ∀ g, g < n → set.testBit g = true → 0 ≤ ga σ 72 (8 * (set - 2 ^ g) + (gA g).toNat) ∧ ga σ 72 (8 * (set - 2 ^ g) + (gA g).toNat) ≤ 1000000) (kk : ∀ l4 l5 : Option AV, WP S 184 130 [some (vr 54), some (vi (set : Int)), some (vi (c : Int)), some (vi (if set = 0 then 0 else nbF W gA gW (ga σ 72) set c n)), l4, l5] [] σ post) : ∀ (r k : Nat) (l5 : Option AV), k + r = n → WP S 184 41 [some (vr 54), some (vi (set : Int)), some (vi (c : Int)), some (vi (if set = 0 then 0 else nbF W gA gW (ga σ 72) set c k)), some (vi (k : Int)), l5] [] σ post := by
  obtain ⟨n8, m3, x8, p4, p5, p6⟩ := id hP
  obtain ⟨hn, hm, hx, e69, e70, e71, hW⟩ := hM
  intro r
  induction r with
  | zero =>
    intro k l5 hk
    have e : k = n := by omega
    subst e
    rw [w184_41]
    simp only [w184_43, w184_44, w184_47, ↓reduceIte, okp_i, okp_r, okp_n, catS_nil, catS_cons, catV_i, catV_r, catV_l, Option.toList_some, Option.toList_none, List.cons_append, List.nil_append, gi_si, ga_si, gi_sa, ga_sa, gi_sl, ga_sl, gi_sf, ga_sf, gl_si, gl_sa, gl_sf, gl_sl, and_true, true_and, if_true, if_false, ite_true, ite_false, not_false_eq_true, not_true_eq_false, Nat.reduceEqDiff, reduceCtorEq, Nat.reduceLeDiff, Nat.reduceAdd, Nat.reduceMul, Nat.reduceLT, Int.reduceNeg, Int.reduceEq, Int.reduceLT, Int.reduceLE, eq_self, Nat.reduceSub, or_true, true_or, or_false, false_or, and_false, false_and, Int.reduceToNat, rc0, rc1, ib2, ib3, ib4, ib5, ib6, ib7, ib8, ib9, ib10, rc11, ib12, rc13, ib14, ib15, ib16, ib17, ib18, ib19, rc20, rc21, ib22, ib23, ib24, rc25, ib26, ib27, ib28, ib29, ib30, ib31, rc32, ib33, rc34, ib35, rc36, ib37, rc38, ib39, ib40, ib41, ib42, ib43, ib44, ib45, ib46, ib47, rc48, ib49, ib50, ib51, ib52, ib53, rc54, ib55, ib56, ib57, ib58, ib59, ib60, ib61, ib62, ib63, ib64, ib65, ib66, ib67, ib68, ib69, ib70, ib71, ib72, ib73, ib74, ib75, ib76, ib77, ib78, ib79, ib80, ib81, hn, Int.le_refl]
    exact kk _ _
  | succ r ih =>
    intro k l5 hk
    have c1 : ¬ ((n : Int) ≤ (k : Int)) := by omega
    have kn : k < n := by omega
    have k8 : k < 8 := by omega
    have k9 : k < 9 := by omega
    have c2 : (0 : Int) ≤ (k : Int) := by omega
    have c3 : (k : Int) < 8 := by omega
    have q7 := wr_n1 (x := k) (by omega)
    have sm : k + 1 + r = n := by omega
    have i := fun l5 => ih (k + 1) l5 sm
    simp only [nbF] at i
    rw [w184_41]
    by_cases q : set.testBit k = true
    · have h0 : ¬ set = 0 := fun e => by rw [e, Nat.zero_testBit] at q; exact absurd q (by decide)
      simp only [if_pos q, if_neg h0] at i
      obtain ⟨⟨a1, a2⟩, a3, a4⟩ := p4 k kn
      obtain ⟨a, ea⟩ : ∃ a : Nat, gA k = (a : Int) := ⟨(gA k).toNat, by omega⟩
      have a8 : a < 8 := by omega
      have ea' : (gA k).toNat = a := by omega
      have hb2 := hb k kn q
      have b1 := p6 c a hc a8
      have w68 := hW c a hc a8
      have s8 : set - 2 ^ k < 256 := Nat.lt_of_le_of_lt (Nat.sub_le _ _) hs
      obtain ⟨u1, u2, u3, u4⟩ := ix8 hc a8
      rw [ea'] at hb2
      simp only [ea'] at i
      obtain ⟨t1, t2⟩ := ix2k s8 a8
      obtain ⟨w1, w2⟩ := wr_3 b1 ⟨a3, a4⟩ hb2
      unfold minF at i
      by_cases q2 : W (8 * c + a) + gW k + ga σ 72 (8 * (set - 2 ^ k) + a) < nbF W gA gW (ga σ 72) set c k
      · have q2' : ¬ nbF W gA gW (ga σ 72) set c k ≤ W (8 * c + a) + gW k + ga σ 72 (8 * (set - 2 ^ k) + a) := Int.not_le.mpr q2
        simp only [if_pos q2] at i
        simp only [w184_0, w184_1, w184_4, w184_5, w184_7, w184_8, w184_9, w184_12, w184_13, w184_16, w184_17, w184_19, w184_20, w184_23, w184_26, w184_27, w184_30, w184_31, w184_34, w184_37, w184_38, w184_39, w184_43, w184_44, w184_47, w184_50, w184_51, w184_53, w184_54, w184_55, w184_56, w184_59, w184_62, w184_63, w184_66, w184_68, w184_69, w184_70, w184_71, w184_74, w184_76, w184_77, w184_78, w184_79, w184_80, w184_83, w184_85, w184_86, w184_87, w184_88, w184_91, w184_92, w184_93, w184_95, w184_96, w184_97, w184_98, w184_101, w184_103, w184_104, w184_107, w184_108, w184_109, w184_111, w184_113, w184_114, w184_117, w184_119, w184_122, w184_123, w184_124, w184_127, w184_131, w184_134, w184_135, w184_136, w184_139, w184_140, w184_141, w184_144, w184_147, w184_150, w184_153, ↓reduceIte, okp_i, okp_r, okp_n, catS_nil, catS_cons, catV_i, catV_r, catV_l, Option.toList_some, Option.toList_none, List.cons_append, List.nil_append, gi_si, ga_si, gi_sa, ga_sa, gi_sl, ga_sl, gi_sf, ga_sf, gl_si, gl_sa, gl_sf, gl_sl, and_true, true_and, if_true, if_false, ite_true, ite_false, not_false_eq_true, not_true_eq_false, Nat.reduceEqDiff, reduceCtorEq, Nat.reduceLeDiff, Nat.reduceAdd, Nat.reduceMul, Nat.reduceLT, Int.reduceNeg, Int.reduceEq, Int.reduceLT, Int.reduceLE, eq_self, Nat.reduceSub, or_true, true_or, or_false, false_or, and_false, false_and, Int.reduceToNat, rc0, rc1, ib2, ib3, ib4, ib5, ib6, ib7, ib8, ib9, ib10, rc11, ib12, rc13, ib14, ib15, ib16, ib17, ib18, ib19, rc20, rc21, ib22, ib23, ib24, rc25, ib26, ib27, ib28, ib29, ib30, ib31, rc32, ib33, rc34, ib35, rc36, ib37, rc38, ib39, ib40, ib41, ib42, ib43, ib44, ib45, ib46, ib47, rc48, ib49, ib50, ib51, ib52, ib53, rc54, ib55, ib56, ib57, ib58, ib59, ib60, ib61, ib62, ib63, ib64, ib65, ib66, ib67, ib68, ib69, ib70, ib71, ib72, ib73, ib74, ib75, ib76, ib77, ib78, ib79, ib80, ib81, hn, c1, c2, c3, bt_h' hs k8, q, e69, e70, ea, u1, u2, u3, u4, w68, w1, w2, bt_s k9, bt_x hs k8 q, S_spot s8 a8, t1, t2, if_neg h0, h0, q2', q7, Int.toNat_natCast]
        exact i _
      · have q2' : nbF W gA gW (ga σ 72) set c k ≤ W (8 * c + a) + gW k + ga σ 72 (8 * (set - 2 ^ k) + a) := Int.not_lt.mp q2
        simp only [if_neg q2] at i
        simp only [w184_0, w184_1, w184_4, w184_5, w184_7, w184_8, w184_9, w184_12, w184_13, w184_16, w184_17, w184_19, w184_20, w184_23, w184_26, w184_27, w184_30, w184_31, w184_34, w184_37, w184_38, w184_39, w184_43, w184_44, w184_47, w184_50, w184_51, w184_53, w184_54, w184_55, w184_56, w184_59, w184_62, w184_63, w184_66, w184_68, w184_69, w184_70, w184_71, w184_74, w184_76, w184_77, w184_78, w184_79, w184_80, w184_83, w184_85, w184_86, w184_87, w184_88, w184_91, w184_92, w184_93, w184_95, w184_96, w184_97, w184_98, w184_101, w184_103, w184_104, w184_107, w184_108, w184_109, w184_111, w184_113, w184_114, w184_117, w184_119, w184_122, w184_123, w184_124, w184_127, w184_131, w184_134, w184_135, w184_136, w184_139, w184_140, w184_141, w184_144, w184_147, w184_150, w184_153, ↓reduceIte, okp_i, okp_r, okp_n, catS_nil, catS_cons, catV_i, catV_r, catV_l, Option.toList_some, Option.toList_none, List.cons_append, List.nil_append, gi_si, ga_si, gi_sa, ga_sa, gi_sl, ga_sl, gi_sf, ga_sf, gl_si, gl_sa, gl_sf, gl_sl, and_true, true_and, if_true, if_false, ite_true, ite_false, not_false_eq_true, not_true_eq_false, Nat.reduceEqDiff, reduceCtorEq, Nat.reduceLeDiff, Nat.reduceAdd, Nat.reduceMul, Nat.reduceLT, Int.reduceNeg, Int.reduceEq, Int.reduceLT, Int.reduceLE, eq_self, Nat.reduceSub, or_true, true_or, or_false, false_or, and_false, false_and, Int.reduceToNat, rc0, rc1, ib2, ib3, ib4, ib5, ib6, ib7, ib8, ib9, ib10, rc11, ib12, rc13, ib14, ib15, ib16, ib17, ib18, ib19, rc20, rc21, ib22, ib23, ib24, rc25, ib26, ib27, ib28, ib29, ib30, ib31, rc32, ib33, rc34, ib35, rc36, ib37, rc38, ib39, ib40, ib41, ib42, ib43, ib44, ib45, ib46, ib47, rc48, ib49, ib50, ib51, ib52, ib53, rc54, ib55, ib56, ib57, ib58, ib59, ib60, ib61, ib62, ib63, ib64, ib65, ib66, ib67, ib68, ib69, ib70, ib71, ib72, ib73, ib74, ib75, ib76, ib77, ib78, ib79, ib80, ib81, hn, c1, c2, c3, bt_h' hs k8, q, e69, e70, ea, u1, u2, u3, u4, w68, w1, w2, bt_s k9, bt_x hs k8 q, S_spot s8 a8, t1, t2, if_neg h0, h0, q2', q7, Int.toNat_natCast]
        exact i _
    · simp only [if_neg q] at i
      simp only [w184_43, w184_44, w184_47, w184_50, w184_51, w184_53, w184_54, w184_55, w184_56, w184_59, w184_124, w184_127, ↓reduceIte, okp_i, okp_r, okp_n, catS_nil, catS_cons, catV_i, catV_r, catV_l, Option.toList_some, Option.toList_none, List.cons_append, List.nil_append, gi_si, ga_si, gi_sa, ga_sa, gi_sl, ga_sl, gi_sf, ga_sf, gl_si, gl_sa, gl_sf, gl_sl, and_true, true_and, if_true, if_false, ite_true, ite_false, not_false_eq_true, not_true_eq_false, Nat.reduceEqDiff, reduceCtorEq, Nat.reduceLeDiff, Nat.reduceAdd, Nat.reduceMul, Nat.reduceLT, Int.reduceNeg, Int.reduceEq, Int.reduceLT, Int.reduceLE, eq_self, Nat.reduceSub, or_true, true_or, or_false, false_or, and_false, false_and, Int.reduceToNat, rc0, rc1, ib2, ib3, ib4, ib5, ib6, ib7, ib8, ib9, ib10, rc11, ib12, rc13, ib14, ib15, ib16, ib17, ib18, ib19, rc20, rc21, ib22, ib23, ib24, rc25, ib26, ib27, ib28, ib29, ib30, ib31, rc32, ib33, rc34, ib35, rc36, ib37, rc38, ib39, ib40, ib41, ib42, ib43, ib44, ib45, ib46, ib47, rc48, ib49, ib50, ib51, ib52, ib53, rc54, ib55, ib56, ib57, ib58, ib59, ib60, ib61, ib62, ib63, ib64, ib65, ib66, ib67, ib68, ib69, ib70, ib71, ib72, ib73, ib74, ib75, ib76, ib77, ib78, ib79, ib80, ib81, hn, c1, bt_h' hs k8, q, q7]
      exact i _
theorem L_rkC (hP : PC n m X W gA gW wA) (hM : MH n m X W gA gW wA σ) {set : Nat} (hs : set < 256) (kk : ∀ (T : Nat → Int) (l2 l3 l4 l5 : Option AV), FT n X W gA gW set X T → WP S 184 147 [some (vr 54), some (vi (set : Int)), l2, l3, l4, l5] [] (sf σ 72 T) post) : ∀ (r k : Nat) (T : Nat → Int) (l3 l4 l5 : Option AV), k + r = X → FT n X W gA gW set k T → WP S 184 18 [some (vr 54), some (vi (set : Int)), some (vi (k : Int)), l3, l4, l5] [] (sf σ 72 T) post := by
  have hx := hM.2.2.1
  have x8 := hP.2.2.1
  intro r
  induction r with
  | zero =>
    intro k T l3 l4 l5 hk hT
    have e : k = X := by omega
    subst e
    rw [w184_18]
    simp only [w184_19, w184_20, w184_23, ↓reduceIte, okp_i, okp_r, okp_n, catS_nil, catS_cons, catV_i, catV_r, catV_l, Option.toList_some, Option.toList_none, List.cons_append, List.nil_append, gi_si, ga_si, gi_sa, ga_sa, gi_sl, ga_sl, gi_sf, ga_sf, gl_si, gl_sa, gl_sf, gl_sl, and_true, true_and, if_true, if_false, ite_true, ite_false, not_false_eq_true, not_true_eq_false, Nat.reduceEqDiff, reduceCtorEq, Nat.reduceLeDiff, Nat.reduceAdd, Nat.reduceMul, Nat.reduceLT, Int.reduceNeg, Int.reduceEq, Int.reduceLT, Int.reduceLE, eq_self, Nat.reduceSub, or_true, true_or, or_false, false_or, and_false, false_and, Int.reduceToNat, rc0, rc1, ib2, ib3, ib4, ib5, ib6, ib7, ib8, ib9, ib10, rc11, ib12, rc13, ib14, ib15, ib16, ib17, ib18, ib19, rc20, rc21, ib22, ib23, ib24, rc25, ib26, ib27, ib28, ib29, ib30, ib31, rc32, ib33, rc34, ib35, rc36, ib37, rc38, ib39, ib40, ib41, ib42, ib43, ib44, ib45, ib46, ib47, rc48, ib49, ib50, ib51, ib52, ib53, rc54, ib55, ib56, ib57, ib58, ib59, ib60, ib61, ib62, ib63, ib64, ib65, ib66, ib67, ib68, ib69, ib70, ib71, ib72, ib73, ib74, ib75, ib76, ib77, ib78, ib79, ib80, ib81, hx, Int.le_refl]
    exact kk T _ _ _ _ hT
  | succ r ih =>
    intro k T l3 l4 l5 hk hT
    have c1 : ¬ ((X : Int) ≤ (k : Int)) := by omega
    have kX : k < X := by omega
    have k8 : k < 8 := by omega
    have q7 := wr_n1 (x := k) (by omega)
    have sm : k + 1 + r = X := by omega
    have c2 : 0 ≤ ((8 * set + k : Nat) : Int) := by omega
    have c3 : ((8 * set + k : Nat) : Int) < 2048 := by omega
    have M2 : MH n m X W gA gW wA (sf σ 72 T) := MH_Fr (KI := []) (KA := [72]) hM (Fr_sf Fr_r (by decide))
    have G := L_rkG (S := S) (post := post) hP M2 hs k8 (fun g hg ht => by simp only [↓reduceIte, okp_i, okp_r, okp_n, catS_nil, catS_cons, catV_i, catV_r, catV_l, Option.toList_some, Option.toList_none, List.cons_append, List.nil_append, gi_si, ga_si, gi_sa, ga_sa, gi_sl, ga_sl, gi_sf, ga_sf, gl_si, gl_sa, gl_sf, gl_sl, and_true, true_and, if_true, if_false, ite_true, ite_false, not_false_eq_true, not_true_eq_false, Nat.reduceEqDiff, reduceCtorEq, Nat.reduceLeDiff, Nat.reduceAdd, Nat.reduceMul, Nat.reduceLT, Int.reduceNeg, Int.reduceEq, Int.reduceLT, Int.reduceLE, eq_self, Nat.reduceSub, or_true, true_or, or_false, false_or, and_false, false_and, Int.reduceToNat, rc0, rc1, ib2, ib3, ib4, ib5, ib6, ib7, ib8, ib9, ib10, rc11, ib12, rc13, ib14, ib15, ib16, ib17, ib18, ib19, rc20, rc21, ib22, ib23, ib24, rc25, ib26, ib27, ib28, ib29, ib30, ib31, rc32, ib33, rc34, ib35, rc36, ib37, rc38, ib39, ib40, ib41, ib42, ib43, ib44, ib45, ib46, ib47, rc48, ib49, ib50, ib51, ib52, ib53, rc54, ib55, ib56, ib57, ib58, ib59, ib60, ib61, ib62, ib63, ib64, ib65, ib66, ib67, ib68, ib69, ib70, ib71, ib72, ib73, ib74, ib75, ib76, ib77, ib78, ib79, ib80, ib81]; exact FT_bd hP hT hg ht) ?_ n 0 l5 (by omega)
    · rw [w184_18]
      simp only [↓reduceIte, okp_i, okp_r, okp_n, catS_nil, catS_cons, catV_i, catV_r, catV_l, Option.toList_some, Option.toList_none, List.cons_append, List.nil_append, gi_si, ga_si, gi_sa, ga_sa, gi_sl, ga_sl, gi_sf, ga_sf, gl_si, gl_sa, gl_sf, gl_sl, and_true, true_and, if_true, if_false, ite_true, ite_false, not_false_eq_true, not_true_eq_false, Nat.reduceEqDiff, reduceCtorEq, Nat.reduceLeDiff, Nat.reduceAdd, Nat.reduceMul, Nat.reduceLT, Int.reduceNeg, Int.reduceEq, Int.reduceLT, Int.reduceLE, eq_self, Nat.reduceSub, or_true, true_or, or_false, false_or, and_false, false_and, Int.reduceToNat, rc0, rc1, ib2, ib3, ib4, ib5, ib6, ib7, ib8, ib9, ib10, rc11, ib12, rc13, ib14, ib15, ib16, ib17, ib18, ib19, rc20, rc21, ib22, ib23, ib24, rc25, ib26, ib27, ib28, ib29, ib30, ib31, rc32, ib33, rc34, ib35, rc36, ib37, rc38, ib39, ib40, ib41, ib42, ib43, ib44, ib45, ib46, ib47, rc48, ib49, ib50, ib51, ib52, ib53, rc54, ib55, ib56, ib57, ib58, ib59, ib60, ib61, ib62, ib63, ib64, ib65, ib66, ib67, ib68, ib69, ib70, ib71, ib72, ib73, ib74, ib75, ib76, ib77, ib78, ib79, ib80, ib81, nbF] at G
      by_cases q : set = 0
      · have q' : ((set : Int) = 0) = True := eq_true (by omega)
        rw [if_pos q] at G
        simp only [w184_19, w184_20, w184_23, w184_26, w184_27, w184_30, w184_31, w184_34, w184_37, w184_38, w184_39, ↓reduceIte, okp_i, okp_r, okp_n, catS_nil, catS_cons, catV_i, catV_r, catV_l, Option.toList_some, Option.toList_none, List.cons_append, List.nil_append, gi_si, ga_si, gi_sa, ga_sa, gi_sl, ga_sl, gi_sf, ga_sf, gl_si, gl_sa, gl_sf, gl_sl, and_true, true_and, if_true, if_false, ite_true, ite_false, not_false_eq_true, not_true_eq_false, Nat.reduceEqDiff, reduceCtorEq, Nat.reduceLeDiff, Nat.reduceAdd, Nat.reduceMul, Nat.reduceLT, Int.reduceNeg, Int.reduceEq, Int.reduceLT, Int.reduceLE, eq_self, Nat.reduceSub, or_true, true_or, or_false, false_or, and_false, false_and, Int.reduceToNat, rc0, rc1, ib2, ib3, ib4, ib5, ib6, ib7, ib8, ib9, ib10, rc11, ib12, rc13, ib14, ib15, ib16, ib17, ib18, ib19, rc20, rc21, ib22, ib23, ib24, rc25, ib26, ib27, ib28, ib29, ib30, ib31, rc32, ib33, rc34, ib35, rc36, ib37, rc38, ib39, ib40, ib41, ib42, ib43, ib44, ib45, ib46, ib47, rc48, ib49, ib50, ib51, ib52, ib53, rc54, ib55, ib56, ib57, ib58, ib59, ib60, ib61, ib62, ib63, ib64, ib65, ib66, ib67, ib68, ib69, ib70, ib71, ib72, ib73, ib74, ib75, ib76, ib77, ib78, ib79, ib80, ib81, hx, c1, q']
        exact G
      · have q' : ¬ (set : Int) = 0 := by omega
        rw [if_neg q] at G
        simp only [w184_19, w184_20, w184_23, w184_26, w184_27, w184_30, w184_31, w184_34, w184_37, w184_38, w184_39, ↓reduceIte, okp_i, okp_r, okp_n, catS_nil, catS_cons, catV_i, catV_r, catV_l, Option.toList_some, Option.toList_none, List.cons_append, List.nil_append, gi_si, ga_si, gi_sa, ga_sa, gi_sl, ga_sl, gi_sf, ga_sf, gl_si, gl_sa, gl_sf, gl_sl, and_true, true_and, if_true, if_false, ite_true, ite_false, not_false_eq_true, not_true_eq_false, Nat.reduceEqDiff, reduceCtorEq, Nat.reduceLeDiff, Nat.reduceAdd, Nat.reduceMul, Nat.reduceLT, Int.reduceNeg, Int.reduceEq, Int.reduceLT, Int.reduceLE, eq_self, Nat.reduceSub, or_true, true_or, or_false, false_or, and_false, false_and, Int.reduceToNat, rc0, rc1, ib2, ib3, ib4, ib5, ib6, ib7, ib8, ib9, ib10, rc11, ib12, rc13, ib14, ib15, ib16, ib17, ib18, ib19, rc20, rc21, ib22, ib23, ib24, rc25, ib26, ib27, ib28, ib29, ib30, ib31, rc32, ib33, rc34, ib35, rc36, ib37, rc38, ib39, ib40, ib41, ib42, ib43, ib44, ib45, ib46, ib47, rc48, ib49, ib50, ib51, ib52, ib53, rc54, ib55, ib56, ib57, ib58, ib59, ib60, ib61, ib62, ib63, ib64, ib65, ib66, ib67, ib68, ib69, ib70, ib71, ib72, ib73, ib74, ib75, ib76, ib77, ib78, ib79, ib80, ib81, hx, c1, q']
        exact G
    · intro l4 l5
      simp only [w184_130, w184_131, w184_134, w184_135, w184_136, w184_139, w184_140, w184_141, w184_144, ↓reduceIte, okp_i, okp_r, okp_n, catS_nil, catS_cons, catV_i, catV_r, catV_l, Option.toList_some, Option.toList_none, List.cons_append, List.nil_append, gi_si, ga_si, gi_sa, ga_sa, gi_sl, ga_sl, gi_sf, ga_sf, gl_si, gl_sa, gl_sf, gl_sl, and_true, true_and, if_true, if_false, ite_true, ite_false, not_false_eq_true, not_true_eq_false, Nat.reduceEqDiff, reduceCtorEq, Nat.reduceLeDiff, Nat.reduceAdd, Nat.reduceMul, Nat.reduceLT, Int.reduceNeg, Int.reduceEq, Int.reduceLT, Int.reduceLE, eq_self, Nat.reduceSub, or_true, true_or, or_false, false_or, and_false, false_and, Int.reduceToNat, rc0, rc1, ib2, ib3, ib4, ib5, ib6, ib7, ib8, ib9, ib10, rc11, ib12, rc13, ib14, ib15, ib16, ib17, ib18, ib19, rc20, rc21, ib22, ib23, ib24, rc25, ib26, ib27, ib28, ib29, ib30, ib31, rc32, ib33, rc34, ib35, rc36, ib37, rc38, ib39, ib40, ib41, ib42, ib43, ib44, ib45, ib46, ib47, rc48, ib49, ib50, ib51, ib52, ib53, rc54, ib55, ib56, ib57, ib58, ib59, ib60, ib61, ib62, ib63, ib64, ib65, ib66, ib67, ib68, ib69, ib70, ib71, ib72, ib73, ib74, ib75, ib76, ib77, ib78, ib79, ib80, ib81, S_spot hs k8, c2, c3, q7, Int.toNat_natCast, sa_sf]
      exact ih (k + 1) _ _ _ _ sm (FT_step hP kX hT rfl)
theorem L_rkS (hP : PC n m X W gA gW wA) (hM : MH n m X W gA gW wA σ) (kk : ∀ (T : Nat → Int), FT n X W gA gW (2 ^ n) 0 T → post none (sf σ 72 T)) : ∀ (r k : Nat) (T : Nat → Int) (l2 l3 l4 l5 : Option AV), k + r = 2 ^ n → FT n X W gA gW k 0 T → WP S 184 6 [some (vr 54), some (vi (k : Int)), l2, l3, l4, l5] [] (sf σ 72 T) post := by
  have hn := hM.1
  have n8 := hP.1
  have pn := pw8 n8
  have e3 := bt_s (g := n) (by omega)
  intro r
  induction r with
  | zero =>
    intro k T l2 l3 l4 l5 hk hT
    have e : k = 2 ^ n := by omega
    subst e
    rw [w184_6]
    simp only [w184_7, w184_8, w184_9, w184_12, w184_13, w184_153, ↓reduceIte, okp_i, okp_r, okp_n, catS_nil, catS_cons, catV_i, catV_r, catV_l, Option.toList_some, Option.toList_none, List.cons_append, List.nil_append, gi_si, ga_si, gi_sa, ga_sa, gi_sl, ga_sl, gi_sf, ga_sf, gl_si, gl_sa, gl_sf, gl_sl, and_true, true_and, if_true, if_false, ite_true, ite_false, not_false_eq_true, not_true_eq_false, Nat.reduceEqDiff, reduceCtorEq, Nat.reduceLeDiff, Nat.reduceAdd, Nat.reduceMul, Nat.reduceLT, Int.reduceNeg, Int.reduceEq, Int.reduceLT, Int.reduceLE, eq_self, Nat.reduceSub, or_true, true_or, or_false, false_or, and_false, false_and, Int.reduceToNat, rc0, rc1, ib2, ib3, ib4, ib5, ib6, ib7, ib8, ib9, ib10, rc11, ib12, rc13, ib14, ib15, ib16, ib17, ib18, ib19, rc20, rc21, ib22, ib23, ib24, rc25, ib26, ib27, ib28, ib29, ib30, ib31, rc32, ib33, rc34, ib35, rc36, ib37, rc38, ib39, ib40, ib41, ib42, ib43, ib44, ib45, ib46, ib47, rc48, ib49, ib50, ib51, ib52, ib53, rc54, ib55, ib56, ib57, ib58, ib59, ib60, ib61, ib62, ib63, ib64, ib65, ib66, ib67, ib68, ib69, ib70, ib71, ib72, ib73, ib74, ib75, ib76, ib77, ib78, ib79, ib80, ib81, hn, e3, Int.le_refl]
    exact kk T hT
  | succ r ih =>
    intro k T l2 l3 l4 l5 hk hT
    have c1 : ¬ (((2 ^ n : Nat) : Int) ≤ (k : Int)) := by omega
    have k8 : k < 256 := by omega
    have q7 : wr ((k : Int) + 1) = ((k + 1 : Nat) : Int) := by rw [wr_id (by omega) (by omega)]; omega
    have sm : k + 1 + r = 2 ^ n := by omega
    rw [w184_6]
    simp only [w184_7, w184_8, w184_9, w184_12, w184_13, w184_16, w184_17, ↓reduceIte, okp_i, okp_r, okp_n, catS_nil, catS_cons, catV_i, catV_r, catV_l, Option.toList_some, Option.toList_none, List.cons_append, List.nil_append, gi_si, ga_si, gi_sa, ga_sa, gi_sl, ga_sl, gi_sf, ga_sf, gl_si, gl_sa, gl_sf, gl_sl, and_true, true_and, if_true, if_false, ite_true, ite_false, not_false_eq_true, not_true_eq_false, Nat.reduceEqDiff, reduceCtorEq, Nat.reduceLeDiff, Nat.reduceAdd, Nat.reduceMul, Nat.reduceLT, Int.reduceNeg, Int.reduceEq, Int.reduceLT, Int.reduceLE, eq_self, Nat.reduceSub, or_true, true_or, or_false, false_or, and_false, false_and, Int.reduceToNat, rc0, rc1, ib2, ib3, ib4, ib5, ib6, ib7, ib8, ib9, ib10, rc11, ib12, rc13, ib14, ib15, ib16, ib17, ib18, ib19, rc20, rc21, ib22, ib23, ib24, rc25, ib26, ib27, ib28, ib29, ib30, ib31, rc32, ib33, rc34, ib35, rc36, ib37, rc38, ib39, ib40, ib41, ib42, ib43, ib44, ib45, ib46, ib47, rc48, ib49, ib50, ib51, ib52, ib53, rc54, ib55, ib56, ib57, ib58, ib59, ib60, ib61, ib62, ib63, ib64, ib65, ib66, ib67, ib68, ib69, ib70, ib71, ib72, ib73, ib74, ib75, ib76, ib77, ib78, ib79, ib80, ib81, hn, e3, c1]
    refine L_rkC hP hM k8 ?_ X 0 T _ _ _ (by omega) hT
    intro T' l2 l3 l4 l5 hT'
    simp only [w184_147, w184_150, ↓reduceIte, okp_i, okp_r, okp_n, catS_nil, catS_cons, catV_i, catV_r, catV_l, Option.toList_some, Option.toList_none, List.cons_append, List.nil_append, gi_si, ga_si, gi_sa, ga_sa, gi_sl, ga_sl, gi_sf, ga_sf, gl_si, gl_sa, gl_sf, gl_sl, and_true, true_and, if_true, if_false, ite_true, ite_false, not_false_eq_true, not_true_eq_false, Nat.reduceEqDiff, reduceCtorEq, Nat.reduceLeDiff, Nat.reduceAdd, Nat.reduceMul, Nat.reduceLT, Int.reduceNeg, Int.reduceEq, Int.reduceLT, Int.reduceLE, eq_self, Nat.reduceSub, or_true, true_or, or_false, false_or, and_false, false_and, Int.reduceToNat, rc0, rc1, ib2, ib3, ib4, ib5, ib6, ib7, ib8, ib9, ib10, rc11, ib12, rc13, ib14, ib15, ib16, ib17, ib18, ib19, rc20, rc21, ib22, ib23, ib24, rc25, ib26, ib27, ib28, ib29, ib30, ib31, rc32, ib33, rc34, ib35, rc36, ib37, rc38, ib39, ib40, ib41, ib42, ib43, ib44, ib45, ib46, ib47, rc48, ib49, ib50, ib51, ib52, ib53, rc54, ib55, ib56, ib57, ib58, ib59, ib60, ib61, ib62, ib63, ib64, ib65, ib66, ib67, ib68, ib69, ib70, ib71, ib72, ib73, ib74, ib75, ib76, ib77, ib78, ib79, ib80, ib81, q7]
    exact ih (k + 1) T' _ _ _ _ sm (FT_row hT')
theorem S_reck4 (hP : PC n m X W gA gW wA) (hM : MH n m X W gA gW wA σ) (kk : ∀ (T : Nat → Int), IsN W gA gW wA n m T → TBd n X T → post none (sf σ 72 T)) : WP S 184 4 [some (vr 54), none, none, none, none, none] [] σ post := by
  have h0 := L_rkS (S := S) (post := post) hP hM (fun T hT => kk T (FT_end hP hT).1 (FT_end hP hT).2) (2 ^ n) 0 (ga σ 72) none none none none (by omega) (fun s c h => by omega)
  rw [sf_id] at h0
  simp only [w184_4, w184_5, ↓reduceIte, okp_i, okp_r, okp_n, catS_nil, catS_cons, catV_i, catV_r, catV_l, Option.toList_some, Option.toList_none, List.cons_append, List.nil_append, gi_si, ga_si, gi_sa, ga_sa, gi_sl, ga_sl, gi_sf, ga_sf, gl_si, gl_sa, gl_sf, gl_sl, and_true, true_and, if_true, if_false, ite_true, ite_false, not_false_eq_true, not_true_eq_false, Nat.reduceEqDiff, reduceCtorEq, Nat.reduceLeDiff, Nat.reduceAdd, Nat.reduceMul, Nat.reduceLT, Int.reduceNeg, Int.reduceEq, Int.reduceLT, Int.reduceLE, eq_self, Nat.reduceSub, or_true, true_or, or_false, false_or, and_false, false_and, Int.reduceToNat, rc0, rc1, ib2, ib3, ib4, ib5, ib6, ib7, ib8, ib9, ib10, rc11, ib12, rc13, ib14, ib15, ib16, ib17, ib18, ib19, rc20, rc21, ib22, ib23, ib24, rc25, ib26, ib27, ib28, ib29, ib30, ib31, rc32, ib33, rc34, ib35, rc36, ib37, rc38, ib39, ib40, ib41, ib42, ib43, ib44, ib45, ib46, ib47, rc48, ib49, ib50, ib51, ib52, ib53, rc54, ib55, ib56, ib57, ib58, ib59, ib60, ib61, ib62, ib63, ib64, ib65, ib66, ib67, ib68, ib69, ib70, ib71, ib72, ib73, ib74, ib75, ib76, ib77, ib78, ib79, ib80, ib81]
  exact h0
theorem IsN_uniq (hP : PC n m X W gA gW wA) (h : IsN W gA gW wA n m T) (h' : IsN W gA gW wA n m T') : ∀ s c, s < 2 ^ n → relC gA wA n m c → T' (8 * s + c) = T (8 * s + c) := by
  intro s
  induction s using Nat.strongRecOn with
  | _ s ih =>
    intro c hs hc
    rw [h s c hs hc, h' s c hs hc]
    by_cases q : s = 0
    · rw [if_pos q, if_pos q]
    · rw [if_neg q, if_neg q]
      refine nbF_up n (fun g hg ht => ?_)
      have h1 := tb_ge ht
      have h2 : 0 < 2 ^ g := Nat.two_pow_pos g
      exact ih (s - 2 ^ g) (by omega) _ (by omega) (Or.inl ⟨g, hg, by have := (hP.2.2.2.1 g hg).1; omega⟩)
theorem L_so {f : Nat → Int} {w : Nat} (hn : gi σ 3497 = (n : Int)) (n8 : n ≤ 8) (hf : ∀ g, g < n → ga σ 73 g = f g) : ∀ r k : Nat, k + r = n → (WP S 185 4 [some (vr 54), some (vi (w : Int)), some (vi (setF f w k : Int)), some (vi (k : Int))] [] σ post ↔ post (some (vi (setF f w n : Int))) σ) := by
  intro r
  induction r with
  | zero =>
    intro k hk
    have e : k = n := by omega
    subst e
    rw [w185_4]
    simp only [w185_0, w185_1, w185_2, w185_3, w185_5, w185_6, w185_9, w185_12, w185_13, w185_14, w185_17, w185_18, w185_19, w185_20, w185_23, w185_24, w185_25, w185_26, w185_29, w185_30, w185_31, w185_32, w185_35, w185_38, w185_39, ↓reduceIte, okp_i, okp_r, okp_n, catS_nil, catS_cons, catV_i, catV_r, catV_l, Option.toList_some, Option.toList_none, List.cons_append, List.nil_append, gi_si, ga_si, gi_sa, ga_sa, gi_sl, ga_sl, gi_sf, ga_sf, gl_si, gl_sa, gl_sf, gl_sl, and_true, true_and, if_true, if_false, ite_true, ite_false, not_false_eq_true, not_true_eq_false, Nat.reduceEqDiff, reduceCtorEq, Nat.reduceLeDiff, Nat.reduceAdd, Nat.reduceMul, Nat.reduceLT, Int.reduceNeg, Int.reduceEq, Int.reduceLT, Int.reduceLE, eq_self, Nat.reduceSub, or_true, true_or, or_false, false_or, and_false, false_and, Int.reduceToNat, rc0, rc1, ib2, ib3, ib4, ib5, ib6, ib7, ib8, ib9, ib10, rc11, ib12, rc13, ib14, ib15, ib16, ib17, ib18, ib19, rc20, rc21, ib22, ib23, ib24, rc25, ib26, ib27, ib28, ib29, ib30, ib31, rc32, ib33, rc34, ib35, rc36, ib37, rc38, ib39, ib40, ib41, ib42, ib43, ib44, ib45, ib46, ib47, rc48, ib49, ib50, ib51, ib52, ib53, rc54, ib55, ib56, ib57, ib58, ib59, ib60, ib61, ib62, ib63, ib64, ib65, ib66, ib67, ib68, ib69, ib70, ib71, ib72, ib73, ib74, ib75, ib76, ib77, ib78, ib79, ib80, ib81, hn, Int.le_refl]
  | succ r ih =>
    intro k hk
    have c1 : ¬ ((n : Int) ≤ (k : Int)) := by omega
    have kn : k < n := by omega
    have k8 : k < 8 := by omega
    have c2 : (0 : Int) ≤ (k : Int) := by omega
    have c3 : (k : Int) < 8 := by omega
    have q7 := wr_n1 (x := k) (by omega)
    have sm : k + 1 + r = n := by omega
    have f1 := hf k kn
    have sl := setF_lt (f := f) (w := w) k
    have s8 : setF f w k < 256 := Nat.lt_of_lt_of_le sl (pw8 (by omega))
    have bo := bt_o k8 sl
    have bs := bt_s (g := k) (by omega)
    have bz := bt_z s8
    have i := ih (k + 1) sm
    simp only [setF] at i
    rw [w185_4]
    by_cases q : f k = (w : Int)
    · rw [if_pos q] at i
      have q' : (f k = (w : Int)) = True := eq_true q
      simp only [w185_0, w185_1, w185_2, w185_3, w185_5, w185_6, w185_9, w185_12, w185_13, w185_14, w185_17, w185_18, w185_19, w185_20, w185_23, w185_24, w185_25, w185_26, w185_29, w185_30, w185_31, w185_32, w185_35, w185_38, w185_39, ↓reduceIte, okp_i, okp_r, okp_n, catS_nil, catS_cons, catV_i, catV_r, catV_l, Option.toList_some, Option.toList_none, List.cons_append, List.nil_append, gi_si, ga_si, gi_sa, ga_sa, gi_sl, ga_sl, gi_sf, ga_sf, gl_si, gl_sa, gl_sf, gl_sl, and_true, true_and, if_true, if_false, ite_true, ite_false, not_false_eq_true, not_true_eq_false, Nat.reduceEqDiff, reduceCtorEq, Nat.reduceLeDiff, Nat.reduceAdd, Nat.reduceMul, Nat.reduceLT, Int.reduceNeg, Int.reduceEq, Int.reduceLT, Int.reduceLE, eq_self, Nat.reduceSub, or_true, true_or, or_false, false_or, and_false, false_and, Int.reduceToNat, rc0, rc1, ib2, ib3, ib4, ib5, ib6, ib7, ib8, ib9, ib10, rc11, ib12, rc13, ib14, ib15, ib16, ib17, ib18, ib19, rc20, rc21, ib22, ib23, ib24, rc25, ib26, ib27, ib28, ib29, ib30, ib31, rc32, ib33, rc34, ib35, rc36, ib37, rc38, ib39, ib40, ib41, ib42, ib43, ib44, ib45, ib46, ib47, rc48, ib49, ib50, ib51, ib52, ib53, rc54, ib55, ib56, ib57, ib58, ib59, ib60, ib61, ib62, ib63, ib64, ib65, ib66, ib67, ib68, ib69, ib70, ib71, ib72, ib73, ib74, ib75, ib76, ib77, ib78, ib79, ib80, ib81, hn, c1, c2, c3, f1, q', bo, bs, q7, Int.toNat_natCast]
      exact i
    · rw [if_neg q, Nat.add_zero] at i
      simp only [w185_0, w185_1, w185_2, w185_3, w185_5, w185_6, w185_9, w185_12, w185_13, w185_14, w185_17, w185_18, w185_19, w185_20, w185_23, w185_24, w185_25, w185_26, w185_29, w185_30, w185_31, w185_32, w185_35, w185_38, w185_39, ↓reduceIte, okp_i, okp_r, okp_n, catS_nil, catS_cons, catV_i, catV_r, catV_l, Option.toList_some, Option.toList_none, List.cons_append, List.nil_append, gi_si, ga_si, gi_sa, ga_sa, gi_sl, ga_sl, gi_sf, ga_sf, gl_si, gl_sa, gl_sf, gl_sl, and_true, true_and, if_true, if_false, ite_true, ite_false, not_false_eq_true, not_true_eq_false, Nat.reduceEqDiff, reduceCtorEq, Nat.reduceLeDiff, Nat.reduceAdd, Nat.reduceMul, Nat.reduceLT, Int.reduceNeg, Int.reduceEq, Int.reduceLT, Int.reduceLE, eq_self, Nat.reduceSub, or_true, true_or, or_false, false_or, and_false, false_and, Int.reduceToNat, rc0, rc1, ib2, ib3, ib4, ib5, ib6, ib7, ib8, ib9, ib10, rc11, ib12, rc13, ib14, ib15, ib16, ib17, ib18, ib19, rc20, rc21, ib22, ib23, ib24, rc25, ib26, ib27, ib28, ib29, ib30, ib31, rc32, ib33, rc34, ib35, rc36, ib37, rc38, ib39, ib40, ib41, ib42, ib43, ib44, ib45, ib46, ib47, rc48, ib49, ib50, ib51, ib52, ib53, rc54, ib55, ib56, ib57, ib58, ib59, ib60, ib61, ib62, ib63, ib64, ib65, ib66, ib67, ib68, ib69, ib70, ib71, ib72, ib73, ib74, ib75, ib76, ib77, ib78, ib79, ib80, ib81, hn, c1, c2, c3, f1, q, bz, q7, Int.toNat_natCast]
      exact i
theorem S_setOf {f : Nat → Int} {w : Nat} (hn : gi σ 3497 = (n : Int)) (n8 : n ≤ 8) (hf : ∀ g, g < n → ga σ 73 g = f g) : WP S 185 0 [some (vr 54), some (vi (w : Int)), none, none] [] σ post ↔ post (some (vi (setF f w n : Int))) σ := by
  have := L_so (S := S) (post := post) (w := w) hn n8 hf n 0 (by omega)
  rw [← this]
  simp only [w185_0, w185_1, w185_2, w185_3, ↓reduceIte, okp_i, okp_r, okp_n, catS_nil, catS_cons, catV_i, catV_r, catV_l, Option.toList_some, Option.toList_none, List.cons_append, List.nil_append, gi_si, ga_si, gi_sa, ga_sa, gi_sl, ga_sl, gi_sf, ga_sf, gl_si, gl_sa, gl_sf, gl_sl, and_true, true_and, if_true, if_false, ite_true, ite_false, not_false_eq_true, not_true_eq_false, Nat.reduceEqDiff, reduceCtorEq, Nat.reduceLeDiff, Nat.reduceAdd, Nat.reduceMul, Nat.reduceLT, Int.reduceNeg, Int.reduceEq, Int.reduceLT, Int.reduceLE, eq_self, Nat.reduceSub, or_true, true_or, or_false, false_or, and_false, false_and, Int.reduceToNat, rc0, rc1, ib2, ib3, ib4, ib5, ib6, ib7, ib8, ib9, ib10, rc11, ib12, rc13, ib14, ib15, ib16, ib17, ib18, ib19, rc20, rc21, ib22, ib23, ib24, rc25, ib26, ib27, ib28, ib29, ib30, ib31, rc32, ib33, rc34, ib35, rc36, ib37, rc38, ib39, ib40, ib41, ib42, ib43, ib44, ib45, ib46, ib47, rc48, ib49, ib50, ib51, ib52, ib53, rc54, ib55, ib56, ib57, ib58, ib59, ib60, ib61, ib62, ib63, ib64, ib65, ib66, ib67, ib68, ib69, ib70, ib71, ib72, ib73, ib74, ib75, ib76, ib77, ib78, ib79, ib80, ib81]
  exact Iff.rfl
end RECK
