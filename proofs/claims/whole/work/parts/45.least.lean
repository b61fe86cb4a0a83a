/-! the class's plan -/
section LEAST
variable {S : Scr} {σ : Sto} {post : Pst} {n m X : Nat} {W gA gW wA : Nat → Int}
/-- all of the table lies within bounds -/
def TBd (n X : Nat) (T : Nat → Int) : Prop := ∀ s c, s < 2 ^ n → c < X → 0 ≤ T (8 * s + c) ∧ T (8 * s + c) ≤ 1000000
theorem TBd_g {T : Nat → Int} (hP : PC n m X W gA gW wA) (hB : TBd n X T) {set g : Nat} (hs : set < 2 ^ n) (hg : g < n) : 0 ≤ T (8 * (set - 2 ^ g) + (gA g).toNat) ∧ T (8 * (set - 2 ^ g) + (gA g).toNat) ≤ 1000000 := by
  have := (hP.2.2.2.1 g hg).1
  exact hB _ _ (Nat.lt_of_le_of_lt (Nat.sub_le _ _) hs) (by omega)
theorem rel8 (hP : PC n m X W gA gW wA) {c : Nat} (h : relC gA wA n m c) : c < X ∧ c < 8 := by
  have x8 := hP.2.2.1
  rcases h with ⟨g, hg, e⟩ | ⟨w, hw, e⟩
  · have := (hP.2.2.2.1 g hg).1; omega
  · have := hP.2.2.2.2.1 w hw; omega
theorem L_fob (hP : PC n m X W gA gW wA) (hC : CH n m X W gA gW wA σ) (hB : TBd n X (ga σ 42)) {set at_ : Nat} (hs : set < 2 ^ n) (ha : at_ < 8) : ∀ r k : Nat, k + r = n → (∃ g, k ≤ g ∧ g < n ∧ isB W gA gW (ga σ 42) set at_ g = true) → (WP S 67 10 [some (vr 38), some (vi (set : Int)), some (vi (at_ : Int)), some (vi (ga σ 42 (8 * set + at_))), some (vi (k : Int))] [] σ post ↔ post (some (vi (fstF (isB W gA gW (ga σ 42) set at_) r k : Int))) σ) := by
  have hn := hC.1
  have n8 := hP.1
  have s8 : set < 256 := Nat.lt_of_lt_of_le hs (pw8 n8)
  intro r
  induction r with
  | zero =>
    intro k hk h
    obtain ⟨g, h1, h2, -⟩ := h
    omega
  | succ r ih =>
    intro k hk h
    have c1 : ¬ ((n : Int) ≤ (k : Int)) := by omega
    have kn : k < n := by omega
    have k8 : k < 8 := by omega
    have q7 := wr_n1 (x := k) (by omega)
    have sm : k + 1 + r = n := by omega
    simp only [fstF]
    rw [w67_10]
    by_cases q : isB W gA gW (ga σ 42) set at_ k = true
    · rw [if_pos q]
      unfold isB at q
      rw [Bool.and_eq_true, decide_eq_true_eq] at q
      obtain ⟨q1, q2⟩ := q
      simp only [w67_0, w67_1, w67_2, w67_3, w67_6, w67_7, w67_8, w67_12, w67_13, w67_16, w67_19, w67_20, w67_22, w67_25, w67_28, w67_29, w67_30, w67_31, w67_33, w67_36, w67_37, w67_40, w67_42, w67_43, w67_46, w67_49, w67_50, ↓reduceIte, okp_i, okp_r, okp_n, catS_nil, catS_cons, catV_i, catV_r, catV_l, Option.toList_some, Option.toList_none, List.cons_append, List.nil_append, gi_si, ga_si, gi_sa, ga_sa, gi_sl, ga_sl, gi_sf, ga_sf, gl_si, gl_sa, gl_sf, gl_sl, and_true, true_and, if_true, if_false, ite_true, ite_false, not_false_eq_true, not_true_eq_false, Nat.reduceEqDiff, reduceCtorEq, Nat.reduceLeDiff, Nat.reduceAdd, Nat.reduceMul, Nat.reduceLT, Int.reduceNeg, Int.reduceEq, Int.reduceLT, Int.reduceLE, eq_self, Nat.reduceSub, or_true, true_or, or_false, false_or, and_false, false_and, Int.reduceToNat, rc0, rc1, ib2, ib3, ib4, ib5, ib6, ib7, ib8, ib9, ib10, rc11, ib12, rc13, ib14, ib15, ib16, ib17, ib18, ib19, rc20, rc21, ib22, ib23, ib24, rc25, ib26, ib27, ib28, ib29, ib30, ib31, rc32, ib33, rc34, ib35, rc36, ib37, rc38, ib39, ib40, ib41, ib42, ib43, ib44, ib45, ib46, ib47, rc48, ib49, ib50, ib51, ib52, ib53, rc54, ib55, ib56, ib57, ib58, ib59, ib60, ib61, ib62, ib63, ib64, ib65, ib66, ib67, ib68, ib69, ib70, ib71, ib72, ib73, ib74, ib75, ib76, ib77, ib78, ib79, ib80, ib81, hn, c1, S_holds s8 k8, q1, S_nif hP hC s8 ha kn q1 (TBd_g hP hB hs kn), q2]
    · rw [if_neg q]
      have i := ih (k + 1) sm (by
        obtain ⟨g, h1, h2, h3⟩ := h
        have e : g ≠ k := fun e => q (by rw [← e]; exact h3)
        exact ⟨g, by omega, h2, h3⟩)
      by_cases q1 : set.testBit k = true
      · have q2 : ¬ W (8 * at_ + (gA k).toNat) + gW k + ga σ 42 (8 * (set - 2 ^ k) + (gA k).toNat) = ga σ 42 (8 * set + at_) := fun e => q (by
          unfold isB
          rw [Bool.and_eq_true, decide_eq_true_eq]
          exact ⟨q1, e⟩)
        simp only [w67_0, w67_1, w67_2, w67_3, w67_6, w67_7, w67_8, w67_12, w67_13, w67_16, w67_19, w67_20, w67_22, w67_25, w67_28, w67_29, w67_30, w67_31, w67_33, w67_36, w67_37, w67_40, w67_42, w67_43, w67_46, w67_49, w67_50, ↓reduceIte, okp_i, okp_r, okp_n, catS_nil, catS_cons, catV_i, catV_r, catV_l, Option.toList_some, Option.toList_none, List.cons_append, List.nil_append, gi_si, ga_si, gi_sa, ga_sa, gi_sl, ga_sl, gi_sf, ga_sf, gl_si, gl_sa, gl_sf, gl_sl, and_true, true_and, if_true, if_false, ite_true, ite_false, not_false_eq_true, not_true_eq_false, Nat.reduceEqDiff, reduceCtorEq, Nat.reduceLeDiff, Nat.reduceAdd, Nat.reduceMul, Nat.reduceLT, Int.reduceNeg, Int.reduceEq, Int.reduceLT, Int.reduceLE, eq_self, Nat.reduceSub, or_true, true_or, or_false, false_or, and_false, false_and, Int.reduceToNat, rc0, rc1, ib2, ib3, ib4, ib5, ib6, ib7, ib8, ib9, ib10, rc11, ib12, rc13, ib14, ib15, ib16, ib17, ib18, ib19, rc20, rc21, ib22, ib23, ib24, rc25, ib26, ib27, ib28, ib29, ib30, ib31, rc32, ib33, rc34, ib35, rc36, ib37, rc38, ib39, ib40, ib41, ib42, ib43, ib44, ib45, ib46, ib47, rc48, ib49, ib50, ib51, ib52, ib53, rc54, ib55, ib56, ib57, ib58, ib59, ib60, ib61, ib62, ib63, ib64, ib65, ib66, ib67, ib68, ib69, ib70, ib71, ib72, ib73, ib74, ib75, ib76, ib77, ib78, ib79, ib80, ib81, hn, c1, S_holds s8 k8, q1, S_nif hP hC s8 ha kn q1 (TBd_g hP hB hs kn), q2, q7]
        exact i
      · simp only [w67_0, w67_1, w67_2, w67_3, w67_6, w67_7, w67_8, w67_12, w67_13, w67_16, w67_19, w67_20, w67_22, w67_25, w67_28, w67_29, w67_30, w67_31, w67_33, w67_36, w67_37, w67_40, w67_42, w67_43, w67_46, w67_49, w67_50, ↓reduceIte, okp_i, okp_r, okp_n, catS_nil, catS_cons, catV_i, catV_r, catV_l, Option.toList_some, Option.toList_none, List.cons_append, List.nil_append, gi_si, ga_si, gi_sa, ga_sa, gi_sl, ga_sl, gi_sf, ga_sf, gl_si, gl_sa, gl_sf, gl_sl, and_true, true_and, if_true, if_false, ite_true, ite_false, not_false_eq_true, not_true_eq_false, Nat.reduceEqDiff, reduceCtorEq, Nat.reduceLeDiff, Nat.reduceAdd, Nat.reduceMul, Nat.reduceLT, Int.reduceNeg, Int.reduceEq, Int.reduceLT, Int.reduceLE, eq_self, Nat.reduceSub, or_true, true_or, or_false, false_or, and_false, false_and, Int.reduceToNat, rc0, rc1, ib2, ib3, ib4, ib5, ib6, ib7, ib8, ib9, ib10, rc11, ib12, rc13, ib14, ib15, ib16, ib17, ib18, ib19, rc20, rc21, ib22, ib23, ib24, rc25, ib26, ib27, ib28, ib29, ib30, ib31, rc32, ib33, rc34, ib35, rc36, ib37, rc38, ib39, ib40, ib41, ib42, ib43, ib44, ib45, ib46, ib47, rc48, ib49, ib50, ib51, ib52, ib53, rc54, ib55, ib56, ib57, ib58, ib59, ib60, ib61, ib62, ib63, ib64, ib65, ib66, ib67, ib68, ib69, ib70, ib71, ib72, ib73, ib74, ib75, ib76, ib77, ib78, ib79, ib80, ib81, hn, c1, S_holds s8 k8, q1, q7]
        exact i
theorem S_fob (hP : PC n m X W gA gW wA) (hC : CH n m X W gA gW wA σ) (hB : TBd n X (ga σ 42)) (hT : IsN W gA gW wA n m (ga σ 42)) {set at_ : Nat} (hL : LV W gA gW wA (ga σ 42) n m set at_) (h0 : set ≠ 0) : WP S 67 0 [some (vr 38), some (vi (set : Int)), some (vi (at_ : Int)), none, none] [] σ post ↔ post (some (vi (pickF W gA gW (ga σ 42) n set at_ : Int))) σ := by
  have a8 := (rel8 hP hL.2.1).2
  obtain ⟨g, g1, g2⟩ := LV_ex hT hL h0
  have := L_fob (S := S) (post := post) hP hC hB hL.1 a8 n 0 (by omega) ⟨g, Nat.zero_le g, g1, g2⟩
  have s8 : set < 256 := Nat.lt_of_lt_of_le hL.1 (pw8 hP.1)
  have e : fstF (isB W gA gW (ga σ 42) set at_) n 0 = pickF W gA gW (ga σ 42) n set at_ := rfl
  rw [e] at this
  rw [← this]
  simp only [w67_0, w67_1, w67_2, w67_3, w67_6, w67_7, w67_8, ↓reduceIte, okp_i, okp_r, okp_n, catS_nil, catS_cons, catV_i, catV_r, catV_l, Option.toList_some, Option.toList_none, List.cons_append, List.nil_append, gi_si, ga_si, gi_sa, ga_sa, gi_sl, ga_sl, gi_sf, ga_sf, gl_si, gl_sa, gl_sf, gl_sl, and_true, true_and, if_true, if_false, ite_true, ite_false, not_false_eq_true, not_true_eq_false, Nat.reduceEqDiff, reduceCtorEq, Nat.reduceLeDiff, Nat.reduceAdd, Nat.reduceMul, Nat.reduceLT, Int.reduceNeg, Int.reduceEq, Int.reduceLT, Int.reduceLE, eq_self, Nat.reduceSub, or_true, true_or, or_false, false_or, and_false, false_and, Int.reduceToNat, rc0, rc1, ib2, ib3, ib4, ib5, ib6, ib7, ib8, ib9, ib10, rc11, ib12, rc13, ib14, ib15, ib16, ib17, ib18, ib19, rc20, rc21, ib22, ib23, ib24, rc25, ib26, ib27, ib28, ib29, ib30, ib31, rc32, ib33, rc34, ib35, rc36, ib37, rc38, ib39, ib40, ib41, ib42, ib43, ib44, ib45, ib46, ib47, rc48, ib49, ib50, ib51, ib52, ib53, rc54, ib55, ib56, ib57, ib58, ib59, ib60, ib61, ib62, ib63, ib64, ib65, ib66, ib67, ib68, ib69, ib70, ib71, ib72, ib73, ib74, ib75, ib76, ib77, ib78, ib79, ib80, ib81, S_need s8 a8]
  exact Iff.rfl
theorem L_lo1 {f : Nat → Int} {w : Nat} (hn : gi σ 2442 = (n : Int)) (n8 : n ≤ 8) (hf : ∀ g, g < n → ga σ 45 g = f g) {l4 l5 l6 : Option AV} (kk : ∀ l3 : Option AV, WP S 66 34 [some (vr 38), some (vi (w : Int)), some (vi (setF f w n : Int)), l3, l4, l5, l6] [] σ post) : ∀ r k : Nat, k + r = n → WP S 66 4 [some (vr 38), some (vi (w : Int)), some (vi (setF f w k : Int)), some (vi (k : Int)), l4, l5, l6] [] σ post := by
  intro r
  induction r with
  | zero =>
    intro k hk
    have e : k = n := by omega
    subst e
    rw [w66_4]
    simp only [w66_5, w66_6, w66_9, ↓reduceIte, okp_i, okp_r, okp_n, catS_nil, catS_cons, catV_i, catV_r, catV_l, Option.toList_some, Option.toList_none, List.cons_append, List.nil_append, gi_si, ga_si, gi_sa, ga_sa, gi_sl, ga_sl, gi_sf, ga_sf, gl_si, gl_sa, gl_sf, gl_sl, and_true, true_and, if_true, if_false, ite_true, ite_false, not_false_eq_true, not_true_eq_false, Nat.reduceEqDiff, reduceCtorEq, Nat.reduceLeDiff, Nat.reduceAdd, Nat.reduceMul, Nat.reduceLT, Int.reduceNeg, Int.reduceEq, Int.reduceLT, Int.reduceLE, eq_self, Nat.reduceSub, or_true, true_or, or_false, false_or, and_false, false_and, Int.reduceToNat, rc0, rc1, ib2, ib3, ib4, ib5, ib6, ib7, ib8, ib9, ib10, rc11, ib12, rc13, ib14, ib15, ib16, ib17, ib18, ib19, rc20, rc21, ib22, ib23, ib24, rc25, ib26, ib27, ib28, ib29, ib30, ib31, rc32, ib33, rc34, ib35, rc36, ib37, rc38, ib39, ib40, ib41, ib42, ib43, ib44, ib45, ib46, ib47, rc48, ib49, ib50, ib51, ib52, ib53, rc54, ib55, ib56, ib57, ib58, ib59, ib60, ib61, ib62, ib63, ib64, ib65, ib66, ib67, ib68, ib69, ib70, ib71, ib72, ib73, ib74, ib75, ib76, ib77, ib78, ib79, ib80, ib81, hn, Int.le_refl]
    exact kk _
  | succ r ih =>
    intro k hk
    have c1 : ¬ ((n : Int) ≤ (k : Int)) := by omega
    have kn : k < n := by omega
    have k8 : k < 8 := by omega
    have c2 : (0 : Int) ≤ (k : Int) := by omega
    have c3 : (k : Int) < 8 := by omega
    have q7 := wr_n1 (x := k) (by omega)
    have sm : k + 1 + r = n := by omega
    have f1 := hf k kn
    have bo := bt_o k8 (setF_lt (f := f) (w := w) k)
    have bs := bt_s (g := k) (by omega)
    have i := ih (k + 1) sm
    simp only [setF] at i
    rw [w66_4]
    by_cases q : f k = (w : Int)
    · rw [if_pos q] at i
      have q' : (f k = (w : Int)) = True := eq_true q
      simp only [w66_0, w66_1, w66_2, w66_3, w66_5, w66_6, w66_9, w66_12, w66_13, w66_16, w66_17, w66_18, w66_19, w66_22, w66_23, w66_24, w66_25, w66_26, w66_27, w66_28, w66_31, w66_35, w66_38, w66_39, w66_40, w66_41, w66_42, w66_44, w66_45, w66_49, w66_50, w66_53, w66_56, w66_57, w66_60, w66_61, w66_62, w66_63, w66_66, w66_68, w66_70, w66_71, w66_72, w66_74, w66_77, w66_78, w66_80, w66_81, w66_84, w66_86, w66_88, w66_89, w66_90, w66_93, w66_95, w66_97, w66_98, w66_99, w66_102, w66_104, w66_105, w66_106, w66_107, w66_108, w66_110, w66_111, w66_112, w66_113, w66_114, w66_115, w66_118, w66_121, ↓reduceIte, okp_i, okp_r, okp_n, catS_nil, catS_cons, catV_i, catV_r, catV_l, Option.toList_some, Option.toList_none, List.cons_append, List.nil_append, gi_si, ga_si, gi_sa, ga_sa, gi_sl, ga_sl, gi_sf, ga_sf, gl_si, gl_sa, gl_sf, gl_sl, and_true, true_and, if_true, if_false, ite_true, ite_false, not_false_eq_true, not_true_eq_false, Nat.reduceEqDiff, reduceCtorEq, Nat.reduceLeDiff, Nat.reduceAdd, Nat.reduceMul, Nat.reduceLT, Int.reduceNeg, Int.reduceEq, Int.reduceLT, Int.reduceLE, eq_self, Nat.reduceSub, or_true, true_or, or_false, false_or, and_false, false_and, Int.reduceToNat, rc0, rc1, ib2, ib3, ib4, ib5, ib6, ib7, ib8, ib9, ib10, rc11, ib12, rc13, ib14, ib15, ib16, ib17, ib18, ib19, rc20, rc21, ib22, ib23, ib24, rc25, ib26, ib27, ib28, ib29, ib30, ib31, rc32, ib33, rc34, ib35, rc36, ib37, rc38, ib39, ib40, ib41, ib42, ib43, ib44, ib45, ib46, ib47, rc48, ib49, ib50, ib51, ib52, ib53, rc54, ib55, ib56, ib57, ib58, ib59, ib60, ib61, ib62, ib63, ib64, ib65, ib66, ib67, ib68, ib69, ib70, ib71, ib72, ib73, ib74, ib75, ib76, ib77, ib78, ib79, ib80, ib81, hn, c1, c2, c3, f1, q', bo, bs, q7, Int.toNat_natCast]
      exact i
    · rw [if_neg q] at i
      simp only [w66_0, w66_1, w66_2, w66_3, w66_5, w66_6, w66_9, w66_12, w66_13, w66_16, w66_17, w66_18, w66_19, w66_22, w66_23, w66_24, w66_25, w66_26, w66_27, w66_28, w66_31, w66_35, w66_38, w66_39, w66_40, w66_41, w66_42, w66_44, w66_45, w66_49, w66_50, w66_53, w66_56, w66_57, w66_60, w66_61, w66_62, w66_63, w66_66, w66_68, w66_70, w66_71, w66_72, w66_74, w66_77, w66_78, w66_80, w66_81, w66_84, w66_86, w66_88, w66_89, w66_90, w66_93, w66_95, w66_97, w66_98, w66_99, w66_102, w66_104, w66_105, w66_106, w66_107, w66_108, w66_110, w66_111, w66_112, w66_113, w66_114, w66_115, w66_118, w66_121, ↓reduceIte, okp_i, okp_r, okp_n, catS_nil, catS_cons, catV_i, catV_r, catV_l, Option.toList_some, Option.toList_none, List.cons_append, List.nil_append, gi_si, ga_si, gi_sa, ga_sa, gi_sl, ga_sl, gi_sf, ga_sf, gl_si, gl_sa, gl_sf, gl_sl, and_true, true_and, if_true, if_false, ite_true, ite_false, not_false_eq_true, not_true_eq_false, Nat.reduceEqDiff, reduceCtorEq, Nat.reduceLeDiff, Nat.reduceAdd, Nat.reduceMul, Nat.reduceLT, Int.reduceNeg, Int.reduceEq, Int.reduceLT, Int.reduceLE, eq_self, Nat.reduceSub, or_true, true_or, or_false, false_or, and_false, false_and, Int.reduceToNat, rc0, rc1, ib2, ib3, ib4, ib5, ib6, ib7, ib8, ib9, ib10, rc11, ib12, rc13, ib14, ib15, ib16, ib17, ib18, ib19, rc20, rc21, ib22, ib23, ib24, rc25, ib26, ib27, ib28, ib29, ib30, ib31, rc32, ib33, rc34, ib35, rc36, ib37, rc38, ib39, ib40, ib41, ib42, ib43, ib44, ib45, ib46, ib47, rc48, ib49, ib50, ib51, ib52, ib53, rc54, ib55, ib56, ib57, ib58, ib59, ib60, ib61, ib62, ib63, ib64, ib65, ib66, ib67, ib68, ib69, ib70, ib71, ib72, ib73, ib74, ib75, ib76, ib77, ib78, ib79, ib80, ib81, hn, c1, c2, c3, f1, q, q7, Int.toNat_natCast]
      exact i
theorem L_lo2 (hP : PC n m X W gA gW wA) (hC : CH n m X W gA gW wA σ) (hB : TBd n X (ga σ 42)) (hT : IsN W gA gW wA n m (ga σ 42)) {w : Nat} {Q : (Nat → Int) × (Nat → Int)} (kk : ∀ σ2, Fr [] [46, 47] σ σ2 → ga σ2 46 = Q.1 → ga σ2 47 = Q.2 → post none σ2) : ∀ (r k set at_ : Nat) (time : Int) (σ1 : Sto) (l6 : Option AV), k + r = n → LV W gA gW wA (ga σ 42) n m set at_ → (0 ≤ time ∧ time ≤ 1000060 * (k : Int)) → Fr [] [46, 47] σ σ1 → layF W gA gW (ga σ 42) n r set at_ time (k : Int) (ga σ1 46, ga σ1 47) = Q → WP S 66 47 [some (vr 38), some (vi (w : Int)), some (vi (set : Int)), some (vi (at_ : Int)), some (vi time), some (vi (k : Int)), l6] [] σ1 post := by
  have n8 := hP.1
  intro r
  induction r with
  | zero =>
    intro k set at_ time σ1 l6 hk hL ht hF hQ
    have e : k = n := by omega
    subst e
    have hn := (CH_Fr hC hF).1
    rw [w66_47]
    simp only [w66_49, w66_50, w66_53, w66_121, ↓reduceIte, okp_i, okp_r, okp_n, catS_nil, catS_cons, catV_i, catV_r, catV_l, Option.toList_some, Option.toList_none, List.cons_append, List.nil_append, gi_si, ga_si, gi_sa, ga_sa, gi_sl, ga_sl, gi_sf, ga_sf, gl_si, gl_sa, gl_sf, gl_sl, and_true, true_and, if_true, if_false, ite_true, ite_false, not_false_eq_true, not_true_eq_false, Nat.reduceEqDiff, reduceCtorEq, Nat.reduceLeDiff, Nat.reduceAdd, Nat.reduceMul, Nat.reduceLT, Int.reduceNeg, Int.reduceEq, Int.reduceLT, Int.reduceLE, eq_self, Nat.reduceSub, or_true, true_or, or_false, false_or, and_false, false_and, Int.reduceToNat, rc0, rc1, ib2, ib3, ib4, ib5, ib6, ib7, ib8, ib9, ib10, rc11, ib12, rc13, ib14, ib15, ib16, ib17, ib18, ib19, rc20, rc21, ib22, ib23, ib24, rc25, ib26, ib27, ib28, ib29, ib30, ib31, rc32, ib33, rc34, ib35, rc36, ib37, rc38, ib39, ib40, ib41, ib42, ib43, ib44, ib45, ib46, ib47, rc48, ib49, ib50, ib51, ib52, ib53, rc54, ib55, ib56, ib57, ib58, ib59, ib60, ib61, ib62, ib63, ib64, ib65, ib66, ib67, ib68, ib69, ib70, ib71, ib72, ib73, ib74, ib75, ib76, ib77, ib78, ib79, ib80, ib81, hn, Int.le_refl]
    simp only [layF] at hQ
    exact kk σ1 hF (by rw [← hQ]) (by rw [← hQ])
  | succ r ih =>
    intro k set at_ time σ1 l6 hk hL ht hF hQ
    have C1 := CH_Fr hC hF
    have hn := C1.1
    have c1 : ¬ ((n : Int) ≤ (k : Int)) := by omega
    have q7 := wr_n1 (x := k) (by omega)
    have sm : k + 1 + r = n := by omega
    have e42 : ga σ1 42 = ga σ 42 := hF.2 42 (by decide)
    simp only [layF] at hQ
    rw [w66_47]
    by_cases h0 : set = 0
    · have h0' : ((set : Int) = 0) = True := eq_true (by omega)
      rw [if_pos h0] at hQ
      simp only [w66_49, w66_50, w66_53, w66_56, w66_57, w66_121, ↓reduceIte, okp_i, okp_r, okp_n, catS_nil, catS_cons, catV_i, catV_r, catV_l, Option.toList_some, Option.toList_none, List.cons_append, List.nil_append, gi_si, ga_si, gi_sa, ga_sa, gi_sl, ga_sl, gi_sf, ga_sf, gl_si, gl_sa, gl_sf, gl_sl, and_true, true_and, if_true, if_false, ite_true, ite_false, not_false_eq_true, not_true_eq_false, Nat.reduceEqDiff, reduceCtorEq, Nat.reduceLeDiff, Nat.reduceAdd, Nat.reduceMul, Nat.reduceLT, Int.reduceNeg, Int.reduceEq, Int.reduceLT, Int.reduceLE, eq_self, Nat.reduceSub, or_true, true_or, or_false, false_or, and_false, false_and, Int.reduceToNat, rc0, rc1, ib2, ib3, ib4, ib5, ib6, ib7, ib8, ib9, ib10, rc11, ib12, rc13, ib14, ib15, ib16, ib17, ib18, ib19, rc20, rc21, ib22, ib23, ib24, rc25, ib26, ib27, ib28, ib29, ib30, ib31, rc32, ib33, rc34, ib35, rc36, ib37, rc38, ib39, ib40, ib41, ib42, ib43, ib44, ib45, ib46, ib47, rc48, ib49, ib50, ib51, ib52, ib53, rc54, ib55, ib56, ib57, ib58, ib59, ib60, ib61, ib62, ib63, ib64, ib65, ib66, ib67, ib68, ib69, ib70, ib71, ib72, ib73, ib74, ib75, ib76, ib77, ib78, ib79, ib80, ib81, hn, c1, h0']
      exact kk σ1 hF (by rw [← hQ]) (by rw [← hQ])
    · have h0' : ¬ (set : Int) = 0 := by omega
      rw [if_neg h0] at hQ
      have fo := fun post => S_fob (S := S) (post := post) hP C1 (by rw [e42]; exact hB) (by rw [e42]; exact hT) (by rw [e42]; exact hL) h0
      simp only [e42] at fo
      obtain ⟨k1, k2, k3⟩ := LV_pick hP hT hL h0
      have a8 := (rel8 hP hL.2.1).2
      have s8 : set < 256 := Nat.lt_of_lt_of_le hL.1 (pw8 hP.1)
      generalize pickF W gA gW (ga σ 42) n set at_ = p at *
      have p8 : p < 8 := by omega
      have p9 : p < 9 := by omega
      have st := fun post => S_step (S := S) (post := post) hP C1 a8 k1
      have d1 : (0 : Int) ≤ (p : Int) := by omega
      have d2 : (p : Int) < 8 := by omega
      obtain ⟨⟨b1, b2⟩, b3, b4⟩ := hP.2.2.2.1 p k1
      have x8 := hP.2.2.1
      have b5 := hP.2.2.2.2.2 at_ (gA p).toNat a8 (by omega)
      have q8 : wr (time + (W (8 * at_ + (gA p).toNat) + gW p)) = time + (W (8 * at_ + (gA p).toNat) + gW p) := wr_id (by omega) (by omega)
      have e39 := (C1.2.2.2.1 p k1).1
      have eg : gA p = ((gA p).toNat : Int) := by omega
      have br := bt_r s8 p8 k2
      simp only [w66_0, w66_1, w66_2, w66_3, w66_5, w66_6, w66_9, w66_12, w66_13, w66_16, w66_17, w66_18, w66_19, w66_22, w66_23, w66_24, w66_25, w66_26, w66_27, w66_28, w66_31, w66_35, w66_38, w66_39, w66_40, w66_41, w66_42, w66_44, w66_45, w66_49, w66_50, w66_53, w66_56, w66_57, w66_60, w66_61, w66_62, w66_63, w66_66, w66_68, w66_70, w66_71, w66_72, w66_74, w66_77, w66_78, w66_80, w66_81, w66_84, w66_86, w66_88, w66_89, w66_90, w66_93, w66_95, w66_97, w66_98, w66_99, w66_102, w66_104, w66_105, w66_106, w66_107, w66_108, w66_110, w66_111, w66_112, w66_113, w66_114, w66_115, w66_118, w66_121, ↓reduceIte, okp_i, okp_r, okp_n, catS_nil, catS_cons, catV_i, catV_r, catV_l, Option.toList_some, Option.toList_none, List.cons_append, List.nil_append, gi_si, ga_si, gi_sa, ga_sa, gi_sl, ga_sl, gi_sf, ga_sf, gl_si, gl_sa, gl_sf, gl_sl, and_true, true_and, if_true, if_false, ite_true, ite_false, not_false_eq_true, not_true_eq_false, Nat.reduceEqDiff, reduceCtorEq, Nat.reduceLeDiff, Nat.reduceAdd, Nat.reduceMul, Nat.reduceLT, Int.reduceNeg, Int.reduceEq, Int.reduceLT, Int.reduceLE, eq_self, Nat.reduceSub, or_true, true_or, or_false, false_or, and_false, false_and, Int.reduceToNat, rc0, rc1, ib2, ib3, ib4, ib5, ib6, ib7, ib8, ib9, ib10, rc11, ib12, rc13, ib14, ib15, ib16, ib17, ib18, ib19, rc20, rc21, ib22, ib23, ib24, rc25, ib26, ib27, ib28, ib29, ib30, ib31, rc32, ib33, rc34, ib35, rc36, ib37, rc38, ib39, ib40, ib41, ib42, ib43, ib44, ib45, ib46, ib47, rc48, ib49, ib50, ib51, ib52, ib53, rc54, ib55, ib56, ib57, ib58, ib59, ib60, ib61, ib62, ib63, ib64, ib65, ib66, ib67, ib68, ib69, ib70, ib71, ib72, ib73, ib74, ib75, ib76, ib77, ib78, ib79, ib80, ib81, hn, c1, h0', fo, st, d1, d2, q7, q8, e39, bt_s p9, br, Int.toNat_natCast]
      rw [eg]
      simp only [Int.toNat_natCast]
      refine ih (k + 1) _ _ _ _ _ sm k3 ⟨by omega, by omega⟩ (Fr_sa (Fr_sa hF (by decide)) (by decide)) ?_
      simp only [↓reduceIte, okp_i, okp_r, okp_n, catS_nil, catS_cons, catV_i, catV_r, catV_l, Option.toList_some, Option.toList_none, List.cons_append, List.nil_append, gi_si, ga_si, gi_sa, ga_sa, gi_sl, ga_sl, gi_sf, ga_sf, gl_si, gl_sa, gl_sf, gl_sl, and_true, true_and, if_true, if_false, ite_true, ite_false, not_false_eq_true, not_true_eq_false, Nat.reduceEqDiff, reduceCtorEq, Nat.reduceLeDiff, Nat.reduceAdd, Nat.reduceMul, Nat.reduceLT, Int.reduceNeg, Int.reduceEq, Int.reduceLT, Int.reduceLE, eq_self, Nat.reduceSub, or_true, true_or, or_false, false_or, and_false, false_and, Int.reduceToNat, rc0, rc1, ib2, ib3, ib4, ib5, ib6, ib7, ib8, ib9, ib10, rc11, ib12, rc13, ib14, ib15, ib16, ib17, ib18, ib19, rc20, rc21, ib22, ib23, ib24, rc25, ib26, ib27, ib28, ib29, ib30, ib31, rc32, ib33, rc34, ib35, rc36, ib37, rc38, ib39, ib40, ib41, ib42, ib43, ib44, ib45, ib46, ib47, rc48, ib49, ib50, ib51, ib52, ib53, rc54, ib55, ib56, ib57, ib58, ib59, ib60, ib61, ib62, ib63, ib64, ib65, ib66, ib67, ib68, ib69, ib70, ib71, ib72, ib73, ib74, ib75, ib76, ib77, ib78, ib79, ib80, ib81]
      rw [← hQ]
      simp only [Int.natCast_add, Int.natCast_one, Int.cast_ofNat_Int]
theorem S_layO (hP : PC n m X W gA gW wA) (hC : CH n m X W gA gW wA σ) (hB : TBd n X (ga σ 42)) (hT : IsN W gA gW wA n m (ga σ 42)) {f : Nat → Int} (hf : ∀ g, g < n → ga σ 45 g = f g) (hv : AV' (ga σ 42) wA f n m) {w : Nat} (hw : w < m) (kk : ∀ σ2, Fr [] [46, 47] σ σ2 → ga σ2 46 = (layF W gA gW (ga σ 42) n n (setF f w n) (wA w).toNat 0 0 (ga σ 46, ga σ 47)).1 → ga σ2 47 = (layF W gA gW (ga σ 42) n n (setF f w n) (wA w).toNat 0 0 (ga σ 46, ga σ 47)).2 → post none σ2) : WP S 66 0 [some (vr 38), some (vi (w : Int)), none, none, none, none, none] [] σ post := by
  have m3 := hP.2.1
  simp only [w66_0, w66_1, w66_2, w66_3, ↓reduceIte, okp_i, okp_r, okp_n, catS_nil, catS_cons, catV_i, catV_r, catV_l, Option.toList_some, Option.toList_none, List.cons_append, List.nil_append, gi_si, ga_si, gi_sa, ga_sa, gi_sl, ga_sl, gi_sf, ga_sf, gl_si, gl_sa, gl_sf, gl_sl, and_true, true_and, if_true, if_false, ite_true, ite_false, not_false_eq_true, not_true_eq_false, Nat.reduceEqDiff, reduceCtorEq, Nat.reduceLeDiff, Nat.reduceAdd, Nat.reduceMul, Nat.reduceLT, Int.reduceNeg, Int.reduceEq, Int.reduceLT, Int.reduceLE, eq_self, Nat.reduceSub, or_true, true_or, or_false, false_or, and_false, false_and, Int.reduceToNat, rc0, rc1, ib2, ib3, ib4, ib5, ib6, ib7, ib8, ib9, ib10, rc11, ib12, rc13, ib14, ib15, ib16, ib17, ib18, ib19, rc20, rc21, ib22, ib23, ib24, rc25, ib26, ib27, ib28, ib29, ib30, ib31, rc32, ib33, rc34, ib35, rc36, ib37, rc38, ib39, ib40, ib41, ib42, ib43, ib44, ib45, ib46, ib47, rc48, ib49, ib50, ib51, ib52, ib53, rc54, ib55, ib56, ib57, ib58, ib59, ib60, ib61, ib62, ib63, ib64, ib65, ib66, ib67, ib68, ib69, ib70, ib71, ib72, ib73, ib74, ib75, ib76, ib77, ib78, ib79, ib80, ib81]
  refine L_lo1 (f := f) (w := w) hC.1 hP.1 hf ?_ n 0 (by omega)
  intro l3
  have e41 := hC.2.2.2.2.1 w hw
  have c1 : (0 : Int) ≤ (w : Int) := by omega
  have c2 : (w : Int) < 3 := by omega
  have ea : wA w = ((wA w).toNat : Int) := by have := hP.2.2.2.2.1 w hw; omega
  simp only [w66_34, w66_35, w66_38, w66_39, w66_40, w66_41, w66_42, w66_44, w66_45, ↓reduceIte, okp_i, okp_r, okp_n, catS_nil, catS_cons, catV_i, catV_r, catV_l, Option.toList_some, Option.toList_none, List.cons_append, List.nil_append, gi_si, ga_si, gi_sa, ga_sa, gi_sl, ga_sl, gi_sf, ga_sf, gl_si, gl_sa, gl_sf, gl_sl, and_true, true_and, if_true, if_false, ite_true, ite_false, not_false_eq_true, not_true_eq_false, Nat.reduceEqDiff, reduceCtorEq, Nat.reduceLeDiff, Nat.reduceAdd, Nat.reduceMul, Nat.reduceLT, Int.reduceNeg, Int.reduceEq, Int.reduceLT, Int.reduceLE, eq_self, Nat.reduceSub, or_true, true_or, or_false, false_or, and_false, false_and, Int.reduceToNat, rc0, rc1, ib2, ib3, ib4, ib5, ib6, ib7, ib8, ib9, ib10, rc11, ib12, rc13, ib14, ib15, ib16, ib17, ib18, ib19, rc20, rc21, ib22, ib23, ib24, rc25, ib26, ib27, ib28, ib29, ib30, ib31, rc32, ib33, rc34, ib35, rc36, ib37, rc38, ib39, ib40, ib41, ib42, ib43, ib44, ib45, ib46, ib47, rc48, ib49, ib50, ib51, ib52, ib53, rc54, ib55, ib56, ib57, ib58, ib59, ib60, ib61, ib62, ib63, ib64, ib65, ib66, ib67, ib68, ib69, ib70, ib71, ib72, ib73, ib74, ib75, ib76, ib77, ib78, ib79, ib80, ib81, c1, c2, e41, Int.toNat_natCast]
  rw [ea]
  exact L_lo2 hP hC hB hT (Q := layF W gA gW (ga σ 42) n n (setF f w n) (wA w).toNat 0 0 (ga σ 46, ga σ 47)) kk n 0 _ _ 0 σ _ (by omega) (LV_set hP hv hw) ⟨by omega, by omega⟩ Fr_r rfl
theorem valF_nn {T f : Nat → Int} : ∀ w, 0 ≤ valF T wA f n w := by
  intro w
  induction w with
  | zero => exact Int.le_refl _
  | succ w ih =>
    simp only [valF]
    unfold maxF
    split <;> omega
theorem bst_nn {T : Nat → Int} (h : (bstS T wA n m).1 < 1000000) : 0 ≤ (bstS T wA n m).1 := by
  have h2 : valF T wA (fun g => (digF m n (bstS T wA n m).2 g : Int)) n m = (bstS T wA n m).1 := (bestF_sp _ h).2
  rw [← h2]
  exact valF_nn m
theorem L_lea (hP : PC n m X W gA gW wA) (hC : CH n m X W gA gW wA σ) (hB : TBd n X (ga σ 42)) (hT : IsN W gA gW wA n m (ga σ 42)) (hb : (bstS (ga σ 42) wA n m).1 < 1000000) (hl : gi σ 2445 = (bstS (ga σ 42) wA n m).1) (hf : ∀ g, g < n → ga σ 45 g = (digF m n (bstS (ga σ 42) wA n m).2 g : Int)) {q0 : (Nat → Int) × (Nat → Int)} (kk : ∀ σ2, Fr [] [46, 47] σ σ2 → (ga σ2 46, ga σ2 47) = layA W gA gW (ga σ 42) wA (fun g => (digF m n (bstS (ga σ 42) wA n m).2 g : Int)) n m q0 → post (some (vi (gi σ2 2445))) σ2) : ∀ (r k : Nat) (σ1 : Sto), k + r = m → Fr [] [46, 47] σ σ1 → (ga σ1 46, ga σ1 47) = layA W gA gW (ga σ 42) wA (fun g => (digF m n (bstS (ga σ 42) wA n m).2 g : Int)) n k q0 → WP S 56 22 [some (vr 38), some (vi (k : Int))] [] σ1 post := by
  have hv := bst_AV hb
  have nn := bst_nn hb
  intro r
  induction r with
  | zero =>
    intro k σ1 hk hF hQ
    have e : k = m := by omega
    subst e
    have hm := (CH_Fr hC hF).2.1
    rw [w56_22]
    simp only [w56_23, w56_24, w56_27, w56_49, w56_50, w56_53, ↓reduceIte, okp_i, okp_r, okp_n, catS_nil, catS_cons, catV_i, catV_r, catV_l, Option.toList_some, Option.toList_none, List.cons_append, List.nil_append, gi_si, ga_si, gi_sa, ga_sa, gi_sl, ga_sl, gi_sf, ga_sf, gl_si, gl_sa, gl_sf, gl_sl, and_true, true_and, if_true, if_false, ite_true, ite_false, not_false_eq_true, not_true_eq_false, Nat.reduceEqDiff, reduceCtorEq, Nat.reduceLeDiff, Nat.reduceAdd, Nat.reduceMul, Nat.reduceLT, Int.reduceNeg, Int.reduceEq, Int.reduceLT, Int.reduceLE, eq_self, Nat.reduceSub, or_true, true_or, or_false, false_or, and_false, false_and, Int.reduceToNat, rc0, rc1, ib2, ib3, ib4, ib5, ib6, ib7, ib8, ib9, ib10, rc11, ib12, rc13, ib14, ib15, ib16, ib17, ib18, ib19, rc20, rc21, ib22, ib23, ib24, rc25, ib26, ib27, ib28, ib29, ib30, ib31, rc32, ib33, rc34, ib35, rc36, ib37, rc38, ib39, ib40, ib41, ib42, ib43, ib44, ib45, ib46, ib47, rc48, ib49, ib50, ib51, ib52, ib53, rc54, ib55, ib56, ib57, ib58, ib59, ib60, ib61, ib62, ib63, ib64, ib65, ib66, ib67, ib68, ib69, ib70, ib71, ib72, ib73, ib74, ib75, ib76, ib77, ib78, ib79, ib80, ib81, hm, Int.le_refl]
    exact kk σ1 hF hQ
  | succ r ih =>
    intro k σ1 hk hF hQ
    have C1 := CH_Fr hC hF
    have hm := C1.2.1
    have km : k < m := by omega
    have m3 := hP.2.1
    have c1 : ¬ ((m : Int) ≤ (k : Int)) := by omega
    have q7 := wr_n1 (x := k) (by omega)
    have sm : k + 1 + r = m := by omega
    have e42 : ga σ1 42 = ga σ 42 := hF.2 42 (by decide)
    have e45 : ga σ1 45 = ga σ 45 := hF.2 45 (by decide)
    have el : gi σ1 2445 = (bstS (ga σ 42) wA n m).1 := by rw [hF.1 2445 (by decide)]; exact hl
    have c2 : ¬ (bstS (ga σ 42) wA n m).1 = -1 := by omega
    rw [w56_22]
    simp only [w56_23, w56_24, w56_27, w56_30, w56_31, w56_34, w56_35, w56_38, w56_39, w56_40, ↓reduceIte, okp_i, okp_r, okp_n, catS_nil, catS_cons, catV_i, catV_r, catV_l, Option.toList_some, Option.toList_none, List.cons_append, List.nil_append, gi_si, ga_si, gi_sa, ga_sa, gi_sl, ga_sl, gi_sf, ga_sf, gl_si, gl_sa, gl_sf, gl_sl, and_true, true_and, if_true, if_false, ite_true, ite_false, not_false_eq_true, not_true_eq_false, Nat.reduceEqDiff, reduceCtorEq, Nat.reduceLeDiff, Nat.reduceAdd, Nat.reduceMul, Nat.reduceLT, Int.reduceNeg, Int.reduceEq, Int.reduceLT, Int.reduceLE, eq_self, Nat.reduceSub, or_true, true_or, or_false, false_or, and_false, false_and, Int.reduceToNat, rc0, rc1, ib2, ib3, ib4, ib5, ib6, ib7, ib8, ib9, ib10, rc11, ib12, rc13, ib14, ib15, ib16, ib17, ib18, ib19, rc20, rc21, ib22, ib23, ib24, rc25, ib26, ib27, ib28, ib29, ib30, ib31, rc32, ib33, rc34, ib35, rc36, ib37, rc38, ib39, ib40, ib41, ib42, ib43, ib44, ib45, ib46, ib47, rc48, ib49, ib50, ib51, ib52, ib53, rc54, ib55, ib56, ib57, ib58, ib59, ib60, ib61, ib62, ib63, ib64, ib65, ib66, ib67, ib68, ib69, ib70, ib71, ib72, ib73, ib74, ib75, ib76, ib77, ib78, ib79, ib80, ib81, hm, c1, el, c2]
    refine S_layO hP C1 (by rw [e42]; exact hB) (by rw [e42]; exact hT) (f := fun g => (digF m n (bstS (ga σ 42) wA n m).2 g : Int)) (by rw [e45]; exact hf) (by rw [e42]; exact hv) km ?_
    intro σ2 hF2 h46 h47
    simp only [w56_43, w56_46, ↓reduceIte, okp_i, okp_r, okp_n, catS_nil, catS_cons, catV_i, catV_r, catV_l, Option.toList_some, Option.toList_none, List.cons_append, List.nil_append, gi_si, ga_si, gi_sa, ga_sa, gi_sl, ga_sl, gi_sf, ga_sf, gl_si, gl_sa, gl_sf, gl_sl, and_true, true_and, if_true, if_false, ite_true, ite_false, not_false_eq_true, not_true_eq_false, Nat.reduceEqDiff, reduceCtorEq, Nat.reduceLeDiff, Nat.reduceAdd, Nat.reduceMul, Nat.reduceLT, Int.reduceNeg, Int.reduceEq, Int.reduceLT, Int.reduceLE, eq_self, Nat.reduceSub, or_true, true_or, or_false, false_or, and_false, false_and, Int.reduceToNat, rc0, rc1, ib2, ib3, ib4, ib5, ib6, ib7, ib8, ib9, ib10, rc11, ib12, rc13, ib14, ib15, ib16, ib17, ib18, ib19, rc20, rc21, ib22, ib23, ib24, rc25, ib26, ib27, ib28, ib29, ib30, ib31, rc32, ib33, rc34, ib35, rc36, ib37, rc38, ib39, ib40, ib41, ib42, ib43, ib44, ib45, ib46, ib47, rc48, ib49, ib50, ib51, ib52, ib53, rc54, ib55, ib56, ib57, ib58, ib59, ib60, ib61, ib62, ib63, ib64, ib65, ib66, ib67, ib68, ib69, ib70, ib71, ib72, ib73, ib74, ib75, ib76, ib77, ib78, ib79, ib80, ib81, q7]
    refine ih (k + 1) σ2 sm (Fr_t hF hF2) ?_
    simp only [layA]
    rw [h46, h47, e42, hQ]
theorem S_least (hP : PC n m X W gA gW wA) (hC : CH n m X W gA gW wA σ) (h0 : gi σ 2444 = 0) (kk : ∀ σ2, Fr [2444, 2445] [42, 43, 44, 45, 46, 47] σ σ2 → gi σ2 2444 = 1 → PlanS W gA gW wA (ga σ2 42) (ga σ2 45) (ga σ2 46) (ga σ2 47) n m (gi σ2 2445) → post (some (vi (gi σ2 2445))) σ2) : WP S 56 0 [some (vr 38), none] [] σ post := by
  simp only [w56_0, w56_1, w56_4, w56_7, w56_8, w56_9, w56_12, w56_13, ↓reduceIte, okp_i, okp_r, okp_n, catS_nil, catS_cons, catV_i, catV_r, catV_l, Option.toList_some, Option.toList_none, List.cons_append, List.nil_append, gi_si, ga_si, gi_sa, ga_sa, gi_sl, ga_sl, gi_sf, ga_sf, gl_si, gl_sa, gl_sf, gl_sl, and_true, true_and, if_true, if_false, ite_true, ite_false, not_false_eq_true, not_true_eq_false, Nat.reduceEqDiff, reduceCtorEq, Nat.reduceLeDiff, Nat.reduceAdd, Nat.reduceMul, Nat.reduceLT, Int.reduceNeg, Int.reduceEq, Int.reduceLT, Int.reduceLE, eq_self, Nat.reduceSub, or_true, true_or, or_false, false_or, and_false, false_and, Int.reduceToNat, rc0, rc1, ib2, ib3, ib4, ib5, ib6, ib7, ib8, ib9, ib10, rc11, ib12, rc13, ib14, ib15, ib16, ib17, ib18, ib19, rc20, rc21, ib22, ib23, ib24, rc25, ib26, ib27, ib28, ib29, ib30, ib31, rc32, ib33, rc34, ib35, rc36, ib37, rc38, ib39, ib40, ib41, ib42, ib43, ib44, ib45, ib46, ib47, rc48, ib49, ib50, ib51, ib52, ib53, rc54, ib55, ib56, ib57, ib58, ib59, ib60, ib61, ib62, ib63, ib64, ib65, ib66, ib67, ib68, ib69, ib70, ib71, ib72, ib73, ib74, ib75, ib76, ib77, ib78, ib79, ib80, ib81, h0]
  have C0 : CH n m X W gA gW wA (si σ 2444 1) := CH_fr hC (by simp only [eqI, eqA, List.forall_mem_cons, List.not_mem_nil, false_implies, implies_true, ↓reduceIte, okp_i, okp_r, okp_n, catS_nil, catS_cons, catV_i, catV_r, catV_l, Option.toList_some, Option.toList_none, List.cons_append, List.nil_append, gi_si, ga_si, gi_sa, ga_sa, gi_sl, ga_sl, gi_sf, ga_sf, gl_si, gl_sa, gl_sf, gl_sl, and_true, true_and, if_true, if_false, ite_true, ite_false, not_false_eq_true, not_true_eq_false, Nat.reduceEqDiff, reduceCtorEq, Nat.reduceLeDiff, Nat.reduceAdd, Nat.reduceMul, Nat.reduceLT, Int.reduceNeg, Int.reduceEq, Int.reduceLT, Int.reduceLE, eq_self, Nat.reduceSub, or_true, true_or, or_false, false_or, and_false, false_and, Int.reduceToNat, rc0, rc1, ib2, ib3, ib4, ib5, ib6, ib7, ib8, ib9, ib10, rc11, ib12, rc13, ib14, ib15, ib16, ib17, ib18, ib19, rc20, rc21, ib22, ib23, ib24, rc25, ib26, ib27, ib28, ib29, ib30, ib31, rc32, ib33, rc34, ib35, rc36, ib37, rc38, ib39, ib40, ib41, ib42, ib43, ib44, ib45, ib46, ib47, rc48, ib49, ib50, ib51, ib52, ib53, rc54, ib55, ib56, ib57, ib58, ib59, ib60, ib61, ib62, ib63, ib64, ib65, ib66, ib67, ib68, ib69, ib70, ib71, ib72, ib73, ib74, ib75, ib76, ib77, ib78, ib79, ib80, ib81]) (by simp only [eqI, eqA, List.forall_mem_cons, List.not_mem_nil, false_implies, implies_true, ↓reduceIte, okp_i, okp_r, okp_n, catS_nil, catS_cons, catV_i, catV_r, catV_l, Option.toList_some, Option.toList_none, List.cons_append, List.nil_append, gi_si, ga_si, gi_sa, ga_sa, gi_sl, ga_sl, gi_sf, ga_sf, gl_si, gl_sa, gl_sf, gl_sl, and_true, true_and, if_true, if_false, ite_true, ite_false, not_false_eq_true, not_true_eq_false, Nat.reduceEqDiff, reduceCtorEq, Nat.reduceLeDiff, Nat.reduceAdd, Nat.reduceMul, Nat.reduceLT, Int.reduceNeg, Int.reduceEq, Int.reduceLT, Int.reduceLE, eq_self, Nat.reduceSub, or_true, true_or, or_false, false_or, and_false, false_and, Int.reduceToNat, rc0, rc1, ib2, ib3, ib4, ib5, ib6, ib7, ib8, ib9, ib10, rc11, ib12, rc13, ib14, ib15, ib16, ib17, ib18, ib19, rc20, rc21, ib22, ib23, ib24, rc25, ib26, ib27, ib28, ib29, ib30, ib31, rc32, ib33, rc34, ib35, rc36, ib37, rc38, ib39, ib40, ib41, ib42, ib43, ib44, ib45, ib46, ib47, rc48, ib49, ib50, ib51, ib52, ib53, rc54, ib55, ib56, ib57, ib58, ib59, ib60, ib61, ib62, ib63, ib64, ib65, ib66, ib67, ib68, ib69, ib70, ib71, ib72, ib73, ib74, ib75, ib76, ib77, ib78, ib79, ib80, ib81])
  refine S_fill hP C0 ?_
  intro T hN hB
  have C1 : CH n m X W gA gW wA (sf (si σ 2444 1) 42 T) := CH_fr C0 (by simp only [eqI, eqA, List.forall_mem_cons, List.not_mem_nil, false_implies, implies_true, ↓reduceIte, okp_i, okp_r, okp_n, catS_nil, catS_cons, catV_i, catV_r, catV_l, Option.toList_some, Option.toList_none, List.cons_append, List.nil_append, gi_si, ga_si, gi_sa, ga_sa, gi_sl, ga_sl, gi_sf, ga_sf, gl_si, gl_sa, gl_sf, gl_sl, and_true, true_and, if_true, if_false, ite_true, ite_false, not_false_eq_true, not_true_eq_false, Nat.reduceEqDiff, reduceCtorEq, Nat.reduceLeDiff, Nat.reduceAdd, Nat.reduceMul, Nat.reduceLT, Int.reduceNeg, Int.reduceEq, Int.reduceLT, Int.reduceLE, eq_self, Nat.reduceSub, or_true, true_or, or_false, false_or, and_false, false_and, Int.reduceToNat, rc0, rc1, ib2, ib3, ib4, ib5, ib6, ib7, ib8, ib9, ib10, rc11, ib12, rc13, ib14, ib15, ib16, ib17, ib18, ib19, rc20, rc21, ib22, ib23, ib24, rc25, ib26, ib27, ib28, ib29, ib30, ib31, rc32, ib33, rc34, ib35, rc36, ib37, rc38, ib39, ib40, ib41, ib42, ib43, ib44, ib45, ib46, ib47, rc48, ib49, ib50, ib51, ib52, ib53, rc54, ib55, ib56, ib57, ib58, ib59, ib60, ib61, ib62, ib63, ib64, ib65, ib66, ib67, ib68, ib69, ib70, ib71, ib72, ib73, ib74, ib75, ib76, ib77, ib78, ib79, ib80, ib81]) (by simp only [eqI, eqA, List.forall_mem_cons, List.not_mem_nil, false_implies, implies_true, ↓reduceIte, okp_i, okp_r, okp_n, catS_nil, catS_cons, catV_i, catV_r, catV_l, Option.toList_some, Option.toList_none, List.cons_append, List.nil_append, gi_si, ga_si, gi_sa, ga_sa, gi_sl, ga_sl, gi_sf, ga_sf, gl_si, gl_sa, gl_sf, gl_sl, and_true, true_and, if_true, if_false, ite_true, ite_false, not_false_eq_true, not_true_eq_false, Nat.reduceEqDiff, reduceCtorEq, Nat.reduceLeDiff, Nat.reduceAdd, Nat.reduceMul, Nat.reduceLT, Int.reduceNeg, Int.reduceEq, Int.reduceLT, Int.reduceLE, eq_self, Nat.reduceSub, or_true, true_or, or_false, false_or, and_false, false_and, Int.reduceToNat, rc0, rc1, ib2, ib3, ib4, ib5, ib6, ib7, ib8, ib9, ib10, rc11, ib12, rc13, ib14, ib15, ib16, ib17, ib18, ib19, rc20, rc21, ib22, ib23, ib24, rc25, ib26, ib27, ib28, ib29, ib30, ib31, rc32, ib33, rc34, ib35, rc36, ib37, rc38, ib39, ib40, ib41, ib42, ib43, ib44, ib45, ib46, ib47, rc48, ib49, ib50, ib51, ib52, ib53, rc54, ib55, ib56, ib57, ib58, ib59, ib60, ib61, ib62, ib63, ib64, ib65, ib66, ib67, ib68, ib69, ib70, ib71, ib72, ib73, ib74, ib75, ib76, ib77, ib78, ib79, ib80, ib81])
  have F1 : Fr [2444, 2445] [42, 43, 44, 45, 46, 47] σ (sf (si σ 2444 1) 42 T) := Fr_sf (Fr_si Fr_r (by decide)) (by decide)
  have g1 : gi (sf (si σ 2444 1) 42 T) 2444 = 1 := by simp only [↓reduceIte, okp_i, okp_r, okp_n, catS_nil, catS_cons, catV_i, catV_r, catV_l, Option.toList_some, Option.toList_none, List.cons_append, List.nil_append, gi_si, ga_si, gi_sa, ga_sa, gi_sl, ga_sl, gi_sf, ga_sf, gl_si, gl_sa, gl_sf, gl_sl, and_true, true_and, if_true, if_false, ite_true, ite_false, not_false_eq_true, not_true_eq_false, Nat.reduceEqDiff, reduceCtorEq, Nat.reduceLeDiff, Nat.reduceAdd, Nat.reduceMul, Nat.reduceLT, Int.reduceNeg, Int.reduceEq, Int.reduceLT, Int.reduceLE, eq_self, Nat.reduceSub, or_true, true_or, or_false, false_or, and_false, false_and, Int.reduceToNat, rc0, rc1, ib2, ib3, ib4, ib5, ib6, ib7, ib8, ib9, ib10, rc11, ib12, rc13, ib14, ib15, ib16, ib17, ib18, ib19, rc20, rc21, ib22, ib23, ib24, rc25, ib26, ib27, ib28, ib29, ib30, ib31, rc32, ib33, rc34, ib35, rc36, ib37, rc38, ib39, ib40, ib41, ib42, ib43, ib44, ib45, ib46, ib47, rc48, ib49, ib50, ib51, ib52, ib53, rc54, ib55, ib56, ib57, ib58, ib59, ib60, ib61, ib62, ib63, ib64, ib65, ib66, ib67, ib68, ib69, ib70, ib71, ib72, ib73, ib74, ib75, ib76, ib77, ib78, ib79, ib80, ib81]
  have g2 : ga (sf (si σ 2444 1) 42 T) 42 = T := by simp only [↓reduceIte, okp_i, okp_r, okp_n, catS_nil, catS_cons, catV_i, catV_r, catV_l, Option.toList_some, Option.toList_none, List.cons_append, List.nil_append, gi_si, ga_si, gi_sa, ga_sa, gi_sl, ga_sl, gi_sf, ga_sf, gl_si, gl_sa, gl_sf, gl_sl, and_true, true_and, if_true, if_false, ite_true, ite_false, not_false_eq_true, not_true_eq_false, Nat.reduceEqDiff, reduceCtorEq, Nat.reduceLeDiff, Nat.reduceAdd, Nat.reduceMul, Nat.reduceLT, Int.reduceNeg, Int.reduceEq, Int.reduceLT, Int.reduceLE, eq_self, Nat.reduceSub, or_true, true_or, or_false, false_or, and_false, false_and, Int.reduceToNat, rc0, rc1, ib2, ib3, ib4, ib5, ib6, ib7, ib8, ib9, ib10, rc11, ib12, rc13, ib14, ib15, ib16, ib17, ib18, ib19, rc20, rc21, ib22, ib23, ib24, rc25, ib26, ib27, ib28, ib29, ib30, ib31, rc32, ib33, rc34, ib35, rc36, ib37, rc38, ib39, ib40, ib41, ib42, ib43, ib44, ib45, ib46, ib47, rc48, ib49, ib50, ib51, ib52, ib53, rc54, ib55, ib56, ib57, ib58, ib59, ib60, ib61, ib62, ib63, ib64, ib65, ib66, ib67, ib68, ib69, ib70, ib71, ib72, ib73, ib74, ib75, ib76, ib77, ib78, ib79, ib80, ib81]
  generalize sf (si σ 2444 1) 42 T = σa at *
  simp only [w56_16, w56_17, ↓reduceIte, okp_i, okp_r, okp_n, catS_nil, catS_cons, catV_i, catV_r, catV_l, Option.toList_some, Option.toList_none, List.cons_append, List.nil_append, gi_si, ga_si, gi_sa, ga_sa, gi_sl, ga_sl, gi_sf, ga_sf, gl_si, gl_sa, gl_sf, gl_sl, and_true, true_and, if_true, if_false, ite_true, ite_false, not_false_eq_true, not_true_eq_false, Nat.reduceEqDiff, reduceCtorEq, Nat.reduceLeDiff, Nat.reduceAdd, Nat.reduceMul, Nat.reduceLT, Int.reduceNeg, Int.reduceEq, Int.reduceLT, Int.reduceLE, eq_self, Nat.reduceSub, or_true, true_or, or_false, false_or, and_false, false_and, Int.reduceToNat, rc0, rc1, ib2, ib3, ib4, ib5, ib6, ib7, ib8, ib9, ib10, rc11, ib12, rc13, ib14, ib15, ib16, ib17, ib18, ib19, rc20, rc21, ib22, ib23, ib24, rc25, ib26, ib27, ib28, ib29, ib30, ib31, rc32, ib33, rc34, ib35, rc36, ib37, rc38, ib39, ib40, ib41, ib42, ib43, ib44, ib45, ib46, ib47, rc48, ib49, ib50, ib51, ib52, ib53, rc54, ib55, ib56, ib57, ib58, ib59, ib60, ib61, ib62, ib63, ib64, ib65, ib66, ib67, ib68, ib69, ib70, ib71, ib72, ib73, ib74, ib75, ib76, ib77, ib78, ib79, ib80, ib81]
  refine S_share hP C1 ?_
  intro σ1 hF hl hcr
  rw [g2] at hl hcr
  have C2 := CH_Fr C1 hF
  have F2 : Fr [2444, 2445] [42, 43, 44, 45, 46, 47] σ σ1 := Fr_t F1 (Fr_m hF (by decide) (by decide))
  have g3 : gi σ1 2444 = 1 := by rw [hF.1 2444 (by decide)]; exact g1
  have g4 : ga σ1 42 = T := by rw [hF.2 42 (by decide)]; exact g2
  simp only [w56_20, w56_21, ↓reduceIte, okp_i, okp_r, okp_n, catS_nil, catS_cons, catV_i, catV_r, catV_l, Option.toList_some, Option.toList_none, List.cons_append, List.nil_append, gi_si, ga_si, gi_sa, ga_sa, gi_sl, ga_sl, gi_sf, ga_sf, gl_si, gl_sa, gl_sf, gl_sl, and_true, true_and, if_true, if_false, ite_true, ite_false, not_false_eq_true, not_true_eq_false, Nat.reduceEqDiff, reduceCtorEq, Nat.reduceLeDiff, Nat.reduceAdd, Nat.reduceMul, Nat.reduceLT, Int.reduceNeg, Int.reduceEq, Int.reduceLT, Int.reduceLE, eq_self, Nat.reduceSub, or_true, true_or, or_false, false_or, and_false, false_and, Int.reduceToNat, rc0, rc1, ib2, ib3, ib4, ib5, ib6, ib7, ib8, ib9, ib10, rc11, ib12, rc13, ib14, ib15, ib16, ib17, ib18, ib19, rc20, rc21, ib22, ib23, ib24, rc25, ib26, ib27, ib28, ib29, ib30, ib31, rc32, ib33, rc34, ib35, rc36, ib37, rc38, ib39, ib40, ib41, ib42, ib43, ib44, ib45, ib46, ib47, rc48, ib49, ib50, ib51, ib52, ib53, rc54, ib55, ib56, ib57, ib58, ib59, ib60, ib61, ib62, ib63, ib64, ib65, ib66, ib67, ib68, ib69, ib70, ib71, ib72, ib73, ib74, ib75, ib76, ib77, ib78, ib79, ib80, ib81]
  by_cases hb : (bstS T wA n m).1 < 1000000
  · rw [if_pos hb] at hl
    subst g4
    refine L_lea hP C2 hB hN hb hl (hcr hb) (q0 := (ga σ1 46, ga σ1 47)) ?_ m 0 σ1 (by omega) Fr_r rfl
    intro σ2 hF2 hQ
    have e42 : ga σ2 42 = ga σ1 42 := hF2.2 42 (by decide)
    have e45 : ga σ2 45 = ga σ1 45 := hF2.2 45 (by decide)
    have el : gi σ2 2445 = gi σ1 2445 := hF2.1 2445 (by decide)
    refine kk σ2 (Fr_t F2 (Fr_m hF2 (by decide) (by decide))) (by rw [hF2.1 2444 (by decide)]; exact g3) ?_
    have q46 : ga σ2 46 = (layA W gA gW (ga σ1 42) wA (fun g => (digF m n (bstS (ga σ1 42) wA n m).2 g : Int)) n m (ga σ1 46, ga σ1 47)).1 := by rw [← hQ]
    have q47 : ga σ2 47 = (layA W gA gW (ga σ1 42) wA (fun g => (digF m n (bstS (ga σ1 42) wA n m).2 g : Int)) n m (ga σ1 46, ga σ1 47)).2 := by rw [← hQ]
    rw [e42, e45, el, q46, q47]
    refine ⟨hN, by rw [if_pos hb]; exact hl, fun _ g hg => ⟨hcr hb g hg, fun q => ?_⟩⟩
    exact layA_ind hP hN (bst_AV hb) _ q m (Nat.le_refl m) g hg ⟨by omega, by have := bst_lt hb hg; omega⟩
  · rw [if_neg hb] at hl
    have P : PlanS W gA gW wA (ga σ1 42) (ga σ1 45) (ga σ1 46) (ga σ1 47) n m (gi σ1 2445) := by
      rw [g4]
      exact ⟨hN, by rw [if_neg hb]; exact hl, fun h => absurd h hb⟩
    have fin := kk σ1 F2 g3 P
    rw [w56_22]
    by_cases q : (m : Int) ≤ 0
    · simp only [w56_23, w56_24, w56_27, w56_49, w56_50, w56_53, ↓reduceIte, okp_i, okp_r, okp_n, catS_nil, catS_cons, catV_i, catV_r, catV_l, Option.toList_some, Option.toList_none, List.cons_append, List.nil_append, gi_si, ga_si, gi_sa, ga_sa, gi_sl, ga_sl, gi_sf, ga_sf, gl_si, gl_sa, gl_sf, gl_sl, and_true, true_and, if_true, if_false, ite_true, ite_false, not_false_eq_true, not_true_eq_false, Nat.reduceEqDiff, reduceCtorEq, Nat.reduceLeDiff, Nat.reduceAdd, Nat.reduceMul, Nat.reduceLT, Int.reduceNeg, Int.reduceEq, Int.reduceLT, Int.reduceLE, eq_self, Nat.reduceSub, or_true, true_or, or_false, false_or, and_false, false_and, Int.reduceToNat, rc0, rc1, ib2, ib3, ib4, ib5, ib6, ib7, ib8, ib9, ib10, rc11, ib12, rc13, ib14, ib15, ib16, ib17, ib18, ib19, rc20, rc21, ib22, ib23, ib24, rc25, ib26, ib27, ib28, ib29, ib30, ib31, rc32, ib33, rc34, ib35, rc36, ib37, rc38, ib39, ib40, ib41, ib42, ib43, ib44, ib45, ib46, ib47, rc48, ib49, ib50, ib51, ib52, ib53, rc54, ib55, ib56, ib57, ib58, ib59, ib60, ib61, ib62, ib63, ib64, ib65, ib66, ib67, ib68, ib69, ib70, ib71, ib72, ib73, ib74, ib75, ib76, ib77, ib78, ib79, ib80, ib81, C2.2.1, q]
      exact fin
    · simp only [w56_23, w56_24, w56_27, w56_30, w56_31, w56_34, w56_35, w56_49, w56_50, w56_53, ↓reduceIte, okp_i, okp_r, okp_n, catS_nil, catS_cons, catV_i, catV_r, catV_l, Option.toList_some, Option.toList_none, List.cons_append, List.nil_append, gi_si, ga_si, gi_sa, ga_sa, gi_sl, ga_sl, gi_sf, ga_sf, gl_si, gl_sa, gl_sf, gl_sl, and_true, true_and, if_true, if_false, ite_true, ite_false, not_false_eq_true, not_true_eq_false, Nat.reduceEqDiff, reduceCtorEq, Nat.reduceLeDiff, Nat.reduceAdd, Nat.reduceMul, Nat.reduceLT, Int.reduceNeg, Int.reduceEq, Int.reduceLT, Int.reduceLE, eq_self, Nat.reduceSub, or_true, true_or, or_false, false_or, and_false, false_and, Int.reduceToNat, rc0, rc1, ib2, ib3, ib4, ib5, ib6, ib7, ib8, ib9, ib10, rc11, ib12, rc13, ib14, ib15, ib16, ib17, ib18, ib19, rc20, rc21, ib22, ib23, ib24, rc25, ib26, ib27, ib28, ib29, ib30, ib31, rc32, ib33, rc34, ib35, rc36, ib37, rc38, ib39, ib40, ib41, ib42, ib43, ib44, ib45, ib46, ib47, rc48, ib49, ib50, ib51, ib52, ib53, rc54, ib55, ib56, ib57, ib58, ib59, ib60, ib61, ib62, ib63, ib64, ib65, ib66, ib67, ib68, ib69, ib70, ib71, ib72, ib73, ib74, ib75, ib76, ib77, ib78, ib79, ib80, ib81, C2.2.1, q, hl]
      rw [hl] at fin
      exact fin
end LEAST
