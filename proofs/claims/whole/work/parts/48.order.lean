/-! the plan: done and order -/
theorem eqI_Fr {K KI KA : List Nat} {σ σ' : Sto} (h : Fr KI KA σ σ') (hk : ∀ k ∈ K, k ∉ KI) : eqI K σ σ' := fun k q => h.1 k (hk k q)
theorem eqA_Fr {K KI KA : List Nat} {σ σ' : Sto} (h : Fr KI KA σ σ') (hk : ∀ k ∈ K, k ∉ KA) : eqA K σ σ' := fun k q => h.2 k (hk k q)
section ORD
variable {S : Scr} {σ : Sto} {post : Pst} {n m X : Nat} {W gA gW wA T : Nat → Int}
theorem PC_of (h : Inv σ) (hn : gi σ 3497 = (n : Int)) (hm : gi σ 3498 = (m : Int)) (hx : gi σ 3460 = (X : Int)) : PC n m X (ga σ 10) (ga σ 69) (ga σ 70) (ga σ 71) := by
  obtain ⟨hT, hA, hF, hP, hB, hE, hL, hS, hR, hO⟩ := h
  obtain ⟨t1, t2, t3, t4, t5, t6, t7, t8, t9, t10, t11⟩ := hT
  obtain ⟨s1, s2, s3, s4, s5, s6⟩ := hS
  refine ⟨by omega, by omega, by omega, fun g hg => ?_, fun w hw => ?_, fun x y hx hy => ⟨IsD_nn hF (fun s hs => ?_) hx hy, (hF x y hx hy).1⟩⟩
  · obtain ⟨-, -, a1, a2⟩ := s5 g (by omega)
    exact ⟨by omega, a2⟩
  · obtain ⟨-, a1⟩ := s6 w (by omega)
    omega
  · obtain ⟨-, -, -, -, -, -, -, u4, -⟩ := t11 s (by omega)
    omega
theorem CH_of (h : Inv σ) (hn : gi σ 3497 = (n : Int)) (hm : gi σ 3498 = (m : Int)) (hx : gi σ 3460 = (X : Int)) : CH n m X (ga σ 10) (ga σ 69) (ga σ 70) (ga σ 71) σ := by
  obtain ⟨hT, hA, hF, hP, hB, hE, hL, hS, hR, hO⟩ := h
  obtain ⟨t1, t2, t3, t4, t5, t6, t7, t8, t9, t10, t11⟩ := hT
  obtain ⟨s1, s2, s3, s4, s5, s6⟩ := hS
  refine ⟨by omega, by omega, by omega, fun g hg => ?_, fun w hw => ?_, fun x y _ _ => rfl⟩
  · obtain ⟨a1, a2, -⟩ := s5 g (by omega)
    exact ⟨a1, a2⟩
  · exact (s6 w (by omega)).1
theorem nat3 (h : Inv σ) : ∃ n m X : Nat, gi σ 3497 = (n : Int) ∧ gi σ 3498 = (m : Int) ∧ gi σ 3460 = (X : Int) := by
  obtain ⟨hT, hA, hF, hP, hB, hE, hL, hS, hR, hO⟩ := h
  obtain ⟨t1, t2, t3, t4, t5, t6, t7, t8, t9, t10, t11⟩ := hT
  obtain ⟨s1, s2, s3, s4, s5, s6⟩ := hS
  exact ⟨(gi σ 3497).toNat, (gi σ 3498).toNat, (gi σ 3460).toNat, by omega, by omega, by omega⟩
/-- the class's least minutes, behind the invariant -/
theorem S_leI (h : Inv σ) (kk : ∀ σ2, Inv σ2 → gi σ2 2444 = 1 → gi σ2 3497 = gi σ 3497 → gi σ2 2442 = gi σ 2442 → post (some (vi (gi σ2 2445))) σ2) : WP S 56 0 [some (vr 38), none] [] σ post := by
  rcases h.2.2.2.2.2.2.2.2.2.1 with h0 | h0
  · obtain ⟨n, m, X, hn, hm, hx⟩ := nat3 h
    refine S_least (PC_of h hn hm hx) (CH_of h hn hm hx) h0 ?_
    intro σ2 hF hp hPl
    have e1 := hF.1 3497 (by decide)
    have e2 := hF.1 3498 (by decide)
    have e10 := hF.2 10 (by decide)
    have e69 := hF.2 69 (by decide)
    have e70 := hF.2 70 (by decide)
    have e71 := hF.2 71 (by decide)
    refine kk σ2 ?_ hp e1 (hF.1 2442 (by decide))
    obtain ⟨hT, hA, hF', hP, hB, hE, hL, hS, hR, hO⟩ := h
    refine ⟨InvT_fr hT (eqI_Fr hF (by decide)) (eqA_Fr hF (by decide)), InvA_fr hA (eqI_Fr hF (by decide)) (eqA_Fr hF (by decide)), InvF_fr hF' (eqI_Fr hF (by decide)) (eqA_Fr hF (by decide)), InvP_fr hP (eqI_Fr hF (by decide)) (eqA_Fr hF (by decide)), InvB_fr hB (eqI_Fr hF (by decide)) (eqA_Fr hF (by decide)), InvE_fr hE (eqI_Fr hF (by decide)), InvL_fr hL (eqI_Fr hF (by decide)) (eqA_Fr hF (by decide)), InvS_fr hS (eqI_Fr hF (by decide)) (eqA_Fr hF (by decide)), InvR_fr hR (eqI_Fr hF (by decide)) (eqI_Fr hF (by decide)) (eqA_Fr hF (by decide)), Or.inr hp, fun _ => ?_⟩
    rw [e1, e2, e10, e69, e70, e71, hn, hm, Int.toNat_natCast, Int.toNat_natCast]
    exact hPl
  · have c : ¬ (1 : Int) = 0 := by decide
    simp only [w56_0, w56_1, w56_4, w56_49, w56_50, w56_53, ↓reduceIte, okp_i, okp_r, okp_n, catS_nil, catS_cons, catV_i, catV_r, catV_l, Option.toList_some, Option.toList_none, List.cons_append, List.nil_append, gi_si, ga_si, gi_sa, ga_sa, gi_sl, ga_sl, gi_sf, ga_sf, gl_si, gl_sa, gl_sf, gl_sl, and_true, true_and, if_true, if_false, ite_true, ite_false, not_false_eq_true, not_true_eq_false, Nat.reduceEqDiff, reduceCtorEq, Nat.reduceLeDiff, Nat.reduceAdd, Nat.reduceMul, Nat.reduceLT, Int.reduceNeg, Int.reduceEq, Int.reduceLT, Int.reduceLE, eq_self, Nat.reduceSub, or_true, true_or, or_false, false_or, and_false, false_and, Int.reduceToNat, rc0, rc1, ib2, ib3, ib4, ib5, ib6, ib7, ib8, ib9, ib10, rc11, ib12, rc13, ib14, ib15, ib16, ib17, ib18, ib19, rc20, rc21, ib22, ib23, ib24, rc25, ib26, ib27, ib28, ib29, ib30, ib31, rc32, ib33, rc34, ib35, rc36, ib37, rc38, ib39, ib40, ib41, ib42, ib43, ib44, ib45, ib46, ib47, rc48, ib49, ib50, ib51, ib52, ib53, rc54, ib55, ib56, ib57, ib58, ib59, ib60, ib61, ib62, ib63, ib64, ib65, ib66, ib67, ib68, ib69, ib70, ib71, ib72, ib73, ib74, ib75, ib76, ib77, ib78, ib79, ib80, ib81, h0, c]
    exact kk σ h h0 rfl rfl
theorem Inv_M {σ' : Sto} (h : Inv σ) (hF : Fr [] [68, 72, 73, 74, 75, 76] σ σ') : Inv σ' := by
  obtain ⟨hT, hA, hF', hP, hB, hE, hL, hS, hR, hO⟩ := h
  exact ⟨InvT_fr hT (eqI_Fr hF (by decide)) (eqA_Fr hF (by decide)), InvA_fr hA (eqI_Fr hF (by decide)) (eqA_Fr hF (by decide)), InvF_fr hF' (eqI_Fr hF (by decide)) (eqA_Fr hF (by decide)), InvP_fr hP (eqI_Fr hF (by decide)) (eqA_Fr hF (by decide)), InvB_fr hB (eqI_Fr hF (by decide)) (eqA_Fr hF (by decide)), InvE_fr hE (eqI_Fr hF (by decide)), InvL_fr hL (eqI_Fr hF (by decide)) (eqA_Fr hF (by decide)), InvS_fr hS (eqI_Fr hF (by decide)) (eqA_Fr hF (by decide)), InvR_fr hR (eqI_Fr hF (by decide)) (eqI_Fr hF (by decide)) (eqA_Fr hF (by decide)), InvO_fr hO (eqI_Fr hF (by decide)) (eqA_Fr hF (by decide))⟩
/-- the reference's part -/
theorem S_part (h : Inv σ) (hn : gi σ 3497 = (n : Int)) (hm : gi σ 3498 = (m : Int)) (hx : gi σ 3460 = (X : Int)) (hN : IsN (ga σ 10) (ga σ 69) (ga σ 70) (ga σ 71) n m T) (kk : ∀ σ1, Fr [] [68, 72, 73, 74, 75, 76] σ σ1 → (n ≠ 0 → m ≠ 0 → MH n m X (ga σ 10) (ga σ 69) (ga σ 70) (ga σ 71) σ1 ∧ TH n m (ga σ 69) (ga σ 71) T σ1 ∧ ((bstS T (ga σ 71) n m).1 < 1000000 → ∀ g, g < n → ga σ1 74 g = (digF m n (bstS T (ga σ 71) n m).2 g : Int))) → post (some (vi (bstS T (ga σ 71) n m).1)) σ1) : WP S 186 0 [some (vr 54), none, none, none, none, none] [] σ post := by
  have hP := PC_of h hn hm hx
  by_cases n0 : n = 0
  · have q : ((n : Int) = 0) = True := eq_true (by omega)
    simp only [w186_0, w186_1, w186_4, w186_7, w186_8, ↓reduceIte, okp_i, okp_r, okp_n, catS_nil, catS_cons, catV_i, catV_r, catV_l, Option.toList_some, Option.toList_none, List.cons_append, List.nil_append, gi_si, ga_si, gi_sa, ga_sa, gi_sl, ga_sl, gi_sf, ga_sf, gl_si, gl_sa, gl_sf, gl_sl, and_true, true_and, if_true, if_false, ite_true, ite_false, not_false_eq_true, not_true_eq_false, Nat.reduceEqDiff, reduceCtorEq, Nat.reduceLeDiff, Nat.reduceAdd, Nat.reduceMul, Nat.reduceLT, Int.reduceNeg, Int.reduceEq, Int.reduceLT, Int.reduceLE, eq_self, Nat.reduceSub, or_true, true_or, or_false, false_or, and_false, false_and, Int.reduceToNat, rc0, rc1, ib2, ib3, ib4, ib5, ib6, ib7, ib8, ib9, ib10, rc11, ib12, rc13, ib14, ib15, ib16, ib17, ib18, ib19, rc20, rc21, ib22, ib23, ib24, rc25, ib26, ib27, ib28, ib29, ib30, ib31, rc32, ib33, rc34, ib35, rc36, ib37, rc38, ib39, ib40, ib41, ib42, ib43, ib44, ib45, ib46, ib47, rc48, ib49, ib50, ib51, ib52, ib53, rc54, ib55, ib56, ib57, ib58, ib59, ib60, ib61, ib62, ib63, ib64, ib65, ib66, ib67, ib68, ib69, ib70, ib71, ib72, ib73, ib74, ib75, ib76, ib77, ib78, ib79, ib80, ib81, hn, q]
    have := kk σ Fr_r (fun h => absurd n0 h)
    subst n0
    rw [bst_n0 hP hN] at this
    exact this
  · have q : ¬ (n : Int) = 0 := by omega
    by_cases m0 : m = 0
    · have q2 : ((m : Int) = 0) = True := eq_true (by omega)
      simp only [w186_0, w186_1, w186_4, w186_9, w186_10, w186_13, w186_16, w186_19, ↓reduceIte, okp_i, okp_r, okp_n, catS_nil, catS_cons, catV_i, catV_r, catV_l, Option.toList_some, Option.toList_none, List.cons_append, List.nil_append, gi_si, ga_si, gi_sa, ga_sa, gi_sl, ga_sl, gi_sf, ga_sf, gl_si, gl_sa, gl_sf, gl_sl, and_true, true_and, if_true, if_false, ite_true, ite_false, not_false_eq_true, not_true_eq_false, Nat.reduceEqDiff, reduceCtorEq, Nat.reduceLeDiff, Nat.reduceAdd, Nat.reduceMul, Nat.reduceLT, Int.reduceNeg, Int.reduceEq, Int.reduceLT, Int.reduceLE, eq_self, Nat.reduceSub, or_true, true_or, or_false, false_or, and_false, false_and, Int.reduceToNat, rc0, rc1, ib2, ib3, ib4, ib5, ib6, ib7, ib8, ib9, ib10, rc11, ib12, rc13, ib14, ib15, ib16, ib17, ib18, ib19, rc20, rc21, ib22, ib23, ib24, rc25, ib26, ib27, ib28, ib29, ib30, ib31, rc32, ib33, rc34, ib35, rc36, ib37, rc38, ib39, ib40, ib41, ib42, ib43, ib44, ib45, ib46, ib47, rc48, ib49, ib50, ib51, ib52, ib53, rc54, ib55, ib56, ib57, ib58, ib59, ib60, ib61, ib62, ib63, ib64, ib65, ib66, ib67, ib68, ib69, ib70, ib71, ib72, ib73, ib74, ib75, ib76, ib77, ib78, ib79, ib80, ib81, hn, hm, q, q2]
      have := kk σ Fr_r (fun _ h => absurd m0 h)
      subst m0
      rw [bst_m0 n0] at this
      exact this
    · have q2 : ¬ (m : Int) = 0 := by omega
      simp only [w186_0, w186_1, w186_4, w186_9, w186_10, w186_13, w186_20, w186_21, w184_0, w184_1, ↓reduceIte, okp_i, okp_r, okp_n, catS_nil, catS_cons, catV_i, catV_r, catV_l, Option.toList_some, Option.toList_none, List.cons_append, List.nil_append, gi_si, ga_si, gi_sa, ga_sa, gi_sl, ga_sl, gi_sf, ga_sf, gl_si, gl_sa, gl_sf, gl_sl, and_true, true_and, if_true, if_false, ite_true, ite_false, not_false_eq_true, not_true_eq_false, Nat.reduceEqDiff, reduceCtorEq, Nat.reduceLeDiff, Nat.reduceAdd, Nat.reduceMul, Nat.reduceLT, Int.reduceNeg, Int.reduceEq, Int.reduceLT, Int.reduceLE, eq_self, Nat.reduceSub, or_true, true_or, or_false, false_or, and_false, false_and, Int.reduceToNat, rc0, rc1, ib2, ib3, ib4, ib5, ib6, ib7, ib8, ib9, ib10, rc11, ib12, rc13, ib14, ib15, ib16, ib17, ib18, ib19, rc20, rc21, ib22, ib23, ib24, rc25, ib26, ib27, ib28, ib29, ib30, ib31, rc32, ib33, rc34, ib35, rc36, ib37, rc38, ib39, ib40, ib41, ib42, ib43, ib44, ib45, ib46, ib47, rc48, ib49, ib50, ib51, ib52, ib53, rc54, ib55, ib56, ib57, ib58, ib59, ib60, ib61, ib62, ib63, ib64, ib65, ib66, ib67, ib68, ib69, ib70, ib71, ib72, ib73, ib74, ib75, ib76, ib77, ib78, ib79, ib80, ib81, hn, hm, q, q2]
      refine S_meas h ?_
      intro C hC
      have F1 : Fr [] [68, 72, 73, 74, 75, 76] σ (sf σ 68 C) := Fr_sf Fr_r (by decide)
      have M1 : MH n m X (ga σ 10) (ga σ 69) (ga σ 70) (ga σ 71) (sf σ 68 C) := by
        simp only [MH, ↓reduceIte, okp_i, okp_r, okp_n, catS_nil, catS_cons, catV_i, catV_r, catV_l, Option.toList_some, Option.toList_none, List.cons_append, List.nil_append, gi_si, ga_si, gi_sa, ga_sa, gi_sl, ga_sl, gi_sf, ga_sf, gl_si, gl_sa, gl_sf, gl_sl, and_true, true_and, if_true, if_false, ite_true, ite_false, not_false_eq_true, not_true_eq_false, Nat.reduceEqDiff, reduceCtorEq, Nat.reduceLeDiff, Nat.reduceAdd, Nat.reduceMul, Nat.reduceLT, Int.reduceNeg, Int.reduceEq, Int.reduceLT, Int.reduceLE, eq_self, Nat.reduceSub, or_true, true_or, or_false, false_or, and_false, false_and, Int.reduceToNat, rc0, rc1, ib2, ib3, ib4, ib5, ib6, ib7, ib8, ib9, ib10, rc11, ib12, rc13, ib14, ib15, ib16, ib17, ib18, ib19, rc20, rc21, ib22, ib23, ib24, rc25, ib26, ib27, ib28, ib29, ib30, ib31, rc32, ib33, rc34, ib35, rc36, ib37, rc38, ib39, ib40, ib41, ib42, ib43, ib44, ib45, ib46, ib47, rc48, ib49, ib50, ib51, ib52, ib53, rc54, ib55, ib56, ib57, ib58, ib59, ib60, ib61, ib62, ib63, ib64, ib65, ib66, ib67, ib68, ib69, ib70, ib71, ib72, ib73, ib74, ib75, ib76, ib77, ib78, ib79, ib80, ib81]
        exact ⟨hn, hm, hx, fun x y hx hy => IsD_uniq hC h.2.2.1 hx hy⟩
      generalize sf σ 68 C = σ1 at *
      try simp only [↓reduceIte, okp_i, okp_r, okp_n, catS_nil, catS_cons, catV_i, catV_r, catV_l, Option.toList_some, Option.toList_none, List.cons_append, List.nil_append, gi_si, ga_si, gi_sa, ga_sa, gi_sl, ga_sl, gi_sf, ga_sf, gl_si, gl_sa, gl_sf, gl_sl, and_true, true_and, if_true, if_false, ite_true, ite_false, not_false_eq_true, not_true_eq_false, Nat.reduceEqDiff, reduceCtorEq, Nat.reduceLeDiff, Nat.reduceAdd, Nat.reduceMul, Nat.reduceLT, Int.reduceNeg, Int.reduceEq, Int.reduceLT, Int.reduceLE, eq_self, Nat.reduceSub, or_true, true_or, or_false, false_or, and_false, false_and, Int.reduceToNat, rc0, rc1, ib2, ib3, ib4, ib5, ib6, ib7, ib8, ib9, ib10, rc11, ib12, rc13, ib14, ib15, ib16, ib17, ib18, ib19, rc20, rc21, ib22, ib23, ib24, rc25, ib26, ib27, ib28, ib29, ib30, ib31, rc32, ib33, rc34, ib35, rc36, ib37, rc38, ib39, ib40, ib41, ib42, ib43, ib44, ib45, ib46, ib47, rc48, ib49, ib50, ib51, ib52, ib53, rc54, ib55, ib56, ib57, ib58, ib59, ib60, ib61, ib62, ib63, ib64, ib65, ib66, ib67, ib68, ib69, ib70, ib71, ib72, ib73, ib74, ib75, ib76, ib77, ib78, ib79, ib80, ib81]
      refine S_reck4 hP M1 ?_
      intro T2 hN2 hB2
      have F2 : Fr [] [68, 72, 73, 74, 75, 76] σ (sf σ1 72 T2) := Fr_sf F1 (by decide)
      have M2 : MH n m X (ga σ 10) (ga σ 69) (ga σ 70) (ga σ 71) (sf σ1 72 T2) := MH_Fr (KI := []) (KA := [72]) M1 (Fr_sf Fr_r (by decide))
      have T3 : TH n m (ga σ 69) (ga σ 71) T (sf σ1 72 T2) := by
        intro s c hs hc
        simp only [↓reduceIte, okp_i, okp_r, okp_n, catS_nil, catS_cons, catV_i, catV_r, catV_l, Option.toList_some, Option.toList_none, List.cons_append, List.nil_append, gi_si, ga_si, gi_sa, ga_sa, gi_sl, ga_sl, gi_sf, ga_sf, gl_si, gl_sa, gl_sf, gl_sl, and_true, true_and, if_true, if_false, ite_true, ite_false, not_false_eq_true, not_true_eq_false, Nat.reduceEqDiff, reduceCtorEq, Nat.reduceLeDiff, Nat.reduceAdd, Nat.reduceMul, Nat.reduceLT, Int.reduceNeg, Int.reduceEq, Int.reduceLT, Int.reduceLE, eq_self, Nat.reduceSub, or_true, true_or, or_false, false_or, and_false, false_and, Int.reduceToNat, rc0, rc1, ib2, ib3, ib4, ib5, ib6, ib7, ib8, ib9, ib10, rc11, ib12, rc13, ib14, ib15, ib16, ib17, ib18, ib19, rc20, rc21, ib22, ib23, ib24, rc25, ib26, ib27, ib28, ib29, ib30, ib31, rc32, ib33, rc34, ib35, rc36, ib37, rc38, ib39, ib40, ib41, ib42, ib43, ib44, ib45, ib46, ib47, rc48, ib49, ib50, ib51, ib52, ib53, rc54, ib55, ib56, ib57, ib58, ib59, ib60, ib61, ib62, ib63, ib64, ib65, ib66, ib67, ib68, ib69, ib70, ib71, ib72, ib73, ib74, ib75, ib76, ib77, ib78, ib79, ib80, ib81]
        exact IsN_uniq hP hN hN2 s c hs hc
      generalize sf σ1 72 T2 = σ2 at *
      simp only [w186_24, w186_27, w186_28, w186_29, ↓reduceIte, okp_i, okp_r, okp_n, catS_nil, catS_cons, catV_i, catV_r, catV_l, Option.toList_some, Option.toList_none, List.cons_append, List.nil_append, gi_si, ga_si, gi_sa, ga_sa, gi_sl, ga_sl, gi_sf, ga_sf, gl_si, gl_sa, gl_sf, gl_sl, and_true, true_and, if_true, if_false, ite_true, ite_false, not_false_eq_true, not_true_eq_false, Nat.reduceEqDiff, reduceCtorEq, Nat.reduceLeDiff, Nat.reduceAdd, Nat.reduceMul, Nat.reduceLT, Int.reduceNeg, Int.reduceEq, Int.reduceLT, Int.reduceLE, eq_self, Nat.reduceSub, or_true, true_or, or_false, false_or, and_false, false_and, Int.reduceToNat, rc0, rc1, ib2, ib3, ib4, ib5, ib6, ib7, ib8, ib9, ib10, rc11, ib12, rc13, ib14, ib15, ib16, ib17, ib18, ib19, rc20, rc21, ib22, ib23, ib24, rc25, ib26, ib27, ib28, ib29, ib30, ib31, rc32, ib33, rc34, ib35, rc36, ib37, rc38, ib39, ib40, ib41, ib42, ib43, ib44, ib45, ib46, ib47, rc48, ib49, ib50, ib51, ib52, ib53, rc54, ib55, ib56, ib57, ib58, ib59, ib60, ib61, ib62, ib63, ib64, ib65, ib66, ib67, ib68, ib69, ib70, ib71, ib72, ib73, ib74, ib75, ib76, ib77, ib78, ib79, ib80, ib81]
      have L := L_pa0 (S := S) (σ := σ2) (post := post) M2.1 hP.1 (x1 := 1000000) (l3 := none) (l4 := none) (l5 := none) ?_ n 0 (ga σ2 73) (by omega) (fun g hg => absurd hg (Nat.not_lt_zero g))
      · rw [sf_id] at L
        exact L
      · intro C2 l2 hz
        have F3 : Fr [] [68, 72, 73, 74, 75, 76] σ (sf σ2 73 C2) := Fr_sf F2 (by decide)
        have M3 : MH n m X (ga σ 10) (ga σ 69) (ga σ 70) (ga σ 71) (sf σ2 73 C2) := MH_Fr (KI := []) (KA := [73]) M2 (Fr_sf Fr_r (by decide))
        have T4 : TH n m (ga σ 69) (ga σ 71) T (sf σ2 73 C2) := by
          intro s c hs hc
          simp only [↓reduceIte, okp_i, okp_r, okp_n, catS_nil, catS_cons, catV_i, catV_r, catV_l, Option.toList_some, Option.toList_none, List.cons_append, List.nil_append, gi_si, ga_si, gi_sa, ga_sa, gi_sl, ga_sl, gi_sf, ga_sf, gl_si, gl_sa, gl_sf, gl_sl, and_true, true_and, if_true, if_false, ite_true, ite_false, not_false_eq_true, not_true_eq_false, Nat.reduceEqDiff, reduceCtorEq, Nat.reduceLeDiff, Nat.reduceAdd, Nat.reduceMul, Nat.reduceLT, Int.reduceNeg, Int.reduceEq, Int.reduceLT, Int.reduceLE, eq_self, Nat.reduceSub, or_true, true_or, or_false, false_or, and_false, false_and, Int.reduceToNat, rc0, rc1, ib2, ib3, ib4, ib5, ib6, ib7, ib8, ib9, ib10, rc11, ib12, rc13, ib14, ib15, ib16, ib17, ib18, ib19, rc20, rc21, ib22, ib23, ib24, rc25, ib26, ib27, ib28, ib29, ib30, ib31, rc32, ib33, rc34, ib35, rc36, ib37, rc38, ib39, ib40, ib41, ib42, ib43, ib44, ib45, ib46, ib47, rc48, ib49, ib50, ib51, ib52, ib53, rc54, ib55, ib56, ib57, ib58, ib59, ib60, ib61, ib62, ib63, ib64, ib65, ib66, ib67, ib68, ib69, ib70, ib71, ib72, ib73, ib74, ib75, ib76, ib77, ib78, ib79, ib80, ib81]
          exact T3 s c hs hc
        have z3 : ∀ g, g < n → ga (sf σ2 73 C2) 73 g = (digF m n 0 g : Int) := fun g hg => by
          simp only [↓reduceIte, okp_i, okp_r, okp_n, catS_nil, catS_cons, catV_i, catV_r, catV_l, Option.toList_some, Option.toList_none, List.cons_append, List.nil_append, gi_si, ga_si, gi_sa, ga_sa, gi_sl, ga_sl, gi_sf, ga_sf, gl_si, gl_sa, gl_sf, gl_sl, and_true, true_and, if_true, if_false, ite_true, ite_false, not_false_eq_true, not_true_eq_false, Nat.reduceEqDiff, reduceCtorEq, Nat.reduceLeDiff, Nat.reduceAdd, Nat.reduceMul, Nat.reduceLT, Int.reduceNeg, Int.reduceEq, Int.reduceLT, Int.reduceLE, eq_self, Nat.reduceSub, or_true, true_or, or_false, false_or, and_false, false_and, Int.reduceToNat, rc0, rc1, ib2, ib3, ib4, ib5, ib6, ib7, ib8, ib9, ib10, rc11, ib12, rc13, ib14, ib15, ib16, ib17, ib18, ib19, rc20, rc21, ib22, ib23, ib24, rc25, ib26, ib27, ib28, ib29, ib30, ib31, rc32, ib33, rc34, ib35, rc36, ib37, rc38, ib39, ib40, ib41, ib42, ib43, ib44, ib45, ib46, ib47, rc48, ib49, ib50, ib51, ib52, ib53, rc54, ib55, ib56, ib57, ib58, ib59, ib60, ib61, ib62, ib63, ib64, ib65, ib66, ib67, ib68, ib69, ib70, ib71, ib72, ib73, ib74, ib75, ib76, ib77, ib78, ib79, ib80, ib81]
          rw [hz g hg, dg_z]
          rfl
        generalize sf σ2 73 C2 = σ3 at *
        simp only [w186_51, w186_52, ↓reduceIte, okp_i, okp_r, okp_n, catS_nil, catS_cons, catV_i, catV_r, catV_l, Option.toList_some, Option.toList_none, List.cons_append, List.nil_append, gi_si, ga_si, gi_sa, ga_sa, gi_sl, ga_sl, gi_sf, ga_sf, gl_si, gl_sa, gl_sf, gl_sl, and_true, true_and, if_true, if_false, ite_true, ite_false, not_false_eq_true, not_true_eq_false, Nat.reduceEqDiff, reduceCtorEq, Nat.reduceLeDiff, Nat.reduceAdd, Nat.reduceMul, Nat.reduceLT, Int.reduceNeg, Int.reduceEq, Int.reduceLT, Int.reduceLE, eq_self, Nat.reduceSub, or_true, true_or, or_false, false_or, and_false, false_and, Int.reduceToNat, rc0, rc1, ib2, ib3, ib4, ib5, ib6, ib7, ib8, ib9, ib10, rc11, ib12, rc13, ib14, ib15, ib16, ib17, ib18, ib19, rc20, rc21, ib22, ib23, ib24, rc25, ib26, ib27, ib28, ib29, ib30, ib31, rc32, ib33, rc34, ib35, rc36, ib37, rc38, ib39, ib40, ib41, ib42, ib43, ib44, ib45, ib46, ib47, rc48, ib49, ib50, ib51, ib52, ib53, rc54, ib55, ib56, ib57, ib58, ib59, ib60, ib61, ib62, ib63, ib64, ib65, ib66, ib67, ib68, ib69, ib70, ib71, ib72, ib73, ib74, ib75, ib76, ib77, ib78, ib79, ib80, ib81]
        have mp : 0 < m ^ n := Nat.pow_pos (by omega)
        refine L_part hP M3 T4 (by omega) ?_ (m ^ n - 1) 0 σ3 _ _ _ (by omega) Fr_r z3 (fun hb => ?_)
        · intro σ4 hF4 hb4
          refine kk σ4 (Fr_t F3 (Fr_m hF4 (by decide) (by decide))) (fun _ _ => ⟨MH_Fr M3 hF4, fun s c hs hc => ?_, hb4⟩)
          rw [hF4.2 72 (by decide)]
          exact T4 s c hs hc
        · simp only [bestF] at hb
          exact absurd hb (by decide)
theorem op_done (h : Inv σ) : OpI Inv S 126 187 [some (vr 0)] [some (vr 54), none] σ := by
  unfold OpI
  simp only [w126_0, w126_1, w126_4, w126_7, ↓reduceIte, okp_i, okp_r, okp_n, catS_nil, catS_cons, catV_i, catV_r, catV_l, Option.toList_some, Option.toList_none, List.cons_append, List.nil_append, gi_si, ga_si, gi_sa, ga_sa, gi_sl, ga_sl, gi_sf, ga_sf, gl_si, gl_sa, gl_sf, gl_sl, and_true, true_and, if_true, if_false, ite_true, ite_false, not_false_eq_true, not_true_eq_false, Nat.reduceEqDiff, reduceCtorEq, Nat.reduceLeDiff, Nat.reduceAdd, Nat.reduceMul, Nat.reduceLT, Int.reduceNeg, Int.reduceEq, Int.reduceLT, Int.reduceLE, eq_self, Nat.reduceSub, or_true, true_or, or_false, false_or, and_false, false_and, Int.reduceToNat, rc0, rc1, ib2, ib3, ib4, ib5, ib6, ib7, ib8, ib9, ib10, rc11, ib12, rc13, ib14, ib15, ib16, ib17, ib18, ib19, rc20, rc21, ib22, ib23, ib24, rc25, ib26, ib27, ib28, ib29, ib30, ib31, rc32, ib33, rc34, ib35, rc36, ib37, rc38, ib39, ib40, ib41, ib42, ib43, ib44, ib45, ib46, ib47, rc48, ib49, ib50, ib51, ib52, ib53, rc54, ib55, ib56, ib57, ib58, ib59, ib60, ib61, ib62, ib63, ib64, ib65, ib66, ib67, ib68, ib69, ib70, ib71, ib72, ib73, ib74, ib75, ib76, ib77, ib78, ib79, ib80, ib81]
  refine S_leI h ?_
  intro σ2 h2 hp e1 e2
  simp only [w126_0, w126_1, w126_4, w126_7, ↓reduceIte, okp_i, okp_r, okp_n, catS_nil, catS_cons, catV_i, catV_r, catV_l, Option.toList_some, Option.toList_none, List.cons_append, List.nil_append, gi_si, ga_si, gi_sa, ga_sa, gi_sl, ga_sl, gi_sf, ga_sf, gl_si, gl_sa, gl_sf, gl_sl, and_true, true_and, if_true, if_false, ite_true, ite_false, not_false_eq_true, not_true_eq_false, Nat.reduceEqDiff, reduceCtorEq, Nat.reduceLeDiff, Nat.reduceAdd, Nat.reduceMul, Nat.reduceLT, Int.reduceNeg, Int.reduceEq, Int.reduceLT, Int.reduceLE, eq_self, Nat.reduceSub, or_true, true_or, or_false, false_or, and_false, false_and, Int.reduceToNat, rc0, rc1, ib2, ib3, ib4, ib5, ib6, ib7, ib8, ib9, ib10, rc11, ib12, rc13, ib14, ib15, ib16, ib17, ib18, ib19, rc20, rc21, ib22, ib23, ib24, rc25, ib26, ib27, ib28, ib29, ib30, ib31, rc32, ib33, rc34, ib35, rc36, ib37, rc38, ib39, ib40, ib41, ib42, ib43, ib44, ib45, ib46, ib47, rc48, ib49, ib50, ib51, ib52, ib53, rc54, ib55, ib56, ib57, ib58, ib59, ib60, ib61, ib62, ib63, ib64, ib65, ib66, ib67, ib68, ib69, ib70, ib71, ib72, ib73, ib74, ib75, ib76, ib77, ib78, ib79, ib80, ib81]
  refine ⟨_, rfl, ?_⟩
  obtain ⟨n, m, X, hn, hm, hx⟩ := nat3 h2
  obtain ⟨p1, p2, p3⟩ := h2.2.2.2.2.2.2.2.2.2.2 hp
  rw [hn, hm, Int.toNat_natCast, Int.toNat_natCast] at p1 p2
  simp only [w187_0, w187_1, ↓reduceIte, okp_i, okp_r, okp_n, catS_nil, catS_cons, catV_i, catV_r, catV_l, Option.toList_some, Option.toList_none, List.cons_append, List.nil_append, gi_si, ga_si, gi_sa, ga_sa, gi_sl, ga_sl, gi_sf, ga_sf, gl_si, gl_sa, gl_sf, gl_sl, and_true, true_and, if_true, if_false, ite_true, ite_false, not_false_eq_true, not_true_eq_false, Nat.reduceEqDiff, reduceCtorEq, Nat.reduceLeDiff, Nat.reduceAdd, Nat.reduceMul, Nat.reduceLT, Int.reduceNeg, Int.reduceEq, Int.reduceLT, Int.reduceLE, eq_self, Nat.reduceSub, or_true, true_or, or_false, false_or, and_false, false_and, Int.reduceToNat, rc0, rc1, ib2, ib3, ib4, ib5, ib6, ib7, ib8, ib9, ib10, rc11, ib12, rc13, ib14, ib15, ib16, ib17, ib18, ib19, rc20, rc21, ib22, ib23, ib24, rc25, ib26, ib27, ib28, ib29, ib30, ib31, rc32, ib33, rc34, ib35, rc36, ib37, rc38, ib39, ib40, ib41, ib42, ib43, ib44, ib45, ib46, ib47, rc48, ib49, ib50, ib51, ib52, ib53, rc54, ib55, ib56, ib57, ib58, ib59, ib60, ib61, ib62, ib63, ib64, ib65, ib66, ib67, ib68, ib69, ib70, ib71, ib72, ib73, ib74, ib75, ib76, ib77, ib78, ib79, ib80, ib81]
  refine S_part h2 hn hm hx p1 ?_
  intro σ3 hF _
  rw [p2]
  by_cases q : (bstS (ga σ2 42) (ga σ2 71) n m).1 < 1000000
  · have q' : ¬ 1000000 ≤ (bstS (ga σ2 42) (ga σ2 71) n m).1 := by omega
    simp only [w187_0, w187_1, w187_4, w187_5, w187_6, w187_9, w187_12, w187_13, w187_16, w187_17, ↓reduceIte, okp_i, okp_r, okp_n, catS_nil, catS_cons, catV_i, catV_r, catV_l, Option.toList_some, Option.toList_none, List.cons_append, List.nil_append, gi_si, ga_si, gi_sa, ga_sa, gi_sl, ga_sl, gi_sf, ga_sf, gl_si, gl_sa, gl_sf, gl_sl, and_true, true_and, if_true, if_false, ite_true, ite_false, not_false_eq_true, not_true_eq_false, Nat.reduceEqDiff, reduceCtorEq, Nat.reduceLeDiff, Nat.reduceAdd, Nat.reduceMul, Nat.reduceLT, Int.reduceNeg, Int.reduceEq, Int.reduceLT, Int.reduceLE, eq_self, Nat.reduceSub, or_true, true_or, or_false, false_or, and_false, false_and, Int.reduceToNat, rc0, rc1, ib2, ib3, ib4, ib5, ib6, ib7, ib8, ib9, ib10, rc11, ib12, rc13, ib14, ib15, ib16, ib17, ib18, ib19, rc20, rc21, ib22, ib23, ib24, rc25, ib26, ib27, ib28, ib29, ib30, ib31, rc32, ib33, rc34, ib35, rc36, ib37, rc38, ib39, ib40, ib41, ib42, ib43, ib44, ib45, ib46, ib47, rc48, ib49, ib50, ib51, ib52, ib53, rc54, ib55, ib56, ib57, ib58, ib59, ib60, ib61, ib62, ib63, ib64, ib65, ib66, ib67, ib68, ib69, ib70, ib71, ib72, ib73, ib74, ib75, ib76, ib77, ib78, ib79, ib80, ib81, q, q']
    exact Inv_M h2 hF
  · have q' : 1000000 ≤ (bstS (ga σ2 42) (ga σ2 71) n m).1 := by omega
    simp only [w187_0, w187_1, w187_4, w187_5, w187_6, w187_9, w187_12, w187_13, w187_16, w187_17, ↓reduceIte, okp_i, okp_r, okp_n, catS_nil, catS_cons, catV_i, catV_r, catV_l, Option.toList_some, Option.toList_none, List.cons_append, List.nil_append, gi_si, ga_si, gi_sa, ga_sa, gi_sl, ga_sl, gi_sf, ga_sf, gl_si, gl_sa, gl_sf, gl_sl, and_true, true_and, if_true, if_false, ite_true, ite_false, not_false_eq_true, not_true_eq_false, Nat.reduceEqDiff, reduceCtorEq, Nat.reduceLeDiff, Nat.reduceAdd, Nat.reduceMul, Nat.reduceLT, Int.reduceNeg, Int.reduceEq, Int.reduceLT, Int.reduceLE, eq_self, Nat.reduceSub, or_true, true_or, or_false, false_or, and_false, false_and, Int.reduceToNat, rc0, rc1, ib2, ib3, ib4, ib5, ib6, ib7, ib8, ib9, ib10, rc11, ib12, rc13, ib14, ib15, ib16, ib17, ib18, ib19, rc20, rc21, ib22, ib23, ib24, rc25, ib26, ib27, ib28, ib29, ib30, ib31, rc32, ib33, rc34, ib35, rc36, ib37, rc38, ib39, ib40, ib41, ib42, ib43, ib44, ib45, ib46, ib47, rc48, ib49, ib50, ib51, ib52, ib53, rc54, ib55, ib56, ib57, ib58, ib59, ib60, ib61, ib62, ib63, ib64, ib65, ib66, ib67, ib68, ib69, ib70, ib71, ib72, ib73, ib74, ib75, ib76, ib77, ib78, ib79, ib80, ib81, q, q']
    exact Inv_M h2 hF
end ORD
