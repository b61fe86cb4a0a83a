/-! the class's search: its start, its end -/
section SEEK2
variable {S : Scr} {σ σ0 : Sto} {post : Pst} {kind frm to beg x st : Int}
theorem S_setOut (hT0 : InvT σ0) (hA0 : InvA σ0) (hB0 : InvB σ0) (hbeg : 0 ≤ beg ∧ beg ≤ 1439) {c : Nat} (hc8 : c < 8) (hK : SK σ0 kind (c : Int) to beg σ) (h60 : gi σ 2060 = -1) (h61 : gi σ 2061 = -1) (kk : ∀ σ' F, SK σ0 kind (c : Int) to beg σ' → gi σ' 2060 = -1 → GI σ0 kind (c : Int) to beg st 1 0 σ' F → VT σ0 kind σ' 35 2179 (witF beg) → VT σ0 kind σ' 37 2307 0 → post none σ') : WP S 74 0 [some (vr 32), none, none] [] σ post := by
  simp only [w74_0, w74_1, w74_4, w74_5, ↓reduceIte, okp_i, okp_r, okp_n, catS_nil, catS_cons, catV_i, catV_r, catV_l, Option.toList_some, Option.toList_none, List.cons_append, List.nil_append, gi_si, ga_si, gi_sa, ga_sa, gi_sl, ga_sl, gi_sf, ga_sf, gl_si, gl_sa, gl_sf, gl_sl, and_true, true_and, if_true, if_false, ite_true, ite_false, not_false_eq_true, not_true_eq_false, Nat.reduceEqDiff, reduceCtorEq, Nat.reduceLeDiff, Nat.reduceAdd, Nat.reduceMul, Nat.reduceLT, Int.reduceNeg, Int.reduceEq, Int.reduceLT, Int.reduceLE, eq_self, Nat.reduceSub, or_true, true_or, or_false, false_or, and_false, false_and, Int.reduceToNat, rc0, rc1, ib2, ib3, ib4, ib5, ib6, ib7, ib8, ib9, ib10, rc11, ib12, rc13, ib14, ib15, ib16, ib17, ib18, ib19, rc20, rc21, ib22, ib23, ib24, rc25, ib26, ib27, ib28, ib29, ib30, ib31, rc32, ib33, rc34, ib35, rc36, ib37, rc38, ib39, ib40, ib41, ib42, ib43, ib44, ib45, ib46, ib47, rc48, ib49, ib50, ib51, ib52, ib53, rc54, ib55, ib56, ib57, ib58, ib59, ib60, ib61, ib62, ib63, ib64, ib65, ib66, ib67, ib68, ib69, ib70, ib71, ib72, ib73, ib74, ib75, ib76, ib77, ib78, ib79, ib80, ib81]
  refine S_fill33 ?_
  intro C hC0
  simp only [w74_0, w74_1, w74_4, w74_5, w74_8, w74_9, w74_10, w74_13, w74_14, w74_15, w74_18, w74_19, w74_22, w74_25, w74_26, w74_29, w74_33, w74_36, w74_37, w74_40, w74_41, w74_44, w74_47, w74_48, w74_50, w74_51, w74_54, w74_55, w74_58, w74_61, w74_64, w74_65, w74_68, w74_69, w74_72, w74_73, w74_76, w74_77, w74_78, w74_79, w74_80, w74_81, w74_84, w74_85, w74_88, w74_89, w74_92, w74_95, w74_98, w85_0, w85_1, w85_2, w85_2b, w85_5, ↓reduceIte, okp_i, okp_r, okp_n, catS_nil, catS_cons, catV_i, catV_r, catV_l, Option.toList_some, Option.toList_none, List.cons_append, List.nil_append, gi_si, ga_si, gi_sa, ga_sa, gi_sl, ga_sl, gi_sf, ga_sf, gl_si, gl_sa, gl_sf, gl_sl, and_true, true_and, if_true, if_false, ite_true, ite_false, not_false_eq_true, not_true_eq_false, Nat.reduceEqDiff, reduceCtorEq, Nat.reduceLeDiff, Nat.reduceAdd, Nat.reduceMul, Nat.reduceLT, Int.reduceNeg, Int.reduceEq, Int.reduceLT, Int.reduceLE, eq_self, Nat.reduceSub, or_true, true_or, or_false, false_or, and_false, false_and, Int.reduceToNat, rc0, rc1, ib2, ib3, ib4, ib5, ib6, ib7, ib8, ib9, ib10, rc11, ib12, rc13, ib14, ib15, ib16, ib17, ib18, ib19, rc20, rc21, ib22, ib23, ib24, rc25, ib26, ib27, ib28, ib29, ib30, ib31, rc32, ib33, rc34, ib35, rc36, ib37, rc38, ib39, ib40, ib41, ib42, ib43, ib44, ib45, ib46, ib47, rc48, ib49, ib50, ib51, ib52, ib53, rc54, ib55, ib56, ib57, ib58, ib59, ib60, ib61, ib62, ib63, ib64, ib65, ib66, ib67, ib68, ib69, ib70, ib71, ib72, ib73, ib74, ib75, ib76, ib77, ib78, ib79, ib80, ib81]
  have f1 : Fr [2053, 2054, 2179, 2307] [33] σ (si (si (si (si (sf σ 33 C) 2053 0) 2054 0) 2179 0) 2307 0) := Fr_si (Fr_si (Fr_si (Fr_si (Fr_sf Fr_r (by decide)) (by decide)) (by decide)) (by decide)) (by decide)
  have K1 := SK_Fr hK f1
  have e33 : ga (si (si (si (si (sf σ 33 C) 2053 0) 2054 0) 2179 0) 2307 0) 33 = C := by simp only [↓reduceIte, okp_i, okp_r, okp_n, catS_nil, catS_cons, catV_i, catV_r, catV_l, Option.toList_some, Option.toList_none, List.cons_append, List.nil_append, gi_si, ga_si, gi_sa, ga_sa, gi_sl, ga_sl, gi_sf, ga_sf, gl_si, gl_sa, gl_sf, gl_sl, and_true, true_and, if_true, if_false, ite_true, ite_false, not_false_eq_true, not_true_eq_false, Nat.reduceEqDiff, reduceCtorEq, Nat.reduceLeDiff, Nat.reduceAdd, Nat.reduceMul, Nat.reduceLT, Int.reduceNeg, Int.reduceEq, Int.reduceLT, Int.reduceLE, eq_self, Nat.reduceSub, or_true, true_or, or_false, false_or, and_false, false_and, Int.reduceToNat, rc0, rc1, ib2, ib3, ib4, ib5, ib6, ib7, ib8, ib9, ib10, rc11, ib12, rc13, ib14, ib15, ib16, ib17, ib18, ib19, rc20, rc21, ib22, ib23, ib24, rc25, ib26, ib27, ib28, ib29, ib30, ib31, rc32, ib33, rc34, ib35, rc36, ib37, rc38, ib39, ib40, ib41, ib42, ib43, ib44, ib45, ib46, ib47, rc48, ib49, ib50, ib51, ib52, ib53, rc54, ib55, ib56, ib57, ib58, ib59, ib60, ib61, ib62, ib63, ib64, ib65, ib66, ib67, ib68, ib69, ib70, ib71, ib72, ib73, ib74, ib75, ib76, ib77, ib78, ib79, ib80, ib81]
  have e53 : gi (si (si (si (si (sf σ 33 C) 2053 0) 2054 0) 2179 0) 2307 0) 2053 = 0 := by simp only [↓reduceIte, okp_i, okp_r, okp_n, catS_nil, catS_cons, catV_i, catV_r, catV_l, Option.toList_some, Option.toList_none, List.cons_append, List.nil_append, gi_si, ga_si, gi_sa, ga_sa, gi_sl, ga_sl, gi_sf, ga_sf, gl_si, gl_sa, gl_sf, gl_sl, and_true, true_and, if_true, if_false, ite_true, ite_false, not_false_eq_true, not_true_eq_false, Nat.reduceEqDiff, reduceCtorEq, Nat.reduceLeDiff, Nat.reduceAdd, Nat.reduceMul, Nat.reduceLT, Int.reduceNeg, Int.reduceEq, Int.reduceLT, Int.reduceLE, eq_self, Nat.reduceSub, or_true, true_or, or_false, false_or, and_false, false_and, Int.reduceToNat, rc0, rc1, ib2, ib3, ib4, ib5, ib6, ib7, ib8, ib9, ib10, rc11, ib12, rc13, ib14, ib15, ib16, ib17, ib18, ib19, rc20, rc21, ib22, ib23, ib24, rc25, ib26, ib27, ib28, ib29, ib30, ib31, rc32, ib33, rc34, ib35, rc36, ib37, rc38, ib39, ib40, ib41, ib42, ib43, ib44, ib45, ib46, ib47, rc48, ib49, ib50, ib51, ib52, ib53, rc54, ib55, ib56, ib57, ib58, ib59, ib60, ib61, ib62, ib63, ib64, ib65, ib66, ib67, ib68, ib69, ib70, ib71, ib72, ib73, ib74, ib75, ib76, ib77, ib78, ib79, ib80, ib81]
  have e54 : gi (si (si (si (si (sf σ 33 C) 2053 0) 2054 0) 2179 0) 2307 0) 2054 = 0 := by simp only [↓reduceIte, okp_i, okp_r, okp_n, catS_nil, catS_cons, catV_i, catV_r, catV_l, Option.toList_some, Option.toList_none, List.cons_append, List.nil_append, gi_si, ga_si, gi_sa, ga_sa, gi_sl, ga_sl, gi_sf, ga_sf, gl_si, gl_sa, gl_sf, gl_sl, and_true, true_and, if_true, if_false, ite_true, ite_false, not_false_eq_true, not_true_eq_false, Nat.reduceEqDiff, reduceCtorEq, Nat.reduceLeDiff, Nat.reduceAdd, Nat.reduceMul, Nat.reduceLT, Int.reduceNeg, Int.reduceEq, Int.reduceLT, Int.reduceLE, eq_self, Nat.reduceSub, or_true, true_or, or_false, false_or, and_false, false_and, Int.reduceToNat, rc0, rc1, ib2, ib3, ib4, ib5, ib6, ib7, ib8, ib9, ib10, rc11, ib12, rc13, ib14, ib15, ib16, ib17, ib18, ib19, rc20, rc21, ib22, ib23, ib24, rc25, ib26, ib27, ib28, ib29, ib30, ib31, rc32, ib33, rc34, ib35, rc36, ib37, rc38, ib39, ib40, ib41, ib42, ib43, ib44, ib45, ib46, ib47, rc48, ib49, ib50, ib51, ib52, ib53, rc54, ib55, ib56, ib57, ib58, ib59, ib60, ib61, ib62, ib63, ib64, ib65, ib66, ib67, ib68, ib69, ib70, ib71, ib72, ib73, ib74, ib75, ib76, ib77, ib78, ib79, ib80, ib81]
  have e79 : gi (si (si (si (si (sf σ 33 C) 2053 0) 2054 0) 2179 0) 2307 0) 2179 = 0 := by simp only [↓reduceIte, okp_i, okp_r, okp_n, catS_nil, catS_cons, catV_i, catV_r, catV_l, Option.toList_some, Option.toList_none, List.cons_append, List.nil_append, gi_si, ga_si, gi_sa, ga_sa, gi_sl, ga_sl, gi_sf, ga_sf, gl_si, gl_sa, gl_sf, gl_sl, and_true, true_and, if_true, if_false, ite_true, ite_false, not_false_eq_true, not_true_eq_false, Nat.reduceEqDiff, reduceCtorEq, Nat.reduceLeDiff, Nat.reduceAdd, Nat.reduceMul, Nat.reduceLT, Int.reduceNeg, Int.reduceEq, Int.reduceLT, Int.reduceLE, eq_self, Nat.reduceSub, or_true, true_or, or_false, false_or, and_false, false_and, Int.reduceToNat, rc0, rc1, ib2, ib3, ib4, ib5, ib6, ib7, ib8, ib9, ib10, rc11, ib12, rc13, ib14, ib15, ib16, ib17, ib18, ib19, rc20, rc21, ib22, ib23, ib24, rc25, ib26, ib27, ib28, ib29, ib30, ib31, rc32, ib33, rc34, ib35, rc36, ib37, rc38, ib39, ib40, ib41, ib42, ib43, ib44, ib45, ib46, ib47, rc48, ib49, ib50, ib51, ib52, ib53, rc54, ib55, ib56, ib57, ib58, ib59, ib60, ib61, ib62, ib63, ib64, ib65, ib66, ib67, ib68, ib69, ib70, ib71, ib72, ib73, ib74, ib75, ib76, ib77, ib78, ib79, ib80, ib81]
  have e07 : gi (si (si (si (si (sf σ 33 C) 2053 0) 2054 0) 2179 0) 2307 0) 2307 = 0 := by simp only [↓reduceIte, okp_i, okp_r, okp_n, catS_nil, catS_cons, catV_i, catV_r, catV_l, Option.toList_some, Option.toList_none, List.cons_append, List.nil_append, gi_si, ga_si, gi_sa, ga_sa, gi_sl, ga_sl, gi_sf, ga_sf, gl_si, gl_sa, gl_sf, gl_sl, and_true, true_and, if_true, if_false, ite_true, ite_false, not_false_eq_true, not_true_eq_false, Nat.reduceEqDiff, reduceCtorEq, Nat.reduceLeDiff, Nat.reduceAdd, Nat.reduceMul, Nat.reduceLT, Int.reduceNeg, Int.reduceEq, Int.reduceLT, Int.reduceLE, eq_self, Nat.reduceSub, or_true, true_or, or_false, false_or, and_false, false_and, Int.reduceToNat, rc0, rc1, ib2, ib3, ib4, ib5, ib6, ib7, ib8, ib9, ib10, rc11, ib12, rc13, ib14, ib15, ib16, ib17, ib18, ib19, rc20, rc21, ib22, ib23, ib24, rc25, ib26, ib27, ib28, ib29, ib30, ib31, rc32, ib33, rc34, ib35, rc36, ib37, rc38, ib39, ib40, ib41, ib42, ib43, ib44, ib45, ib46, ib47, rc48, ib49, ib50, ib51, ib52, ib53, rc54, ib55, ib56, ib57, ib58, ib59, ib60, ib61, ib62, ib63, ib64, ib65, ib66, ib67, ib68, ib69, ib70, ib71, ib72, ib73, ib74, ib75, ib76, ib77, ib78, ib79, ib80, ib81]
  have m60 : gi (si (si (si (si (sf σ 33 C) 2053 0) 2054 0) 2179 0) 2307 0) 2060 = -1 := by simp only [↓reduceIte, okp_i, okp_r, okp_n, catS_nil, catS_cons, catV_i, catV_r, catV_l, Option.toList_some, Option.toList_none, List.cons_append, List.nil_append, gi_si, ga_si, gi_sa, ga_sa, gi_sl, ga_sl, gi_sf, ga_sf, gl_si, gl_sa, gl_sf, gl_sl, and_true, true_and, if_true, if_false, ite_true, ite_false, not_false_eq_true, not_true_eq_false, Nat.reduceEqDiff, reduceCtorEq, Nat.reduceLeDiff, Nat.reduceAdd, Nat.reduceMul, Nat.reduceLT, Int.reduceNeg, Int.reduceEq, Int.reduceLT, Int.reduceLE, eq_self, Nat.reduceSub, or_true, true_or, or_false, false_or, and_false, false_and, Int.reduceToNat, rc0, rc1, ib2, ib3, ib4, ib5, ib6, ib7, ib8, ib9, ib10, rc11, ib12, rc13, ib14, ib15, ib16, ib17, ib18, ib19, rc20, rc21, ib22, ib23, ib24, rc25, ib26, ib27, ib28, ib29, ib30, ib31, rc32, ib33, rc34, ib35, rc36, ib37, rc38, ib39, ib40, ib41, ib42, ib43, ib44, ib45, ib46, ib47, rc48, ib49, ib50, ib51, ib52, ib53, rc54, ib55, ib56, ib57, ib58, ib59, ib60, ib61, ib62, ib63, ib64, ib65, ib66, ib67, ib68, ib69, ib70, ib71, ib72, ib73, ib74, ib75, ib76, ib77, ib78, ib79, ib80, ib81]; exact h60
  have m61 : gi (si (si (si (si (sf σ 33 C) 2053 0) 2054 0) 2179 0) 2307 0) 2061 = -1 := by simp only [↓reduceIte, okp_i, okp_r, okp_n, catS_nil, catS_cons, catV_i, catV_r, catV_l, Option.toList_some, Option.toList_none, List.cons_append, List.nil_append, gi_si, ga_si, gi_sa, ga_sa, gi_sl, ga_sl, gi_sf, ga_sf, gl_si, gl_sa, gl_sf, gl_sl, and_true, true_and, if_true, if_false, ite_true, ite_false, not_false_eq_true, not_true_eq_false, Nat.reduceEqDiff, reduceCtorEq, Nat.reduceLeDiff, Nat.reduceAdd, Nat.reduceMul, Nat.reduceLT, Int.reduceNeg, Int.reduceEq, Int.reduceLT, Int.reduceLE, eq_self, Nat.reduceSub, or_true, true_or, or_false, false_or, and_false, false_and, Int.reduceToNat, rc0, rc1, ib2, ib3, ib4, ib5, ib6, ib7, ib8, ib9, ib10, rc11, ib12, rc13, ib14, ib15, ib16, ib17, ib18, ib19, rc20, rc21, ib22, ib23, ib24, rc25, ib26, ib27, ib28, ib29, ib30, ib31, rc32, ib33, rc34, ib35, rc36, ib37, rc38, ib39, ib40, ib41, ib42, ib43, ib44, ib45, ib46, ib47, rc48, ib49, ib50, ib51, ib52, ib53, rc54, ib55, ib56, ib57, ib58, ib59, ib60, ib61, ib62, ib63, ib64, ib65, ib66, ib67, ib68, ib69, ib70, ib71, ib72, ib73, ib74, ib75, ib76, ib77, ib78, ib79, ib80, ib81]; exact h61
  generalize si (si (si (si (sf σ 33 C) 2053 0) 2054 0) 2179 0) 2307 0 = σ1 at *
  obtain ⟨g1, -, k56, k57, k58, k59⟩ := id K1
  have hR1 : RelC 0 σ1 (fun _ _ => 0) := ⟨fun t l p1 p2 p3 => by
      rw [e33]
      exact hC0 _ (by omega), fun _ _ _ => rfl, fun _ _ _ => rfl⟩
  have hC1 : CNT σ1 := by
    obtain ⟨NN, hNN⟩ : ∃ NN : Nat, NN = 19520 := ⟨19520, rfl⟩
    refine ⟨NN, hNN, ?_⟩
    rw [e53, e33, cnt_z NN (fun i hi => hC0 i (by omega))]
  simp only [w74_32, w74_33, w74_36, w74_37, w74_40, w74_41, w74_44, ↓reduceIte, okp_i, okp_r, okp_n, catS_nil, catS_cons, catV_i, catV_r, catV_l, Option.toList_some, Option.toList_none, List.cons_append, List.nil_append, gi_si, ga_si, gi_sa, ga_sa, gi_sl, ga_sl, gi_sf, ga_sf, gl_si, gl_sa, gl_sf, gl_sl, and_true, true_and, if_true, if_false, ite_true, ite_false, not_false_eq_true, not_true_eq_false, Nat.reduceEqDiff, reduceCtorEq, Nat.reduceLeDiff, Nat.reduceAdd, Nat.reduceMul, Nat.reduceLT, Int.reduceNeg, Int.reduceEq, Int.reduceLT, Int.reduceLE, eq_self, Nat.reduceSub, or_true, true_or, or_false, false_or, and_false, false_and, Int.reduceToNat, rc0, rc1, ib2, ib3, ib4, ib5, ib6, ib7, ib8, ib9, ib10, rc11, ib12, rc13, ib14, ib15, ib16, ib17, ib18, ib19, rc20, rc21, ib22, ib23, ib24, rc25, ib26, ib27, ib28, ib29, ib30, ib31, rc32, ib33, rc34, ib35, rc36, ib37, rc38, ib39, ib40, ib41, ib42, ib43, ib44, ib45, ib46, ib47, rc48, ib49, ib50, ib51, ib52, ib53, rc54, ib55, ib56, ib57, ib58, ib59, ib60, ib61, ib62, ib63, ib64, ib65, ib66, ib67, ib68, ib69, ib70, ib71, ib72, ib73, ib74, ib75, ib76, ib77, ib78, ib79, ib80, ib81, k56, k59]
  refine S_mvN hT0 hB0 g1 hbeg.1 (lo := witF beg) (Int.le_refl _) (fun m' p1 p2 p3 l hl => ?_) ?_
  · have hw : 0 ≤ witF beg := by unfold witF; split <;> omega
    rw [e79] at p2
    omega
  intro σ2 f2 b2 v2
  have K2 := SK_Fr K1 f2
  simp only [w74_47, w74_48, ↓reduceIte, okp_i, okp_r, okp_n, catS_nil, catS_cons, catV_i, catV_r, catV_l, Option.toList_some, Option.toList_none, List.cons_append, List.nil_append, gi_si, ga_si, gi_sa, ga_sa, gi_sl, ga_sl, gi_sf, ga_sf, gl_si, gl_sa, gl_sf, gl_sl, and_true, true_and, if_true, if_false, ite_true, ite_false, not_false_eq_true, not_true_eq_false, Nat.reduceEqDiff, reduceCtorEq, Nat.reduceLeDiff, Nat.reduceAdd, Nat.reduceMul, Nat.reduceLT, Int.reduceNeg, Int.reduceEq, Int.reduceLT, Int.reduceLE, eq_self, Nat.reduceSub, or_true, true_or, or_false, false_or, and_false, false_and, Int.reduceToNat, rc0, rc1, ib2, ib3, ib4, ib5, ib6, ib7, ib8, ib9, ib10, rc11, ib12, rc13, ib14, ib15, ib16, ib17, ib18, ib19, rc20, rc21, ib22, ib23, ib24, rc25, ib26, ib27, ib28, ib29, ib30, ib31, rc32, ib33, rc34, ib35, rc36, ib37, rc38, ib39, ib40, ib41, ib42, ib43, ib44, ib45, ib46, ib47, rc48, ib49, ib50, ib51, ib52, ib53, rc54, ib55, ib56, ib57, ib58, ib59, ib60, ib61, ib62, ib63, ib64, ib65, ib66, ib67, ib68, ib69, ib70, ib71, ib72, ib73, ib74, ib75, ib76, ib77, ib78, ib79, ib80, ib81]
  have hE0 : ∀ t l, AS σ0 kind (c : Int) beg t l → rkF (ga σ0 55) (ga σ0 56) (c : Int) (l / 2) < 0 → OKc (DS σ0 kind (c : Int) beg st) (fun _ _ => 0) 1 t l := fun t l _ h => absurd h (Nat.not_lt_zero _)
  refine L_out hT0 hA0 hB0 hc8 rfl K2 b2 ?_ (rkF (ga σ0 55) (ga σ0 56) (c : Int) (gi σ0 3461).toNat) 0 σ2 (fun _ _ => 0) none (by omega) Fr_r (rel_Fr hR1 f2) (cnt_Fr hC1 f2) (fun t l _ hne => absurd rfl hne) hE0
  intro σ3 F f3 r3 c3 s3 o3
  have hb := RA_bd (hAS (kind := kind) (frm := (c : Int)) (beg := beg) hT0 hB0) (hBS (kind := kind) (beg := beg) hT0 hB0)
  have hF0 : ∀ l, F 0 l = 0 := fun l => by
    by_cases q : F 0 l = 0
    · exact q
    · obtain ⟨n, -, hr⟩ := s3 0 l (Int.le_refl _) q
      have := hb n 0 l hr
      omega
  obtain ⟨cg, cn⟩ := cg_0 (hAS hT0 hB0) (hBS hT0 hB0) o3
  have n60 : gi σ3 2060 = -1 := by rw [f3.1 2060 (by decide), f2.1 2060 (by decide)]; exact m60
  have n61 : gi σ3 2061 = -1 := by rw [f3.1 2061 (by decide), f2.1 2061 (by decide)]; exact m61
  have n54 : gi σ3 2054 = 0 := by rw [f3.1 2054 (by decide), f2.1 2054 (by decide)]; exact e54
  refine kk σ3 F (SK_Fr K2 f3) n60 ⟨rel_next (Int.le_refl _) r3 hF0, c3, fun t l ht hne => s3 t l (by omega) hne, cg, fun _ => cn, ?_, ?_, fun l hl => absurd hl (Nat.not_lt_zero l)⟩ ?_ ?_
  · rw [n60, n61]
    refine Or.inl ⟨rfl, rfl, fun n t l hl _ hr => ?_⟩
    have := hb n t l hr
    omega
  · rw [n54]
    exact fun l h => absurd h bit_0
  · intro m' p1 p2 p3 l hl
    rw [f3.1 2179 (by decide)] at p2
    rw [f3.2 35 (by decide)]
    exact v2 m' p1 p2 p3 l hl
  · intro m' p1 p2 p3 l hl
    rw [f3.1 2307 (by decide), f2.1 2307 (by decide), e07] at p2
    omega
/-- the last change, as a number of its own -/
def lcF (f h : Nat → Int) : Nat → Int
  | 0 => 0
  | k + 1 => if 1440 ≤ h k then maxF (lcF f h k) (f k) else maxF (maxF (lcF f h k) (f k)) (h k)
theorem lc_bd {f h : Nat → Int} : ∀ n, (∀ k, k < n → 0 ≤ f k ∧ f k < h k ∧ h k ≤ 1440) → (0 ≤ lcF f h n ∧ lcF f h n ≤ 1439) ∧ ∀ k, k < n → f k ≤ lcF f h n ∧ (h k = 1440 ∨ h k ≤ lcF f h n) := by
  intro n
  induction n with
  | zero => intro _; exact ⟨⟨Int.le_refl _, by show (0 : Int) ≤ 1439; decide⟩, fun k hk => absurd hk (Nat.not_lt_zero k)⟩
  | succ n ih =>
    intro hb
    obtain ⟨⟨i1, i2⟩, i3⟩ := ih (fun k hk => hb k (by omega))
    have hn := hb n (by omega)
    simp only [lcF]
    generalize lcF f h n = y at *
    have m1 : y ≤ maxF y (f n) ∧ f n ≤ maxF y (f n) ∧ maxF y (f n) ≤ 1439 := by unfold maxF; split <;> omega
    generalize maxF y (f n) = z at *
    by_cases q : 1440 ≤ h n
    · rw [if_pos q]
      refine ⟨by omega, fun k hk => ?_⟩
      rcases Nat.lt_succ_iff_lt_or_eq.mp hk with r | r
      · have := i3 k r; omega
      · subst r; omega
    · rw [if_neg q]
      have m2 : z ≤ maxF z (h n) ∧ h n ≤ maxF z (h n) ∧ maxF z (h n) ≤ 1439 := by unfold maxF; split <;> omega
      generalize maxF z (h n) = z2 at *
      refine ⟨by omega, fun k hk => ?_⟩
      rcases Nat.lt_succ_iff_lt_or_eq.mp hk with r | r
      · have := i3 k r; omega
      · subst r; omega
theorem L_lc (hB : InvB σ) : ∀ (r k : Nat), ((k + r : Nat) : Int) = gi σ 838 → (WP S 9 4 [some (vr 13), some (vi (lcF (ga σ 17) (ga σ 18) k)), some (vi (k : Int))] [] σ post ↔ post (some (vi (lcF (ga σ 17) (ga σ 18) (k + r)))) σ) := by
  obtain ⟨b1, b2, b3, b4⟩ := id hB
  intro r
  induction r with
  | zero =>
    intro k hk
    have c1 : (gi σ 838 ≤ (k : Int)) = True := eq_true (by omega)
    rw [w9_4]
    simp only [w9_0, w9_1, w9_2, w9_3, w9_5, w9_6, w9_6b, w9_9, w9_12, w9_13, w9_14, w9_14b, w9_17, w9_18, w9_19, w9_22, w9_23, w9_24, w9_24b, w9_27, w9_28, w9_29, w9_32, w9_35, w9_36, w9_37, w9_37b, w9_40, w9_41, w9_42, w9_45, w9_46, w9_49, w9_52, w9_53, ↓reduceIte, okp_i, okp_r, okp_n, catS_nil, catS_cons, catV_i, catV_r, catV_l, Option.toList_some, Option.toList_none, List.cons_append, List.nil_append, gi_si, ga_si, gi_sa, ga_sa, gi_sl, ga_sl, gi_sf, ga_sf, gl_si, gl_sa, gl_sf, gl_sl, and_true, true_and, if_true, if_false, ite_true, ite_false, not_false_eq_true, not_true_eq_false, Nat.reduceEqDiff, reduceCtorEq, Nat.reduceLeDiff, Nat.reduceAdd, Nat.reduceMul, Nat.reduceLT, Int.reduceNeg, Int.reduceEq, Int.reduceLT, Int.reduceLE, eq_self, Nat.reduceSub, or_true, true_or, or_false, false_or, and_false, false_and, Int.reduceToNat, rc0, rc1, ib2, ib3, ib4, ib5, ib6, ib7, ib8, ib9, ib10, rc11, ib12, rc13, ib14, ib15, ib16, ib17, ib18, ib19, rc20, rc21, ib22, ib23, ib24, rc25, ib26, ib27, ib28, ib29, ib30, ib31, rc32, ib33, rc34, ib35, rc36, ib37, rc38, ib39, ib40, ib41, ib42, ib43, ib44, ib45, ib46, ib47, rc48, ib49, ib50, ib51, ib52, ib53, rc54, ib55, ib56, ib57, ib58, ib59, ib60, ib61, ib62, ib63, ib64, ib65, ib66, ib67, ib68, ib69, ib70, ib71, ib72, ib73, ib74, ib75, ib76, ib77, ib78, ib79, ib80, ib81, c1, Nat.add_zero]
  | succ r ih =>
    intro k hk
    have ih := ih (k + 1) (by omega)
    rw [show k + 1 + r = k + (r + 1) by omega] at ih
    have c1 : (gi σ 838 ≤ (k : Int)) = False := eq_false (by omega)
    have c2 : (0 ≤ (k : Int)) = True := eq_true (by omega)
    have c3 : ((k : Int) < 20) = True := eq_true (by omega)
    have e1 : wr ((k : Int) + 1) = ((k + 1 : Nat) : Int) := by rw [wr_id (by omega) (by omega)]; omega
    rw [w9_4]
    simp only [lcF] at ih
    by_cases q : 1440 ≤ ga σ 18 k
    · rw [if_pos q] at ih
      simp only [w9_0, w9_1, w9_2, w9_3, w9_5, w9_6, w9_6b, w9_9, w9_12, w9_13, w9_14, w9_14b, w9_17, w9_18, w9_19, w9_22, w9_23, w9_24, w9_24b, w9_27, w9_28, w9_29, w9_32, w9_35, w9_36, w9_37, w9_37b, w9_40, w9_41, w9_42, w9_45, w9_46, w9_49, w9_52, w9_53, ↓reduceIte, okp_i, okp_r, okp_n, catS_nil, catS_cons, catV_i, catV_r, catV_l, Option.toList_some, Option.toList_none, List.cons_append, List.nil_append, gi_si, ga_si, gi_sa, ga_sa, gi_sl, ga_sl, gi_sf, ga_sf, gl_si, gl_sa, gl_sf, gl_sl, and_true, true_and, if_true, if_false, ite_true, ite_false, not_false_eq_true, not_true_eq_false, Nat.reduceEqDiff, reduceCtorEq, Nat.reduceLeDiff, Nat.reduceAdd, Nat.reduceMul, Nat.reduceLT, Int.reduceNeg, Int.reduceEq, Int.reduceLT, Int.reduceLE, eq_self, Nat.reduceSub, or_true, true_or, or_false, false_or, and_false, false_and, Int.reduceToNat, rc0, rc1, ib2, ib3, ib4, ib5, ib6, ib7, ib8, ib9, ib10, rc11, ib12, rc13, ib14, ib15, ib16, ib17, ib18, ib19, rc20, rc21, ib22, ib23, ib24, rc25, ib26, ib27, ib28, ib29, ib30, ib31, rc32, ib33, rc34, ib35, rc36, ib37, rc38, ib39, ib40, ib41, ib42, ib43, ib44, ib45, ib46, ib47, rc48, ib49, ib50, ib51, ib52, ib53, rc54, ib55, ib56, ib57, ib58, ib59, ib60, ib61, ib62, ib63, ib64, ib65, ib66, ib67, ib68, ib69, ib70, ib71, ib72, ib73, ib74, ib75, ib76, ib77, ib78, ib79, ib80, ib81, c1, c2, c3, Int.toNat_natCast, q, e1]
      exact ih
    · rw [if_neg q] at ih
      simp only [w9_0, w9_1, w9_2, w9_3, w9_5, w9_6, w9_6b, w9_9, w9_12, w9_13, w9_14, w9_14b, w9_17, w9_18, w9_19, w9_22, w9_23, w9_24, w9_24b, w9_27, w9_28, w9_29, w9_32, w9_35, w9_36, w9_37, w9_37b, w9_40, w9_41, w9_42, w9_45, w9_46, w9_49, w9_52, w9_53, ↓reduceIte, okp_i, okp_r, okp_n, catS_nil, catS_cons, catV_i, catV_r, catV_l, Option.toList_some, Option.toList_none, List.cons_append, List.nil_append, gi_si, ga_si, gi_sa, ga_sa, gi_sl, ga_sl, gi_sf, ga_sf, gl_si, gl_sa, gl_sf, gl_sl, and_true, true_and, if_true, if_false, ite_true, ite_false, not_false_eq_true, not_true_eq_false, Nat.reduceEqDiff, reduceCtorEq, Nat.reduceLeDiff, Nat.reduceAdd, Nat.reduceMul, Nat.reduceLT, Int.reduceNeg, Int.reduceEq, Int.reduceLT, Int.reduceLE, eq_self, Nat.reduceSub, or_true, true_or, or_false, false_or, and_false, false_and, Int.reduceToNat, rc0, rc1, ib2, ib3, ib4, ib5, ib6, ib7, ib8, ib9, ib10, rc11, ib12, rc13, ib14, ib15, ib16, ib17, ib18, ib19, rc20, rc21, ib22, ib23, ib24, rc25, ib26, ib27, ib28, ib29, ib30, ib31, rc32, ib33, rc34, ib35, rc36, ib37, rc38, ib39, ib40, ib41, ib42, ib43, ib44, ib45, ib46, ib47, rc48, ib49, ib50, ib51, ib52, ib53, rc54, ib55, ib56, ib57, ib58, ib59, ib60, ib61, ib62, ib63, ib64, ib65, ib66, ib67, ib68, ib69, ib70, ib71, ib72, ib73, ib74, ib75, ib76, ib77, ib78, ib79, ib80, ib81, c1, c2, c3, Int.toNat_natCast, q, e1]
      exact ih
theorem lastX (hB0 : InvB σ0) : ∃ lastc : Int, (0 ≤ lastc ∧ lastc ≤ 1439) ∧ (∀ k : Nat, (k : Int) < gi σ0 838 → ga σ0 17 k ≤ lastc ∧ (ga σ0 18 k = 1440 ∨ ga σ0 18 k ≤ lastc)) ∧ ∀ (σ1 : Sto) (post1 : Pst), GS σ0 σ1 → post1 (some (vi lastc)) σ1 → WP S 9 0 [some (vr 13), none, none] [] σ1 post1 := by
  obtain ⟨b1, b2, b3, b4⟩ := id hB0
  obtain ⟨h1, h2⟩ := lc_bd (f := ga σ0 17) (h := ga σ0 18) (gi σ0 838).toNat (fun k hk => by
    obtain ⟨-, -, -, -, -, -, u7, -⟩ := b4 k (by omega)
    exact u7)
  refine ⟨lcF (ga σ0 17) (ga σ0 18) (gi σ0 838).toNat, h1, fun k hk => h2 k (by omega), fun σ1 post1 g hp => ?_⟩
  have hB1 := GS_B hB0 g
  have e38 : gi σ1 838 = gi σ0 838 := g.1 838 (by decide)
  have e17 : ga σ1 17 = ga σ0 17 := g.2 17 (by decide)
  have e18 : ga σ1 18 = ga σ0 18 := g.2 18 (by decide)
  simp only [w9_0, w9_1, w9_2, w9_3, w9_5, w9_6, w9_6b, w9_9, w9_12, w9_13, w9_14, w9_14b, w9_17, w9_18, w9_19, w9_22, w9_23, w9_24, w9_24b, w9_27, w9_28, w9_29, w9_32, w9_35, w9_36, w9_37, w9_37b, w9_40, w9_41, w9_42, w9_45, w9_46, w9_49, w9_52, w9_53, ↓reduceIte, okp_i, okp_r, okp_n, catS_nil, catS_cons, catV_i, catV_r, catV_l, Option.toList_some, Option.toList_none, List.cons_append, List.nil_append, gi_si, ga_si, gi_sa, ga_sa, gi_sl, ga_sl, gi_sf, ga_sf, gl_si, gl_sa, gl_sf, gl_sl, and_true, true_and, if_true, if_false, ite_true, ite_false, not_false_eq_true, not_true_eq_false, Nat.reduceEqDiff, reduceCtorEq, Nat.reduceLeDiff, Nat.reduceAdd, Nat.reduceMul, Nat.reduceLT, Int.reduceNeg, Int.reduceEq, Int.reduceLT, Int.reduceLE, eq_self, Nat.reduceSub, or_true, true_or, or_false, false_or, and_false, false_and, Int.reduceToNat, rc0, rc1, ib2, ib3, ib4, ib5, ib6, ib7, ib8, ib9, ib10, rc11, ib12, rc13, ib14, ib15, ib16, ib17, ib18, ib19, rc20, rc21, ib22, ib23, ib24, rc25, ib26, ib27, ib28, ib29, ib30, ib31, rc32, ib33, rc34, ib35, rc36, ib37, rc38, ib39, ib40, ib41, ib42, ib43, ib44, ib45, ib46, ib47, rc48, ib49, ib50, ib51, ib52, ib53, rc54, ib55, ib56, ib57, ib58, ib59, ib60, ib61, ib62, ib63, ib64, ib65, ib66, ib67, ib68, ib69, ib70, ib71, ib72, ib73, ib74, ib75, ib76, ib77, ib78, ib79, ib80, ib81]
  have := L_lc (S := S) (post := post1) hB1 (gi σ0 838).toNat 0 (by rw [e38]; omega)
  rw [e17, e18, Nat.zero_add] at this
  exact this.mpr hp
theorem S_search (hT0 : InvT σ0) (hA0 : InvA σ0) (hB0 : InvB σ0) (hbeg : 0 ≤ beg ∧ beg ≤ 1439) {c : Nat} (hc8 : c < 8) (hK : SK σ0 kind (c : Int) to beg σ) (h60 : gi σ 2060 = -1) (h61 : gi σ 2061 = -1) (kk : ∀ σ', SK σ0 kind (c : Int) to beg σ' → Ans (AS σ0 kind (c : Int) beg) (BS σ0 kind beg) (fun l => dsL σ0 l = to) (gi σ' 2060) (gi σ' 2061) → post none σ') : WP S 73 0 [some (vr 32), none, none] [] σ post := by
  have t3 := hT0.2.2.1
  have t8 := hT0.2.2.2.2.2.2.2.1
  have t9 := hT0.2.2.2.2.2.2.2.2.1
  have t10 := hT0.2.2.2.2.2.2.2.2.2.1
  -- the steady minute does not hang on the start
  have hB := GS_B hB0 hK.1
  simp only [w73_0, w73_1, ↓reduceIte, okp_i, okp_r, okp_n, catS_nil, catS_cons, catV_i, catV_r, catV_l, Option.toList_some, Option.toList_none, List.cons_append, List.nil_append, gi_si, ga_si, gi_sa, ga_sa, gi_sl, ga_sl, gi_sf, ga_sf, gl_si, gl_sa, gl_sf, gl_sl, and_true, true_and, if_true, if_false, ite_true, ite_false, not_false_eq_true, not_true_eq_false, Nat.reduceEqDiff, reduceCtorEq, Nat.reduceLeDiff, Nat.reduceAdd, Nat.reduceMul, Nat.reduceLT, Int.reduceNeg, Int.reduceEq, Int.reduceLT, Int.reduceLE, eq_self, Nat.reduceSub, or_true, true_or, or_false, false_or, and_false, false_and, Int.reduceToNat, rc0, rc1, ib2, ib3, ib4, ib5, ib6, ib7, ib8, ib9, ib10, rc11, ib12, rc13, ib14, ib15, ib16, ib17, ib18, ib19, rc20, rc21, ib22, ib23, ib24, rc25, ib26, ib27, ib28, ib29, ib30, ib31, rc32, ib33, rc34, ib35, rc36, ib37, rc38, ib39, ib40, ib41, ib42, ib43, ib44, ib45, ib46, ib47, rc48, ib49, ib50, ib51, ib52, ib53, rc54, ib55, ib56, ib57, ib58, ib59, ib60, ib61, ib62, ib63, ib64, ib65, ib66, ib67, ib68, ib69, ib70, ib71, ib72, ib73, ib74, ib75, ib76, ib77, ib78, ib79, ib80, ib81]
  have key : ∀ lastc : Int, (0 ≤ lastc ∧ lastc ≤ 1439) → (∀ k : Nat, (k : Int) < gi σ0 838 → ga σ0 17 k ≤ lastc ∧ (ga σ0 18 k = 1440 ∨ ga σ0 18 k ≤ lastc)) → Stdy σ0 (maxF (gi σ0 3462) lastc) := by
    intro lastc h1 h2
    have hm : gi σ0 3462 ≤ maxF (gi σ0 3462) lastc ∧ lastc ≤ maxF (gi σ0 3462) lastc ∧ maxF (gi σ0 3462) lastc ≤ 1439 := by unfold maxF; split <;> omega
    refine ⟨hm.1, hm.2.2, fun k hk => ?_⟩
    obtain ⟨-, -, -, b4⟩ := id hB0
    obtain ⟨-, -, u3, u4, -⟩ := b4 k hk
    have := h2 k hk
    have f17 : bkF σ0 65 k = ga σ0 17 k := u3.symm
    have f18 : bkF σ0 66 k = ga σ0 18 k := u4.symm
    rw [f17, f18]
    omega
  have hmain : ∀ lastc : Int, (0 ≤ lastc ∧ lastc ≤ 1439) → (∀ k : Nat, (k : Int) < gi σ0 838 → ga σ0 17 k ≤ lastc ∧ (ga σ0 18 k = 1440 ∨ ga σ0 18 k ≤ lastc)) → WP S 74 0 [some (vr 32), none, none] [] σ (fun v σ1 => v = none ∧ WP S 73 24 [some (vr 32), some (vi (maxF (gi σ0 3462) lastc)), some (vi ((1 : Nat) : Int))] [] σ1 post ∧ GS σ0 σ1) := by
    intro lastc h1 h2
    refine S_setOut (st := maxF (gi σ0 3462) lastc) hT0 hA0 hB0 hbeg hc8 hK h60 h61 ?_
    intro σ1 F K1 n60 I1 v1 v2
    refine ⟨rfl, L_search hT0 hA0 hB0 (key lastc h1 h2) hbeg kk 3000 1 σ1 rfl (by decide) K1 (Or.inl ⟨n60, F, I1⟩) ⟨witF beg, wit_mono (by omega), v1⟩ ⟨0, ?_, v2⟩, K1.1⟩
    unfold witF
    split <;> omega
  -- which minute it is
  have hex : ∃ lastc : Int, (0 ≤ lastc ∧ lastc ≤ 1439) ∧ (∀ k : Nat, (k : Int) < gi σ0 838 → ga σ0 17 k ≤ lastc ∧ (ga σ0 18 k = 1440 ∨ ga σ0 18 k ≤ lastc)) ∧ ∀ (σ1 : Sto) (post1 : Pst), GS σ0 σ1 → post1 (some (vi lastc)) σ1 → WP S 9 0 [some (vr 13), none, none] [] σ1 post1 := by
    exact lastX hB0
  obtain ⟨lastc, h1, h2, h3⟩ := hex
  refine WP_mono (hmain lastc h1 h2) _ ?_
  rintro v σ1 ⟨rfl, hk, g1⟩
  have k75 : gi σ1 75 = gi σ0 3462 := by rw [g1.1 75 (by decide)]; exact t3
  simp only [w73_4, w73_5, w73_8, w89_0, w89_1, w89_4, w73_11, w73_12, w73_15, ↓reduceIte, okp_i, okp_r, okp_n, catS_nil, catS_cons, catV_i, catV_r, catV_l, Option.toList_some, Option.toList_none, List.cons_append, List.nil_append, gi_si, ga_si, gi_sa, ga_sa, gi_sl, ga_sl, gi_sf, ga_sf, gl_si, gl_sa, gl_sf, gl_sl, and_true, true_and, if_true, if_false, ite_true, ite_false, not_false_eq_true, not_true_eq_false, Nat.reduceEqDiff, reduceCtorEq, Nat.reduceLeDiff, Nat.reduceAdd, Nat.reduceMul, Nat.reduceLT, Int.reduceNeg, Int.reduceEq, Int.reduceLT, Int.reduceLE, eq_self, Nat.reduceSub, or_true, true_or, or_false, false_or, and_false, false_and, Int.reduceToNat, rc0, rc1, ib2, ib3, ib4, ib5, ib6, ib7, ib8, ib9, ib10, rc11, ib12, rc13, ib14, ib15, ib16, ib17, ib18, ib19, rc20, rc21, ib22, ib23, ib24, rc25, ib26, ib27, ib28, ib29, ib30, ib31, rc32, ib33, rc34, ib35, rc36, ib37, rc38, ib39, ib40, ib41, ib42, ib43, ib44, ib45, ib46, ib47, rc48, ib49, ib50, ib51, ib52, ib53, rc54, ib55, ib56, ib57, ib58, ib59, ib60, ib61, ib62, ib63, ib64, ib65, ib66, ib67, ib68, ib69, ib70, ib71, ib72, ib73, ib74, ib75, ib76, ib77, ib78, ib79, ib80, ib81, k75]
  refine h3 σ1 _ g1 ?_
  simp only [w73_0, w73_1, w73_4, w73_5, w73_8, w73_11, w73_12, w73_15, w73_18, w73_21, w73_22, w73_23, w73_25, w73_28, w73_31, w73_32, w73_35, w73_38, w73_39, w73_42, w73_43, w73_46, w73_47, w73_48, w73_49, w73_52, w73_53, w73_54, w73_55, w73_58, w73_59, w73_62, w73_63, w73_66, w73_69, w73_72, ↓reduceIte, okp_i, okp_r, okp_n, catS_nil, catS_cons, catV_i, catV_r, catV_l, Option.toList_some, Option.toList_none, List.cons_append, List.nil_append, gi_si, ga_si, gi_sa, ga_sa, gi_sl, ga_sl, gi_sf, ga_sf, gl_si, gl_sa, gl_sf, gl_sl, and_true, true_and, if_true, if_false, ite_true, ite_false, not_false_eq_true, not_true_eq_false, Nat.reduceEqDiff, reduceCtorEq, Nat.reduceLeDiff, Nat.reduceAdd, Nat.reduceMul, Nat.reduceLT, Int.reduceNeg, Int.reduceEq, Int.reduceLT, Int.reduceLE, eq_self, Nat.reduceSub, or_true, true_or, or_false, false_or, and_false, false_and, Int.reduceToNat, rc0, rc1, ib2, ib3, ib4, ib5, ib6, ib7, ib8, ib9, ib10, rc11, ib12, rc13, ib14, ib15, ib16, ib17, ib18, ib19, rc20, rc21, ib22, ib23, ib24, rc25, ib26, ib27, ib28, ib29, ib30, ib31, rc32, ib33, rc34, ib35, rc36, ib37, rc38, ib39, ib40, ib41, ib42, ib43, ib44, ib45, ib46, ib47, rc48, ib49, ib50, ib51, ib52, ib53, rc54, ib55, ib56, ib57, ib58, ib59, ib60, ib61, ib62, ib63, ib64, ib65, ib66, ib67, ib68, ib69, ib70, ib71, ib72, ib73, ib74, ib75, ib76, ib77, ib78, ib79, ib80, ib81]
  exact hk
end SEEK2
