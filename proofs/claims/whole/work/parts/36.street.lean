section STREET
variable {S : Scr} {σ : Sto} {post : Pst}
theorem S_foot {x y : Nat} (hx : x < 8) (hy : y < 8) : WP S 98 0 [some (vr 1), some (vi (x : Int)), some (vi (y : Int))] [] σ post ↔ post (some (vi (ga σ 10 (8 * x + y)))) σ := by
  have e1 : wr ((x : Int) * 8) = (x : Int) * 8 := wr_id (by omega) (by omega)
  have e2 : wr ((x : Int) * 8 + (y : Int)) = ((8 * x + y : Nat) : Int) := by rw [wr_id (by omega) (by omega)]; omega
  have c1 : (0 ≤ ((8 * x + y : Nat) : Int)) = True := eq_true (by omega)
  have c2 : (((8 * x + y : Nat) : Int) < 64) = True := eq_true (by omega)
  simp only [w98_0, w98_1, w98_4, w98_5, w98_7, w98_8, w98_9, w98_10, w98_11, ↓reduceIte, okp_i, okp_r, okp_n, catS_nil, catS_cons, catV_i, catV_r, catV_l, Option.toList_some, Option.toList_none, List.cons_append, List.nil_append, gi_si, ga_si, gi_sa, ga_sa, gi_sl, ga_sl, gi_sf, ga_sf, gl_si, gl_sa, gl_sf, gl_sl, and_true, true_and, if_true, if_false, ite_true, ite_false, not_false_eq_true, not_true_eq_false, Nat.reduceEqDiff, reduceCtorEq, Nat.reduceLeDiff, Nat.reduceAdd, Nat.reduceMul, Nat.reduceLT, Int.reduceNeg, Int.reduceEq, Int.reduceLT, Int.reduceLE, eq_self, Nat.reduceSub, or_true, true_or, or_false, false_or, and_false, false_and, Int.reduceToNat, rc0, rc1, ib2, ib3, ib4, ib5, ib6, ib7, ib8, ib9, ib10, rc11, ib12, rc13, ib14, ib15, ib16, ib17, ib18, ib19, rc20, rc21, ib22, ib23, ib24, rc25, ib26, ib27, ib28, ib29, ib30, ib31, rc32, ib33, rc34, ib35, rc36, ib37, rc38, ib39, ib40, ib41, ib42, ib43, ib44, ib45, ib46, ib47, rc48, ib49, ib50, ib51, ib52, ib53, rc54, ib55, ib56, ib57, ib58, ib59, ib60, ib61, ib62, ib63, ib64, ib65, ib66, ib67, ib68, ib69, ib70, ib71, ib72, ib73, ib74, ib75, ib76, ib77, ib78, ib79, ib80, ib81, e1, e2, c1, c2, Int.toNat_natCast]
theorem L_footI {f g h : Nat → Int} {n : Nat} {D0 : Nat → Int} {a b m fr : Nat} {L tA tB : Int} (hx : gi σ 73 = (m : Int)) (hL : 1 ≤ L ∧ L ≤ 60) (hm : m ≤ 8) (ha : a < m) (hb : b < m) (hfr : fr < m) (e1 : wkF f g h n 1 a b L) (e2 : wkF f g h n 1 b a L) (hA : 0 ≤ tA ∧ tA ≤ 1000000) (sA : tA = 1000000 ∨ ∃ k, wkF f g h n k fr a tA) (lA : tA ≤ D0 (8 * fr + a)) (hB : 0 ≤ tB ∧ tB ≤ 1000000) (sB : tB = 1000000 ∨ ∃ k, wkF f g h n k fr b tB) (lB : tB ≤ D0 (8 * fr + b))
    (kk : ∀ (D' : Nat → Int) (l7 l8 l9 l10 : Option AV), KD f g h n D0 a b L m fr m D' → WP S 97 111 [some (vr 1), some (vi (a : Int)), some (vi (b : Int)), some (vi L), some (vi (fr : Int)), some (vi tA), some (vi tB), l7, l8, l9, l10] [] (sf σ 10 D') post) : ∀ (r to : Nat) (D : Nat → Int) (l8 l9 l10 : Option AV), to + r = m → KD f g h n D0 a b L m fr to D → WP S 97 33 [some (vr 1), some (vi (a : Int)), some (vi (b : Int)), some (vi L), some (vi (fr : Int)), some (vi tA), some (vi tB), some (vi (to : Int)), l8, l9, l10] [] (sf σ 10 D) post := by
  intro r
  induction r with
  | zero =>
    intro to D l8 l9 l10 hto hK
    have e : to = m := by omega
    subst e
    have c1 : ((to : Int) ≤ (to : Int)) = True := eq_true (by omega)
    rw [w97_33]
    simp only [w97_35, w97_36, w97_39, ↓reduceIte, okp_i, okp_r, okp_n, catS_nil, catS_cons, catV_i, catV_r, catV_l, Option.toList_some, Option.toList_none, List.cons_append, List.nil_append, gi_si, ga_si, gi_sa, ga_sa, gi_sl, ga_sl, gi_sf, ga_sf, gl_si, gl_sa, gl_sf, gl_sl, and_true, true_and, if_true, if_false, ite_true, ite_false, not_false_eq_true, not_true_eq_false, Nat.reduceEqDiff, reduceCtorEq, Nat.reduceLeDiff, Nat.reduceAdd, Nat.reduceMul, Nat.reduceLT, Int.reduceNeg, Int.reduceEq, Int.reduceLT, Int.reduceLE, eq_self, Nat.reduceSub, or_true, true_or, or_false, false_or, and_false, false_and, Int.reduceToNat, rc0, rc1, ib2, ib3, ib4, ib5, ib6, ib7, ib8, ib9, ib10, rc11, ib12, rc13, ib14, ib15, ib16, ib17, ib18, ib19, rc20, rc21, ib22, ib23, ib24, rc25, ib26, ib27, ib28, ib29, ib30, ib31, rc32, ib33, rc34, ib35, rc36, ib37, rc38, ib39, ib40, ib41, ib42, ib43, ib44, ib45, ib46, ib47, rc48, ib49, ib50, ib51, ib52, ib53, rc54, ib55, ib56, ib57, ib58, ib59, ib60, ib61, ib62, ib63, ib64, ib65, ib66, ib67, ib68, ib69, ib70, ib71, ib72, ib73, ib74, ib75, ib76, ib77, ib78, ib79, ib80, ib81, hx, c1]
    exact kk D _ _ _ _ hK
  | succ r ih =>
    intro to D l8 l9 l10 hto hK
    have hto' : to < m := by omega
    have c1 : ((m : Int) ≤ (to : Int)) = False := eq_false (by omega)
    have b8 : b < 8 := by omega
    have a8 : a < 8 := by omega
    have f8 : fr < 8 := by omega
    have t8 : to < 8 := by omega
    have q5 : wr ((fr : Int) * 8) = (fr : Int) * 8 := wr_id (by clear sA sB lA lB hA hB e1 e2; omega) (by clear sA sB lA lB hA hB e1 e2; omega)
    have q6 : wr ((fr : Int) * 8 + (to : Int)) = ((8 * fr + to : Nat) : Int) := by clear sA sB lA lB hA hB e1 e2; rw [wr_id (by omega) (by omega)]; omega
    have c3 : (0 ≤ ((8 * fr + to : Nat) : Int)) = True := eq_true (by clear sA sB lA lB hA hB e1 e2; omega)
    have c4 : (((8 * fr + to : Nat) : Int) < 64) = True := eq_true (by clear sA sB lA lB hA hB e1 e2; omega)
    have q7 : wr ((to : Int) + 1) = ((to + 1 : Nat) : Int) := by clear sA sB lA lB hA hB e1 e2; rw [wr_id (by omega) (by omega)]; omega
    have sm : to + 1 + r = m := by clear sA sB lA lB hA hB e1 e2; omega
    have kb := (hK b to b8 t8).1
    have ka := (hK a to a8 t8).1
    have q1 : wr (tA + L) = tA + L := wr_id (by clear sA sB lA lB e1 e2; omega) (by clear sA sB lA lB e1 e2; omega)
    have q2 : wr (tA + L + D (8 * b + to)) = tA + L + D (8 * b + to) := wr_id (by clear sA sB lA lB e1 e2; omega) (by clear sA sB lA lB e1 e2; omega)
    have q3 : wr (tB + L) = tB + L := wr_id (by clear sA sB lA lB e1 e2; omega) (by clear sA sB lA lB e1 e2; omega)
    have q4 : wr (tB + L + D (8 * a + to)) = tB + L + D (8 * a + to) := wr_id (by clear sA sB lA lB e1 e2; omega) (by clear sA sB lA lB e1 e2; omega)
    have L0 : 0 < L := by clear sA sB lA lB hA hB e1 e2; omega
    rw [w97_33]
    simp only [w97_0, w97_1, w97_5, w97_6, w97_9, w97_12, w97_13, w97_15, w97_16, w97_19, w97_21, w97_22, w97_24, w97_25, w97_28, w97_30, w97_31, w97_35, w97_36, w97_39, w97_42, w97_44, w97_45, w97_46, w97_47, w97_48, w97_50, w97_53, w97_54, w97_56, w97_58, w97_59, w97_60, w97_61, w97_62, w97_64, w97_67, w97_68, w97_70, w97_71, w97_73, w97_75, w97_78, w97_80, w97_82, w97_85, w97_88, w97_90, w97_91, w97_94, w97_96, w97_98, w97_99, w97_101, w97_102, w97_104, w97_105, w97_108, w97_114, w97_117, ↓reduceIte, okp_i, okp_r, okp_n, catS_nil, catS_cons, catV_i, catV_r, catV_l, Option.toList_some, Option.toList_none, List.cons_append, List.nil_append, gi_si, ga_si, gi_sa, ga_sa, gi_sl, ga_sl, gi_sf, ga_sf, gl_si, gl_sa, gl_sf, gl_sl, and_true, true_and, if_true, if_false, ite_true, ite_false, not_false_eq_true, not_true_eq_false, Nat.reduceEqDiff, reduceCtorEq, Nat.reduceLeDiff, Nat.reduceAdd, Nat.reduceMul, Nat.reduceLT, Int.reduceNeg, Int.reduceEq, Int.reduceLT, Int.reduceLE, eq_self, Nat.reduceSub, or_true, true_or, or_false, false_or, and_false, false_and, Int.reduceToNat, rc0, rc1, ib2, ib3, ib4, ib5, ib6, ib7, ib8, ib9, ib10, rc11, ib12, rc13, ib14, ib15, ib16, ib17, ib18, ib19, rc20, rc21, ib22, ib23, ib24, rc25, ib26, ib27, ib28, ib29, ib30, ib31, rc32, ib33, rc34, ib35, rc36, ib37, rc38, ib39, ib40, ib41, ib42, ib43, ib44, ib45, ib46, ib47, rc48, ib49, ib50, ib51, ib52, ib53, rc54, ib55, ib56, ib57, ib58, ib59, ib60, ib61, ib62, ib63, ib64, ib65, ib66, ib67, ib68, ib69, ib70, ib71, ib72, ib73, ib74, ib75, ib76, ib77, ib78, ib79, ib80, ib81, hx, c1, c3, c4, S_foot b8 t8, S_foot a8 t8, S_foot f8 t8, q1, q2, q3, q4, q5, q6, q7, Int.toNat_natCast, sa_sf]
    exact ih (to + 1) _ _ _ _ sm (KD_step L0 hm ha hb hfr hto' e1 e2 hK hA sA lA hB sB lB)
theorem L_footO {f g h : Nat → Int} {n : Nat} {D0 : Nat → Int} {a b m : Nat} {L : Int} (hx : gi σ 73 = (m : Int)) (hL : 1 ≤ L ∧ L ≤ 60) (hm : m ≤ 8) (ha : a < m) (hb : b < m) (e1 : wkF f g h n 1 a b L) (e2 : wkF f g h n 1 b a L)
    (kk : ∀ D' : Nat → Int, KD f g h n D0 a b L m m 0 D' → post none (sf σ 10 D')) : ∀ (r fr : Nat) (D : Nat → Int) (l5 l6 l7 l8 l9 l10 : Option AV), fr + r = m → KD f g h n D0 a b L m fr 0 D → WP S 97 3 [some (vr 1), some (vi (a : Int)), some (vi (b : Int)), some (vi L), some (vi (fr : Int)), l5, l6, l7, l8, l9, l10] [] (sf σ 10 D) post := by
  intro r
  induction r with
  | zero =>
    intro fr D l5 l6 l7 l8 l9 l10 hfr hK
    have e : fr = m := by omega
    subst e
    have c1 : ((fr : Int) ≤ (fr : Int)) = True := eq_true (by omega)
    rw [w97_3]
    simp only [w97_5, w97_6, w97_9, w97_117, ↓reduceIte, okp_i, okp_r, okp_n, catS_nil, catS_cons, catV_i, catV_r, catV_l, Option.toList_some, Option.toList_none, List.cons_append, List.nil_append, gi_si, ga_si, gi_sa, ga_sa, gi_sl, ga_sl, gi_sf, ga_sf, gl_si, gl_sa, gl_sf, gl_sl, and_true, true_and, if_true, if_false, ite_true, ite_false, not_false_eq_true, not_true_eq_false, Nat.reduceEqDiff, reduceCtorEq, Nat.reduceLeDiff, Nat.reduceAdd, Nat.reduceMul, Nat.reduceLT, Int.reduceNeg, Int.reduceEq, Int.reduceLT, Int.reduceLE, eq_self, Nat.reduceSub, or_true, true_or, or_false, false_or, and_false, false_and, Int.reduceToNat, rc0, rc1, ib2, ib3, ib4, ib5, ib6, ib7, ib8, ib9, ib10, rc11, ib12, rc13, ib14, ib15, ib16, ib17, ib18, ib19, rc20, rc21, ib22, ib23, ib24, rc25, ib26, ib27, ib28, ib29, ib30, ib31, rc32, ib33, rc34, ib35, rc36, ib37, rc38, ib39, ib40, ib41, ib42, ib43, ib44, ib45, ib46, ib47, rc48, ib49, ib50, ib51, ib52, ib53, rc54, ib55, ib56, ib57, ib58, ib59, ib60, ib61, ib62, ib63, ib64, ib65, ib66, ib67, ib68, ib69, ib70, ib71, ib72, ib73, ib74, ib75, ib76, ib77, ib78, ib79, ib80, ib81, hx, c1]
    exact kk D hK
  | succ r ih =>
    intro fr D l5 l6 l7 l8 l9 l10 hfr hK
    have c1 : ((m : Int) ≤ (fr : Int)) = False := eq_false (by omega)
    have b8 : b < 8 := by omega
    have a8 : a < 8 := by omega
    have f8 : fr < 8 := by omega
    have fm : fr < m := by omega
    have sm : fr + 1 + r = m := by omega
    have q7 : wr ((fr : Int) + 1) = ((fr + 1 : Nat) : Int) := by rw [wr_id (by omega) (by omega)]; omega
    have z0 : 0 + m = m := by omega
    have ka := hK fr a f8 a8
    have kb := hK fr b f8 b8
    rw [w97_3]
    simp only [w97_0, w97_1, w97_5, w97_6, w97_9, w97_12, w97_13, w97_15, w97_16, w97_19, w97_21, w97_22, w97_24, w97_25, w97_28, w97_30, w97_31, w97_35, w97_36, w97_39, w97_42, w97_44, w97_45, w97_46, w97_47, w97_48, w97_50, w97_53, w97_54, w97_56, w97_58, w97_59, w97_60, w97_61, w97_62, w97_64, w97_67, w97_68, w97_70, w97_71, w97_73, w97_75, w97_78, w97_80, w97_82, w97_85, w97_88, w97_90, w97_91, w97_94, w97_96, w97_98, w97_99, w97_101, w97_102, w97_104, w97_105, w97_108, w97_114, w97_117, ↓reduceIte, okp_i, okp_r, okp_n, catS_nil, catS_cons, catV_i, catV_r, catV_l, Option.toList_some, Option.toList_none, List.cons_append, List.nil_append, gi_si, ga_si, gi_sa, ga_sa, gi_sl, ga_sl, gi_sf, ga_sf, gl_si, gl_sa, gl_sf, gl_sl, and_true, true_and, if_true, if_false, ite_true, ite_false, not_false_eq_true, not_true_eq_false, Nat.reduceEqDiff, reduceCtorEq, Nat.reduceLeDiff, Nat.reduceAdd, Nat.reduceMul, Nat.reduceLT, Int.reduceNeg, Int.reduceEq, Int.reduceLT, Int.reduceLE, eq_self, Nat.reduceSub, or_true, true_or, or_false, false_or, and_false, false_and, Int.reduceToNat, rc0, rc1, ib2, ib3, ib4, ib5, ib6, ib7, ib8, ib9, ib10, rc11, ib12, rc13, ib14, ib15, ib16, ib17, ib18, ib19, rc20, rc21, ib22, ib23, ib24, rc25, ib26, ib27, ib28, ib29, ib30, ib31, rc32, ib33, rc34, ib35, rc36, ib37, rc38, ib39, ib40, ib41, ib42, ib43, ib44, ib45, ib46, ib47, rc48, ib49, ib50, ib51, ib52, ib53, rc54, ib55, ib56, ib57, ib58, ib59, ib60, ib61, ib62, ib63, ib64, ib65, ib66, ib67, ib68, ib69, ib70, ib71, ib72, ib73, ib74, ib75, ib76, ib77, ib78, ib79, ib80, ib81, hx, c1, S_foot f8 a8, S_foot f8 b8]
    refine L_footI (fr := fr) hx hL hm ha hb fm e1 e2 ka.1 ka.2.2.1 ka.2.1 kb.1 kb.2.2.1 kb.2.1 ?_ m 0 D _ _ _ z0 hK
    intro D' l7 l8 l9 l10 hK'
    simp only [w97_111, w97_114, ↓reduceIte, okp_i, okp_r, okp_n, catS_nil, catS_cons, catV_i, catV_r, catV_l, Option.toList_some, Option.toList_none, List.cons_append, List.nil_append, gi_si, ga_si, gi_sa, ga_sa, gi_sl, ga_sl, gi_sf, ga_sf, gl_si, gl_sa, gl_sf, gl_sl, and_true, true_and, if_true, if_false, ite_true, ite_false, not_false_eq_true, not_true_eq_false, Nat.reduceEqDiff, reduceCtorEq, Nat.reduceLeDiff, Nat.reduceAdd, Nat.reduceMul, Nat.reduceLT, Int.reduceNeg, Int.reduceEq, Int.reduceLT, Int.reduceLE, eq_self, Nat.reduceSub, or_true, true_or, or_false, false_or, and_false, false_and, Int.reduceToNat, rc0, rc1, ib2, ib3, ib4, ib5, ib6, ib7, ib8, ib9, ib10, rc11, ib12, rc13, ib14, ib15, ib16, ib17, ib18, ib19, rc20, rc21, ib22, ib23, ib24, rc25, ib26, ib27, ib28, ib29, ib30, ib31, rc32, ib33, rc34, ib35, rc36, ib37, rc38, ib39, ib40, ib41, ib42, ib43, ib44, ib45, ib46, ib47, rc48, ib49, ib50, ib51, ib52, ib53, rc54, ib55, ib56, ib57, ib58, ib59, ib60, ib61, ib62, ib63, ib64, ib65, ib66, ib67, ib68, ib69, ib70, ib71, ib72, ib73, ib74, ib75, ib76, ib77, ib78, ib79, ib80, ib81, q7]
    exact ih (fr + 1) D' _ _ _ _ _ _ sm (KD_row hK')
theorem S_lay {c : Nat} {ln : Int} (hc : c < 8) (hd : 0 ≤ ga σ 8 c ∧ ga σ 8 c < 16) : WP S 96 0 [some (vr 1), some (vi (c : Int)), some (vi ln), none] [] σ post ↔ post (some (vi (ga σ 8 c))) (sa (sa σ 9 (16 * c + (ga σ 8 c).toNat) ln) 8 c (ga σ 8 c + 1)) := by
  have c1 : (0 ≤ (c : Int)) = True := eq_true (by omega)
  have c2 : ((c : Int) < 8) = True := eq_true (by omega)
  have e1 : wr ((c : Int) * 16) = (c : Int) * 16 := wr_id (by omega) (by omega)
  have e2 : wr ((c : Int) * 16 + ga σ 8 c) = ((16 * c + (ga σ 8 c).toNat : Nat) : Int) := by rw [wr_id (by omega) (by omega)]; omega
  have c3 : (0 ≤ ((16 * c + (ga σ 8 c).toNat : Nat) : Int)) = True := eq_true (by omega)
  have c4 : (((16 * c + (ga σ 8 c).toNat : Nat) : Int) < 128) = True := eq_true (by omega)
  have e3 : wr (ga σ 8 c + 1) = ga σ 8 c + 1 := wr_id (by omega) (by omega)
  simp only [w96_0, w96_1, w96_4, w96_5, w96_6, w96_7, w96_8, w96_11, w96_12, w96_14, w96_15, w96_16, w96_17, w96_18, w96_19, w96_20, w96_23, w96_24, w96_25, w96_26, w96_27, w96_28, w96_29, ↓reduceIte, okp_i, okp_r, okp_n, catS_nil, catS_cons, catV_i, catV_r, catV_l, Option.toList_some, Option.toList_none, List.cons_append, List.nil_append, gi_si, ga_si, gi_sa, ga_sa, gi_sl, ga_sl, gi_sf, ga_sf, gl_si, gl_sa, gl_sf, gl_sl, and_true, true_and, if_true, if_false, ite_true, ite_false, not_false_eq_true, not_true_eq_false, Nat.reduceEqDiff, reduceCtorEq, Nat.reduceLeDiff, Nat.reduceAdd, Nat.reduceMul, Nat.reduceLT, Int.reduceNeg, Int.reduceEq, Int.reduceLT, Int.reduceLE, eq_self, Nat.reduceSub, or_true, true_or, or_false, false_or, and_false, false_and, Int.reduceToNat, rc0, rc1, ib2, ib3, ib4, ib5, ib6, ib7, ib8, ib9, ib10, rc11, ib12, rc13, ib14, ib15, ib16, ib17, ib18, ib19, rc20, rc21, ib22, ib23, ib24, rc25, ib26, ib27, ib28, ib29, ib30, ib31, rc32, ib33, rc34, ib35, rc36, ib37, rc38, ib39, ib40, ib41, ib42, ib43, ib44, ib45, ib46, ib47, rc48, ib49, ib50, ib51, ib52, ib53, rc54, ib55, ib56, ib57, ib58, ib59, ib60, ib61, ib62, ib63, ib64, ib65, ib66, ib67, ib68, ib69, ib70, ib71, ib72, ib73, ib74, ib75, ib76, ib77, ib78, ib79, ib80, ib81, c1, c2, c3, c4, e1, e2, e3, Int.toNat_natCast]
end STREET
