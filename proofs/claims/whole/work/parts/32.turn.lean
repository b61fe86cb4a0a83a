/-! around the crossings: ranks, turns -/
theorem rkF_mono {f g : Nat → Int} {c : Int} : ∀ (k n : Nat), rkF f g c n ≤ rkF f g c (n + k) := by
  intro k
  induction k with
  | zero => intro n; exact Nat.le_refl _
  | succ k ih =>
    intro n
    have h1 := ih n
    have h2 : rkF f g c (n + (k + 1)) = rkF f g c (n + k) + (if f (n + k) = c ∨ g (n + k) = c then 1 else 0) := rfl
    rw [h2]
    omega
theorem rkF_lt {f g : Nat → Int} {c : Int} {s n : Nat} (h : f s = c ∨ g s = c) (hs : s < n) : rkF f g c s < rkF f g c n := by
  have h1 := rkF_mono (f := f) (g := g) (c := c) (n - (s + 1)) (s + 1)
  rw [show s + 1 + (n - (s + 1)) = n by omega] at h1
  have h2 : rkF f g c (s + 1) = rkF f g c s + 1 := by simp only [rkF]; rw [if_pos h]
  omega
theorem rkF_le {f g : Nat → Int} {c : Int} : ∀ n : Nat, rkF f g c n ≤ n := by
  intro n
  induction n with
  | zero => exact Nat.le_refl _
  | succ n ih =>
    simp only [rkF]
    split <;> omega
theorem rkF_inj {f g : Nat → Int} {c : Int} {s t : Nat} (hs : f s = c ∨ g s = c) (ht : f t = c ∨ g t = c) (h : rkF f g c s = rkF f g c t) : s = t := by
  rcases Nat.lt_trichotomy s t with q | q | q
  · have := rkF_lt (f := f) (g := g) hs q; omega
  · exact q
  · have := rkF_lt (f := f) (g := g) ht q; omega
section TURN
variable {S : Scr} {σ : Sto} {post : Pst} {c m : Int}
theorem S_lies {s : Nat} (hs : (s : Int) < 16) : WP S 147 0 [some (vr 54), some (vi (s : Int)), some (vi c)] [] σ post ↔ post (some (vi (if ga σ 55 s = c ∨ ga σ 56 s = c then 1 else 0))) σ := by
  have c2 : (0 ≤ (s : Int)) = True := eq_true (by omega)
  have c3 : ((s : Int) < 16) = True := eq_true hs
  simp only [w147_0, w147_1, w147_4, w147_5, w147_6, w147_7, w147_10, w147_11, w147_14, w147_15, w147_16, w147_17, w147_20, w147_21, w147_24, w147_25, ↓reduceIte, okp_i, okp_r, okp_n, catS_nil, catS_cons, catV_i, catV_r, catV_l, Option.toList_some, Option.toList_none, List.cons_append, List.nil_append, gi_si, ga_si, gi_sa, ga_sa, gi_sl, ga_sl, gi_sf, ga_sf, gl_si, gl_sa, gl_sf, gl_sl, and_true, true_and, if_true, if_false, ite_true, ite_false, not_false_eq_true, not_true_eq_false, Nat.reduceEqDiff, reduceCtorEq, Nat.reduceLeDiff, Nat.reduceAdd, Nat.reduceMul, Nat.reduceLT, Int.reduceNeg, Int.reduceEq, Int.reduceLT, Int.reduceLE, eq_self, Nat.reduceSub, or_true, true_or, or_false, false_or, and_false, false_and, Int.reduceToNat, rc0, rc1, ib2, ib3, ib4, ib5, ib6, ib7, ib8, ib9, ib10, rc11, ib12, rc13, ib14, ib15, ib16, ib17, ib18, ib19, rc20, rc21, ib22, ib23, ib24, rc25, ib26, ib27, ib28, ib29, ib30, ib31, rc32, ib33, rc34, ib35, rc36, ib37, rc38, ib39, ib40, ib41, ib42, ib43, ib44, ib45, ib46, ib47, rc48, ib49, ib50, ib51, ib52, ib53, rc54, ib55, ib56, ib57, ib58, ib59, ib60, ib61, ib62, ib63, ib64, ib65, ib66, ib67, ib68, ib69, ib70, ib71, ib72, ib73, ib74, ib75, ib76, ib77, ib78, ib79, ib80, ib81, c2, c3, Int.toNat_natCast]
  by_cases ha : ga σ 55 s = c ∨ ga σ 56 s = c
  · rw [if_pos ha]
    repeat' split
    all_goals first | exact Iff.rfl | (exfalso; omega)
  · rw [if_neg ha]
    repeat' split
    all_goals first | exact Iff.rfl | (exfalso; omega)
theorem L_rank {t : Nat} (ht : t ≤ 16) : ∀ r j : Nat, j + r = t → (WP S 148 5 [some (vr 54), some (vi c), some (vi (t : Int)), some (vi (rkF (ga σ 55) (ga σ 56) c j : Int)), some (vi (j : Int))] [] σ post ↔ post (some (vi (rkF (ga σ 55) (ga σ 56) c t : Int))) σ) := by
  intro r
  induction r with
  | zero =>
    intro j hj
    have e : j = t := by omega
    subst e
    have c1 : ((j : Int) ≤ (j : Int)) = True := eq_true (by omega)
    rw [w148_5]
    simp only [w148_0, w148_1, w148_2, w148_3, w148_7, w148_8, w148_11, w148_12, w148_13, w148_15, w148_16, w148_19, w148_22, w148_23, w148_26, w148_27, w148_28, w148_29, w148_32, w148_35, w148_36, ↓reduceIte, okp_i, okp_r, okp_n, catS_nil, catS_cons, catV_i, catV_r, catV_l, Option.toList_some, Option.toList_none, List.cons_append, List.nil_append, gi_si, ga_si, gi_sa, ga_sa, gi_sl, ga_sl, gi_sf, ga_sf, gl_si, gl_sa, gl_sf, gl_sl, and_true, true_and, if_true, if_false, ite_true, ite_false, not_false_eq_true, not_true_eq_false, Nat.reduceEqDiff, reduceCtorEq, Nat.reduceLeDiff, Nat.reduceAdd, Nat.reduceMul, Nat.reduceLT, Int.reduceNeg, Int.reduceEq, Int.reduceLT, Int.reduceLE, eq_self, Nat.reduceSub, or_true, true_or, or_false, false_or, and_false, false_and, Int.reduceToNat, rc0, rc1, ib2, ib3, ib4, ib5, ib6, ib7, ib8, ib9, ib10, rc11, ib12, rc13, ib14, ib15, ib16, ib17, ib18, ib19, rc20, rc21, ib22, ib23, ib24, rc25, ib26, ib27, ib28, ib29, ib30, ib31, rc32, ib33, rc34, ib35, rc36, ib37, rc38, ib39, ib40, ib41, ib42, ib43, ib44, ib45, ib46, ib47, rc48, ib49, ib50, ib51, ib52, ib53, rc54, ib55, ib56, ib57, ib58, ib59, ib60, ib61, ib62, ib63, ib64, ib65, ib66, ib67, ib68, ib69, ib70, ib71, ib72, ib73, ib74, ib75, ib76, ib77, ib78, ib79, ib80, ib81, c1]
  | succ r ih =>
    intro j hj
    have ih := ih (j + 1) (by omega)
    have c1 : ((t : Int) ≤ (j : Int)) = False := eq_false (by omega)
    have hr := rkF_le (f := ga σ 55) (g := ga σ 56) (c := c) j
    have e1 : wr ((j : Int) + 1) = ((j + 1 : Nat) : Int) := by rw [wr_id (by omega) (by omega)]; omega
    have e2 : wr ((rkF (ga σ 55) (ga σ 56) c j : Int) + 1) = ((rkF (ga σ 55) (ga σ 56) c j + 1 : Nat) : Int) := by rw [wr_id (by omega) (by omega)]; omega
    have e3 : wr ((rkF (ga σ 55) (ga σ 56) c j : Int) + 0) = ((rkF (ga σ 55) (ga σ 56) c j : Nat) : Int) := by rw [wr_id (by omega) (by omega)]; omega
    rw [w148_5]
    simp only [w148_0, w148_1, w148_2, w148_3, w148_7, w148_8, w148_11, w148_12, w148_13, w148_15, w148_16, w148_19, w148_22, w148_23, w148_26, w148_27, w148_28, w148_29, w148_32, w148_35, w148_36, ↓reduceIte, okp_i, okp_r, okp_n, catS_nil, catS_cons, catV_i, catV_r, catV_l, Option.toList_some, Option.toList_none, List.cons_append, List.nil_append, gi_si, ga_si, gi_sa, ga_sa, gi_sl, ga_sl, gi_sf, ga_sf, gl_si, gl_sa, gl_sf, gl_sl, and_true, true_and, if_true, if_false, ite_true, ite_false, not_false_eq_true, not_true_eq_false, Nat.reduceEqDiff, reduceCtorEq, Nat.reduceLeDiff, Nat.reduceAdd, Nat.reduceMul, Nat.reduceLT, Int.reduceNeg, Int.reduceEq, Int.reduceLT, Int.reduceLE, eq_self, Nat.reduceSub, or_true, true_or, or_false, false_or, and_false, false_and, Int.reduceToNat, rc0, rc1, ib2, ib3, ib4, ib5, ib6, ib7, ib8, ib9, ib10, rc11, ib12, rc13, ib14, ib15, ib16, ib17, ib18, ib19, rc20, rc21, ib22, ib23, ib24, rc25, ib26, ib27, ib28, ib29, ib30, ib31, rc32, ib33, rc34, ib35, rc36, ib37, rc38, ib39, ib40, ib41, ib42, ib43, ib44, ib45, ib46, ib47, rc48, ib49, ib50, ib51, ib52, ib53, rc54, ib55, ib56, ib57, ib58, ib59, ib60, ib61, ib62, ib63, ib64, ib65, ib66, ib67, ib68, ib69, ib70, ib71, ib72, ib73, ib74, ib75, ib76, ib77, ib78, ib79, ib80, ib81, c1, S_lies (show (j : Int) < 16 by omega), e1]
    simp only [rkF] at ih
    by_cases ha : ga σ 55 j = c ∨ ga σ 56 j = c
    · rw [if_pos ha] at ih ⊢
      simp only [w148_0, w148_1, w148_2, w148_3, w148_7, w148_8, w148_11, w148_12, w148_13, w148_15, w148_16, w148_19, w148_22, w148_23, w148_26, w148_27, w148_28, w148_29, w148_32, w148_35, w148_36, ↓reduceIte, okp_i, okp_r, okp_n, catS_nil, catS_cons, catV_i, catV_r, catV_l, Option.toList_some, Option.toList_none, List.cons_append, List.nil_append, gi_si, ga_si, gi_sa, ga_sa, gi_sl, ga_sl, gi_sf, ga_sf, gl_si, gl_sa, gl_sf, gl_sl, and_true, true_and, if_true, if_false, ite_true, ite_false, not_false_eq_true, not_true_eq_false, Nat.reduceEqDiff, reduceCtorEq, Nat.reduceLeDiff, Nat.reduceAdd, Nat.reduceMul, Nat.reduceLT, Int.reduceNeg, Int.reduceEq, Int.reduceLT, Int.reduceLE, eq_self, Nat.reduceSub, or_true, true_or, or_false, false_or, and_false, false_and, Int.reduceToNat, rc0, rc1, ib2, ib3, ib4, ib5, ib6, ib7, ib8, ib9, ib10, rc11, ib12, rc13, ib14, ib15, ib16, ib17, ib18, ib19, rc20, rc21, ib22, ib23, ib24, rc25, ib26, ib27, ib28, ib29, ib30, ib31, rc32, ib33, rc34, ib35, rc36, ib37, rc38, ib39, ib40, ib41, ib42, ib43, ib44, ib45, ib46, ib47, rc48, ib49, ib50, ib51, ib52, ib53, rc54, ib55, ib56, ib57, ib58, ib59, ib60, ib61, ib62, ib63, ib64, ib65, ib66, ib67, ib68, ib69, ib70, ib71, ib72, ib73, ib74, ib75, ib76, ib77, ib78, ib79, ib80, ib81, e1, e2]
      exact ih
    · rw [if_neg ha] at ih ⊢
      simp only [w148_0, w148_1, w148_2, w148_3, w148_7, w148_8, w148_11, w148_12, w148_13, w148_15, w148_16, w148_19, w148_22, w148_23, w148_26, w148_27, w148_28, w148_29, w148_32, w148_35, w148_36, ↓reduceIte, okp_i, okp_r, okp_n, catS_nil, catS_cons, catV_i, catV_r, catV_l, Option.toList_some, Option.toList_none, List.cons_append, List.nil_append, gi_si, ga_si, gi_sa, ga_sa, gi_sl, ga_sl, gi_sf, ga_sf, gl_si, gl_sa, gl_sf, gl_sl, and_true, true_and, if_true, if_false, ite_true, ite_false, not_false_eq_true, not_true_eq_false, Nat.reduceEqDiff, reduceCtorEq, Nat.reduceLeDiff, Nat.reduceAdd, Nat.reduceMul, Nat.reduceLT, Int.reduceNeg, Int.reduceEq, Int.reduceLT, Int.reduceLE, eq_self, Nat.reduceSub, or_true, true_or, or_false, false_or, and_false, false_and, Int.reduceToNat, rc0, rc1, ib2, ib3, ib4, ib5, ib6, ib7, ib8, ib9, ib10, rc11, ib12, rc13, ib14, ib15, ib16, ib17, ib18, ib19, rc20, rc21, ib22, ib23, ib24, rc25, ib26, ib27, ib28, ib29, ib30, ib31, rc32, ib33, rc34, ib35, rc36, ib37, rc38, ib39, ib40, ib41, ib42, ib43, ib44, ib45, ib46, ib47, rc48, ib49, ib50, ib51, ib52, ib53, rc54, ib55, ib56, ib57, ib58, ib59, ib60, ib61, ib62, ib63, ib64, ib65, ib66, ib67, ib68, ib69, ib70, ib71, ib72, ib73, ib74, ib75, ib76, ib77, ib78, ib79, ib80, ib81, e1, e3]
      exact ih
theorem S_rank {t : Nat} (ht : t ≤ 16) : WP S 148 0 [some (vr 54), some (vi c), some (vi (t : Int)), none, none] [] σ post ↔ post (some (vi (rkF (ga σ 55) (ga σ 56) c t : Int))) σ := by
  simp only [w148_0, w148_1, w148_2, w148_3, w148_7, w148_8, w148_11, w148_12, w148_13, w148_15, w148_16, w148_19, w148_22, w148_23, w148_26, w148_27, w148_28, w148_29, w148_32, w148_35, w148_36, ↓reduceIte, okp_i, okp_r, okp_n, catS_nil, catS_cons, catV_i, catV_r, catV_l, Option.toList_some, Option.toList_none, List.cons_append, List.nil_append, gi_si, ga_si, gi_sa, ga_sa, gi_sl, ga_sl, gi_sf, ga_sf, gl_si, gl_sa, gl_sf, gl_sl, and_true, true_and, if_true, if_false, ite_true, ite_false, not_false_eq_true, not_true_eq_false, Nat.reduceEqDiff, reduceCtorEq, Nat.reduceLeDiff, Nat.reduceAdd, Nat.reduceMul, Nat.reduceLT, Int.reduceNeg, Int.reduceEq, Int.reduceLT, Int.reduceLE, eq_self, Nat.reduceSub, or_true, true_or, or_false, false_or, and_false, false_and, Int.reduceToNat, rc0, rc1, ib2, ib3, ib4, ib5, ib6, ib7, ib8, ib9, ib10, rc11, ib12, rc13, ib14, ib15, ib16, ib17, ib18, ib19, rc20, rc21, ib22, ib23, ib24, rc25, ib26, ib27, ib28, ib29, ib30, ib31, rc32, ib33, rc34, ib35, rc36, ib37, rc38, ib39, ib40, ib41, ib42, ib43, ib44, ib45, ib46, ib47, rc48, ib49, ib50, ib51, ib52, ib53, rc54, ib55, ib56, ib57, ib58, ib59, ib60, ib61, ib62, ib63, ib64, ib65, ib66, ib67, ib68, ib69, ib70, ib71, ib72, ib73, ib74, ib75, ib76, ib77, ib78, ib79, ib80, ib81]
  have := L_rank (S := S) (σ := σ) (post := post) (c := c) ht t 0 (by omega)
  simp only [rkF] at this
  exact this
theorem S_isLeft : WP S 146 0 [some (vr 54), some (vi m)] [] σ post ↔ post (some (vi (if witF m < gi σ 3462 then 1 else 0))) σ := by
  simp only [w146_0, w146_1, w146_4, w146_5, w146_8, w146_11, w146_12, w146_15, w146_16, w145_0, w145_1, w145_4, w145_7, w145_8, w145_11, w145_14, ↓reduceIte, okp_i, okp_r, okp_n, catS_nil, catS_cons, catV_i, catV_r, catV_l, Option.toList_some, Option.toList_none, List.cons_append, List.nil_append, gi_si, ga_si, gi_sa, ga_sa, gi_sl, ga_sl, gi_sf, ga_sf, gl_si, gl_sa, gl_sf, gl_sl, and_true, true_and, if_true, if_false, ite_true, ite_false, not_false_eq_true, not_true_eq_false, Nat.reduceEqDiff, reduceCtorEq, Nat.reduceLeDiff, Nat.reduceAdd, Nat.reduceMul, Nat.reduceLT, Int.reduceNeg, Int.reduceEq, Int.reduceLT, Int.reduceLE, eq_self, Nat.reduceSub, or_true, true_or, or_false, false_or, and_false, false_and, Int.reduceToNat, rc0, rc1, ib2, ib3, ib4, ib5, ib6, ib7, ib8, ib9, ib10, rc11, ib12, rc13, ib14, ib15, ib16, ib17, ib18, ib19, rc20, rc21, ib22, ib23, ib24, rc25, ib26, ib27, ib28, ib29, ib30, ib31, rc32, ib33, rc34, ib35, rc36, ib37, rc38, ib39, ib40, ib41, ib42, ib43, ib44, ib45, ib46, ib47, rc48, ib49, ib50, ib51, ib52, ib53, rc54, ib55, ib56, ib57, ib58, ib59, ib60, ib61, ib62, ib63, ib64, ib65, ib66, ib67, ib68, ib69, ib70, ib71, ib72, ib73, ib74, ib75, ib76, ib77, ib78, ib79, ib80, ib81, witF]
  repeat' split
  all_goals first | exact Iff.rfl | (exfalso; omega)
theorem tmod_ring {d n : Int} (h1 : -n < d) (h2 : d < n) : (d + n).tmod n = if d < 0 then d + n else d := by
  rw [Int.tmod_eq_emod_of_nonneg (by omega)]
  split
  · exact Int.emod_eq_of_lt (by omega) (by omega)
  · rw [Int.add_emod_right]
    exact Int.emod_eq_of_lt (by omega) (by omega)
theorem S_turnTakes (hT : InvT σ) {s0 s : Nat} (h0 : (s0 : Int) < gi σ 3461) (h1 : (s : Int) < gi σ 3461) (l0 : ga σ 55 s0 = c ∨ ga σ 56 s0 = c) : WP S 149 0 [some (vr 54), some (vi c), some (vi (s0 : Int)), some (vi (s : Int)), some (vi m), none, none] [] σ post ↔ post (some (vi (trnS σ c s0 s m))) σ := by
  obtain ⟨t1, t2, t3, t4, t5, t6, t7, t8, t9, t10, t11⟩ := id hT
  have ec : gi σ 3461 = (((gi σ 3461).toNat : Nat) : Int) := by omega
  have hrk' : ∀ post : Pst, WP S 148 0 [some (vr 54), some (vi c), some (vi (gi σ 3461)), none, none] [] σ post ↔ post (some (vi (rkF (ga σ 55) (ga σ 56) c (gi σ 3461).toNat : Int))) σ := fun post => by
    have := S_rank (S := S) (σ := σ) (post := post) (c := c) (t := (gi σ 3461).toNat) (by omega)
    rw [← ec] at this
    exact this
  have b1 := rkF_le (f := ga σ 55) (g := ga σ 56) (c := c) (gi σ 3461).toNat
  have b2 := rkF_le (f := ga σ 55) (g := ga σ 56) (c := c) s
  have b3 := rkF_le (f := ga σ 55) (g := ga σ 56) (c := c) s0
  have b4 := rkF_lt (f := ga σ 55) (g := ga σ 56) (c := c) l0 (show s0 < (gi σ 3461).toNat by omega)
  have e1 : wr ((rkF (ga σ 55) (ga σ 56) c s : Int) - (rkF (ga σ 55) (ga σ 56) c s0 : Int)) = (rkF (ga σ 55) (ga σ 56) c s : Int) - (rkF (ga σ 55) (ga σ 56) c s0 : Int) := wr_id (by omega) (by omega)
  have e2 : wr ((rkF (ga σ 55) (ga σ 56) c s : Int) - (rkF (ga σ 55) (ga σ 56) c s0 : Int) + (rkF (ga σ 55) (ga σ 56) c (gi σ 3461).toNat : Int)) = (rkF (ga σ 55) (ga σ 56) c s : Int) - (rkF (ga σ 55) (ga σ 56) c s0 : Int) + (rkF (ga σ 55) (ga σ 56) c (gi σ 3461).toNat : Int) := wr_id (by omega) (by omega)
  have hz : ¬ (rkF (ga σ 55) (ga σ 56) c (gi σ 3461).toNat : Int) = 0 := by omega
  have tb := Int.tmod_lt_of_pos ((rkF (ga σ 55) (ga σ 56) c s : Int) - (rkF (ga σ 55) (ga σ 56) c s0 : Int) + (rkF (ga σ 55) (ga σ 56) c (gi σ 3461).toNat : Int)) (show (0 : Int) < (rkF (ga σ 55) (ga σ 56) c (gi σ 3461).toNat : Int) by omega)
  have tb2 := Int.lt_tmod_of_pos ((rkF (ga σ 55) (ga σ 56) c s : Int) - (rkF (ga σ 55) (ga σ 56) c s0 : Int) + (rkF (ga σ 55) (ga σ 56) c (gi σ 3461).toNat : Int)) (show (0 : Int) < (rkF (ga σ 55) (ga σ 56) c (gi σ 3461).toNat : Int) by omega)
  have e3 := wr_id (x := ((rkF (ga σ 55) (ga σ 56) c s : Int) - (rkF (ga σ 55) (ga σ 56) c s0 : Int) + (rkF (ga σ 55) (ga σ 56) c (gi σ 3461).toNat : Int)).tmod (rkF (ga σ 55) (ga σ 56) c (gi σ 3461).toNat : Int)) (by omega) (by omega)
  have e4 : wr ((rkF (ga σ 55) (ga σ 56) c (gi σ 3461).toNat : Int) - 1) = (rkF (ga σ 55) (ga σ 56) c (gi σ 3461).toNat : Int) - 1 := wr_id (by omega) (by omega)
  simp only [w149_0, w149_1, w149_2, w149_3, w149_6, w149_9, w149_11, w149_12, w149_13, w149_14, w149_17, w149_18, w149_19, w149_20, w149_23, w149_24, w149_26, w149_27, w149_29, w149_30, w149_32, w149_34, w149_35, w149_37, w149_40, w149_43, w149_44, w149_47, w149_49, w149_50, w149_51, w149_54, w149_55, w149_58, w149_61, w149_62, w149_65, ↓reduceIte, okp_i, okp_r, okp_n, catS_nil, catS_cons, catV_i, catV_r, catV_l, Option.toList_some, Option.toList_none, List.cons_append, List.nil_append, gi_si, ga_si, gi_sa, ga_sa, gi_sl, ga_sl, gi_sf, ga_sf, gl_si, gl_sa, gl_sf, gl_sl, and_true, true_and, if_true, if_false, ite_true, ite_false, not_false_eq_true, not_true_eq_false, Nat.reduceEqDiff, reduceCtorEq, Nat.reduceLeDiff, Nat.reduceAdd, Nat.reduceMul, Nat.reduceLT, Int.reduceNeg, Int.reduceEq, Int.reduceLT, Int.reduceLE, eq_self, Nat.reduceSub, or_true, true_or, or_false, false_or, and_false, false_and, Int.reduceToNat, rc0, rc1, ib2, ib3, ib4, ib5, ib6, ib7, ib8, ib9, ib10, rc11, ib12, rc13, ib14, ib15, ib16, ib17, ib18, ib19, rc20, rc21, ib22, ib23, ib24, rc25, ib26, ib27, ib28, ib29, ib30, ib31, rc32, ib33, rc34, ib35, rc36, ib37, rc38, ib39, ib40, ib41, ib42, ib43, ib44, ib45, ib46, ib47, rc48, ib49, ib50, ib51, ib52, ib53, rc54, ib55, ib56, ib57, ib58, ib59, ib60, ib61, ib62, ib63, ib64, ib65, ib66, ib67, ib68, ib69, ib70, ib71, ib72, ib73, ib74, ib75, ib76, ib77, ib78, ib79, ib80, ib81, hrk', S_rank (show s ≤ 16 by omega), S_rank (show s0 ≤ 16 by omega), S_isLeft, e1, e2, e3, e4, hz, trnS]
  by_cases hl : witF m < gi σ 3462
  · simp only [hl, w149_0, w149_1, w149_2, w149_3, w149_6, w149_9, w149_11, w149_12, w149_13, w149_14, w149_17, w149_18, w149_19, w149_20, w149_23, w149_24, w149_26, w149_27, w149_29, w149_30, w149_32, w149_34, w149_35, w149_37, w149_40, w149_43, w149_44, w149_47, w149_49, w149_50, w149_51, w149_54, w149_55, w149_58, w149_61, w149_62, w149_65, ↓reduceIte, okp_i, okp_r, okp_n, catS_nil, catS_cons, catV_i, catV_r, catV_l, Option.toList_some, Option.toList_none, List.cons_append, List.nil_append, gi_si, ga_si, gi_sa, ga_sa, gi_sl, ga_sl, gi_sf, ga_sf, gl_si, gl_sa, gl_sf, gl_sl, and_true, true_and, if_true, if_false, ite_true, ite_false, not_false_eq_true, not_true_eq_false, Nat.reduceEqDiff, reduceCtorEq, Nat.reduceLeDiff, Nat.reduceAdd, Nat.reduceMul, Nat.reduceLT, Int.reduceNeg, Int.reduceEq, Int.reduceLT, Int.reduceLE, eq_self, Nat.reduceSub, or_true, true_or, or_false, false_or, and_false, false_and, Int.reduceToNat, rc0, rc1, ib2, ib3, ib4, ib5, ib6, ib7, ib8, ib9, ib10, rc11, ib12, rc13, ib14, ib15, ib16, ib17, ib18, ib19, rc20, rc21, ib22, ib23, ib24, rc25, ib26, ib27, ib28, ib29, ib30, ib31, rc32, ib33, rc34, ib35, rc36, ib37, rc38, ib39, ib40, ib41, ib42, ib43, ib44, ib45, ib46, ib47, rc48, ib49, ib50, ib51, ib52, ib53, rc54, ib55, ib56, ib57, ib58, ib59, ib60, ib61, ib62, ib63, ib64, ib65, ib66, ib67, ib68, ib69, ib70, ib71, ib72, ib73, ib74, ib75, ib76, ib77, ib78, ib79, ib80, ib81]
    repeat' split
    all_goals first | exact Iff.rfl | (exfalso; omega)
  · simp only [hl, w149_0, w149_1, w149_2, w149_3, w149_6, w149_9, w149_11, w149_12, w149_13, w149_14, w149_17, w149_18, w149_19, w149_20, w149_23, w149_24, w149_26, w149_27, w149_29, w149_30, w149_32, w149_34, w149_35, w149_37, w149_40, w149_43, w149_44, w149_47, w149_49, w149_50, w149_51, w149_54, w149_55, w149_58, w149_61, w149_62, w149_65, ↓reduceIte, okp_i, okp_r, okp_n, catS_nil, catS_cons, catV_i, catV_r, catV_l, Option.toList_some, Option.toList_none, List.cons_append, List.nil_append, gi_si, ga_si, gi_sa, ga_sa, gi_sl, ga_sl, gi_sf, ga_sf, gl_si, gl_sa, gl_sf, gl_sl, and_true, true_and, if_true, if_false, ite_true, ite_false, not_false_eq_true, not_true_eq_false, Nat.reduceEqDiff, reduceCtorEq, Nat.reduceLeDiff, Nat.reduceAdd, Nat.reduceMul, Nat.reduceLT, Int.reduceNeg, Int.reduceEq, Int.reduceLT, Int.reduceLE, eq_self, Nat.reduceSub, or_true, true_or, or_false, false_or, and_false, false_and, Int.reduceToNat, rc0, rc1, ib2, ib3, ib4, ib5, ib6, ib7, ib8, ib9, ib10, rc11, ib12, rc13, ib14, ib15, ib16, ib17, ib18, ib19, rc20, rc21, ib22, ib23, ib24, rc25, ib26, ib27, ib28, ib29, ib30, ib31, rc32, ib33, rc34, ib35, rc36, ib37, rc38, ib39, ib40, ib41, ib42, ib43, ib44, ib45, ib46, ib47, rc48, ib49, ib50, ib51, ib52, ib53, rc54, ib55, ib56, ib57, ib58, ib59, ib60, ib61, ib62, ib63, ib64, ib65, ib66, ib67, ib68, ib69, ib70, ib71, ib72, ib73, ib74, ib75, ib76, ib77, ib78, ib79, ib80, ib81, e4]
    repeat' split
    all_goals first | exact Iff.rfl | (exfalso; omega)
theorem S_placeAt (hT : InvT σ) (hA : InvA σ) {s : Nat} (h1 : (s : Int) < gi σ 3461) (ls : ga σ 55 s = c ∨ ga σ 56 s = c) : WP S 108 0 [some (vr 1), some (vi c), some (vi (s : Int))] [] σ post ↔ post (some (vi (rkF (ga σ 55) (ga σ 56) c s : Int))) σ := by
  obtain ⟨t1, t2, t3, t4, t5, t6, t7, t8, t9, t10, t11⟩ := id hT
  obtain ⟨u1, u2, -⟩ := t11 s h1
  obtain ⟨v1, v2, -⟩ := hA.2 s h1
  have c2 : (0 ≤ (s : Int)) = True := eq_true (by omega)
  have c3 : ((s : Int) < 16) = True := eq_true (by omega)
  simp only [w108_0, w108_1, w108_4, w108_5, w108_6, w108_7, w108_10, w108_11, w108_14, w108_15, w108_16, w108_19, w108_20, w108_23, w108_24, w108_25, ↓reduceIte, okp_i, okp_r, okp_n, catS_nil, catS_cons, catV_i, catV_r, catV_l, Option.toList_some, Option.toList_none, List.cons_append, List.nil_append, gi_si, ga_si, gi_sa, ga_sa, gi_sl, ga_sl, gi_sf, ga_sf, gl_si, gl_sa, gl_sf, gl_sl, and_true, true_and, if_true, if_false, ite_true, ite_false, not_false_eq_true, not_true_eq_false, Nat.reduceEqDiff, reduceCtorEq, Nat.reduceLeDiff, Nat.reduceAdd, Nat.reduceMul, Nat.reduceLT, Int.reduceNeg, Int.reduceEq, Int.reduceLT, Int.reduceLE, eq_self, Nat.reduceSub, or_true, true_or, or_false, false_or, and_false, false_and, Int.reduceToNat, rc0, rc1, ib2, ib3, ib4, ib5, ib6, ib7, ib8, ib9, ib10, rc11, ib12, rc13, ib14, ib15, ib16, ib17, ib18, ib19, rc20, rc21, ib22, ib23, ib24, rc25, ib26, ib27, ib28, ib29, ib30, ib31, rc32, ib33, rc34, ib35, rc36, ib37, rc38, ib39, ib40, ib41, ib42, ib43, ib44, ib45, ib46, ib47, rc48, ib49, ib50, ib51, ib52, ib53, rc54, ib55, ib56, ib57, ib58, ib59, ib60, ib61, ib62, ib63, ib64, ib65, ib66, ib67, ib68, ib69, ib70, ib71, ib72, ib73, ib74, ib75, ib76, ib77, ib78, ib79, ib80, ib81, c2, c3, Int.toNat_natCast, u1]
  by_cases q : ga σ 55 s = c
  · rw [if_neg (fun h => h q), v1, q]
  · have q2 : ga σ 56 s = c := ls.resolve_left q
    rw [if_pos q, v2, q2]
theorem S_touches (hT : InvT σ) {b : Int} : WP S 99 0 [some (vr 1), some (vi b), some (vi c)] [] σ post ↔ post (some (vi (if (0 ≤ b ∧ b < gi σ 3461) ∧ (ga σ 55 b.toNat = c ∨ ga σ 56 b.toNat = c) then 1 else 0))) σ := by
  obtain ⟨t1, t2, t3, t4, t5, t6, t7, t8, t9, t10, t11⟩ := id hT
  by_cases hv : 0 ≤ b ∧ b < gi σ 3461
  · obtain ⟨u1, u2, -⟩ := t11 b.toNat (by omega)
    have c1 : ¬ b < 0 := by omega
    have c2 : ¬ gi σ 3461 ≤ b := by omega
    have c3 : 0 ≤ b := by omega
    have c4 : b < 16 := by omega
    by_cases ha : ga σ 55 b.toNat = c ∨ ga σ 56 b.toNat = c
    · rw [if_pos ⟨hv, ha⟩]
      simp only [w99_0, w99_1, w99_2, w99_5, w99_8, w99_9, w99_12, w99_13, w99_14, w99_15, w99_18, w99_19, w99_22, w99_23, w99_24, w99_25, w99_28, w99_29, w99_32, w99_33, w91_0, w91_1, w91_4, w91_5, w91_6, w91_9, w91_12, w91_13, w91_16, w91_17, ↓reduceIte, okp_i, okp_r, okp_n, catS_nil, catS_cons, catV_i, catV_r, catV_l, Option.toList_some, Option.toList_none, List.cons_append, List.nil_append, gi_si, ga_si, gi_sa, ga_sa, gi_sl, ga_sl, gi_sf, ga_sf, gl_si, gl_sa, gl_sf, gl_sl, and_true, true_and, if_true, if_false, ite_true, ite_false, not_false_eq_true, not_true_eq_false, Nat.reduceEqDiff, reduceCtorEq, Nat.reduceLeDiff, Nat.reduceAdd, Nat.reduceMul, Nat.reduceLT, Int.reduceNeg, Int.reduceEq, Int.reduceLT, Int.reduceLE, eq_self, Nat.reduceSub, or_true, true_or, or_false, false_or, and_false, false_and, Int.reduceToNat, rc0, rc1, ib2, ib3, ib4, ib5, ib6, ib7, ib8, ib9, ib10, rc11, ib12, rc13, ib14, ib15, ib16, ib17, ib18, ib19, rc20, rc21, ib22, ib23, ib24, rc25, ib26, ib27, ib28, ib29, ib30, ib31, rc32, ib33, rc34, ib35, rc36, ib37, rc38, ib39, ib40, ib41, ib42, ib43, ib44, ib45, ib46, ib47, rc48, ib49, ib50, ib51, ib52, ib53, rc54, ib55, ib56, ib57, ib58, ib59, ib60, ib61, ib62, ib63, ib64, ib65, ib66, ib67, ib68, ib69, ib70, ib71, ib72, ib73, ib74, ib75, ib76, ib77, ib78, ib79, ib80, ib81, t2, c1, c2, c3, c4, u1, u2]
      repeat' split
      all_goals first | exact Iff.rfl | (exfalso; omega)
    · rw [if_neg (fun q => ha q.2)]
      simp only [w99_0, w99_1, w99_2, w99_5, w99_8, w99_9, w99_12, w99_13, w99_14, w99_15, w99_18, w99_19, w99_22, w99_23, w99_24, w99_25, w99_28, w99_29, w99_32, w99_33, w91_0, w91_1, w91_4, w91_5, w91_6, w91_9, w91_12, w91_13, w91_16, w91_17, ↓reduceIte, okp_i, okp_r, okp_n, catS_nil, catS_cons, catV_i, catV_r, catV_l, Option.toList_some, Option.toList_none, List.cons_append, List.nil_append, gi_si, ga_si, gi_sa, ga_sa, gi_sl, ga_sl, gi_sf, ga_sf, gl_si, gl_sa, gl_sf, gl_sl, and_true, true_and, if_true, if_false, ite_true, ite_false, not_false_eq_true, not_true_eq_false, Nat.reduceEqDiff, reduceCtorEq, Nat.reduceLeDiff, Nat.reduceAdd, Nat.reduceMul, Nat.reduceLT, Int.reduceNeg, Int.reduceEq, Int.reduceLT, Int.reduceLE, eq_self, Nat.reduceSub, or_true, true_or, or_false, false_or, and_false, false_and, Int.reduceToNat, rc0, rc1, ib2, ib3, ib4, ib5, ib6, ib7, ib8, ib9, ib10, rc11, ib12, rc13, ib14, ib15, ib16, ib17, ib18, ib19, rc20, rc21, ib22, ib23, ib24, rc25, ib26, ib27, ib28, ib29, ib30, ib31, rc32, ib33, rc34, ib35, rc36, ib37, rc38, ib39, ib40, ib41, ib42, ib43, ib44, ib45, ib46, ib47, rc48, ib49, ib50, ib51, ib52, ib53, rc54, ib55, ib56, ib57, ib58, ib59, ib60, ib61, ib62, ib63, ib64, ib65, ib66, ib67, ib68, ib69, ib70, ib71, ib72, ib73, ib74, ib75, ib76, ib77, ib78, ib79, ib80, ib81, t2, c1, c2, c3, c4, u1, u2]
      repeat' split
      all_goals first | exact Iff.rfl | (exfalso; omega)
  · rw [if_neg (fun q => hv q.1)]
    simp only [w99_0, w99_1, w99_2, w99_5, w99_8, w99_9, w99_12, w99_13, w99_14, w99_15, w99_18, w99_19, w99_22, w99_23, w99_24, w99_25, w99_28, w99_29, w99_32, w99_33, w91_0, w91_1, w91_4, w91_5, w91_6, w91_9, w91_12, w91_13, w91_16, w91_17, ↓reduceIte, okp_i, okp_r, okp_n, catS_nil, catS_cons, catV_i, catV_r, catV_l, Option.toList_some, Option.toList_none, List.cons_append, List.nil_append, gi_si, ga_si, gi_sa, ga_sa, gi_sl, ga_sl, gi_sf, ga_sf, gl_si, gl_sa, gl_sf, gl_sl, and_true, true_and, if_true, if_false, ite_true, ite_false, not_false_eq_true, not_true_eq_false, Nat.reduceEqDiff, reduceCtorEq, Nat.reduceLeDiff, Nat.reduceAdd, Nat.reduceMul, Nat.reduceLT, Int.reduceNeg, Int.reduceEq, Int.reduceLT, Int.reduceLE, eq_self, Nat.reduceSub, or_true, true_or, or_false, false_or, and_false, false_and, Int.reduceToNat, rc0, rc1, ib2, ib3, ib4, ib5, ib6, ib7, ib8, ib9, ib10, rc11, ib12, rc13, ib14, ib15, ib16, ib17, ib18, ib19, rc20, rc21, ib22, ib23, ib24, rc25, ib26, ib27, ib28, ib29, ib30, ib31, rc32, ib33, rc34, ib35, rc36, ib37, rc38, ib39, ib40, ib41, ib42, ib43, ib44, ib45, ib46, ib47, rc48, ib49, ib50, ib51, ib52, ib53, rc54, ib55, ib56, ib57, ib58, ib59, ib60, ib61, ib62, ib63, ib64, ib65, ib66, ib67, ib68, ib69, ib70, ib71, ib72, ib73, ib74, ib75, ib76, ib77, ib78, ib79, ib80, ib81, t2]
    repeat' split
    all_goals first | exact Iff.rfl | (exfalso; omega)
theorem wit_lt (hT : InvT σ) (hm : 0 ≤ m) : witF m < gi σ 3462 ↔ m < gi σ 3462 := by
  obtain ⟨t1, t2, t3, t4, t5, t6, t7, t8, -⟩ := id hT
  unfold witF
  split <;> omega
/-- is the turn at c from s0 into s a near one -/
def nrS (σ : Sto) (c : Int) (s0 s : Nat) (m : Int) : Int := (if (if (rkF (ga σ 55) (ga σ 56) c s : Int) - (rkF (ga σ 55) (ga σ 56) c s0 : Int) < 0 then (rkF (ga σ 55) (ga σ 56) c s : Int) - (rkF (ga σ 55) (ga σ 56) c s0 : Int) + (rkF (ga σ 55) (ga σ 56) c (gi σ 3461).toNat : Int) else (rkF (ga σ 55) (ga σ 56) c s : Int) - (rkF (ga σ 55) (ga σ 56) c s0 : Int)) = (if m < gi σ 3462 then 1 else (rkF (ga σ 55) (ga σ 56) c (gi σ 3461).toNat : Int) - 1) then 1 else 0)
theorem trnS_eq (hT : InvT σ) (hm : 0 ≤ m) {s0 s : Nat} (h0 : (s0 : Int) < gi σ 3461) (h1 : (s : Int) < gi σ 3461) (l0 : ga σ 55 s0 = c ∨ ga σ 56 s0 = c) (l1 : ga σ 55 s = c ∨ ga σ 56 s = c) : trnS σ c s0 s m = if nrS σ c s0 s m = 1 then gi σ 3463 else gi σ 3464 := by
  have b4 := rkF_lt (f := ga σ 55) (g := ga σ 56) (c := c) l0 (show s0 < (gi σ 3461).toNat by omega)
  have b5 := rkF_lt (f := ga σ 55) (g := ga σ 56) (c := c) l1 (show s < (gi σ 3461).toNat by omega)
  unfold trnS nrS
  rw [tmod_ring (by omega) (by omega)]
  simp only [wit_lt hT hm]
  repeat' split
  all_goals first | rfl | (exfalso; omega)
theorem nrS_01 {s0 s : Nat} : nrS σ c s0 s m = 0 ∨ nrS σ c s0 s m = 1 := by
  unfold nrS
  repeat' split
  all_goals first | exact Or.inr rfl | exact Or.inl rfl
theorem S_isNear (hT : InvT σ) (hA : InvA σ) (hm : 0 ≤ m) {s0 s : Nat} (h0 : (s0 : Int) < gi σ 3461) (h1 : (s : Int) < gi σ 3461) (l0 : ga σ 55 s0 = c ∨ ga σ 56 s0 = c) (l1 : ga σ 55 s = c ∨ ga σ 56 s = c) : WP S 107 0 [some (vr 1), some (vi c), some (vi (s0 : Int)), some (vi (s : Int)), some (vi m), none] [] σ post ↔ post (some (vi (nrS σ c s0 s m))) σ := by
  obtain ⟨t1, t2, t3, t4, t5, t6, t7, t8, t9, t10, t11⟩ := id hT
  obtain ⟨u1, u2, u3, u4, u5, u6, -⟩ := t11 s h1
  have hc : 0 ≤ c ∧ c < 8 := by omega
  have b1 := rkF_le (f := ga σ 55) (g := ga σ 56) (c := c) (gi σ 3461).toNat
  have b2 := rkF_le (f := ga σ 55) (g := ga σ 56) (c := c) s
  have b3 := rkF_le (f := ga σ 55) (g := ga σ 56) (c := c) s0
  have hdg : ga σ 8 c.toNat = (rkF (ga σ 55) (ga σ 56) c (gi σ 3461).toNat : Int) := by
    have := hA.1 c.toNat (by omega)
    rw [show ((c.toNat : Nat) : Int) = c by omega] at this
    exact this
  have k1 : (0 ≤ c) = True := eq_true (by omega)
  have k2 : (c < 8) = True := eq_true (by omega)
  have hs' := fun post : Pst => S_placeAt (S := S) (post := post) (c := c) hT hA h1 l1
  have hs0' := fun post : Pst => S_placeAt (S := S) (post := post) (c := c) hT hA h0 l0
  unfold nrS
  generalize rkF (ga σ 55) (ga σ 56) c (gi σ 3461).toNat = n at *
  generalize rkF (ga σ 55) (ga σ 56) c s = a at *
  generalize rkF (ga σ 55) (ga σ 56) c s0 = b at *
  have e1 : wr ((a : Int) - (b : Int)) = (a : Int) - (b : Int) := wr_id (by omega) (by omega)
  have e2 : wr ((a : Int) - (b : Int) + (n : Int)) = (a : Int) - (b : Int) + (n : Int) := wr_id (by omega) (by omega)
  have e3 : wr ((n : Int) - 1) = (n : Int) - 1 := wr_id (by omega) (by omega)
  simp only [w107_0, w107_1, w107_2, w107_3, w107_6, w107_7, w107_8, w107_9, w107_12, w107_13, w107_15, w107_17, w107_20, w107_22, w107_23, w107_26, w107_27, w107_28, w107_29, w107_31, w107_33, w107_34, w107_35, w107_37, w107_40, w107_43, w107_44, w107_47, w107_48, w106_0, w106_1, w106_2, w106_5, w106_8, w106_9, w106_12, w106_13, w106_14, w106_15, w106_16, w106_19, w106_20, w105_0, w105_1, w105_2, w105_5, w105_8, w105_9, w105_12, w105_13, ↓reduceIte, okp_i, okp_r, okp_n, catS_nil, catS_cons, catV_i, catV_r, catV_l, Option.toList_some, Option.toList_none, List.cons_append, List.nil_append, gi_si, ga_si, gi_sa, ga_sa, gi_sl, ga_sl, gi_sf, ga_sf, gl_si, gl_sa, gl_sf, gl_sl, and_true, true_and, if_true, if_false, ite_true, ite_false, not_false_eq_true, not_true_eq_false, Nat.reduceEqDiff, reduceCtorEq, Nat.reduceLeDiff, Nat.reduceAdd, Nat.reduceMul, Nat.reduceLT, Int.reduceNeg, Int.reduceEq, Int.reduceLT, Int.reduceLE, eq_self, Nat.reduceSub, or_true, true_or, or_false, false_or, and_false, false_and, Int.reduceToNat, rc0, rc1, ib2, ib3, ib4, ib5, ib6, ib7, ib8, ib9, ib10, rc11, ib12, rc13, ib14, ib15, ib16, ib17, ib18, ib19, rc20, rc21, ib22, ib23, ib24, rc25, ib26, ib27, ib28, ib29, ib30, ib31, rc32, ib33, rc34, ib35, rc36, ib37, rc38, ib39, ib40, ib41, ib42, ib43, ib44, ib45, ib46, ib47, rc48, ib49, ib50, ib51, ib52, ib53, rc54, ib55, ib56, ib57, ib58, ib59, ib60, ib61, ib62, ib63, ib64, ib65, ib66, ib67, ib68, ib69, ib70, ib71, ib72, ib73, ib74, ib75, ib76, ib77, ib78, ib79, ib80, ib81, hs', hs0', e1, e2, e3, k1, k2, hdg, t3]
  repeat' split
  all_goals first | exact Iff.rfl | (exfalso; omega)
theorem op_turn {a b c d : Int} (h : Inv σ) : OpI Inv S 114 150 [some (vr 0), some (vi a), some (vi b), some (vi c), some (vi d)] [some (vr 54), some (vi a), some (vi b), some (vi c), some (vi d)] σ := by
  obtain ⟨hT, hA, hF, hP, hB, hE, hL, hS, hR, hO⟩ := id h
  obtain ⟨t1, t2, t3, t4, t5, t6, t7, t8, t9, t10, t11⟩ := id hT
  unfold OpI
  by_cases hv : 0 ≤ d ∧ b ≠ c ∧ ((0 ≤ b ∧ b < gi σ 3461) ∧ (ga σ 55 b.toNat = a ∨ ga σ 56 b.toNat = a)) ∧ ((0 ≤ c ∧ c < gi σ 3461) ∧ (ga σ 55 c.toNat = a ∨ ga σ 56 c.toNat = a))
  · obtain ⟨v1, v2, v3, v4⟩ := hv
    obtain ⟨u1, u2, u3, u4, u5, u6, -⟩ := t11 b.toNat (by omega)
    have eb : b = ((b.toNat : Nat) : Int) := by omega
    have ec : c = ((c.toNat : Nat) : Int) := by omega
    have c1 : ¬ d < 0 := by omega
    have c1' : 0 ≤ d := by omega
    have c2 : ¬ b = c := v2
    have c3 : ¬ a < 0 := by omega
    have c4 : ¬ gi σ 3460 ≤ a := by omega
    have c5 : ¬ b < 0 := by omega
    have c6 : ¬ gi σ 3461 ≤ b := by omega
    have c7 : ¬ c < 0 := by omega
    have c8 : ¬ gi σ 3461 ≤ c := by omega
    have hn : ∀ post : Pst, WP S 107 0 [some (vr 1), some (vi a), some (vi b), some (vi c), some (vi d), none] [] σ post ↔ post (some (vi (nrS σ a b.toNat c.toNat d))) σ := fun post => by
      have := S_isNear (S := S) (post := post) (c := a) hT hA v1 (s0 := b.toNat) (s := c.toNat) (by omega) (by omega) v3.2 v4.2
      rw [← eb, ← ec] at this
      exact this
    have hl1 : ∀ post : Pst, WP S 147 0 [some (vr 54), some (vi b), some (vi a)] [] σ post ↔ post (some (vi 1)) σ := fun post => by
      have := S_lies (S := S) (σ := σ) (post := post) (c := a) (s := b.toNat) (by omega)
      rw [← eb, if_pos v3.2] at this
      exact this
    have hl2 : ∀ post : Pst, WP S 147 0 [some (vr 54), some (vi c), some (vi a)] [] σ post ↔ post (some (vi 1)) σ := fun post => by
      have := S_lies (S := S) (σ := σ) (post := post) (c := a) (s := c.toNat) (by omega)
      rw [← ec, if_pos v4.2] at this
      exact this
    have ht : ∀ post : Pst, WP S 149 0 [some (vr 54), some (vi a), some (vi b), some (vi c), some (vi d), none, none] [] σ post ↔ post (some (vi (trnS σ a b.toNat c.toNat d))) σ := fun post => by
      have := S_turnTakes (S := S) (σ := σ) (post := post) (c := a) (m := d) hT (s0 := b.toNat) (s := c.toNat) (by omega) (by omega) v3.2
      rw [← eb, ← ec] at this
      exact this
    have hM : WP S 150 0 [some (vr 54), some (vi a), some (vi b), some (vi c), some (vi d)] [] σ (fun v2 σ2 => v2 = some (vi (trnS σ a b.toNat c.toNat d)) ∧ Inv σ2) := by
      simp only [w150_0, w150_1, w150_2, w150_5, w150_8, w150_9, w150_10, w150_13, w150_16, w150_17, w150_18, w150_21, w150_24, w150_25, w150_26, w150_29, w150_31, w150_34, w150_35, w150_36, w150_37, w150_40, w150_43, w150_44, w150_45, w150_46, w150_49, w150_52, w150_53, w150_54, w150_55, w150_56, w150_57, w150_58, w150_60, w150_63, w139_0, w139_1, w139_4, w139_5, w139_6, w139_9, w139_12, w139_13, w139_16, w139_17, w140_0, w140_1, w140_4, w140_5, w140_6, w140_9, w140_12, w140_13, w140_16, w140_17, ↓reduceIte, okp_i, okp_r, okp_n, catS_nil, catS_cons, catV_i, catV_r, catV_l, Option.toList_some, Option.toList_none, List.cons_append, List.nil_append, gi_si, ga_si, gi_sa, ga_sa, gi_sl, ga_sl, gi_sf, ga_sf, gl_si, gl_sa, gl_sf, gl_sl, and_true, true_and, if_true, if_false, ite_true, ite_false, not_false_eq_true, not_true_eq_false, Nat.reduceEqDiff, reduceCtorEq, Nat.reduceLeDiff, Nat.reduceAdd, Nat.reduceMul, Nat.reduceLT, Int.reduceNeg, Int.reduceEq, Int.reduceLT, Int.reduceLE, eq_self, Nat.reduceSub, or_true, true_or, or_false, false_or, and_false, false_and, Int.reduceToNat, rc0, rc1, ib2, ib3, ib4, ib5, ib6, ib7, ib8, ib9, ib10, rc11, ib12, rc13, ib14, ib15, ib16, ib17, ib18, ib19, rc20, rc21, ib22, ib23, ib24, rc25, ib26, ib27, ib28, ib29, ib30, ib31, rc32, ib33, rc34, ib35, rc36, ib37, rc38, ib39, ib40, ib41, ib42, ib43, ib44, ib45, ib46, ib47, rc48, ib49, ib50, ib51, ib52, ib53, rc54, ib55, ib56, ib57, ib58, ib59, ib60, ib61, ib62, ib63, ib64, ib65, ib66, ib67, ib68, ib69, ib70, ib71, ib72, ib73, ib74, ib75, ib76, ib77, ib78, ib79, ib80, ib81, c1, c1', c2, c3, c4, c5, c6, c7, c8, hl1, hl2, ht]
      exact h
    rw [trnS_eq hT v1 (by omega) (by omega) v3.2 v4.2] at hM
    simp only [w114_0, w114_2, w114_5, w114_6, w114_7, w114_10, w114_11, w114_12, w114_13, w114_16, w114_17, w114_18, w114_21, w114_24, w114_25, w114_28, w114_29, w114_30, w114_33, w114_36, w114_37, w114_38, w114_39, w114_42, w114_43, w114_46, w114_47, w114_48, w114_49, w114_51, w114_54, w114_57, ↓reduceIte, okp_i, okp_r, okp_n, catS_nil, catS_cons, catV_i, catV_r, catV_l, Option.toList_some, Option.toList_none, List.cons_append, List.nil_append, gi_si, ga_si, gi_sa, ga_sa, gi_sl, ga_sl, gi_sf, ga_sf, gl_si, gl_sa, gl_sf, gl_sl, and_true, true_and, if_true, if_false, ite_true, ite_false, not_false_eq_true, not_true_eq_false, Nat.reduceEqDiff, reduceCtorEq, Nat.reduceLeDiff, Nat.reduceAdd, Nat.reduceMul, Nat.reduceLT, Int.reduceNeg, Int.reduceEq, Int.reduceLT, Int.reduceLE, eq_self, Nat.reduceSub, or_true, true_or, or_false, false_or, and_false, false_and, Int.reduceToNat, rc0, rc1, ib2, ib3, ib4, ib5, ib6, ib7, ib8, ib9, ib10, rc11, ib12, rc13, ib14, ib15, ib16, ib17, ib18, ib19, rc20, rc21, ib22, ib23, ib24, rc25, ib26, ib27, ib28, ib29, ib30, ib31, rc32, ib33, rc34, ib35, rc36, ib37, rc38, ib39, ib40, ib41, ib42, ib43, ib44, ib45, ib46, ib47, rc48, ib49, ib50, ib51, ib52, ib53, rc54, ib55, ib56, ib57, ib58, ib59, ib60, ib61, ib62, ib63, ib64, ib65, ib66, ib67, ib68, ib69, ib70, ib71, ib72, ib73, ib74, ib75, ib76, ib77, ib78, ib79, ib80, ib81, S_touches hT, if_pos v3, if_pos v4, hn, c1, c1', c2, t4, t5, w109_0, w109_1, w109_4, w109_5, w109_8, w109_11, w109_12, w109_15]
    rcases nrS_01 (σ := σ) (c := a) (m := d) (s0 := b.toNat) (s := c.toNat) with q | q
    · rw [if_neg (by omega)] at hM
      simp only [↓reduceIte, okp_i, okp_r, okp_n, catS_nil, catS_cons, catV_i, catV_r, catV_l, Option.toList_some, Option.toList_none, List.cons_append, List.nil_append, gi_si, ga_si, gi_sa, ga_sa, gi_sl, ga_sl, gi_sf, ga_sf, gl_si, gl_sa, gl_sf, gl_sl, and_true, true_and, if_true, if_false, ite_true, ite_false, not_false_eq_true, not_true_eq_false, Nat.reduceEqDiff, reduceCtorEq, Nat.reduceLeDiff, Nat.reduceAdd, Nat.reduceMul, Nat.reduceLT, Int.reduceNeg, Int.reduceEq, Int.reduceLT, Int.reduceLE, eq_self, Nat.reduceSub, or_true, true_or, or_false, false_or, and_false, false_and, Int.reduceToNat, rc0, rc1, ib2, ib3, ib4, ib5, ib6, ib7, ib8, ib9, ib10, rc11, ib12, rc13, ib14, ib15, ib16, ib17, ib18, ib19, rc20, rc21, ib22, ib23, ib24, rc25, ib26, ib27, ib28, ib29, ib30, ib31, rc32, ib33, rc34, ib35, rc36, ib37, rc38, ib39, ib40, ib41, ib42, ib43, ib44, ib45, ib46, ib47, rc48, ib49, ib50, ib51, ib52, ib53, rc54, ib55, ib56, ib57, ib58, ib59, ib60, ib61, ib62, ib63, ib64, ib65, ib66, ib67, ib68, ib69, ib70, ib71, ib72, ib73, ib74, ib75, ib76, ib77, ib78, ib79, ib80, ib81, q, t5]
      exact ⟨_, rfl, hM⟩
    · rw [if_pos q] at hM
      simp only [↓reduceIte, okp_i, okp_r, okp_n, catS_nil, catS_cons, catV_i, catV_r, catV_l, Option.toList_some, Option.toList_none, List.cons_append, List.nil_append, gi_si, ga_si, gi_sa, ga_sa, gi_sl, ga_sl, gi_sf, ga_sf, gl_si, gl_sa, gl_sf, gl_sl, and_true, true_and, if_true, if_false, ite_true, ite_false, not_false_eq_true, not_true_eq_false, Nat.reduceEqDiff, reduceCtorEq, Nat.reduceLeDiff, Nat.reduceAdd, Nat.reduceMul, Nat.reduceLT, Int.reduceNeg, Int.reduceEq, Int.reduceLT, Int.reduceLE, eq_self, Nat.reduceSub, or_true, true_or, or_false, false_or, and_false, false_and, Int.reduceToNat, rc0, rc1, ib2, ib3, ib4, ib5, ib6, ib7, ib8, ib9, ib10, rc11, ib12, rc13, ib14, ib15, ib16, ib17, ib18, ib19, rc20, rc21, ib22, ib23, ib24, rc25, ib26, ib27, ib28, ib29, ib30, ib31, rc32, ib33, rc34, ib35, rc36, ib37, rc38, ib39, ib40, ib41, ib42, ib43, ib44, ib45, ib46, ib47, rc48, ib49, ib50, ib51, ib52, ib53, rc54, ib55, ib56, ib57, ib58, ib59, ib60, ib61, ib62, ib63, ib64, ib65, ib66, ib67, ib68, ib69, ib70, ib71, ib72, ib73, ib74, ib75, ib76, ib77, ib78, ib79, ib80, ib81, q, t4]
      exact ⟨_, rfl, hM⟩
  · have hM : WP S 150 0 [some (vr 54), some (vi a), some (vi b), some (vi c), some (vi d)] [] σ (fun v2 σ2 => v2 = some (vi (-1)) ∧ Inv σ2) := by
      by_cases q1 : 0 ≤ b ∧ b < gi σ 3461
      · by_cases q2 : 0 ≤ c ∧ c < gi σ 3461
        · have hl1 : ∀ post : Pst, WP S 147 0 [some (vr 54), some (vi b), some (vi a)] [] σ post ↔ post (some (vi (if ga σ 55 b.toNat = a ∨ ga σ 56 b.toNat = a then 1 else 0))) σ := fun post => by
            have := S_lies (S := S) (σ := σ) (post := post) (c := a) (s := b.toNat) (by omega)
            rw [show ((b.toNat : Nat) : Int) = b by omega] at this
            exact this
          have hl2 : ∀ post : Pst, WP S 147 0 [some (vr 54), some (vi c), some (vi a)] [] σ post ↔ post (some (vi (if ga σ 55 c.toNat = a ∨ ga σ 56 c.toNat = a then 1 else 0))) σ := fun post => by
            have := S_lies (S := S) (σ := σ) (post := post) (c := a) (s := c.toNat) (by omega)
            rw [show ((c.toNat : Nat) : Int) = c by omega] at this
            exact this
          by_cases k1 : ga σ 55 b.toNat = a ∨ ga σ 56 b.toNat = a
          · by_cases k2 : ga σ 55 c.toNat = a ∨ ga σ 56 c.toNat = a
            · have hv' : ¬ (0 ≤ d ∧ b ≠ c) := fun q => hv ⟨q.1, q.2, ⟨q1, k1⟩, ⟨q2, k2⟩⟩
              simp only [if_pos k1] at hl1
              simp only [if_pos k2] at hl2
              simp only [w150_0, w150_1, w150_2, w150_5, w150_8, w150_9, w150_10, w150_13, w150_16, w150_17, w150_18, w150_21, w150_24, w150_25, w150_26, w150_29, w150_31, w150_34, w150_35, w150_36, w150_37, w150_40, w150_43, w150_44, w150_45, w150_46, w150_49, w150_52, w150_53, w150_54, w150_55, w150_56, w150_57, w150_58, w150_60, w150_63, w139_0, w139_1, w139_4, w139_5, w139_6, w139_9, w139_12, w139_13, w139_16, w139_17, w140_0, w140_1, w140_4, w140_5, w140_6, w140_9, w140_12, w140_13, w140_16, w140_17, ↓reduceIte, okp_i, okp_r, okp_n, catS_nil, catS_cons, catV_i, catV_r, catV_l, Option.toList_some, Option.toList_none, List.cons_append, List.nil_append, gi_si, ga_si, gi_sa, ga_sa, gi_sl, ga_sl, gi_sf, ga_sf, gl_si, gl_sa, gl_sf, gl_sl, and_true, true_and, if_true, if_false, ite_true, ite_false, not_false_eq_true, not_true_eq_false, Nat.reduceEqDiff, reduceCtorEq, Nat.reduceLeDiff, Nat.reduceAdd, Nat.reduceMul, Nat.reduceLT, Int.reduceNeg, Int.reduceEq, Int.reduceLT, Int.reduceLE, eq_self, Nat.reduceSub, or_true, true_or, or_false, false_or, and_false, false_and, Int.reduceToNat, rc0, rc1, ib2, ib3, ib4, ib5, ib6, ib7, ib8, ib9, ib10, rc11, ib12, rc13, ib14, ib15, ib16, ib17, ib18, ib19, rc20, rc21, ib22, ib23, ib24, rc25, ib26, ib27, ib28, ib29, ib30, ib31, rc32, ib33, rc34, ib35, rc36, ib37, rc38, ib39, ib40, ib41, ib42, ib43, ib44, ib45, ib46, ib47, rc48, ib49, ib50, ib51, ib52, ib53, rc54, ib55, ib56, ib57, ib58, ib59, ib60, ib61, ib62, ib63, ib64, ib65, ib66, ib67, ib68, ib69, ib70, ib71, ib72, ib73, ib74, ib75, ib76, ib77, ib78, ib79, ib80, ib81, hl1, hl2]
              repeat' split
              all_goals first | exact h | (exfalso; omega)
            · simp only [if_pos k1] at hl1
              simp only [if_neg k2] at hl2
              simp only [w150_0, w150_1, w150_2, w150_5, w150_8, w150_9, w150_10, w150_13, w150_16, w150_17, w150_18, w150_21, w150_24, w150_25, w150_26, w150_29, w150_31, w150_34, w150_35, w150_36, w150_37, w150_40, w150_43, w150_44, w150_45, w150_46, w150_49, w150_52, w150_53, w150_54, w150_55, w150_56, w150_57, w150_58, w150_60, w150_63, w139_0, w139_1, w139_4, w139_5, w139_6, w139_9, w139_12, w139_13, w139_16, w139_17, w140_0, w140_1, w140_4, w140_5, w140_6, w140_9, w140_12, w140_13, w140_16, w140_17, ↓reduceIte, okp_i, okp_r, okp_n, catS_nil, catS_cons, catV_i, catV_r, catV_l, Option.toList_some, Option.toList_none, List.cons_append, List.nil_append, gi_si, ga_si, gi_sa, ga_sa, gi_sl, ga_sl, gi_sf, ga_sf, gl_si, gl_sa, gl_sf, gl_sl, and_true, true_and, if_true, if_false, ite_true, ite_false, not_false_eq_true, not_true_eq_false, Nat.reduceEqDiff, reduceCtorEq, Nat.reduceLeDiff, Nat.reduceAdd, Nat.reduceMul, Nat.reduceLT, Int.reduceNeg, Int.reduceEq, Int.reduceLT, Int.reduceLE, eq_self, Nat.reduceSub, or_true, true_or, or_false, false_or, and_false, false_and, Int.reduceToNat, rc0, rc1, ib2, ib3, ib4, ib5, ib6, ib7, ib8, ib9, ib10, rc11, ib12, rc13, ib14, ib15, ib16, ib17, ib18, ib19, rc20, rc21, ib22, ib23, ib24, rc25, ib26, ib27, ib28, ib29, ib30, ib31, rc32, ib33, rc34, ib35, rc36, ib37, rc38, ib39, ib40, ib41, ib42, ib43, ib44, ib45, ib46, ib47, rc48, ib49, ib50, ib51, ib52, ib53, rc54, ib55, ib56, ib57, ib58, ib59, ib60, ib61, ib62, ib63, ib64, ib65, ib66, ib67, ib68, ib69, ib70, ib71, ib72, ib73, ib74, ib75, ib76, ib77, ib78, ib79, ib80, ib81, hl1, hl2]
              repeat' split
              all_goals first | exact h | (exfalso; omega)
          · simp only [if_neg k1] at hl1
            simp only [w150_0, w150_1, w150_2, w150_5, w150_8, w150_9, w150_10, w150_13, w150_16, w150_17, w150_18, w150_21, w150_24, w150_25, w150_26, w150_29, w150_31, w150_34, w150_35, w150_36, w150_37, w150_40, w150_43, w150_44, w150_45, w150_46, w150_49, w150_52, w150_53, w150_54, w150_55, w150_56, w150_57, w150_58, w150_60, w150_63, w139_0, w139_1, w139_4, w139_5, w139_6, w139_9, w139_12, w139_13, w139_16, w139_17, w140_0, w140_1, w140_4, w140_5, w140_6, w140_9, w140_12, w140_13, w140_16, w140_17, ↓reduceIte, okp_i, okp_r, okp_n, catS_nil, catS_cons, catV_i, catV_r, catV_l, Option.toList_some, Option.toList_none, List.cons_append, List.nil_append, gi_si, ga_si, gi_sa, ga_sa, gi_sl, ga_sl, gi_sf, ga_sf, gl_si, gl_sa, gl_sf, gl_sl, and_true, true_and, if_true, if_false, ite_true, ite_false, not_false_eq_true, not_true_eq_false, Nat.reduceEqDiff, reduceCtorEq, Nat.reduceLeDiff, Nat.reduceAdd, Nat.reduceMul, Nat.reduceLT, Int.reduceNeg, Int.reduceEq, Int.reduceLT, Int.reduceLE, eq_self, Nat.reduceSub, or_true, true_or, or_false, false_or, and_false, false_and, Int.reduceToNat, rc0, rc1, ib2, ib3, ib4, ib5, ib6, ib7, ib8, ib9, ib10, rc11, ib12, rc13, ib14, ib15, ib16, ib17, ib18, ib19, rc20, rc21, ib22, ib23, ib24, rc25, ib26, ib27, ib28, ib29, ib30, ib31, rc32, ib33, rc34, ib35, rc36, ib37, rc38, ib39, ib40, ib41, ib42, ib43, ib44, ib45, ib46, ib47, rc48, ib49, ib50, ib51, ib52, ib53, rc54, ib55, ib56, ib57, ib58, ib59, ib60, ib61, ib62, ib63, ib64, ib65, ib66, ib67, ib68, ib69, ib70, ib71, ib72, ib73, ib74, ib75, ib76, ib77, ib78, ib79, ib80, ib81, hl1]
            repeat' split
            all_goals first | exact h | (exfalso; omega)
        · simp only [w150_0, w150_1, w150_2, w150_5, w150_8, w150_9, w150_10, w150_13, w150_16, w150_17, w150_18, w150_21, w150_24, w150_25, w150_26, w150_29, w150_31, w150_34, w150_35, w150_36, w150_37, w150_40, w150_43, w150_44, w150_45, w150_46, w150_49, w150_52, w150_53, w150_54, w150_55, w150_56, w150_57, w150_58, w150_60, w150_63, w139_0, w139_1, w139_4, w139_5, w139_6, w139_9, w139_12, w139_13, w139_16, w139_17, w140_0, w140_1, w140_4, w140_5, w140_6, w140_9, w140_12, w140_13, w140_16, w140_17, ↓reduceIte, okp_i, okp_r, okp_n, catS_nil, catS_cons, catV_i, catV_r, catV_l, Option.toList_some, Option.toList_none, List.cons_append, List.nil_append, gi_si, ga_si, gi_sa, ga_sa, gi_sl, ga_sl, gi_sf, ga_sf, gl_si, gl_sa, gl_sf, gl_sl, and_true, true_and, if_true, if_false, ite_true, ite_false, not_false_eq_true, not_true_eq_false, Nat.reduceEqDiff, reduceCtorEq, Nat.reduceLeDiff, Nat.reduceAdd, Nat.reduceMul, Nat.reduceLT, Int.reduceNeg, Int.reduceEq, Int.reduceLT, Int.reduceLE, eq_self, Nat.reduceSub, or_true, true_or, or_false, false_or, and_false, false_and, Int.reduceToNat, rc0, rc1, ib2, ib3, ib4, ib5, ib6, ib7, ib8, ib9, ib10, rc11, ib12, rc13, ib14, ib15, ib16, ib17, ib18, ib19, rc20, rc21, ib22, ib23, ib24, rc25, ib26, ib27, ib28, ib29, ib30, ib31, rc32, ib33, rc34, ib35, rc36, ib37, rc38, ib39, ib40, ib41, ib42, ib43, ib44, ib45, ib46, ib47, rc48, ib49, ib50, ib51, ib52, ib53, rc54, ib55, ib56, ib57, ib58, ib59, ib60, ib61, ib62, ib63, ib64, ib65, ib66, ib67, ib68, ib69, ib70, ib71, ib72, ib73, ib74, ib75, ib76, ib77, ib78, ib79, ib80, ib81]
          repeat' split
          all_goals first | exact h | (exfalso; omega)
      · simp only [w150_0, w150_1, w150_2, w150_5, w150_8, w150_9, w150_10, w150_13, w150_16, w150_17, w150_18, w150_21, w150_24, w150_25, w150_26, w150_29, w150_31, w150_34, w150_35, w150_36, w150_37, w150_40, w150_43, w150_44, w150_45, w150_46, w150_49, w150_52, w150_53, w150_54, w150_55, w150_56, w150_57, w150_58, w150_60, w150_63, w139_0, w139_1, w139_4, w139_5, w139_6, w139_9, w139_12, w139_13, w139_16, w139_17, w140_0, w140_1, w140_4, w140_5, w140_6, w140_9, w140_12, w140_13, w140_16, w140_17, ↓reduceIte, okp_i, okp_r, okp_n, catS_nil, catS_cons, catV_i, catV_r, catV_l, Option.toList_some, Option.toList_none, List.cons_append, List.nil_append, gi_si, ga_si, gi_sa, ga_sa, gi_sl, ga_sl, gi_sf, ga_sf, gl_si, gl_sa, gl_sf, gl_sl, and_true, true_and, if_true, if_false, ite_true, ite_false, not_false_eq_true, not_true_eq_false, Nat.reduceEqDiff, reduceCtorEq, Nat.reduceLeDiff, Nat.reduceAdd, Nat.reduceMul, Nat.reduceLT, Int.reduceNeg, Int.reduceEq, Int.reduceLT, Int.reduceLE, eq_self, Nat.reduceSub, or_true, true_or, or_false, false_or, and_false, false_and, Int.reduceToNat, rc0, rc1, ib2, ib3, ib4, ib5, ib6, ib7, ib8, ib9, ib10, rc11, ib12, rc13, ib14, ib15, ib16, ib17, ib18, ib19, rc20, rc21, ib22, ib23, ib24, rc25, ib26, ib27, ib28, ib29, ib30, ib31, rc32, ib33, rc34, ib35, rc36, ib37, rc38, ib39, ib40, ib41, ib42, ib43, ib44, ib45, ib46, ib47, rc48, ib49, ib50, ib51, ib52, ib53, rc54, ib55, ib56, ib57, ib58, ib59, ib60, ib61, ib62, ib63, ib64, ib65, ib66, ib67, ib68, ib69, ib70, ib71, ib72, ib73, ib74, ib75, ib76, ib77, ib78, ib79, ib80, ib81]
        repeat' split
        all_goals first | exact h | (exfalso; omega)
    simp only [w114_0, w114_2, w114_5, w114_6, w114_7, w114_10, w114_11, w114_12, w114_13, w114_16, w114_17, w114_18, w114_21, w114_24, w114_25, w114_28, w114_29, w114_30, w114_33, w114_36, w114_37, w114_38, w114_39, w114_42, w114_43, w114_46, w114_47, w114_48, w114_49, w114_51, w114_54, w114_57, ↓reduceIte, okp_i, okp_r, okp_n, catS_nil, catS_cons, catV_i, catV_r, catV_l, Option.toList_some, Option.toList_none, List.cons_append, List.nil_append, gi_si, ga_si, gi_sa, ga_sa, gi_sl, ga_sl, gi_sf, ga_sf, gl_si, gl_sa, gl_sf, gl_sl, and_true, true_and, if_true, if_false, ite_true, ite_false, not_false_eq_true, not_true_eq_false, Nat.reduceEqDiff, reduceCtorEq, Nat.reduceLeDiff, Nat.reduceAdd, Nat.reduceMul, Nat.reduceLT, Int.reduceNeg, Int.reduceEq, Int.reduceLT, Int.reduceLE, eq_self, Nat.reduceSub, or_true, true_or, or_false, false_or, and_false, false_and, Int.reduceToNat, rc0, rc1, ib2, ib3, ib4, ib5, ib6, ib7, ib8, ib9, ib10, rc11, ib12, rc13, ib14, ib15, ib16, ib17, ib18, ib19, rc20, rc21, ib22, ib23, ib24, rc25, ib26, ib27, ib28, ib29, ib30, ib31, rc32, ib33, rc34, ib35, rc36, ib37, rc38, ib39, ib40, ib41, ib42, ib43, ib44, ib45, ib46, ib47, rc48, ib49, ib50, ib51, ib52, ib53, rc54, ib55, ib56, ib57, ib58, ib59, ib60, ib61, ib62, ib63, ib64, ib65, ib66, ib67, ib68, ib69, ib70, ib71, ib72, ib73, ib74, ib75, ib76, ib77, ib78, ib79, ib80, ib81, S_touches hT]
    by_cases k1 : (0 ≤ b ∧ b < gi σ 3461) ∧ (ga σ 55 b.toNat = a ∨ ga σ 56 b.toNat = a)
    · by_cases k2 : (0 ≤ c ∧ c < gi σ 3461) ∧ (ga σ 55 c.toNat = a ∨ ga σ 56 c.toNat = a)
      · rw [if_pos k1, if_pos k2]
        by_cases k3 : d < 0
        · rw [if_pos k3]; exact ⟨_, rfl, hM⟩
        · rw [if_neg k3]
          by_cases k4 : b = c
          · rw [if_neg (fun q => q k4)]; exact ⟨_, rfl, hM⟩
          · exact absurd ⟨by omega, k4, k1, k2⟩ hv
      · rw [if_pos k1, if_neg k2]
        simp only [w114_0, w114_2, w114_5, w114_6, w114_7, w114_10, w114_11, w114_12, w114_13, w114_16, w114_17, w114_18, w114_21, w114_24, w114_25, w114_28, w114_29, w114_30, w114_33, w114_36, w114_37, w114_38, w114_39, w114_42, w114_43, w114_46, w114_47, w114_48, w114_49, w114_51, w114_54, w114_57, ↓reduceIte, okp_i, okp_r, okp_n, catS_nil, catS_cons, catV_i, catV_r, catV_l, Option.toList_some, Option.toList_none, List.cons_append, List.nil_append, gi_si, ga_si, gi_sa, ga_sa, gi_sl, ga_sl, gi_sf, ga_sf, gl_si, gl_sa, gl_sf, gl_sl, and_true, true_and, if_true, if_false, ite_true, ite_false, not_false_eq_true, not_true_eq_false, Nat.reduceEqDiff, reduceCtorEq, Nat.reduceLeDiff, Nat.reduceAdd, Nat.reduceMul, Nat.reduceLT, Int.reduceNeg, Int.reduceEq, Int.reduceLT, Int.reduceLE, eq_self, Nat.reduceSub, or_true, true_or, or_false, false_or, and_false, false_and, Int.reduceToNat, rc0, rc1, ib2, ib3, ib4, ib5, ib6, ib7, ib8, ib9, ib10, rc11, ib12, rc13, ib14, ib15, ib16, ib17, ib18, ib19, rc20, rc21, ib22, ib23, ib24, rc25, ib26, ib27, ib28, ib29, ib30, ib31, rc32, ib33, rc34, ib35, rc36, ib37, rc38, ib39, ib40, ib41, ib42, ib43, ib44, ib45, ib46, ib47, rc48, ib49, ib50, ib51, ib52, ib53, rc54, ib55, ib56, ib57, ib58, ib59, ib60, ib61, ib62, ib63, ib64, ib65, ib66, ib67, ib68, ib69, ib70, ib71, ib72, ib73, ib74, ib75, ib76, ib77, ib78, ib79, ib80, ib81]
        repeat' split
        all_goals exact ⟨_, rfl, hM⟩
    · rw [if_neg k1]
      simp only [w114_0, w114_2, w114_5, w114_6, w114_7, w114_10, w114_11, w114_12, w114_13, w114_16, w114_17, w114_18, w114_21, w114_24, w114_25, w114_28, w114_29, w114_30, w114_33, w114_36, w114_37, w114_38, w114_39, w114_42, w114_43, w114_46, w114_47, w114_48, w114_49, w114_51, w114_54, w114_57, ↓reduceIte, okp_i, okp_r, okp_n, catS_nil, catS_cons, catV_i, catV_r, catV_l, Option.toList_some, Option.toList_none, List.cons_append, List.nil_append, gi_si, ga_si, gi_sa, ga_sa, gi_sl, ga_sl, gi_sf, ga_sf, gl_si, gl_sa, gl_sf, gl_sl, and_true, true_and, if_true, if_false, ite_true, ite_false, not_false_eq_true, not_true_eq_false, Nat.reduceEqDiff, reduceCtorEq, Nat.reduceLeDiff, Nat.reduceAdd, Nat.reduceMul, Nat.reduceLT, Int.reduceNeg, Int.reduceEq, Int.reduceLT, Int.reduceLE, eq_self, Nat.reduceSub, or_true, true_or, or_false, false_or, and_false, false_and, Int.reduceToNat, rc0, rc1, ib2, ib3, ib4, ib5, ib6, ib7, ib8, ib9, ib10, rc11, ib12, rc13, ib14, ib15, ib16, ib17, ib18, ib19, rc20, rc21, ib22, ib23, ib24, rc25, ib26, ib27, ib28, ib29, ib30, ib31, rc32, ib33, rc34, ib35, rc36, ib37, rc38, ib39, ib40, ib41, ib42, ib43, ib44, ib45, ib46, ib47, rc48, ib49, ib50, ib51, ib52, ib53, rc54, ib55, ib56, ib57, ib58, ib59, ib60, ib61, ib62, ib63, ib64, ib65, ib66, ib67, ib68, ib69, ib70, ib71, ib72, ib73, ib74, ib75, ib76, ib77, ib78, ib79, ib80, ib81]
      repeat' split
      all_goals exact ⟨_, rfl, hM⟩
end TURN
