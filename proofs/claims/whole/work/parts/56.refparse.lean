/-! the reference's parser -/
theorem ws_bd (x : Int) : 0 ≤ wsF x ∧ wsF x ≤ 11 := by
  unfold wsF
  repeat' split
  all_goals exact ⟨by decide, by decide⟩
theorem ws_v : ∀ j : Fin 11, wsF (wcF j.val) = (j.val : Int) := by decide
theorem ws_c (x : Int) : (∃ i, i < 11 ∧ x = wcF i) ∨ wsF x = 11 := by
  by_cases h0 : x = 6513010
  · exact Or.inl ⟨0, by decide, h0⟩
  by_cases h1 : x = 6452595
  · exact Or.inl ⟨1, by decide, h1⟩
  by_cases h2 : x = 500136502123
  · exact Or.inl ⟨2, by decide, h2⟩
  by_cases h3 : x = 1651075941
  · exact Or.inl ⟨3, by decide, h3⟩
  by_cases h4 : x = 6384748
  · exact Or.inl ⟨4, by decide, h4⟩
  by_cases h5 : x = 28526
  · exact Or.inl ⟨5, by decide, h5⟩
  by_cases h6 : x = 1718775661
  · exact Or.inl ⟨6, by decide, h6⟩
  by_cases h7 : x = 29807
  · exact Or.inl ⟨7, by decide, h7⟩
  by_cases h8 : x = 7168377
  · exact Or.inl ⟨8, by decide, h8⟩
  by_cases h9 : x = 7237492
  · exact Or.inl ⟨9, by decide, h9⟩
  by_cases h10 : x = 465625246068
  · exact Or.inl ⟨10, by decide, h10⟩
  refine Or.inr ?_
  unfold wsF
  rw [if_neg h0, if_neg h1, if_neg h2, if_neg h3, if_neg h4, if_neg h5, if_neg h6, if_neg h7, if_neg h8, if_neg h9, if_neg h10]
theorem ws_wc : ∀ (x : Int) (j : Nat), j < 11 → (wsF x = (j : Int) ↔ x = wcF j) := by
  intro x j hj
  constructor
  · intro h
    rcases ws_c x with ⟨i, hi, rfl⟩ | q
    · have := ws_v ⟨i, hi⟩
      simp only at this
      rw [this] at h
      have : i = j := by omega
      rw [this]
    · omega
  · intro h
    rw [h]
    exact ws_v ⟨j, hj⟩
section RPARSE
variable {S : Scr} {σ σ0 : Sto} {post : Pst} {g : Nat → Int} {L k : Nat} {rb n : Nat}
theorem tm_15 (h : RT g L k σ) : gi σ 3473 = 0 ↔ sF g L k = 15 := by
  have h2 := h.2.2
  have hb := ws_bd (gl σ 3475)
  have e : (tokF g L (tkF g L k)).1 = sF g L k := rfl
  unfold TokM at h2
  rw [e] at h2
  omega
theorem tm_16 (h : RT g L k σ) : gi σ 3473 = 1 ↔ sF g L k = 16 := by
  have h2 := h.2.2
  have hb := ws_bd (gl σ 3475)
  have e : (tokF g L (tkF g L k)).1 = sF g L k := rfl
  unfold TokM at h2
  rw [e] at h2
  omega
theorem tm_13 (h : RT g L k σ) : (gi σ 3473 = 3 ↔ sF g L k = 13) ∧ (sF g L k = 13 → gi σ 3474 = vF g L k) := by
  have h2 := h.2.2
  have hb := ws_bd (gl σ 3475)
  have e : (tokF g L (tkF g L k)).1 = sF g L k := rfl
  have e2 : (tokF g L (tkF g L k)).2.2 = vF g L k := rfl
  unfold TokM at h2
  rw [e, e2] at h2
  omega
theorem tm_12 (h : RT g L k σ) : (gi σ 3473 = 4 ↔ sF g L k = 12) ∧ (sF g L k = 12 → gi σ 3474 = vF g L k) := by
  have h2 := h.2.2
  have hb := ws_bd (gl σ 3475)
  have e : (tokF g L (tkF g L k)).1 = sF g L k := rfl
  have e2 : (tokF g L (tkF g L k)).2.2 = vF g L k := rfl
  unfold TokM at h2
  rw [e, e2] at h2
  omega
theorem tm_14 (h : RT g L k σ) : gi σ 3473 = 5 ↔ sF g L k = 14 := by
  have h2 := h.2.2
  have hb := ws_bd (gl σ 3475)
  have e : (tokF g L (tkF g L k)).1 = sF g L k := rfl
  unfold TokM at h2
  rw [e] at h2
  omega
theorem tm_w (h : RT g L k σ) {j : Nat} (hj : j < 11) : (gi σ 3473 = 2 ∧ gl σ 3475 = wcF j) ↔ sF g L k = (j : Int) := by
  have h2 := h.2.2
  have hb := ws_bd (gl σ 3475)
  have hw := ws_wc (gl σ 3475) j hj
  have e : (tokF g L (tkF g L k)).1 = sF g L k := rfl
  unfold TokM at h2
  rw [e] at h2
  rw [← hw]
  omega
theorem S_isWdA {w : Int} : WP S 158 0 [some (vr 54), some (vl w), none] [] σ post ↔ post (some (vi (if gi σ 3473 = 2 ∧ gl σ 3475 = w then 1 else 0))) σ := by
  by_cases q1 : gi σ 3473 = 2
  · have q1' : (gi σ 3473 = 2) = True := eq_true q1
    by_cases q2 : gl σ 3475 = w
    · have e : lcmpF (gl σ 3475) w = 0 := by unfold lcmpF; rw [if_neg (by omega), if_pos q2]
      rw [if_pos ⟨q1, q2⟩]
      simp only [w158_0, w158_1, w158_4, w158_5, w158_8, w158_9, w158_12, w158_13, w158_14, w158_17, w158_18, w158_21, w158_22, ↓reduceIte, okp_i, okp_r, okp_n, catS_nil, catS_cons, catV_i, catV_r, catV_l, Option.toList_some, Option.toList_none, List.cons_append, List.nil_append, gi_si, ga_si, gi_sa, ga_sa, gi_sl, ga_sl, gi_sf, ga_sf, gl_si, gl_sa, gl_sf, gl_sl, and_true, true_and, if_true, if_false, ite_true, ite_false, not_false_eq_true, not_true_eq_false, Nat.reduceEqDiff, reduceCtorEq, Nat.reduceLeDiff, Nat.reduceAdd, Nat.reduceMul, Nat.reduceLT, Int.reduceNeg, Int.reduceEq, Int.reduceLT, Int.reduceLE, eq_self, Nat.reduceSub, or_true, true_or, or_false, false_or, and_false, false_and, Int.reduceToNat, rc0, rc1, ib2, ib3, ib4, ib5, ib6, ib7, ib8, ib9, ib10, rc11, ib12, rc13, ib14, ib15, ib16, ib17, ib18, ib19, rc20, rc21, ib22, ib23, ib24, rc25, ib26, ib27, ib28, ib29, ib30, ib31, rc32, ib33, rc34, ib35, rc36, ib37, rc38, ib39, ib40, ib41, ib42, ib43, ib44, ib45, ib46, ib47, rc48, ib49, ib50, ib51, ib52, ib53, rc54, ib55, ib56, ib57, ib58, ib59, ib60, ib61, ib62, ib63, ib64, ib65, ib66, ib67, ib68, ib69, ib70, ib71, ib72, ib73, ib74, ib75, ib76, ib77, ib78, ib79, ib80, ib81, q1', e]
    · have e : (lcmpF (gl σ 3475) w = 0) = False := eq_false (by unfold lcmpF; rw [if_neg q2]; split <;> decide)
      rw [if_neg (fun q => q2 q.2)]
      simp only [w158_0, w158_1, w158_4, w158_5, w158_8, w158_9, w158_12, w158_13, w158_14, w158_17, w158_18, w158_21, w158_22, ↓reduceIte, okp_i, okp_r, okp_n, catS_nil, catS_cons, catV_i, catV_r, catV_l, Option.toList_some, Option.toList_none, List.cons_append, List.nil_append, gi_si, ga_si, gi_sa, ga_sa, gi_sl, ga_sl, gi_sf, ga_sf, gl_si, gl_sa, gl_sf, gl_sl, and_true, true_and, if_true, if_false, ite_true, ite_false, not_false_eq_true, not_true_eq_false, Nat.reduceEqDiff, reduceCtorEq, Nat.reduceLeDiff, Nat.reduceAdd, Nat.reduceMul, Nat.reduceLT, Int.reduceNeg, Int.reduceEq, Int.reduceLT, Int.reduceLE, eq_self, Nat.reduceSub, or_true, true_or, or_false, false_or, and_false, false_and, Int.reduceToNat, rc0, rc1, ib2, ib3, ib4, ib5, ib6, ib7, ib8, ib9, ib10, rc11, ib12, rc13, ib14, ib15, ib16, ib17, ib18, ib19, rc20, rc21, ib22, ib23, ib24, rc25, ib26, ib27, ib28, ib29, ib30, ib31, rc32, ib33, rc34, ib35, rc36, ib37, rc38, ib39, ib40, ib41, ib42, ib43, ib44, ib45, ib46, ib47, rc48, ib49, ib50, ib51, ib52, ib53, rc54, ib55, ib56, ib57, ib58, ib59, ib60, ib61, ib62, ib63, ib64, ib65, ib66, ib67, ib68, ib69, ib70, ib71, ib72, ib73, ib74, ib75, ib76, ib77, ib78, ib79, ib80, ib81, q1', e]
  · have q1' : (gi σ 3473 = 2) = False := eq_false q1
    rw [if_neg (fun q => q1 q.1)]
    simp only [w158_0, w158_1, w158_4, w158_5, w158_8, w158_9, w158_12, w158_13, w158_14, w158_17, w158_18, w158_21, w158_22, ↓reduceIte, okp_i, okp_r, okp_n, catS_nil, catS_cons, catV_i, catV_r, catV_l, Option.toList_some, Option.toList_none, List.cons_append, List.nil_append, gi_si, ga_si, gi_sa, ga_sa, gi_sl, ga_sl, gi_sf, ga_sf, gl_si, gl_sa, gl_sf, gl_sl, and_true, true_and, if_true, if_false, ite_true, ite_false, not_false_eq_true, not_true_eq_false, Nat.reduceEqDiff, reduceCtorEq, Nat.reduceLeDiff, Nat.reduceAdd, Nat.reduceMul, Nat.reduceLT, Int.reduceNeg, Int.reduceEq, Int.reduceLT, Int.reduceLE, eq_self, Nat.reduceSub, or_true, true_or, or_false, false_or, and_false, false_and, Int.reduceToNat, rc0, rc1, ib2, ib3, ib4, ib5, ib6, ib7, ib8, ib9, ib10, rc11, ib12, rc13, ib14, ib15, ib16, ib17, ib18, ib19, rc20, rc21, ib22, ib23, ib24, rc25, ib26, ib27, ib28, ib29, ib30, ib31, rc32, ib33, rc34, ib35, rc36, ib37, rc38, ib39, ib40, ib41, ib42, ib43, ib44, ib45, ib46, ib47, rc48, ib49, ib50, ib51, ib52, ib53, rc54, ib55, ib56, ib57, ib58, ib59, ib60, ib61, ib62, ib63, ib64, ib65, ib66, ib67, ib68, ib69, ib70, ib71, ib72, ib73, ib74, ib75, ib76, ib77, ib78, ib79, ib80, ib81, q1']
theorem S_wd (h : RT g L k σ) (w : Int) (j : Nat) (hj : j < 11) (hw : wcF j = w) : WP S 158 0 [some (vr 54), some (vl w), none] [] σ post ↔ post (some (vi (if sF g L k = (j : Int) then 1 else 0))) σ := by
  have ht := tm_w h hj
  rw [hw] at ht
  rw [S_isWdA]
  by_cases q : sF g L k = (j : Int)
  · rw [if_pos q, if_pos (ht.mpr q)]
  · rw [if_neg q, if_neg (fun r => q (ht.mp r))]
theorem S_kindHere (h : RT g L k σ) : WP S 161 0 [some (vr 54)] [] σ post ↔ post (some (vi (if 0 ≤ sF g L k ∧ sF g L k ≤ 4 then sF g L k else -1))) σ := by
  have w0 := fun post : Pst => S_wd (S := S) (post := post) h 6513010 0 (by decide) rfl
  have w1 := fun post : Pst => S_wd (S := S) (post := post) h 6452595 1 (by decide) rfl
  have w2 := fun post : Pst => S_wd (S := S) (post := post) h 500136502123 2 (by decide) rfl
  have w3 := fun post : Pst => S_wd (S := S) (post := post) h 1651075941 3 (by decide) rfl
  have w4 := fun post : Pst => S_wd (S := S) (post := post) h 6384748 4 (by decide) rfl
  have i0 : ((0 : Nat) : Int) = 0 := rfl
  have i1 : ((1 : Nat) : Int) = 1 := rfl
  have i2 : ((2 : Nat) : Int) = 2 := rfl
  have i3 : ((3 : Nat) : Int) = 3 := rfl
  have i4 : ((4 : Nat) : Int) = 4 := rfl
  simp only [i0] at w0
  simp only [i1] at w1
  simp only [i2] at w2
  simp only [i3] at w3
  simp only [i4] at w4
  simp only [w161_0, w161_1, w161_4, w161_7, w161_10, w161_11, w161_14, w161_15, w161_18, w161_21, w161_24, w161_25, w161_28, w161_29, w161_32, w161_35, w161_38, w161_39, w161_42, w161_43, w161_46, w161_49, w161_52, w161_53, w161_56, w161_57, w161_60, w161_63, w161_66, w161_67, w161_70, w161_71, ↓reduceIte, okp_i, okp_r, okp_n, catS_nil, catS_cons, catV_i, catV_r, catV_l, Option.toList_some, Option.toList_none, List.cons_append, List.nil_append, gi_si, ga_si, gi_sa, ga_sa, gi_sl, ga_sl, gi_sf, ga_sf, gl_si, gl_sa, gl_sf, gl_sl, and_true, true_and, if_true, if_false, ite_true, ite_false, not_false_eq_true, not_true_eq_false, Nat.reduceEqDiff, reduceCtorEq, Nat.reduceLeDiff, Nat.reduceAdd, Nat.reduceMul, Nat.reduceLT, Int.reduceNeg, Int.reduceEq, Int.reduceLT, Int.reduceLE, eq_self, Nat.reduceSub, or_true, true_or, or_false, false_or, and_false, false_and, Int.reduceToNat, rc0, rc1, ib2, ib3, ib4, ib5, ib6, ib7, ib8, ib9, ib10, rc11, ib12, rc13, ib14, ib15, ib16, ib17, ib18, ib19, rc20, rc21, ib22, ib23, ib24, rc25, ib26, ib27, ib28, ib29, ib30, ib31, rc32, ib33, rc34, ib35, rc36, ib37, rc38, ib39, ib40, ib41, ib42, ib43, ib44, ib45, ib46, ib47, rc48, ib49, ib50, ib51, ib52, ib53, rc54, ib55, ib56, ib57, ib58, ib59, ib60, ib61, ib62, ib63, ib64, ib65, ib66, ib67, ib68, ib69, ib70, ib71, ib72, ib73, ib74, ib75, ib76, ib77, ib78, ib79, ib80, ib81, w0, w1, w2, w3, w4]
  generalize sF g L k = x
  have hf := fun (z z' : Int) (hz : z = z') => (show post (some (vi z)) σ ↔ post (some (vi z')) σ by rw [hz])
  refine Iff.trans (itc (f := fun z => post (some (vi z)) σ) (itc (f := fun z => post (some (vi z)) σ) (itc (f := fun z => post (some (vi z)) σ) (itc (f := fun z => post (some (vi z)) σ) (itc (f := fun z => post (some (vi z)) σ) Iff.rfl))))) ?_
  refine hf _ _ ?_
  repeat' split
  all_goals omega
/-- what an act may change -/
def FrM (rb n : Nat) (σ σ' : Sto) : Prop := Fr [3469, 3470, 3471, 3472, 3473, 3474] [61, 62, 63, 64, 65, 66] σ σ' ∧ (∀ j, j ≠ 20 * rb + n → ga σ' 62 j = ga σ 62 j ∧ ga σ' 63 j = ga σ 63 j ∧ ga σ' 64 j = ga σ 64 j ∧ ga σ' 65 j = ga σ 65 j ∧ ga σ' 66 j = ga σ 66 j) ∧ (∀ j, j ≠ rb → ga σ' 61 j = ga σ 61 j) ∧ (gi σ' 3469 = 0 → gi σ' 3470 = gi σ 3470)
/-- the reference in the midst of an act -/
def RSt (g : Nat → Int) (L rb n : Nat) (σ0 σ : Sto) : Prop := TM g L σ ∧ gi σ 3483 = (rb : Int) ∧ ga σ 61 rb = (n : Int) ∧ FrM rb n σ0 σ ∧ rb < 2 ∧ n < 20
theorem FrM_Fr {σ' : Sto} {KI : List Nat} (h : FrM rb n σ0 σ) (hf : Fr KI [] σ σ') (hk : ∀ k ∈ KI, k ∈ [3471, 3472, 3473, 3474] := by decide) : FrM rb n σ0 σ' := by
  obtain ⟨h1, h2, h3, h4⟩ := h
  have n1 : 3469 ∉ KI := fun q => absurd (hk _ q) (by decide)
  have n2 : 3470 ∉ KI := fun q => absurd (hk _ q) (by decide)
  refine ⟨Fr_t h1 (Fr_m hf (fun k q => List.mem_cons_of_mem _ (List.mem_cons_of_mem _ (hk k q))) (by decide)), fun j hj => ?_, fun j hj => ?_, fun q => ?_⟩
  · rw [hf.2 62 (by decide), hf.2 63 (by decide), hf.2 64 (by decide), hf.2 65 (by decide), hf.2 66 (by decide)]
    exact h2 j hj
  · rw [hf.2 61 (by decide)]
    exact h3 j hj
  · rw [hf.1 _ n1] at q
    rw [hf.1 _ n2]
    exact h4 q
theorem RSt_Fr {σ' : Sto} {KI : List Nat} (h : RSt g L rb n σ0 σ) (hf : Fr KI [] σ σ') (hk : ∀ k ∈ KI, k ∈ [3471, 3472, 3473, 3474] := by decide) : RSt g L rb n σ0 σ' := by
  obtain ⟨h1, h2, h3, h4, h5, h6⟩ := h
  have n1 : 3468 ∉ KI := fun q => absurd (hk _ q) (by decide)
  have n2 : 3483 ∉ KI := fun q => absurd (hk _ q) (by decide)
  exact ⟨TM_Fr h1 hf n1, by rw [hf.1 _ n2]; exact h2, by rw [hf.2 61 (by decide)]; exact h3, FrM_Fr h4 hf hk, h5, h6⟩
theorem RSt_bad {x y : Int} (hx : x ≠ 0) (h : RSt g L rb n σ0 σ) : RSt g L rb n σ0 (si (si σ 3469 x) 3470 y) := by
  obtain ⟨h1, h2, h3, ⟨f1, f2, f3, f4⟩, h5, h6⟩ := h
  refine ⟨⟨by simp only [↓reduceIte, okp_i, okp_r, okp_n, catS_nil, catS_cons, catV_i, catV_r, catV_l, Option.toList_some, Option.toList_none, List.cons_append, List.nil_append, gi_si, ga_si, gi_sa, ga_sa, gi_sl, ga_sl, gi_sf, ga_sf, gl_si, gl_sa, gl_sf, gl_sl, and_true, true_and, if_true, if_false, ite_true, ite_false, not_false_eq_true, not_true_eq_false, Nat.reduceEqDiff, reduceCtorEq, Nat.reduceLeDiff, Nat.reduceAdd, Nat.reduceMul, Nat.reduceLT, Int.reduceNeg, Int.reduceEq, Int.reduceLT, Int.reduceLE, eq_self, Nat.reduceSub, or_true, true_or, or_false, false_or, and_false, false_and, Int.reduceToNat, rc0, rc1, ib2, ib3, ib4, ib5, ib6, ib7, ib8, ib9, ib10, rc11, ib12, rc13, ib14, ib15, ib16, ib17, ib18, ib19, rc20, rc21, ib22, ib23, ib24, rc25, ib26, ib27, ib28, ib29, ib30, ib31, rc32, ib33, rc34, ib35, rc36, ib37, rc38, ib39, ib40, ib41, ib42, ib43, ib44, ib45, ib46, ib47, rc48, ib49, ib50, ib51, ib52, ib53, rc54, ib55, ib56, ib57, ib58, ib59, ib60, ib61, ib62, ib63, ib64, ib65, ib66, ib67, ib68, ib69, ib70, ib71, ib72, ib73, ib74, ib75, ib76, ib77, ib78, ib79, ib80, ib81]; exact h1.1, h1.2⟩, by simp only [↓reduceIte, okp_i, okp_r, okp_n, catS_nil, catS_cons, catV_i, catV_r, catV_l, Option.toList_some, Option.toList_none, List.cons_append, List.nil_append, gi_si, ga_si, gi_sa, ga_sa, gi_sl, ga_sl, gi_sf, ga_sf, gl_si, gl_sa, gl_sf, gl_sl, and_true, true_and, if_true, if_false, ite_true, ite_false, not_false_eq_true, not_true_eq_false, Nat.reduceEqDiff, reduceCtorEq, Nat.reduceLeDiff, Nat.reduceAdd, Nat.reduceMul, Nat.reduceLT, Int.reduceNeg, Int.reduceEq, Int.reduceLT, Int.reduceLE, eq_self, Nat.reduceSub, or_true, true_or, or_false, false_or, and_false, false_and, Int.reduceToNat, rc0, rc1, ib2, ib3, ib4, ib5, ib6, ib7, ib8, ib9, ib10, rc11, ib12, rc13, ib14, ib15, ib16, ib17, ib18, ib19, rc20, rc21, ib22, ib23, ib24, rc25, ib26, ib27, ib28, ib29, ib30, ib31, rc32, ib33, rc34, ib35, rc36, ib37, rc38, ib39, ib40, ib41, ib42, ib43, ib44, ib45, ib46, ib47, rc48, ib49, ib50, ib51, ib52, ib53, rc54, ib55, ib56, ib57, ib58, ib59, ib60, ib61, ib62, ib63, ib64, ib65, ib66, ib67, ib68, ib69, ib70, ib71, ib72, ib73, ib74, ib75, ib76, ib77, ib78, ib79, ib80, ib81]; exact h2, h3, ⟨Fr_si (Fr_si f1 (by decide)) (by decide), f2, f3, fun q => ?_⟩, h5, h6⟩
  simp only [↓reduceIte, okp_i, okp_r, okp_n, catS_nil, catS_cons, catV_i, catV_r, catV_l, Option.toList_some, Option.toList_none, List.cons_append, List.nil_append, gi_si, ga_si, gi_sa, ga_sa, gi_sl, ga_sl, gi_sf, ga_sf, gl_si, gl_sa, gl_sf, gl_sl, and_true, true_and, if_true, if_false, ite_true, ite_false, not_false_eq_true, not_true_eq_false, Nat.reduceEqDiff, reduceCtorEq, Nat.reduceLeDiff, Nat.reduceAdd, Nat.reduceMul, Nat.reduceLT, Int.reduceNeg, Int.reduceEq, Int.reduceLT, Int.reduceLE, eq_self, Nat.reduceSub, or_true, true_or, or_false, false_or, and_false, false_and, Int.reduceToNat, rc0, rc1, ib2, ib3, ib4, ib5, ib6, ib7, ib8, ib9, ib10, rc11, ib12, rc13, ib14, ib15, ib16, ib17, ib18, ib19, rc20, rc21, ib22, ib23, ib24, rc25, ib26, ib27, ib28, ib29, ib30, ib31, rc32, ib33, rc34, ib35, rc36, ib37, rc38, ib39, ib40, ib41, ib42, ib43, ib44, ib45, ib46, ib47, rc48, ib49, ib50, ib51, ib52, ib53, rc54, ib55, ib56, ib57, ib58, ib59, ib60, ib61, ib62, ib63, ib64, ib65, ib66, ib67, ib68, ib69, ib70, ib71, ib72, ib73, ib74, ib75, ib76, ib77, ib78, ib79, ib80, ib81] at q
  exact absurd q hx
theorem RSt_sa {A : Nat} {x : Int} (h : RSt g L rb n σ0 σ) (hA : A = 62 ∨ A = 63 ∨ A = 64 ∨ A = 65 ∨ A = 66) : RSt g L rb n σ0 (sa σ A (20 * rb + n) x) := by
  obtain ⟨h1, h2, h3, ⟨f1, f2, f3, f4⟩, h5, h6⟩ := h
  have hne : ∀ B, ¬ B = A → ga (sa σ A (20 * rb + n) x) B = ga σ B := fun B hB => by rw [ga_sa, if_neg hB]
  have hj : ∀ B j, j ≠ 20 * rb + n → ga (sa σ A (20 * rb + n) x) B j = ga σ B j := fun B j hj => by
    by_cases q : B = A
    · rw [ga_sa, if_pos q, q]
      simp only [if_neg hj]
    · rw [hne B q]
  refine ⟨⟨h1.1, fun p hp => by rw [hne 60 (by omega)]; exact h1.2 p hp⟩, h2, by rw [hne 61 (by omega)]; exact h3, ⟨Fr_sa f1 (by rcases hA with rfl | rfl | rfl | rfl | rfl <;> decide), fun j q => ?_, fun j q => ?_, f4⟩, h5, h6⟩
  · rw [hj 62 j q, hj 63 j q, hj 64 j q, hj 65 j q, hj 66 j q]
    exact f2 j q
  · rw [hne 61 (by omega)]
    exact f3 j q
theorem RT_sa {A j : Nat} {x : Int} (h : RT g L k σ) : RT g L k (sa σ A j x) := h
theorem RT_si {y : Nat} {x : Int} (h : RT g L k σ) (hy : y = 3469 ∨ y = 3470) : RT g L k (si σ y x) := by
  obtain ⟨h1, h2, h3⟩ := h
  refine ⟨by rw [gi_si, if_neg (by omega)]; exact h1, by rw [gi_si, if_neg (by omega)]; exact h2, tokM_si h3 (by omega) (by omega)⟩
def AF (σ : Sto) (a : Act) (j : Nat) : Prop := ga σ 62 j = (if a.1 = 8 then -1 else if a.1 = 9 then -2 else a.2.2.2.2.2) ∧ ga σ 63 j = a.2.1 ∧ ga σ 64 j = a.2.2.1 ∧ ga σ 65 j = a.2.2.2.1 ∧ ga σ 66 j = a.2.2.2.2.1
def RP (g : Nat → Int) (L rb n : Nat) (σ0 : Sto) (post : Pst) : PR → Prop
  | .inl (b, i) => ∀ σ', FrM rb n σ0 σ' → gi σ' 3469 = fkF (sF g L) b i → gi σ' 3470 = (tkF g L i : Int) → post none σ'
  | .inr (k, a) => ∀ σ', FrM rb n σ0 σ' → RT g L k σ' → gi σ' 3469 = 0 → ga σ' 61 rb = ((n + 1 : Nat) : Int) → AF σ' a (20 * rb + n) → post none σ'
theorem S_good (h : gi σ 3469 = 0) : WP S 155 0 [some (vr 54)] [] σ post ↔ post (some (vi 1)) σ := by
  simp only [w155_0, w155_1, w155_4, w155_7, w155_8, w155_11, w155_12, ↓reduceIte, okp_i, okp_r, okp_n, catS_nil, catS_cons, catV_i, catV_r, catV_l, Option.toList_some, Option.toList_none, List.cons_append, List.nil_append, gi_si, ga_si, gi_sa, ga_sa, gi_sl, ga_sl, gi_sf, ga_sf, gl_si, gl_sa, gl_sf, gl_sl, and_true, true_and, if_true, if_false, ite_true, ite_false, not_false_eq_true, not_true_eq_false, Nat.reduceEqDiff, reduceCtorEq, Nat.reduceLeDiff, Nat.reduceAdd, Nat.reduceMul, Nat.reduceLT, Int.reduceNeg, Int.reduceEq, Int.reduceLT, Int.reduceLE, eq_self, Nat.reduceSub, or_true, true_or, or_false, false_or, and_false, false_and, Int.reduceToNat, rc0, rc1, ib2, ib3, ib4, ib5, ib6, ib7, ib8, ib9, ib10, rc11, ib12, rc13, ib14, ib15, ib16, ib17, ib18, ib19, rc20, rc21, ib22, ib23, ib24, rc25, ib26, ib27, ib28, ib29, ib30, ib31, rc32, ib33, rc34, ib35, rc36, ib37, rc38, ib39, ib40, ib41, ib42, ib43, ib44, ib45, ib46, ib47, rc48, ib49, ib50, ib51, ib52, ib53, rc54, ib55, ib56, ib57, ib58, ib59, ib60, ib61, ib62, ib63, ib64, ib65, ib66, ib67, ib68, ib69, ib70, ib71, ib72, ib73, ib74, ib75, ib76, ib77, ib78, ib79, ib80, ib81, h]
theorem S_bad (h : gi σ 3469 ≠ 0) : WP S 155 0 [some (vr 54)] [] σ post ↔ post (some (vi 0)) σ := by
  have h' : (gi σ 3469 = 0) = False := eq_false h
  simp only [w155_0, w155_1, w155_4, w155_7, w155_8, w155_11, w155_12, ↓reduceIte, okp_i, okp_r, okp_n, catS_nil, catS_cons, catV_i, catV_r, catV_l, Option.toList_some, Option.toList_none, List.cons_append, List.nil_append, gi_si, ga_si, gi_sa, ga_sa, gi_sl, ga_sl, gi_sf, ga_sf, gl_si, gl_sa, gl_sf, gl_sl, and_true, true_and, if_true, if_false, ite_true, ite_false, not_false_eq_true, not_true_eq_false, Nat.reduceEqDiff, reduceCtorEq, Nat.reduceLeDiff, Nat.reduceAdd, Nat.reduceMul, Nat.reduceLT, Int.reduceNeg, Int.reduceEq, Int.reduceLT, Int.reduceLE, eq_self, Nat.reduceSub, or_true, true_or, or_false, false_or, and_false, false_and, Int.reduceToNat, rc0, rc1, ib2, ib3, ib4, ib5, ib6, ib7, ib8, ib9, ib10, rc11, ib12, rc13, ib14, ib15, ib16, ib17, ib18, ib19, rc20, rc21, ib22, ib23, ib24, rc25, ib26, ib27, ib28, ib29, ib30, ib31, rc32, ib33, rc34, ib35, rc36, ib37, rc38, ib39, ib40, ib41, ib42, ib43, ib44, ib45, ib46, ib47, rc48, ib49, ib50, ib51, ib52, ib53, rc54, ib55, ib56, ib57, ib58, ib59, ib60, ib61, ib62, ib63, ib64, ib65, ib66, ib67, ib68, ib69, ib70, ib71, ib72, ib73, ib74, ib75, ib76, ib77, ib78, ib79, ib80, ib81, h']
theorem S_mustB (h : gi σ 3469 ≠ 0) {b : Int} : WP S 160 0 [some (vr 54), some (vi b)] [] σ post ↔ post none σ := by
  simp only [w160_0, w160_1, w160_4, w160_7, w160_8, w160_9, w160_12, w160_13, w160_16, w160_19, w160_20, w160_23, ↓reduceIte, okp_i, okp_r, okp_n, catS_nil, catS_cons, catV_i, catV_r, catV_l, Option.toList_some, Option.toList_none, List.cons_append, List.nil_append, gi_si, ga_si, gi_sa, ga_sa, gi_sl, ga_sl, gi_sf, ga_sf, gl_si, gl_sa, gl_sf, gl_sl, and_true, true_and, if_true, if_false, ite_true, ite_false, not_false_eq_true, not_true_eq_false, Nat.reduceEqDiff, reduceCtorEq, Nat.reduceLeDiff, Nat.reduceAdd, Nat.reduceMul, Nat.reduceLT, Int.reduceNeg, Int.reduceEq, Int.reduceLT, Int.reduceLE, eq_self, Nat.reduceSub, or_true, true_or, or_false, false_or, and_false, false_and, Int.reduceToNat, rc0, rc1, ib2, ib3, ib4, ib5, ib6, ib7, ib8, ib9, ib10, rc11, ib12, rc13, ib14, ib15, ib16, ib17, ib18, ib19, rc20, rc21, ib22, ib23, ib24, rc25, ib26, ib27, ib28, ib29, ib30, ib31, rc32, ib33, rc34, ib35, rc36, ib37, rc38, ib39, ib40, ib41, ib42, ib43, ib44, ib45, ib46, ib47, rc48, ib49, ib50, ib51, ib52, ib53, rc54, ib55, ib56, ib57, ib58, ib59, ib60, ib61, ib62, ib63, ib64, ib65, ib66, ib67, ib68, ib69, ib70, ib71, ib72, ib73, ib74, ib75, ib76, ib77, ib78, ib79, ib80, ib81, S_bad h]
theorem S_fails {x y : Int} (h : gi σ 3469 = 0) : WP S 154 0 [some (vr 54), some (vi x), some (vi y)] [] σ post ↔ post none (si (si σ 3469 x) 3470 y) := by
  simp only [w154_0, w154_1, w154_4, w154_7, w154_8, w154_9, w154_10, w154_13, w154_14, w154_15, w154_18, ↓reduceIte, okp_i, okp_r, okp_n, catS_nil, catS_cons, catV_i, catV_r, catV_l, Option.toList_some, Option.toList_none, List.cons_append, List.nil_append, gi_si, ga_si, gi_sa, ga_sa, gi_sl, ga_sl, gi_sf, ga_sf, gl_si, gl_sa, gl_sf, gl_sl, and_true, true_and, if_true, if_false, ite_true, ite_false, not_false_eq_true, not_true_eq_false, Nat.reduceEqDiff, reduceCtorEq, Nat.reduceLeDiff, Nat.reduceAdd, Nat.reduceMul, Nat.reduceLT, Int.reduceNeg, Int.reduceEq, Int.reduceLT, Int.reduceLE, eq_self, Nat.reduceSub, or_true, true_or, or_false, false_or, and_false, false_and, Int.reduceToNat, rc0, rc1, ib2, ib3, ib4, ib5, ib6, ib7, ib8, ib9, ib10, rc11, ib12, rc13, ib14, ib15, ib16, ib17, ib18, ib19, rc20, rc21, ib22, ib23, ib24, rc25, ib26, ib27, ib28, ib29, ib30, ib31, rc32, ib33, rc34, ib35, rc36, ib37, rc38, ib39, ib40, ib41, ib42, ib43, ib44, ib45, ib46, ib47, rc48, ib49, ib50, ib51, ib52, ib53, rc54, ib55, ib56, ib57, ib58, ib59, ib60, ib61, ib62, ib63, ib64, ib65, ib66, ib67, ib68, ib69, ib70, ib71, ib72, ib73, ib74, ib75, ib76, ib77, ib78, ib79, ib80, ib81, h]
theorem S_wrong (hT : RT g L k σ) (h : gi σ 3469 = 0) : WP S 159 0 [some (vr 54)] [] σ post ↔ post none (si (si σ 3469 (fkF (sF g L) 1 k)) 3470 (tkF g L k : Int)) := by
  have ha := hT.2.1
  unfold fkF
  rw [if_neg (by decide)]
  by_cases q : sF g L k = 16
  · have q' : (gi σ 3473 = 1) = True := eq_true ((tm_16 hT).mpr q)
    rw [if_pos q]
    simp only [w159_0, w159_1, w159_2, w159_5, w159_6, w159_9, w159_10, w159_13, w159_14, w159_15, w159_18, w159_21, ↓reduceIte, okp_i, okp_r, okp_n, catS_nil, catS_cons, catV_i, catV_r, catV_l, Option.toList_some, Option.toList_none, List.cons_append, List.nil_append, gi_si, ga_si, gi_sa, ga_sa, gi_sl, ga_sl, gi_sf, ga_sf, gl_si, gl_sa, gl_sf, gl_sl, and_true, true_and, if_true, if_false, ite_true, ite_false, not_false_eq_true, not_true_eq_false, Nat.reduceEqDiff, reduceCtorEq, Nat.reduceLeDiff, Nat.reduceAdd, Nat.reduceMul, Nat.reduceLT, Int.reduceNeg, Int.reduceEq, Int.reduceLT, Int.reduceLE, eq_self, Nat.reduceSub, or_true, true_or, or_false, false_or, and_false, false_and, Int.reduceToNat, rc0, rc1, ib2, ib3, ib4, ib5, ib6, ib7, ib8, ib9, ib10, rc11, ib12, rc13, ib14, ib15, ib16, ib17, ib18, ib19, rc20, rc21, ib22, ib23, ib24, rc25, ib26, ib27, ib28, ib29, ib30, ib31, rc32, ib33, rc34, ib35, rc36, ib37, rc38, ib39, ib40, ib41, ib42, ib43, ib44, ib45, ib46, ib47, rc48, ib49, ib50, ib51, ib52, ib53, rc54, ib55, ib56, ib57, ib58, ib59, ib60, ib61, ib62, ib63, ib64, ib65, ib66, ib67, ib68, ib69, ib70, ib71, ib72, ib73, ib74, ib75, ib76, ib77, ib78, ib79, ib80, ib81, q', ha, S_fails h]
  · have q' : (gi σ 3473 = 1) = False := eq_false (fun r => q ((tm_16 hT).mp r))
    rw [if_neg q]
    simp only [w159_0, w159_1, w159_2, w159_5, w159_6, w159_9, w159_10, w159_13, w159_14, w159_15, w159_18, w159_21, ↓reduceIte, okp_i, okp_r, okp_n, catS_nil, catS_cons, catV_i, catV_r, catV_l, Option.toList_some, Option.toList_none, List.cons_append, List.nil_append, gi_si, ga_si, gi_sa, ga_sa, gi_sl, ga_sl, gi_sf, ga_sf, gl_si, gl_sa, gl_sf, gl_sl, and_true, true_and, if_true, if_false, ite_true, ite_false, not_false_eq_true, not_true_eq_false, Nat.reduceEqDiff, reduceCtorEq, Nat.reduceLeDiff, Nat.reduceAdd, Nat.reduceMul, Nat.reduceLT, Int.reduceNeg, Int.reduceEq, Int.reduceLT, Int.reduceLE, eq_self, Nat.reduceSub, or_true, true_or, or_false, false_or, and_false, false_and, Int.reduceToNat, rc0, rc1, ib2, ib3, ib4, ib5, ib6, ib7, ib8, ib9, ib10, rc11, ib12, rc13, ib14, ib15, ib16, ib17, ib18, ib19, rc20, rc21, ib22, ib23, ib24, rc25, ib26, ib27, ib28, ib29, ib30, ib31, rc32, ib33, rc34, ib35, rc36, ib37, rc38, ib39, ib40, ib41, ib42, ib43, ib44, ib45, ib46, ib47, rc48, ib49, ib50, ib51, ib52, ib53, rc54, ib55, ib56, ib57, ib58, ib59, ib60, ib61, ib62, ib63, ib64, ib65, ib66, ib67, ib68, ib69, ib70, ib71, ib72, ib73, ib74, ib75, ib76, ib77, ib78, ib79, ib80, ib81, q', ha, S_fails h]
theorem S_must1 (hG : TG g L) (hM : TM g L σ) (hT : RT g L k σ) (h : gi σ 3469 = 0) (kk : ∀ σ', Fr [3471, 3472, 3473, 3474] [] σ σ' → RT g L (k + 1) σ' → post none σ') : WP S 160 0 [some (vr 54), some (vi 1)] [] σ post := by
  simp only [w160_0, w160_1, w160_4, w160_7, w160_8, w160_9, w160_12, w160_13, w160_16, w160_19, w160_20, w160_23, ↓reduceIte, okp_i, okp_r, okp_n, catS_nil, catS_cons, catV_i, catV_r, catV_l, Option.toList_some, Option.toList_none, List.cons_append, List.nil_append, gi_si, ga_si, gi_sa, ga_sa, gi_sl, ga_sl, gi_sf, ga_sf, gl_si, gl_sa, gl_sf, gl_sl, and_true, true_and, if_true, if_false, ite_true, ite_false, not_false_eq_true, not_true_eq_false, Nat.reduceEqDiff, reduceCtorEq, Nat.reduceLeDiff, Nat.reduceAdd, Nat.reduceMul, Nat.reduceLT, Int.reduceNeg, Int.reduceEq, Int.reduceLT, Int.reduceLE, eq_self, Nat.reduceSub, or_true, true_or, or_false, false_or, and_false, false_and, Int.reduceToNat, rc0, rc1, ib2, ib3, ib4, ib5, ib6, ib7, ib8, ib9, ib10, rc11, ib12, rc13, ib14, ib15, ib16, ib17, ib18, ib19, rc20, rc21, ib22, ib23, ib24, rc25, ib26, ib27, ib28, ib29, ib30, ib31, rc32, ib33, rc34, ib35, rc36, ib37, rc38, ib39, ib40, ib41, ib42, ib43, ib44, ib45, ib46, ib47, rc48, ib49, ib50, ib51, ib52, ib53, rc54, ib55, ib56, ib57, ib58, ib59, ib60, ib61, ib62, ib63, ib64, ib65, ib66, ib67, ib68, ib69, ib70, ib71, ib72, ib73, ib74, ib75, ib76, ib77, ib78, ib79, ib80, ib81, S_good h]
  refine S_nextM hG hM hT.1 ?_
  intro σ' h1 h2
  simp only [w160_0, w160_1, w160_4, w160_7, w160_8, w160_9, w160_12, w160_13, w160_16, w160_19, w160_20, w160_23, ↓reduceIte, okp_i, okp_r, okp_n, catS_nil, catS_cons, catV_i, catV_r, catV_l, Option.toList_some, Option.toList_none, List.cons_append, List.nil_append, gi_si, ga_si, gi_sa, ga_sa, gi_sl, ga_sl, gi_sf, ga_sf, gl_si, gl_sa, gl_sf, gl_sl, and_true, true_and, if_true, if_false, ite_true, ite_false, not_false_eq_true, not_true_eq_false, Nat.reduceEqDiff, reduceCtorEq, Nat.reduceLeDiff, Nat.reduceAdd, Nat.reduceMul, Nat.reduceLT, Int.reduceNeg, Int.reduceEq, Int.reduceLT, Int.reduceLE, eq_self, Nat.reduceSub, or_true, true_or, or_false, false_or, and_false, false_and, Int.reduceToNat, rc0, rc1, ib2, ib3, ib4, ib5, ib6, ib7, ib8, ib9, ib10, rc11, ib12, rc13, ib14, ib15, ib16, ib17, ib18, ib19, rc20, rc21, ib22, ib23, ib24, rc25, ib26, ib27, ib28, ib29, ib30, ib31, rc32, ib33, rc34, ib35, rc36, ib37, rc38, ib39, ib40, ib41, ib42, ib43, ib44, ib45, ib46, ib47, rc48, ib49, ib50, ib51, ib52, ib53, rc54, ib55, ib56, ib57, ib58, ib59, ib60, ib61, ib62, ib63, ib64, ib65, ib66, ib67, ib68, ib69, ib70, ib71, ib72, ib73, ib74, ib75, ib76, ib77, ib78, ib79, ib80, ib81]
  exact kk σ' h1 h2
theorem S_must0 (hT : RT g L k σ) (h : gi σ 3469 = 0) : WP S 160 0 [some (vr 54), some (vi 0)] [] σ post ↔ post none (si (si σ 3469 (fkF (sF g L) 1 k)) 3470 (tkF g L k : Int)) := by
  simp only [w160_0, w160_1, w160_4, w160_7, w160_8, w160_9, w160_12, w160_13, w160_16, w160_19, w160_20, w160_23, ↓reduceIte, okp_i, okp_r, okp_n, catS_nil, catS_cons, catV_i, catV_r, catV_l, Option.toList_some, Option.toList_none, List.cons_append, List.nil_append, gi_si, ga_si, gi_sa, ga_sa, gi_sl, ga_sl, gi_sf, ga_sf, gl_si, gl_sa, gl_sf, gl_sl, and_true, true_and, if_true, if_false, ite_true, ite_false, not_false_eq_true, not_true_eq_false, Nat.reduceEqDiff, reduceCtorEq, Nat.reduceLeDiff, Nat.reduceAdd, Nat.reduceMul, Nat.reduceLT, Int.reduceNeg, Int.reduceEq, Int.reduceLT, Int.reduceLE, eq_self, Nat.reduceSub, or_true, true_or, or_false, false_or, and_false, false_and, Int.reduceToNat, rc0, rc1, ib2, ib3, ib4, ib5, ib6, ib7, ib8, ib9, ib10, rc11, ib12, rc13, ib14, ib15, ib16, ib17, ib18, ib19, rc20, rc21, ib22, ib23, ib24, rc25, ib26, ib27, ib28, ib29, ib30, ib31, rc32, ib33, rc34, ib35, rc36, ib37, rc38, ib39, ib40, ib41, ib42, ib43, ib44, ib45, ib46, ib47, rc48, ib49, ib50, ib51, ib52, ib53, rc54, ib55, ib56, ib57, ib58, ib59, ib60, ib61, ib62, ib63, ib64, ib65, ib66, ib67, ib68, ib69, ib70, ib71, ib72, ib73, ib74, ib75, ib76, ib77, ib78, ib79, ib80, ib81, S_good h, S_wrong hT h]
theorem fk_ne {b : Int} {i : Nat} : fkF (sF g L) b i ≠ 0 := by
  unfold fkF
  repeat' split
  all_goals decide
theorem S_numB (h : gi σ 3469 ≠ 0) {lo hi : Int} : WP S 163 0 [some (vr 54), some (vi lo), some (vi hi), none] [] σ post ↔ post (some (vi 0)) σ := by
  simp only [w163_0, w163_1, w163_4, w163_7, w163_8, w163_9, w163_10, w163_13, w163_14, w163_17, w163_18, w163_21, w163_22, w163_25, w163_28, w163_29, w163_32, w163_33, w163_36, w163_37, w163_40, w163_41, w163_44, w163_45, w163_46, w163_47, w163_50, w163_53, w163_54, w163_57, w163_58, w163_59, w163_62, w163_65, w163_66, w163_69, w163_70, ↓reduceIte, okp_i, okp_r, okp_n, catS_nil, catS_cons, catV_i, catV_r, catV_l, Option.toList_some, Option.toList_none, List.cons_append, List.nil_append, gi_si, ga_si, gi_sa, ga_sa, gi_sl, ga_sl, gi_sf, ga_sf, gl_si, gl_sa, gl_sf, gl_sl, and_true, true_and, if_true, if_false, ite_true, ite_false, not_false_eq_true, not_true_eq_false, Nat.reduceEqDiff, reduceCtorEq, Nat.reduceLeDiff, Nat.reduceAdd, Nat.reduceMul, Nat.reduceLT, Int.reduceNeg, Int.reduceEq, Int.reduceLT, Int.reduceLE, eq_self, Nat.reduceSub, or_true, true_or, or_false, false_or, and_false, false_and, Int.reduceToNat, rc0, rc1, ib2, ib3, ib4, ib5, ib6, ib7, ib8, ib9, ib10, rc11, ib12, rc13, ib14, ib15, ib16, ib17, ib18, ib19, rc20, rc21, ib22, ib23, ib24, rc25, ib26, ib27, ib28, ib29, ib30, ib31, rc32, ib33, rc34, ib35, rc36, ib37, rc38, ib39, ib40, ib41, ib42, ib43, ib44, ib45, ib46, ib47, rc48, ib49, ib50, ib51, ib52, ib53, rc54, ib55, ib56, ib57, ib58, ib59, ib60, ib61, ib62, ib63, ib64, ib65, ib66, ib67, ib68, ib69, ib70, ib71, ib72, ib73, ib74, ib75, ib76, ib77, ib78, ib79, ib80, ib81, S_bad h]
theorem S_numW (hT : RT g L k σ) (h : gi σ 3469 = 0) (q : sF g L k ≠ 13) {lo hi : Int} : WP S 163 0 [some (vr 54), some (vi lo), some (vi hi), none] [] σ post ↔ post (some (vi (gi σ 3474))) (si (si σ 3469 (fkF (sF g L) 1 k)) 3470 (tkF g L k : Int)) := by
  have q' : (gi σ 3473 = 3) = False := eq_false (fun r => q ((tm_13 hT).1.mp r))
  have hb : gi (si (si σ 3469 (fkF (sF g L) 1 k)) 3470 (tkF g L k : Int)) 3469 ≠ 0 := by
    simp only [↓reduceIte, okp_i, okp_r, okp_n, catS_nil, catS_cons, catV_i, catV_r, catV_l, Option.toList_some, Option.toList_none, List.cons_append, List.nil_append, gi_si, ga_si, gi_sa, ga_sa, gi_sl, ga_sl, gi_sf, ga_sf, gl_si, gl_sa, gl_sf, gl_sl, and_true, true_and, if_true, if_false, ite_true, ite_false, not_false_eq_true, not_true_eq_false, Nat.reduceEqDiff, reduceCtorEq, Nat.reduceLeDiff, Nat.reduceAdd, Nat.reduceMul, Nat.reduceLT, Int.reduceNeg, Int.reduceEq, Int.reduceLT, Int.reduceLE, eq_self, Nat.reduceSub, or_true, true_or, or_false, false_or, and_false, false_and, Int.reduceToNat, rc0, rc1, ib2, ib3, ib4, ib5, ib6, ib7, ib8, ib9, ib10, rc11, ib12, rc13, ib14, ib15, ib16, ib17, ib18, ib19, rc20, rc21, ib22, ib23, ib24, rc25, ib26, ib27, ib28, ib29, ib30, ib31, rc32, ib33, rc34, ib35, rc36, ib37, rc38, ib39, ib40, ib41, ib42, ib43, ib44, ib45, ib46, ib47, rc48, ib49, ib50, ib51, ib52, ib53, rc54, ib55, ib56, ib57, ib58, ib59, ib60, ib61, ib62, ib63, ib64, ib65, ib66, ib67, ib68, ib69, ib70, ib71, ib72, ib73, ib74, ib75, ib76, ib77, ib78, ib79, ib80, ib81]
    exact fk_ne
  simp only [w163_0, w163_1, w163_4, w163_7, w163_8, w163_9, w163_10, w163_13, w163_14, w163_17, w163_18, w163_21, w163_22, w163_25, w163_28, w163_29, w163_32, w163_33, w163_36, w163_37, w163_40, w163_41, w163_44, w163_45, w163_46, w163_47, w163_50, w163_53, w163_54, w163_57, w163_58, w163_59, w163_62, w163_65, w163_66, w163_69, w163_70, ↓reduceIte, okp_i, okp_r, okp_n, catS_nil, catS_cons, catV_i, catV_r, catV_l, Option.toList_some, Option.toList_none, List.cons_append, List.nil_append, gi_si, ga_si, gi_sa, ga_sa, gi_sl, ga_sl, gi_sf, ga_sf, gl_si, gl_sa, gl_sf, gl_sl, and_true, true_and, if_true, if_false, ite_true, ite_false, not_false_eq_true, not_true_eq_false, Nat.reduceEqDiff, reduceCtorEq, Nat.reduceLeDiff, Nat.reduceAdd, Nat.reduceMul, Nat.reduceLT, Int.reduceNeg, Int.reduceEq, Int.reduceLT, Int.reduceLE, eq_self, Nat.reduceSub, or_true, true_or, or_false, false_or, and_false, false_and, Int.reduceToNat, rc0, rc1, ib2, ib3, ib4, ib5, ib6, ib7, ib8, ib9, ib10, rc11, ib12, rc13, ib14, ib15, ib16, ib17, ib18, ib19, rc20, rc21, ib22, ib23, ib24, rc25, ib26, ib27, ib28, ib29, ib30, ib31, rc32, ib33, rc34, ib35, rc36, ib37, rc38, ib39, ib40, ib41, ib42, ib43, ib44, ib45, ib46, ib47, rc48, ib49, ib50, ib51, ib52, ib53, rc54, ib55, ib56, ib57, ib58, ib59, ib60, ib61, ib62, ib63, ib64, ib65, ib66, ib67, ib68, ib69, ib70, ib71, ib72, ib73, ib74, ib75, ib76, ib77, ib78, ib79, ib80, ib81, S_good h, q', S_wrong hT h, S_bad hb]
theorem S_numO (hT : RT g L k σ) (h : gi σ 3469 = 0) (q : sF g L k = 13) {lo hi : Int} (ho : ¬ (lo ≤ vF g L k ∧ vF g L k ≤ hi)) : WP S 163 0 [some (vr 54), some (vi lo), some (vi hi), none] [] σ post ↔ post (some (vi (vF g L k))) (si (si σ 3469 (fkF (sF g L) 0 k)) 3470 (tkF g L k : Int)) := by
  have ha := hT.2.1
  have q' : (gi σ 3473 = 3) = True := eq_true ((tm_13 hT).1.mpr q)
  have hv := (tm_13 hT).2 q
  have e3 : fkF (sF g L) 0 k = 3 := by unfold fkF; rw [if_pos rfl]
  have hb : gi (si (si σ 3469 3) 3470 (tkF g L k : Int)) 3469 ≠ 0 := by
    simp only [↓reduceIte, okp_i, okp_r, okp_n, catS_nil, catS_cons, catV_i, catV_r, catV_l, Option.toList_some, Option.toList_none, List.cons_append, List.nil_append, gi_si, ga_si, gi_sa, ga_sa, gi_sl, ga_sl, gi_sf, ga_sf, gl_si, gl_sa, gl_sf, gl_sl, and_true, true_and, if_true, if_false, ite_true, ite_false, not_false_eq_true, not_true_eq_false, Nat.reduceEqDiff, reduceCtorEq, Nat.reduceLeDiff, Nat.reduceAdd, Nat.reduceMul, Nat.reduceLT, Int.reduceNeg, Int.reduceEq, Int.reduceLT, Int.reduceLE, eq_self, Nat.reduceSub, or_true, true_or, or_false, false_or, and_false, false_and, Int.reduceToNat, rc0, rc1, ib2, ib3, ib4, ib5, ib6, ib7, ib8, ib9, ib10, rc11, ib12, rc13, ib14, ib15, ib16, ib17, ib18, ib19, rc20, rc21, ib22, ib23, ib24, rc25, ib26, ib27, ib28, ib29, ib30, ib31, rc32, ib33, rc34, ib35, rc36, ib37, rc38, ib39, ib40, ib41, ib42, ib43, ib44, ib45, ib46, ib47, rc48, ib49, ib50, ib51, ib52, ib53, rc54, ib55, ib56, ib57, ib58, ib59, ib60, ib61, ib62, ib63, ib64, ib65, ib66, ib67, ib68, ib69, ib70, ib71, ib72, ib73, ib74, ib75, ib76, ib77, ib78, ib79, ib80, ib81]
    decide
  rw [e3]
  by_cases c1 : vF g L k < lo
  · simp only [w163_0, w163_1, w163_4, w163_7, w163_8, w163_9, w163_10, w163_13, w163_14, w163_17, w163_18, w163_21, w163_22, w163_25, w163_28, w163_29, w163_32, w163_33, w163_36, w163_37, w163_40, w163_41, w163_44, w163_45, w163_46, w163_47, w163_50, w163_53, w163_54, w163_57, w163_58, w163_59, w163_62, w163_65, w163_66, w163_69, w163_70, ↓reduceIte, okp_i, okp_r, okp_n, catS_nil, catS_cons, catV_i, catV_r, catV_l, Option.toList_some, Option.toList_none, List.cons_append, List.nil_append, gi_si, ga_si, gi_sa, ga_sa, gi_sl, ga_sl, gi_sf, ga_sf, gl_si, gl_sa, gl_sf, gl_sl, and_true, true_and, if_true, if_false, ite_true, ite_false, not_false_eq_true, not_true_eq_false, Nat.reduceEqDiff, reduceCtorEq, Nat.reduceLeDiff, Nat.reduceAdd, Nat.reduceMul, Nat.reduceLT, Int.reduceNeg, Int.reduceEq, Int.reduceLT, Int.reduceLE, eq_self, Nat.reduceSub, or_true, true_or, or_false, false_or, and_false, false_and, Int.reduceToNat, rc0, rc1, ib2, ib3, ib4, ib5, ib6, ib7, ib8, ib9, ib10, rc11, ib12, rc13, ib14, ib15, ib16, ib17, ib18, ib19, rc20, rc21, ib22, ib23, ib24, rc25, ib26, ib27, ib28, ib29, ib30, ib31, rc32, ib33, rc34, ib35, rc36, ib37, rc38, ib39, ib40, ib41, ib42, ib43, ib44, ib45, ib46, ib47, rc48, ib49, ib50, ib51, ib52, ib53, rc54, ib55, ib56, ib57, ib58, ib59, ib60, ib61, ib62, ib63, ib64, ib65, ib66, ib67, ib68, ib69, ib70, ib71, ib72, ib73, ib74, ib75, ib76, ib77, ib78, ib79, ib80, ib81, S_good h, q', hv, c1, ha, S_fails h, S_bad hb]
  · have c2 : ¬ vF g L k ≤ hi := by omega
    simp only [w163_0, w163_1, w163_4, w163_7, w163_8, w163_9, w163_10, w163_13, w163_14, w163_17, w163_18, w163_21, w163_22, w163_25, w163_28, w163_29, w163_32, w163_33, w163_36, w163_37, w163_40, w163_41, w163_44, w163_45, w163_46, w163_47, w163_50, w163_53, w163_54, w163_57, w163_58, w163_59, w163_62, w163_65, w163_66, w163_69, w163_70, ↓reduceIte, okp_i, okp_r, okp_n, catS_nil, catS_cons, catV_i, catV_r, catV_l, Option.toList_some, Option.toList_none, List.cons_append, List.nil_append, gi_si, ga_si, gi_sa, ga_sa, gi_sl, ga_sl, gi_sf, ga_sf, gl_si, gl_sa, gl_sf, gl_sl, and_true, true_and, if_true, if_false, ite_true, ite_false, not_false_eq_true, not_true_eq_false, Nat.reduceEqDiff, reduceCtorEq, Nat.reduceLeDiff, Nat.reduceAdd, Nat.reduceMul, Nat.reduceLT, Int.reduceNeg, Int.reduceEq, Int.reduceLT, Int.reduceLE, eq_self, Nat.reduceSub, or_true, true_or, or_false, false_or, and_false, false_and, Int.reduceToNat, rc0, rc1, ib2, ib3, ib4, ib5, ib6, ib7, ib8, ib9, ib10, rc11, ib12, rc13, ib14, ib15, ib16, ib17, ib18, ib19, rc20, rc21, ib22, ib23, ib24, rc25, ib26, ib27, ib28, ib29, ib30, ib31, rc32, ib33, rc34, ib35, rc36, ib37, rc38, ib39, ib40, ib41, ib42, ib43, ib44, ib45, ib46, ib47, rc48, ib49, ib50, ib51, ib52, ib53, rc54, ib55, ib56, ib57, ib58, ib59, ib60, ib61, ib62, ib63, ib64, ib65, ib66, ib67, ib68, ib69, ib70, ib71, ib72, ib73, ib74, ib75, ib76, ib77, ib78, ib79, ib80, ib81, S_good h, q', hv, c1, c2, ha, S_fails h, S_bad hb]
theorem S_numI (hG : TG g L) (hM : TM g L σ) (hT : RT g L k σ) (h : gi σ 3469 = 0) (q : sF g L k = 13) {lo hi : Int} (ho : lo ≤ vF g L k ∧ vF g L k ≤ hi) (kk : ∀ σ', Fr [3471, 3472, 3473, 3474] [] σ σ' → RT g L (k + 1) σ' → post (some (vi (vF g L k))) σ') : WP S 163 0 [some (vr 54), some (vi lo), some (vi hi), none] [] σ post := by
  have q' : (gi σ 3473 = 3) = True := eq_true ((tm_13 hT).1.mpr q)
  have hv := (tm_13 hT).2 q
  have c1 : (vF g L k < lo) = False := eq_false (by omega)
  have c2 : (vF g L k ≤ hi) = True := eq_true ho.2
  simp only [w163_0, w163_1, w163_4, w163_7, w163_8, w163_9, w163_10, w163_13, w163_14, w163_17, w163_18, w163_21, w163_22, w163_25, w163_28, w163_29, w163_32, w163_33, w163_36, w163_37, w163_40, w163_41, w163_44, w163_45, w163_46, w163_47, w163_50, w163_53, w163_54, w163_57, w163_58, w163_59, w163_62, w163_65, w163_66, w163_69, w163_70, ↓reduceIte, okp_i, okp_r, okp_n, catS_nil, catS_cons, catV_i, catV_r, catV_l, Option.toList_some, Option.toList_none, List.cons_append, List.nil_append, gi_si, ga_si, gi_sa, ga_sa, gi_sl, ga_sl, gi_sf, ga_sf, gl_si, gl_sa, gl_sf, gl_sl, and_true, true_and, if_true, if_false, ite_true, ite_false, not_false_eq_true, not_true_eq_false, Nat.reduceEqDiff, reduceCtorEq, Nat.reduceLeDiff, Nat.reduceAdd, Nat.reduceMul, Nat.reduceLT, Int.reduceNeg, Int.reduceEq, Int.reduceLT, Int.reduceLE, eq_self, Nat.reduceSub, or_true, true_or, or_false, false_or, and_false, false_and, Int.reduceToNat, rc0, rc1, ib2, ib3, ib4, ib5, ib6, ib7, ib8, ib9, ib10, rc11, ib12, rc13, ib14, ib15, ib16, ib17, ib18, ib19, rc20, rc21, ib22, ib23, ib24, rc25, ib26, ib27, ib28, ib29, ib30, ib31, rc32, ib33, rc34, ib35, rc36, ib37, rc38, ib39, ib40, ib41, ib42, ib43, ib44, ib45, ib46, ib47, rc48, ib49, ib50, ib51, ib52, ib53, rc54, ib55, ib56, ib57, ib58, ib59, ib60, ib61, ib62, ib63, ib64, ib65, ib66, ib67, ib68, ib69, ib70, ib71, ib72, ib73, ib74, ib75, ib76, ib77, ib78, ib79, ib80, ib81, S_good h, q', hv, c1, c2]
  refine S_nextM hG hM hT.1 ?_
  intro σ' h1 h2
  simp only [w163_0, w163_1, w163_4, w163_7, w163_8, w163_9, w163_10, w163_13, w163_14, w163_17, w163_18, w163_21, w163_22, w163_25, w163_28, w163_29, w163_32, w163_33, w163_36, w163_37, w163_40, w163_41, w163_44, w163_45, w163_46, w163_47, w163_50, w163_53, w163_54, w163_57, w163_58, w163_59, w163_62, w163_65, w163_66, w163_69, w163_70, ↓reduceIte, okp_i, okp_r, okp_n, catS_nil, catS_cons, catV_i, catV_r, catV_l, Option.toList_some, Option.toList_none, List.cons_append, List.nil_append, gi_si, ga_si, gi_sa, ga_sa, gi_sl, ga_sl, gi_sf, ga_sf, gl_si, gl_sa, gl_sf, gl_sl, and_true, true_and, if_true, if_false, ite_true, ite_false, not_false_eq_true, not_true_eq_false, Nat.reduceEqDiff, reduceCtorEq, Nat.reduceLeDiff, Nat.reduceAdd, Nat.reduceMul, Nat.reduceLT, Int.reduceNeg, Int.reduceEq, Int.reduceLT, Int.reduceLE, eq_self, Nat.reduceSub, or_true, true_or, or_false, false_or, and_false, false_and, Int.reduceToNat, rc0, rc1, ib2, ib3, ib4, ib5, ib6, ib7, ib8, ib9, ib10, rc11, ib12, rc13, ib14, ib15, ib16, ib17, ib18, ib19, rc20, rc21, ib22, ib23, ib24, rc25, ib26, ib27, ib28, ib29, ib30, ib31, rc32, ib33, rc34, ib35, rc36, ib37, rc38, ib39, ib40, ib41, ib42, ib43, ib44, ib45, ib46, ib47, rc48, ib49, ib50, ib51, ib52, ib53, rc54, ib55, ib56, ib57, ib58, ib59, ib60, ib61, ib62, ib63, ib64, ib65, ib66, ib67, ib68, ib69, ib70, ib71, ib72, ib73, ib74, ib75, ib76, ib77, ib78, ib79, ib80, ib81]
  exact kk σ' h1 h2
end RPARSE
