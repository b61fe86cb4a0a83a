/-! the class leaves a lane -/
theorem rk_surj {f g : Nat → Int} {c : Int} : ∀ (n p : Nat), p < rkF f g c n → ∃ s, s < n ∧ (f s = c ∨ g s = c) ∧ rkF f g c s = p := by
  intro n
  induction n with
  | zero => intro p h; exact absurd h (Nat.not_lt_zero p)
  | succ n ih =>
    intro p h
    simp only [rkF] at h
    by_cases q : f n = c ∨ g n = c
    · rw [if_pos q] at h
      rcases Nat.lt_succ_iff_lt_or_eq.mp h with r | r
      · obtain ⟨s, h1, h2, h3⟩ := ih p r
        exact ⟨s, by omega, h2, h3⟩
      · exact ⟨n, by omega, q, r.symm⟩
    · rw [if_neg q] at h
      obtain ⟨s, h1, h2, h3⟩ := ih p h
      exact ⟨s, by omega, h2, h3⟩
def plF (p0 dg f : Nat) : Nat := if p0 + f < dg then p0 + f else p0 + f - dg
def fiF (p0 dg p : Nat) : Nat := if p < p0 then p + dg - p0 else p - p0
theorem pl_fi {p0 dg p : Nat} (h0 : p0 < dg) (h : p < dg) : plF p0 dg (fiF p0 dg p) = p := by
  unfold plF fiF
  repeat' split
  all_goals omega
theorem fi_pl {p0 dg f : Nat} (h0 : p0 < dg) (h : f < dg) : fiF p0 dg (plF p0 dg f) = f ∧ plF p0 dg f < dg := by
  unfold plF fiF
  repeat' split
  all_goals omega
theorem pl_s {p0 dg f : Nat} (h0 : p0 < dg) (h : f + 1 < dg) : plF p0 dg (f + 1) = if plF p0 dg f + 1 < dg then plF p0 dg f + 1 else 0 := by
  unfold plF
  repeat' split
  all_goals omega
theorem l2z {l : Nat} (q : ¬ l % 2 = 0) : (((l % 2 : Nat) : Int) = 0) = False := eq_false (by omega)
theorem l2y {l : Nat} (q : l % 2 = 0) : (((l % 2 : Nat) : Int) = 0) = True := eq_true (by omega)
section LEAVE
variable {S : Scr} {σ σ0 : Sto} {post : Pst} {kind frm to beg x : Int} {F : Int → Nat → Int}
theorem og_at (hT : InvT σ0) {l : Nat} (hl : ((l / 2 : Nat) : Int) < gi σ0 3461) {c : Int} (h : ogL σ0 l = c) : ga σ0 55 (l / 2) = c ∨ ga σ0 56 (l / 2) = c := by
  unfold ogL orgS at h
  split at h
  · exact Or.inl h
  · exact Or.inr h
theorem ds_at {l : Nat} {c : Int} (h : dsL σ0 l = c) : ga σ0 55 (l / 2) = c ∨ ga σ0 56 (l / 2) = c := by
  unfold dsL dstS at h
  split at h
  · exact Or.inr h
  · exact Or.inl h
theorem ds_bd (hT : InvT σ0) {l : Nat} (hl : ((l / 2 : Nat) : Int) < gi σ0 3461) : ∃ c : Nat, c < 8 ∧ dsL σ0 l = (c : Int) := by
  obtain ⟨t1, t2, t3, t4, t5, t6, t7, t8, t9, t10, t11⟩ := hT
  obtain ⟨-, -, -, -, v5, v6, -⟩ := t11 (l / 2) hl
  refine ⟨(dsL σ0 l).toNat, ?_, ?_⟩ <;> (unfold dsL dstS; split <;> omega)
/-- the lane at a place around a crossing -/
theorem ln_at (hT : InvT σ0) (hA : InvA σ0) {c p : Nat} (hc : c < 8) (hp : p < rkF (ga σ0 55) (ga σ0 56) (c : Int) (gi σ0 3461).toNat) : ∃ l : Nat, ((l / 2 : Nat) : Int) < gi σ0 3461 ∧ ogL σ0 l = (c : Int) ∧ rkF (ga σ0 55) (ga σ0 56) (c : Int) (l / 2) = p ∧ ga σ0 9 (16 * c + p) = (l : Int) := by
  obtain ⟨s, h1, h2, h3⟩ := rk_surj _ _ hp
  have hs : (s : Int) < gi σ0 3461 := by omega
  obtain ⟨-, -, hl⟩ := hA.2 s hs
  have hl := hl c hc h2
  rw [h3] at hl
  by_cases q : ga σ0 55 s = (c : Int)
  · rw [if_pos q] at hl
    obtain ⟨e1, e2⟩ := lw (s := s) (w := 0) (by decide)
    refine ⟨2 * s + 0, by rw [e1]; exact hs, ?_, by rw [e1]; exact h3, by rw [hl]; omega⟩
    unfold ogL orgS
    rw [e1, e2, if_pos rfl]
    exact q
  · rw [if_neg q] at hl
    obtain ⟨e1, e2⟩ := lw (s := s) (w := 1) (by decide)
    refine ⟨2 * s + 1, by rw [e1]; exact hs, ?_, by rw [e1]; exact h3, by rw [hl]; omega⟩
    unfold ogL orgS
    rw [e1, e2, if_neg (by decide)]
    exact h2.resolve_left q
theorem ln_uniq (hT : InvT σ0) {l l' : Nat} {c : Int} (hl : ((l / 2 : Nat) : Int) < gi σ0 3461) (h1 : ogL σ0 l = c) (h2 : ogL σ0 l' = c) (h3 : l / 2 = l' / 2) : l = l' := by
  obtain ⟨t1, t2, t3, t4, t5, t6, t7, t8, t9, t10, t11⟩ := hT
  obtain ⟨-, -, -, -, -, -, v7, -⟩ := t11 (l / 2) hl
  unfold ogL orgS at h1 h2
  rw [← h3] at h2
  by_cases q : l % 2 = 0
  · by_cases q' : l' % 2 = 0
    · omega
    · rw [if_pos q] at h1
      rw [if_neg q'] at h2
      exact absurd (h1.trans h2.symm) v7
  · by_cases q' : l' % 2 = 0
    · rw [if_neg q] at h1
      rw [if_pos q'] at h2
      exact absurd (h2.trans h1.symm) v7
    · omega
theorem S_laneEnd (hT : InvT σ0) (g : GS σ0 σ) {l : Nat} (hl : ((l / 2 : Nat) : Int) < gi σ0 3461) : WP S 103 0 [some (vr 1), some (vi (l : Int))] [] σ post ↔ post (some (vi (dsL σ0 l))) σ := by
  obtain ⟨t1, t2, t3, t4, t5, t6, t7, t8, t9, t10, t11⟩ := hT
  obtain ⟨v1, v2, -⟩ := t11 (l / 2) hl
  have hl32 : l < 32 := by omega
  have e2 : ga σ 2 (l / 2) = ga σ0 55 (l / 2) := by rw [g.2 2 (by decide)]; exact v1
  have e3 : ga σ 3 (l / 2) = ga σ0 56 (l / 2) := by rw [g.2 3 (by decide)]; exact v2
  obtain ⟨d1, d2⟩ := dv2l hl32
  obtain ⟨c4, c5⟩ := l2_16 hl32
  have c6 : ((2 : Int) = 0) = False := eq_false (by decide)
  unfold dsL dstS
  by_cases q : l % 2 = 0
  · have q' : (((l % 2 : Nat) : Int) = 0) = True := l2y q
    rw [if_pos q]
    simp only [w103_0, w103_1, w103_2, w103_3, w103_6, w103_7, w103_10, w103_11, w103_12, w103_13, w103_14, w103_17, w103_18, w103_21, w103_22, w103_23, w103_24, w103_25, ↓reduceIte, okp_i, okp_r, okp_n, catS_nil, catS_cons, catV_i, catV_r, catV_l, Option.toList_some, Option.toList_none, List.cons_append, List.nil_append, gi_si, ga_si, gi_sa, ga_sa, gi_sl, ga_sl, gi_sf, ga_sf, gl_si, gl_sa, gl_sf, gl_sl, and_true, true_and, if_true, if_false, ite_true, ite_false, not_false_eq_true, not_true_eq_false, Nat.reduceEqDiff, reduceCtorEq, Nat.reduceLeDiff, Nat.reduceAdd, Nat.reduceMul, Nat.reduceLT, Int.reduceNeg, Int.reduceEq, Int.reduceLT, Int.reduceLE, eq_self, Nat.reduceSub, or_true, true_or, or_false, false_or, and_false, false_and, Int.reduceToNat, rc0, rc1, ib2, ib3, ib4, ib5, ib6, ib7, ib8, ib9, ib10, rc11, ib12, rc13, ib14, ib15, ib16, ib17, ib18, ib19, rc20, rc21, ib22, ib23, ib24, rc25, ib26, ib27, ib28, ib29, ib30, ib31, rc32, ib33, rc34, ib35, rc36, ib37, rc38, ib39, ib40, ib41, ib42, ib43, ib44, ib45, ib46, ib47, rc48, ib49, ib50, ib51, ib52, ib53, rc54, ib55, ib56, ib57, ib58, ib59, ib60, ib61, ib62, ib63, ib64, ib65, ib66, ib67, ib68, ib69, ib70, ib71, ib72, ib73, ib74, ib75, ib76, ib77, ib78, ib79, ib80, ib81, d1, d2, c4, c5, c6, q', Int.toNat_natCast, e3]
  · have q' : (((l % 2 : Nat) : Int) = 0) = False := l2z q
    rw [if_neg q]
    simp only [w103_0, w103_1, w103_2, w103_3, w103_6, w103_7, w103_10, w103_11, w103_12, w103_13, w103_14, w103_17, w103_18, w103_21, w103_22, w103_23, w103_24, w103_25, ↓reduceIte, okp_i, okp_r, okp_n, catS_nil, catS_cons, catV_i, catV_r, catV_l, Option.toList_some, Option.toList_none, List.cons_append, List.nil_append, gi_si, ga_si, gi_sa, ga_sa, gi_sl, ga_sl, gi_sf, ga_sf, gl_si, gl_sa, gl_sf, gl_sl, and_true, true_and, if_true, if_false, ite_true, ite_false, not_false_eq_true, not_true_eq_false, Nat.reduceEqDiff, reduceCtorEq, Nat.reduceLeDiff, Nat.reduceAdd, Nat.reduceMul, Nat.reduceLT, Int.reduceNeg, Int.reduceEq, Int.reduceLT, Int.reduceLE, eq_self, Nat.reduceSub, or_true, true_or, or_false, false_or, and_false, false_and, Int.reduceToNat, rc0, rc1, ib2, ib3, ib4, ib5, ib6, ib7, ib8, ib9, ib10, rc11, ib12, rc13, ib14, ib15, ib16, ib17, ib18, ib19, rc20, rc21, ib22, ib23, ib24, rc25, ib26, ib27, ib28, ib29, ib30, ib31, rc32, ib33, rc34, ib35, rc36, ib37, rc38, ib39, ib40, ib41, ib42, ib43, ib44, ib45, ib46, ib47, rc48, ib49, ib50, ib51, ib52, ib53, rc54, ib55, ib56, ib57, ib58, ib59, ib60, ib61, ib62, ib63, ib64, ib65, ib66, ib67, ib68, ib69, ib70, ib71, ib72, ib73, ib74, ib75, ib76, ib77, ib78, ib79, ib80, ib81, d1, d2, c4, c5, c6, q', Int.toNat_natCast, e2]
theorem S_degree (hA : InvA σ0) (g : GS σ0 σ) {c : Nat} (hc : c < 8) : WP S 100 0 [some (vr 1), some (vi (c : Int))] [] σ post ↔ post (some (vi (rkF (ga σ0 55) (ga σ0 56) (c : Int) (gi σ0 3461).toNat : Int))) σ := by
  have e : ga σ 8 c = (rkF (ga σ0 55) (ga σ0 56) (c : Int) (gi σ0 3461).toNat : Int) := by rw [g.2 8 (by decide)]; exact hA.1 c hc
  have c2 : (0 ≤ (c : Int)) = True := eq_true (by omega)
  have c3 : ((c : Int) < 8) = True := eq_true (by omega)
  simp only [w100_0, w100_1, w100_4, w100_5, w100_6, ↓reduceIte, okp_i, okp_r, okp_n, catS_nil, catS_cons, catV_i, catV_r, catV_l, Option.toList_some, Option.toList_none, List.cons_append, List.nil_append, gi_si, ga_si, gi_sa, ga_sa, gi_sl, ga_sl, gi_sf, ga_sf, gl_si, gl_sa, gl_sf, gl_sl, and_true, true_and, if_true, if_false, ite_true, ite_false, not_false_eq_true, not_true_eq_false, Nat.reduceEqDiff, reduceCtorEq, Nat.reduceLeDiff, Nat.reduceAdd, Nat.reduceMul, Nat.reduceLT, Int.reduceNeg, Int.reduceEq, Int.reduceLT, Int.reduceLE, eq_self, Nat.reduceSub, or_true, true_or, or_false, false_or, and_false, false_and, Int.reduceToNat, rc0, rc1, ib2, ib3, ib4, ib5, ib6, ib7, ib8, ib9, ib10, rc11, ib12, rc13, ib14, ib15, ib16, ib17, ib18, ib19, rc20, rc21, ib22, ib23, ib24, rc25, ib26, ib27, ib28, ib29, ib30, ib31, rc32, ib33, rc34, ib35, rc36, ib37, rc38, ib39, ib40, ib41, ib42, ib43, ib44, ib45, ib46, ib47, rc48, ib49, ib50, ib51, ib52, ib53, rc54, ib55, ib56, ib57, ib58, ib59, ib60, ib61, ib62, ib63, ib64, ib65, ib66, ib67, ib68, ib69, ib70, ib71, ib72, ib73, ib74, ib75, ib76, ib77, ib78, ib79, ib80, ib81, c2, c3, Int.toNat_natCast, e]
theorem S_laneAround (g : GS σ0 σ) {c p : Nat} (hc : c < 8) (hp : p < 16) : WP S 101 0 [some (vr 1), some (vi (c : Int)), some (vi (p : Int))] [] σ post ↔ post (some (vi (ga σ0 9 (16 * c + p)))) σ := by
  have e : ga σ 9 = ga σ0 9 := g.2 9 (by decide)
  have e1 : wr ((c : Int) * 16) = ((16 * c : Nat) : Int) := by rw [wr_id (by omega) (by omega)]; omega
  have e2 : wr (((16 * c : Nat) : Int) + (p : Int)) = ((16 * c + p : Nat) : Int) := by rw [wr_id (by omega) (by omega)]; omega
  have c2 : (0 ≤ ((16 * c + p : Nat) : Int)) = True := eq_true (by omega)
  have c3 : (((16 * c + p : Nat) : Int) < 128) = True := eq_true (by omega)
  simp only [w101_0, w101_1, w101_4, w101_5, w101_7, w101_8, w101_9, w101_10, w101_11, ↓reduceIte, okp_i, okp_r, okp_n, catS_nil, catS_cons, catV_i, catV_r, catV_l, Option.toList_some, Option.toList_none, List.cons_append, List.nil_append, gi_si, ga_si, gi_sa, ga_sa, gi_sl, ga_sl, gi_sf, ga_sf, gl_si, gl_sa, gl_sf, gl_sl, and_true, true_and, if_true, if_false, ite_true, ite_false, not_false_eq_true, not_true_eq_false, Nat.reduceEqDiff, reduceCtorEq, Nat.reduceLeDiff, Nat.reduceAdd, Nat.reduceMul, Nat.reduceLT, Int.reduceNeg, Int.reduceEq, Int.reduceLT, Int.reduceLE, eq_self, Nat.reduceSub, or_true, true_or, or_false, false_or, and_false, false_and, Int.reduceToNat, rc0, rc1, ib2, ib3, ib4, ib5, ib6, ib7, ib8, ib9, ib10, rc11, ib12, rc13, ib14, ib15, ib16, ib17, ib18, ib19, rc20, rc21, ib22, ib23, ib24, rc25, ib26, ib27, ib28, ib29, ib30, ib31, rc32, ib33, rc34, ib35, rc36, ib37, rc38, ib39, ib40, ib41, ib42, ib43, ib44, ib45, ib46, ib47, rc48, ib49, ib50, ib51, ib52, ib53, rc54, ib55, ib56, ib57, ib58, ib59, ib60, ib61, ib62, ib63, ib64, ib65, ib66, ib67, ib68, ib69, ib70, ib71, ib72, ib73, ib74, ib75, ib76, ib77, ib78, ib79, ib80, ib81, e1, e2, c2, c3, Int.toNat_natCast, e]
theorem S_nearStep (hT : InvT σ0) (hA : InvA σ0) (g : GS σ0 σ) {c : Nat} (hc : c < 8) {m : Int} : WP S 106 0 [some (vr 1), some (vi (c : Int)), some (vi m)] [] σ post ↔ post (some (vi (if m < gi σ0 3462 then 1 else (rkF (ga σ0 55) (ga σ0 56) (c : Int) (gi σ0 3461).toNat : Int) - 1))) σ := by
  obtain ⟨t1, t2, t3, t4, t5, t6, t7, t8, t9, t10, t11⟩ := hT
  have k75 : gi σ 75 = gi σ0 3462 := by rw [g.1 75 (by decide)]; exact t3
  have e : ga σ 8 c = (rkF (ga σ0 55) (ga σ0 56) (c : Int) (gi σ0 3461).toNat : Int) := by rw [g.2 8 (by decide)]; exact hA.1 c hc
  have hr := rkF_le (f := ga σ0 55) (g := ga σ0 56) (c := (c : Int)) (gi σ0 3461).toNat
  have ew : wr ((rkF (ga σ0 55) (ga σ0 56) (c : Int) (gi σ0 3461).toNat : Int) - 1) = (rkF (ga σ0 55) (ga σ0 56) (c : Int) (gi σ0 3461).toNat : Int) - 1 := wr_id (by omega) (by omega)
  have c2 : (0 ≤ (c : Int)) = True := eq_true (by omega)
  have c3 : ((c : Int) < 8) = True := eq_true (by omega)
  by_cases q : m < gi σ0 3462
  · simp only [w106_0, w106_1, w106_2, w106_5, w106_8, w106_9, w106_12, w106_13, w106_14, w106_15, w106_16, w106_19, w106_20, w105_0, w105_1, w105_2, w105_5, w105_8, w105_9, w105_12, w105_13, ↓reduceIte, okp_i, okp_r, okp_n, catS_nil, catS_cons, catV_i, catV_r, catV_l, Option.toList_some, Option.toList_none, List.cons_append, List.nil_append, gi_si, ga_si, gi_sa, ga_sa, gi_sl, ga_sl, gi_sf, ga_sf, gl_si, gl_sa, gl_sf, gl_sl, and_true, true_and, if_true, if_false, ite_true, ite_false, not_false_eq_true, not_true_eq_false, Nat.reduceEqDiff, reduceCtorEq, Nat.reduceLeDiff, Nat.reduceAdd, Nat.reduceMul, Nat.reduceLT, Int.reduceNeg, Int.reduceEq, Int.reduceLT, Int.reduceLE, eq_self, Nat.reduceSub, or_true, true_or, or_false, false_or, and_false, false_and, Int.reduceToNat, rc0, rc1, ib2, ib3, ib4, ib5, ib6, ib7, ib8, ib9, ib10, rc11, ib12, rc13, ib14, ib15, ib16, ib17, ib18, ib19, rc20, rc21, ib22, ib23, ib24, rc25, ib26, ib27, ib28, ib29, ib30, ib31, rc32, ib33, rc34, ib35, rc36, ib37, rc38, ib39, ib40, ib41, ib42, ib43, ib44, ib45, ib46, ib47, rc48, ib49, ib50, ib51, ib52, ib53, rc54, ib55, ib56, ib57, ib58, ib59, ib60, ib61, ib62, ib63, ib64, ib65, ib66, ib67, ib68, ib69, ib70, ib71, ib72, ib73, ib74, ib75, ib76, ib77, ib78, ib79, ib80, ib81, k75, q]
  · simp only [w106_0, w106_1, w106_2, w106_5, w106_8, w106_9, w106_12, w106_13, w106_14, w106_15, w106_16, w106_19, w106_20, w105_0, w105_1, w105_2, w105_5, w105_8, w105_9, w105_12, w105_13, ↓reduceIte, okp_i, okp_r, okp_n, catS_nil, catS_cons, catV_i, catV_r, catV_l, Option.toList_some, Option.toList_none, List.cons_append, List.nil_append, gi_si, ga_si, gi_sa, ga_sa, gi_sl, ga_sl, gi_sf, ga_sf, gl_si, gl_sa, gl_sf, gl_sl, and_true, true_and, if_true, if_false, ite_true, ite_false, not_false_eq_true, not_true_eq_false, Nat.reduceEqDiff, reduceCtorEq, Nat.reduceLeDiff, Nat.reduceAdd, Nat.reduceMul, Nat.reduceLT, Int.reduceNeg, Int.reduceEq, Int.reduceLT, Int.reduceLE, eq_self, Nat.reduceSub, or_true, true_or, or_false, false_or, and_false, false_and, Int.reduceToNat, rc0, rc1, ib2, ib3, ib4, ib5, ib6, ib7, ib8, ib9, ib10, rc11, ib12, rc13, ib14, ib15, ib16, ib17, ib18, ib19, rc20, rc21, ib22, ib23, ib24, rc25, ib26, ib27, ib28, ib29, ib30, ib31, rc32, ib33, rc34, ib35, rc36, ib37, rc38, ib39, ib40, ib41, ib42, ib43, ib44, ib45, ib46, ib47, rc48, ib49, ib50, ib51, ib52, ib53, rc54, ib55, ib56, ib57, ib58, ib59, ib60, ib61, ib62, ib63, ib64, ib65, ib66, ib67, ib68, ib69, ib70, ib71, ib72, ib73, ib74, ib75, ib76, ib77, ib78, ib79, ib80, ib81, k75, q, c2, c3, Int.toNat_natCast, e, ew]
theorem S_tmin (hT : InvT σ0) (g : GS σ0 σ) {b : Int} (hb : b = 0 ∨ b = 1) : WP S 109 0 [some (vr 1), some (vi b)] [] σ post ↔ post (some (vi (if b = 1 then gi σ0 3463 else gi σ0 3464))) σ := by
  obtain ⟨t1, t2, t3, t4, t5, -⟩ := hT
  have k1 : gi σ 76 = gi σ0 3463 := by rw [g.1 76 (by decide)]; exact t4
  have k2 : gi σ 77 = gi σ0 3464 := by rw [g.1 77 (by decide)]; exact t5
  rcases hb with rfl | rfl
  · rw [if_neg (by decide)]
    simp only [w109_0, w109_1, w109_4, w109_5, w109_8, w109_11, w109_12, w109_15, ↓reduceIte, okp_i, okp_r, okp_n, catS_nil, catS_cons, catV_i, catV_r, catV_l, Option.toList_some, Option.toList_none, List.cons_append, List.nil_append, gi_si, ga_si, gi_sa, ga_sa, gi_sl, ga_sl, gi_sf, ga_sf, gl_si, gl_sa, gl_sf, gl_sl, and_true, true_and, if_true, if_false, ite_true, ite_false, not_false_eq_true, not_true_eq_false, Nat.reduceEqDiff, reduceCtorEq, Nat.reduceLeDiff, Nat.reduceAdd, Nat.reduceMul, Nat.reduceLT, Int.reduceNeg, Int.reduceEq, Int.reduceLT, Int.reduceLE, eq_self, Nat.reduceSub, or_true, true_or, or_false, false_or, and_false, false_and, Int.reduceToNat, rc0, rc1, ib2, ib3, ib4, ib5, ib6, ib7, ib8, ib9, ib10, rc11, ib12, rc13, ib14, ib15, ib16, ib17, ib18, ib19, rc20, rc21, ib22, ib23, ib24, rc25, ib26, ib27, ib28, ib29, ib30, ib31, rc32, ib33, rc34, ib35, rc36, ib37, rc38, ib39, ib40, ib41, ib42, ib43, ib44, ib45, ib46, ib47, rc48, ib49, ib50, ib51, ib52, ib53, rc54, ib55, ib56, ib57, ib58, ib59, ib60, ib61, ib62, ib63, ib64, ib65, ib66, ib67, ib68, ib69, ib70, ib71, ib72, ib73, ib74, ib75, ib76, ib77, ib78, ib79, ib80, ib81, k2]
  · rw [if_pos rfl]
    simp only [w109_0, w109_1, w109_4, w109_5, w109_8, w109_11, w109_12, w109_15, ↓reduceIte, okp_i, okp_r, okp_n, catS_nil, catS_cons, catV_i, catV_r, catV_l, Option.toList_some, Option.toList_none, List.cons_append, List.nil_append, gi_si, ga_si, gi_sa, ga_sa, gi_sl, ga_sl, gi_sf, ga_sf, gl_si, gl_sa, gl_sf, gl_sl, and_true, true_and, if_true, if_false, ite_true, ite_false, not_false_eq_true, not_true_eq_false, Nat.reduceEqDiff, reduceCtorEq, Nat.reduceLeDiff, Nat.reduceAdd, Nat.reduceMul, Nat.reduceLT, Int.reduceNeg, Int.reduceEq, Int.reduceLT, Int.reduceLE, eq_self, Nat.reduceSub, or_true, true_or, or_false, false_or, and_false, false_and, Int.reduceToNat, rc0, rc1, ib2, ib3, ib4, ib5, ib6, ib7, ib8, ib9, ib10, rc11, ib12, rc13, ib14, ib15, ib16, ib17, ib18, ib19, rc20, rc21, ib22, ib23, ib24, rc25, ib26, ib27, ib28, ib29, ib30, ib31, rc32, ib33, rc34, ib35, rc36, ib37, rc38, ib39, ib40, ib41, ib42, ib43, ib44, ib45, ib46, ib47, rc48, ib49, ib50, ib51, ib52, ib53, rc54, ib55, ib56, ib57, ib58, ib59, ib60, ib61, ib62, ib63, ib64, ib65, ib66, ib67, ib68, ib69, ib70, ib71, ib72, ib73, ib74, ib75, ib76, ib77, ib78, ib79, ib80, ib81, k1]
/-- how long the turn takes, by how far round it goes -/
theorem tn_fi (hT : InvT σ0) {l0 l c p0 dg f : Nat} (hm : 0 ≤ beg + x) (hl0 : ((l0 / 2 : Nat) : Int) < gi σ0 3461) (hl : ((l / 2 : Nat) : Int) < gi σ0 3461) (hc : dsL σ0 l0 = (c : Int)) (ho : ogL σ0 l = (c : Int)) (hdg : rkF (ga σ0 55) (ga σ0 56) (c : Int) (gi σ0 3461).toNat = dg) (hp0 : rkF (ga σ0 55) (ga σ0 56) (c : Int) (l0 / 2) = p0) (hp : fiF p0 dg (rkF (ga σ0 55) (ga σ0 56) (c : Int) (l / 2)) = f) : tnL σ0 l0 l (beg + x) = if (f : Int) = (if beg + x < gi σ0 3462 then 1 else (dg : Int) - 1) then gi σ0 3463 else gi σ0 3464 := by
  unfold tnL
  rw [hc, trnS_eq hT hm hl0 hl (ds_at hc) (og_at hT hl ho)]
  have h1 := rkF_lt (f := ga σ0 55) (g := ga σ0 56) (c := (c : Int)) (ds_at hc) (show l0 / 2 < (gi σ0 3461).toNat by omega)
  have h2 := rkF_lt (f := ga σ0 55) (g := ga σ0 56) (c := (c : Int)) (og_at hT hl ho) (show l / 2 < (gi σ0 3461).toNat by omega)
  unfold nrS
  rw [hdg, hp0] at *
  generalize rkF (ga σ0 55) (ga σ0 56) (c : Int) (l / 2) = p at *
  have e : (if (p : Int) - (p0 : Int) < 0 then (p : Int) - (p0 : Int) + (dg : Int) else (p : Int) - (p0 : Int)) = (f : Int) := by
    unfold fiF at hp
    split at hp <;> split <;> omega
  rw [e]
  by_cases q : (f : Int) = (if beg + x < gi σ0 3462 then 1 else (dg : Int) - 1)
  · rw [if_pos q, if_pos rfl, if_pos q]
  · rw [if_neg q, if_neg (by decide), if_neg q]
end LEAVE
