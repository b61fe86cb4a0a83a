/-! the reference's order -/
section ORD2
variable {S : Scr} {σ : Sto} {post : Pst} {n m X : Nat} {W gA gW wA T : Nat → Int}
theorem IsN_bd (hP : PC n m X W gA gW wA) (hN : IsN W gA gW wA n m T) : ∀ s c, s < 2 ^ n → relC gA wA n m c → 0 ≤ T (8 * s + c) ∧ T (8 * s + c) ≤ 1000000 := by
  intro s
  induction s using Nat.strongRecOn with
  | _ s ih =>
    intro c hs hc
    rw [hN s c hs hc]
    by_cases q : s = 0
    · rw [if_pos q]
      exact ⟨by decide, by decide⟩
    · rw [if_neg q]
      refine nbF_bd hP (rel8 hP hc).2 n (Nat.le_refl n) (fun g hg ht => ?_)
      have h1 := tb_ge ht
      have h2 : 0 < 2 ^ g := Nat.two_pow_pos g
      exact (ih (s - 2 ^ g) (by omega) _ (by omega) (Or.inl ⟨g, hg, by have := (hP.2.2.2.1 g hg).1; omega⟩)).1
theorem nb_t {t w g : Int} {k : Nat} (h0 : 0 ≤ t) (h1 : t ≤ 1000060 * (k : Int)) (hk : k < 9) (w0 : 0 ≤ w) (w1 : w ≤ 1000000) (g0 : 1 ≤ g) (g1 : g ≤ 60) : wr (t + (w + g)) = t + (w + g) ∧ 0 ≤ t + (w + g) ∧ t + (w + g) ≤ 1000060 * ((k + 1 : Nat) : Int) := ⟨wr_id (by omega) (by omega), by omega, by omega⟩
theorem L_la1 (hP : PC n m X W gA gW wA) (hN : IsN W gA gW wA n m T) (hM : MH n m X W gA gW wA σ) (hT : TH n m gA wA T σ) {set at_ p : Nat} (hs : set < 2 ^ n) (hr : relC gA wA n m at_) {x1 x4 x5 : Int} (kk : WP S 189 101 [some (vr 54), some (vi x1), some (vi (set : Int)), some (vi (at_ : Int)), some (vi x4), some (vi x5), some (vi (p : Int))] [] σ post) : ∀ r k : Nat, k + r = n → (∃ g, k ≤ g ∧ g < n ∧ isB W gA gW T set at_ g = true) → fstF (isB W gA gW T set at_) r k = p → WP S 189 26 [some (vr 54), some (vi x1), some (vi (set : Int)), some (vi (at_ : Int)), some (vi x4), some (vi x5), some (vi (k : Int))] [] σ post := by
  obtain ⟨n8, m3, x8, p4, p5, p6⟩ := id hP
  obtain ⟨hn, hm, hx, e69, e70, e71, hW⟩ := hM
  have a8 := (rel8 hP hr).2
  have s8 : set < 256 := Nat.lt_of_lt_of_le hs (pw8 n8)
  intro r
  induction r with
  | zero =>
    intro k hk h
    obtain ⟨g, h1, h2, -⟩ := h
    omega
  | succ r ih =>
    intro k hk h hp
    have kn : k < n := by omega
    have k8 : k < 8 := by omega
    have k9 : k < 9 := by omega
    have c2 : (0 : Int) ≤ (k : Int) := by omega
    have c3 : (k : Int) < 8 := by omega
    have q7 := wr_n1 (x := k) (by omega)
    have sm : k + 1 + r = n := by omega
    simp only [fstF] at hp
    have nx : ¬ isB W gA gW T set at_ k = true → WP S 189 26 [some (vr 54), some (vi x1), some (vi (set : Int)), some (vi (at_ : Int)), some (vi x4), some (vi x5), some (vi ((k + 1 : Nat) : Int))] [] σ post := by
      intro q
      rw [if_neg q] at hp
      refine ih (k + 1) sm ?_ hp
      obtain ⟨g, h1, h2, h3⟩ := h
      have e : g ≠ k := fun e => q (by rw [← e]; exact h3)
      exact ⟨g, Nat.lt_of_le_of_ne h1 (Ne.symm e), h2, h3⟩
    rw [w189_26]
    by_cases q1 : set.testBit k = true
    · obtain ⟨⟨a1, a2⟩, a3, a4⟩ := p4 k kn
      obtain ⟨a, ea⟩ : ∃ a : Nat, gA k = (a : Int) := ⟨(gA k).toNat, by omega⟩
      have c8 : a < 8 := by omega
      have ea' : (gA k).toNat = a := by omega
      have b1 := p6 at_ a a8 c8
      have w68 := hW at_ a a8 c8
      have s9 : set - 2 ^ k < 2 ^ n := Nat.lt_of_le_of_lt (Nat.sub_le _ _) hs
      have s10 : set - 2 ^ k < 256 := Nat.lt_of_le_of_lt (Nat.sub_le _ _) s8
      have ra : relC gA wA n m a := Or.inl ⟨k, kn, ea⟩
      have e72 := hT (set - 2 ^ k) a s9 ra
      have e73 := hT set at_ hs hr
      have hb2 := IsN_bd hP hN (set - 2 ^ k) a s9 ra
      obtain ⟨u1, u2, u3, u4⟩ := ix8 a8 c8
      obtain ⟨t1, t2⟩ := ix2k s10 c8
      obtain ⟨t3, t4⟩ := ix2k s8 a8
      obtain ⟨w1, w2⟩ := wr_3 b1 ⟨a3, a4⟩ hb2
      by_cases q2 : W (8 * at_ + a) + gW k + T (8 * (set - 2 ^ k) + a) = T (8 * set + at_)
      · have q : isB W gA gW T set at_ k = true := by
          unfold isB
          rw [Bool.and_eq_true, decide_eq_true_eq, ea']
          exact ⟨q1, q2⟩
        rw [if_pos q] at hp
        subst hp
        have q2' : (W (8 * at_ + a) + gW k + T (8 * (set - 2 ^ k) + a) = T (8 * set + at_)) = True := eq_true q2
        simp only [w189_0, w189_1, w189_2, w189_5, w189_6, w189_7, w189_10, w189_11, w189_12, w189_13, w189_14, w189_16, w189_17, w189_20, w189_23, w189_24, w189_27, w189_29, w189_30, w189_31, w189_32, w189_35, w189_36, w189_39, w189_41, w189_42, w189_43, w189_44, w189_47, w189_49, w189_50, w189_51, w189_52, w189_53, w189_56, w189_58, w189_59, w189_60, w189_61, w189_64, w189_65, w189_66, w189_68, w189_69, w189_70, w189_71, w189_74, w189_76, w189_77, w189_80, w189_81, w189_82, w189_83, w189_86, w189_87, w189_88, w189_91, w189_92, w189_95, w189_98, w189_103, w189_104, w189_107, w189_109, w189_110, w189_111, w189_112, w189_115, w189_117, w189_118, w189_119, w189_120, w189_121, w189_124, w189_126, w189_127, w189_128, w189_129, w189_131, w189_132, w189_135, w189_137, w189_139, w189_140, w189_141, w189_144, w189_146, w189_148, w189_149, w189_152, w189_153, w189_156, w189_158, w189_159, w189_160, w189_161, w189_162, w189_164, w189_165, w189_166, w189_167, w189_170, ↓reduceIte, okp_i, okp_r, okp_n, catS_nil, catS_cons, catV_i, catV_r, catV_l, Option.toList_some, Option.toList_none, List.cons_append, List.nil_append, gi_si, ga_si, gi_sa, ga_sa, gi_sl, ga_sl, gi_sf, ga_sf, gl_si, gl_sa, gl_sf, gl_sl, and_true, true_and, if_true, if_false, ite_true, ite_false, not_false_eq_true, not_true_eq_false, Nat.reduceEqDiff, reduceCtorEq, Nat.reduceLeDiff, Nat.reduceAdd, Nat.reduceMul, Nat.reduceLT, Int.reduceNeg, Int.reduceEq, Int.reduceLT, Int.reduceLE, eq_self, Nat.reduceSub, or_true, true_or, or_false, false_or, and_false, false_and, Int.reduceToNat, rc0, rc1, ib2, ib3, ib4, ib5, ib6, ib7, ib8, ib9, ib10, rc11, ib12, rc13, ib14, ib15, ib16, ib17, ib18, ib19, rc20, rc21, ib22, ib23, ib24, rc25, ib26, ib27, ib28, ib29, ib30, ib31, rc32, ib33, rc34, ib35, rc36, ib37, rc38, ib39, ib40, ib41, ib42, ib43, ib44, ib45, ib46, ib47, rc48, ib49, ib50, ib51, ib52, ib53, rc54, ib55, ib56, ib57, ib58, ib59, ib60, ib61, ib62, ib63, ib64, ib65, ib66, ib67, ib68, ib69, ib70, ib71, ib72, ib73, ib74, ib75, ib76, ib77, ib78, ib79, ib80, ib81, bt_h' s8 k8, q1, c2, c3, e69, e70, ea, u1, u2, u3, u4, w68, w1, w2, bt_s k9, bt_x s8 k8 q1, S_spot s10 c8, S_spot s8 a8, t1, t2, t3, t4, e72, e73, q2', Int.toNat_natCast]
        exact kk
      · have q : ¬ isB W gA gW T set at_ k = true := by
          unfold isB
          rw [Bool.and_eq_true, decide_eq_true_eq, ea']
          exact fun z => q2 z.2
        simp only [w189_0, w189_1, w189_2, w189_5, w189_6, w189_7, w189_10, w189_11, w189_12, w189_13, w189_14, w189_16, w189_17, w189_20, w189_23, w189_24, w189_27, w189_29, w189_30, w189_31, w189_32, w189_35, w189_36, w189_39, w189_41, w189_42, w189_43, w189_44, w189_47, w189_49, w189_50, w189_51, w189_52, w189_53, w189_56, w189_58, w189_59, w189_60, w189_61, w189_64, w189_65, w189_66, w189_68, w189_69, w189_70, w189_71, w189_74, w189_76, w189_77, w189_80, w189_81, w189_82, w189_83, w189_86, w189_87, w189_88, w189_91, w189_92, w189_95, w189_98, w189_103, w189_104, w189_107, w189_109, w189_110, w189_111, w189_112, w189_115, w189_117, w189_118, w189_119, w189_120, w189_121, w189_124, w189_126, w189_127, w189_128, w189_129, w189_131, w189_132, w189_135, w189_137, w189_139, w189_140, w189_141, w189_144, w189_146, w189_148, w189_149, w189_152, w189_153, w189_156, w189_158, w189_159, w189_160, w189_161, w189_162, w189_164, w189_165, w189_166, w189_167, w189_170, ↓reduceIte, okp_i, okp_r, okp_n, catS_nil, catS_cons, catV_i, catV_r, catV_l, Option.toList_some, Option.toList_none, List.cons_append, List.nil_append, gi_si, ga_si, gi_sa, ga_sa, gi_sl, ga_sl, gi_sf, ga_sf, gl_si, gl_sa, gl_sf, gl_sl, and_true, true_and, if_true, if_false, ite_true, ite_false, not_false_eq_true, not_true_eq_false, Nat.reduceEqDiff, reduceCtorEq, Nat.reduceLeDiff, Nat.reduceAdd, Nat.reduceMul, Nat.reduceLT, Int.reduceNeg, Int.reduceEq, Int.reduceLT, Int.reduceLE, eq_self, Nat.reduceSub, or_true, true_or, or_false, false_or, and_false, false_and, Int.reduceToNat, rc0, rc1, ib2, ib3, ib4, ib5, ib6, ib7, ib8, ib9, ib10, rc11, ib12, rc13, ib14, ib15, ib16, ib17, ib18, ib19, rc20, rc21, ib22, ib23, ib24, rc25, ib26, ib27, ib28, ib29, ib30, ib31, rc32, ib33, rc34, ib35, rc36, ib37, rc38, ib39, ib40, ib41, ib42, ib43, ib44, ib45, ib46, ib47, rc48, ib49, ib50, ib51, ib52, ib53, rc54, ib55, ib56, ib57, ib58, ib59, ib60, ib61, ib62, ib63, ib64, ib65, ib66, ib67, ib68, ib69, ib70, ib71, ib72, ib73, ib74, ib75, ib76, ib77, ib78, ib79, ib80, ib81, bt_h' s8 k8, q1, c2, c3, e69, e70, ea, u1, u2, u3, u4, w68, w1, w2, bt_s k9, bt_x s8 k8 q1, S_spot s10 c8, S_spot s8 a8, t1, t2, t3, t4, e72, e73, q2, q7, Int.toNat_natCast]
        exact nx q
    · have q : ¬ isB W gA gW T set at_ k = true := by
        unfold isB
        rw [Bool.and_eq_true]
        exact fun z => q1 z.1
      simp only [w189_27, w189_29, w189_30, w189_31, w189_32, w189_95, w189_98, ↓reduceIte, okp_i, okp_r, okp_n, catS_nil, catS_cons, catV_i, catV_r, catV_l, Option.toList_some, Option.toList_none, List.cons_append, List.nil_append, gi_si, ga_si, gi_sa, ga_sa, gi_sl, ga_sl, gi_sf, ga_sf, gl_si, gl_sa, gl_sf, gl_sl, and_true, true_and, if_true, if_false, ite_true, ite_false, not_false_eq_true, not_true_eq_false, Nat.reduceEqDiff, reduceCtorEq, Nat.reduceLeDiff, Nat.reduceAdd, Nat.reduceMul, Nat.reduceLT, Int.reduceNeg, Int.reduceEq, Int.reduceLT, Int.reduceLE, eq_self, Nat.reduceSub, or_true, true_or, or_false, false_or, and_false, false_and, Int.reduceToNat, rc0, rc1, ib2, ib3, ib4, ib5, ib6, ib7, ib8, ib9, ib10, rc11, ib12, rc13, ib14, ib15, ib16, ib17, ib18, ib19, rc20, rc21, ib22, ib23, ib24, rc25, ib26, ib27, ib28, ib29, ib30, ib31, rc32, ib33, rc34, ib35, rc36, ib37, rc38, ib39, ib40, ib41, ib42, ib43, ib44, ib45, ib46, ib47, rc48, ib49, ib50, ib51, ib52, ib53, rc54, ib55, ib56, ib57, ib58, ib59, ib60, ib61, ib62, ib63, ib64, ib65, ib66, ib67, ib68, ib69, ib70, ib71, ib72, ib73, ib74, ib75, ib76, ib77, ib78, ib79, ib80, ib81, bt_h' s8 k8, q1, q7]
      exact nx q
theorem L_la2 (hP : PC n m X W gA gW wA) (hN : IsN W gA gW wA n m T) (hM : MH n m X W gA gW wA σ) (hT : TH n m gA wA T σ) {x1 : Int} {Q : (Nat → Int) × (Nat → Int)} (kk : ∀ σ2, Fr [] [75, 76] σ σ2 → ga σ2 75 = Q.1 → ga σ2 76 = Q.2 → post none σ2) : ∀ (r k set at_ : Nat) (time : Int) (σ1 : Sto) (l6 : Option AV), k + r = n → popF set 8 ≤ r → LV W gA gW wA T n m set at_ → (0 ≤ time ∧ time ≤ 1000060 * (k : Int)) → Fr [] [75, 76] σ σ1 → layF W gA gW T n r set at_ time (k : Int) (ga σ1 75, ga σ1 76) = Q → WP S 189 19 [some (vr 54), some (vi x1), some (vi (set : Int)), some (vi (at_ : Int)), some (vi time), some (vi (k : Int)), l6] [] σ1 post := by
  have n8 := hP.1
  have pn := pw8 n8
  intro r
  induction r with
  | zero =>
    intro k set at_ time σ1 l6 hk hpop hL ht hF hQ
    have e : set = 0 := pop_0 (Nat.lt_of_lt_of_le hL.1 pn) (by omega)
    have e' : ((set : Int) ≤ 0) = True := eq_true (by omega)
    rw [w189_19]
    simp only [w189_20, w189_170, ↓reduceIte, okp_i, okp_r, okp_n, catS_nil, catS_cons, catV_i, catV_r, catV_l, Option.toList_some, Option.toList_none, List.cons_append, List.nil_append, gi_si, ga_si, gi_sa, ga_sa, gi_sl, ga_sl, gi_sf, ga_sf, gl_si, gl_sa, gl_sf, gl_sl, and_true, true_and, if_true, if_false, ite_true, ite_false, not_false_eq_true, not_true_eq_false, Nat.reduceEqDiff, reduceCtorEq, Nat.reduceLeDiff, Nat.reduceAdd, Nat.reduceMul, Nat.reduceLT, Int.reduceNeg, Int.reduceEq, Int.reduceLT, Int.reduceLE, eq_self, Nat.reduceSub, or_true, true_or, or_false, false_or, and_false, false_and, Int.reduceToNat, rc0, rc1, ib2, ib3, ib4, ib5, ib6, ib7, ib8, ib9, ib10, rc11, ib12, rc13, ib14, ib15, ib16, ib17, ib18, ib19, rc20, rc21, ib22, ib23, ib24, rc25, ib26, ib27, ib28, ib29, ib30, ib31, rc32, ib33, rc34, ib35, rc36, ib37, rc38, ib39, ib40, ib41, ib42, ib43, ib44, ib45, ib46, ib47, rc48, ib49, ib50, ib51, ib52, ib53, rc54, ib55, ib56, ib57, ib58, ib59, ib60, ib61, ib62, ib63, ib64, ib65, ib66, ib67, ib68, ib69, ib70, ib71, ib72, ib73, ib74, ib75, ib76, ib77, ib78, ib79, ib80, ib81, e']
    simp only [layF] at hQ
    exact kk σ1 hF (by rw [← hQ]) (by rw [← hQ])
  | succ r ih =>
    intro k set at_ time σ1 l6 hk hpop hL ht hF hQ
    simp only [layF] at hQ
    rw [w189_19]
    by_cases h0 : set = 0
    · have e' : ((set : Int) ≤ 0) = True := eq_true (by omega)
      rw [if_pos h0] at hQ
      simp only [w189_20, w189_170, ↓reduceIte, okp_i, okp_r, okp_n, catS_nil, catS_cons, catV_i, catV_r, catV_l, Option.toList_some, Option.toList_none, List.cons_append, List.nil_append, gi_si, ga_si, gi_sa, ga_sa, gi_sl, ga_sl, gi_sf, ga_sf, gl_si, gl_sa, gl_sf, gl_sl, and_true, true_and, if_true, if_false, ite_true, ite_false, not_false_eq_true, not_true_eq_false, Nat.reduceEqDiff, reduceCtorEq, Nat.reduceLeDiff, Nat.reduceAdd, Nat.reduceMul, Nat.reduceLT, Int.reduceNeg, Int.reduceEq, Int.reduceLT, Int.reduceLE, eq_self, Nat.reduceSub, or_true, true_or, or_false, false_or, and_false, false_and, Int.reduceToNat, rc0, rc1, ib2, ib3, ib4, ib5, ib6, ib7, ib8, ib9, ib10, rc11, ib12, rc13, ib14, ib15, ib16, ib17, ib18, ib19, rc20, rc21, ib22, ib23, ib24, rc25, ib26, ib27, ib28, ib29, ib30, ib31, rc32, ib33, rc34, ib35, rc36, ib37, rc38, ib39, ib40, ib41, ib42, ib43, ib44, ib45, ib46, ib47, rc48, ib49, ib50, ib51, ib52, ib53, rc54, ib55, ib56, ib57, ib58, ib59, ib60, ib61, ib62, ib63, ib64, ib65, ib66, ib67, ib68, ib69, ib70, ib71, ib72, ib73, ib74, ib75, ib76, ib77, ib78, ib79, ib80, ib81, e']
      exact kk σ1 hF (by rw [← hQ]) (by rw [← hQ])
    · have h0' : ¬ (set : Int) ≤ 0 := by omega
      rw [if_neg h0] at hQ
      have M1 := MH_Fr hM hF
      have T1 : TH n m gA wA T σ1 := fun s c hs hc => by rw [hF.2 72 (by decide)]; exact hT s c hs hc
      obtain ⟨g, g1, g2⟩ := LV_ex hN hL h0
      obtain ⟨k1, k2, k3⟩ := LV_pick hP hN hL h0
      have ep : fstF (isB W gA gW T set at_) n 0 = pickF W gA gW T n set at_ := rfl
      have a8 := (rel8 hP hL.2.1).2
      have s8 : set < 256 := Nat.lt_of_lt_of_le hL.1 pn
      generalize pickF W gA gW T n set at_ = p at *
      simp only [w189_20, w189_23, w189_24, ↓reduceIte, okp_i, okp_r, okp_n, catS_nil, catS_cons, catV_i, catV_r, catV_l, Option.toList_some, Option.toList_none, List.cons_append, List.nil_append, gi_si, ga_si, gi_sa, ga_sa, gi_sl, ga_sl, gi_sf, ga_sf, gl_si, gl_sa, gl_sf, gl_sl, and_true, true_and, if_true, if_false, ite_true, ite_false, not_false_eq_true, not_true_eq_false, Nat.reduceEqDiff, reduceCtorEq, Nat.reduceLeDiff, Nat.reduceAdd, Nat.reduceMul, Nat.reduceLT, Int.reduceNeg, Int.reduceEq, Int.reduceLT, Int.reduceLE, eq_self, Nat.reduceSub, or_true, true_or, or_false, false_or, and_false, false_and, Int.reduceToNat, rc0, rc1, ib2, ib3, ib4, ib5, ib6, ib7, ib8, ib9, ib10, rc11, ib12, rc13, ib14, ib15, ib16, ib17, ib18, ib19, rc20, rc21, ib22, ib23, ib24, rc25, ib26, ib27, ib28, ib29, ib30, ib31, rc32, ib33, rc34, ib35, rc36, ib37, rc38, ib39, ib40, ib41, ib42, ib43, ib44, ib45, ib46, ib47, rc48, ib49, ib50, ib51, ib52, ib53, rc54, ib55, ib56, ib57, ib58, ib59, ib60, ib61, ib62, ib63, ib64, ib65, ib66, ib67, ib68, ib69, ib70, ib71, ib72, ib73, ib74, ib75, ib76, ib77, ib78, ib79, ib80, ib81, h0']
      refine L_la1 (p := p) hP hN M1 T1 hL.1 hL.2.1 ?_ n 0 (by omega) ⟨g, Nat.zero_le g, g1, g2⟩ ep
      have sm : k + 1 + r = n := by omega
      have p8 : p < 8 := by omega
      have k9' : k < 9 := by omega
      have p9 : p < 9 := by omega
      have hps := pop_sub s8 p8 k2
      have hpop' : popF (set - 2 ^ p) 8 ≤ r := by omega
      have d1 : (0 : Int) ≤ (p : Int) := by omega
      have d2 : (p : Int) < 8 := by omega
      have q7 := wr_n1 (x := k) (by omega)
      obtain ⟨⟨b1, b2⟩, b3, b4⟩ := hP.2.2.2.1 p k1
      have x8 := hP.2.2.1
      obtain ⟨a, ea⟩ : ∃ a : Nat, gA p = (a : Int) := ⟨(gA p).toNat, by omega⟩
      have c8 : a < 8 := by omega
      have ea' : (gA p).toNat = a := by omega
      have b5 := hP.2.2.2.2.2 at_ a a8 c8
      have w68 := M1.2.2.2.2.2.2 at_ a a8 c8
      obtain ⟨q8, tb⟩ := nb_t ht.1 ht.2 k9' b5.1 b5.2 b3 b4
      have q9 : wr (W (8 * at_ + a) + gW p) = W (8 * at_ + a) + gW p := wr_id (by omega) (by omega)
      have e69 := M1.2.2.2.1
      have e70 := M1.2.2.2.2.1
      obtain ⟨u1, u2, u3, u4⟩ := ix8 a8 c8
      rw [ea'] at hQ k3
      simp only [w189_0, w189_1, w189_2, w189_5, w189_6, w189_7, w189_10, w189_11, w189_12, w189_13, w189_14, w189_16, w189_17, w189_20, w189_23, w189_24, w189_27, w189_29, w189_30, w189_31, w189_32, w189_35, w189_36, w189_39, w189_41, w189_42, w189_43, w189_44, w189_47, w189_49, w189_50, w189_51, w189_52, w189_53, w189_56, w189_58, w189_59, w189_60, w189_61, w189_64, w189_65, w189_66, w189_68, w189_69, w189_70, w189_71, w189_74, w189_76, w189_77, w189_80, w189_81, w189_82, w189_83, w189_86, w189_87, w189_88, w189_91, w189_92, w189_95, w189_98, w189_101, w189_103, w189_104, w189_107, w189_109, w189_110, w189_111, w189_112, w189_115, w189_117, w189_118, w189_119, w189_120, w189_121, w189_124, w189_126, w189_127, w189_128, w189_129, w189_131, w189_132, w189_135, w189_137, w189_139, w189_140, w189_141, w189_144, w189_146, w189_148, w189_149, w189_152, w189_153, w189_156, w189_158, w189_159, w189_160, w189_161, w189_162, w189_164, w189_165, w189_166, w189_167, w189_170, ↓reduceIte, okp_i, okp_r, okp_n, catS_nil, catS_cons, catV_i, catV_r, catV_l, Option.toList_some, Option.toList_none, List.cons_append, List.nil_append, gi_si, ga_si, gi_sa, ga_sa, gi_sl, ga_sl, gi_sf, ga_sf, gl_si, gl_sa, gl_sf, gl_sl, and_true, true_and, if_true, if_false, ite_true, ite_false, not_false_eq_true, not_true_eq_false, Nat.reduceEqDiff, reduceCtorEq, Nat.reduceLeDiff, Nat.reduceAdd, Nat.reduceMul, Nat.reduceLT, Int.reduceNeg, Int.reduceEq, Int.reduceLT, Int.reduceLE, eq_self, Nat.reduceSub, or_true, true_or, or_false, false_or, and_false, false_and, Int.reduceToNat, rc0, rc1, ib2, ib3, ib4, ib5, ib6, ib7, ib8, ib9, ib10, rc11, ib12, rc13, ib14, ib15, ib16, ib17, ib18, ib19, rc20, rc21, ib22, ib23, ib24, rc25, ib26, ib27, ib28, ib29, ib30, ib31, rc32, ib33, rc34, ib35, rc36, ib37, rc38, ib39, ib40, ib41, ib42, ib43, ib44, ib45, ib46, ib47, rc48, ib49, ib50, ib51, ib52, ib53, rc54, ib55, ib56, ib57, ib58, ib59, ib60, ib61, ib62, ib63, ib64, ib65, ib66, ib67, ib68, ib69, ib70, ib71, ib72, ib73, ib74, ib75, ib76, ib77, ib78, ib79, ib80, ib81, d1, d2, q7, q8, q9, e69, e70, ea, u1, u2, u3, u4, w68, bt_s p9, bt_x s8 p8 k2, Int.toNat_natCast]
      refine ih (k + 1) _ _ _ _ _ sm hpop' k3 tb (Fr_sa (Fr_sa hF (by decide)) (by decide)) ?_
      simp only [↓reduceIte, okp_i, okp_r, okp_n, catS_nil, catS_cons, catV_i, catV_r, catV_l, Option.toList_some, Option.toList_none, List.cons_append, List.nil_append, gi_si, ga_si, gi_sa, ga_sa, gi_sl, ga_sl, gi_sf, ga_sf, gl_si, gl_sa, gl_sf, gl_sl, and_true, true_and, if_true, if_false, ite_true, ite_false, not_false_eq_true, not_true_eq_false, Nat.reduceEqDiff, reduceCtorEq, Nat.reduceLeDiff, Nat.reduceAdd, Nat.reduceMul, Nat.reduceLT, Int.reduceNeg, Int.reduceEq, Int.reduceLT, Int.reduceLE, eq_self, Nat.reduceSub, or_true, true_or, or_false, false_or, and_false, false_and, Int.reduceToNat, rc0, rc1, ib2, ib3, ib4, ib5, ib6, ib7, ib8, ib9, ib10, rc11, ib12, rc13, ib14, ib15, ib16, ib17, ib18, ib19, rc20, rc21, ib22, ib23, ib24, rc25, ib26, ib27, ib28, ib29, ib30, ib31, rc32, ib33, rc34, ib35, rc36, ib37, rc38, ib39, ib40, ib41, ib42, ib43, ib44, ib45, ib46, ib47, rc48, ib49, ib50, ib51, ib52, ib53, rc54, ib55, ib56, ib57, ib58, ib59, ib60, ib61, ib62, ib63, ib64, ib65, ib66, ib67, ib68, ib69, ib70, ib71, ib72, ib73, ib74, ib75, ib76, ib77, ib78, ib79, ib80, ib81]
      rw [← hQ]
      simp only [Int.natCast_add, Int.natCast_one, Int.cast_ofNat_Int]
theorem S_lay1 (hP : PC n m X W gA gW wA) (hN : IsN W gA gW wA n m T) (hM : MH n m X W gA gW wA σ) (hT : TH n m gA wA T σ) {f : Nat → Int} (hf : ∀ g, g < n → ga σ 73 g = f g) (hv : AV' T wA f n m) {w : Nat} (hw : w < m) (kk : ∀ σ2, Fr [] [75, 76] σ σ2 → ga σ2 75 = (layF W gA gW T n n (setF f w n) (wA w).toNat 0 0 (ga σ 75, ga σ 76)).1 → ga σ2 76 = (layF W gA gW T n n (setF f w n) (wA w).toNat 0 0 (ga σ 75, ga σ 76)).2 → post none σ2) : WP S 189 0 [some (vr 54), some (vi (w : Int)), none, none, none, none, none] [] σ post := by
  have m3 := hP.2.1
  have c1 : (0 : Int) ≤ (w : Int) := by omega
  have c2 : (w : Int) < 3 := by omega
  have ea : wA w = ((wA w).toNat : Int) := by have := hP.2.2.2.2.1 w hw; omega
  have e71 := hM.2.2.2.2.2.1
  simp only [w189_0, w189_1, w189_2, w189_5, w189_6, w189_7, w189_10, w189_11, w189_12, w189_13, w189_14, w189_16, w189_17, S_setOf hM.1 hP.1 hf, ↓reduceIte, okp_i, okp_r, okp_n, catS_nil, catS_cons, catV_i, catV_r, catV_l, Option.toList_some, Option.toList_none, List.cons_append, List.nil_append, gi_si, ga_si, gi_sa, ga_sa, gi_sl, ga_sl, gi_sf, ga_sf, gl_si, gl_sa, gl_sf, gl_sl, and_true, true_and, if_true, if_false, ite_true, ite_false, not_false_eq_true, not_true_eq_false, Nat.reduceEqDiff, reduceCtorEq, Nat.reduceLeDiff, Nat.reduceAdd, Nat.reduceMul, Nat.reduceLT, Int.reduceNeg, Int.reduceEq, Int.reduceLT, Int.reduceLE, eq_self, Nat.reduceSub, or_true, true_or, or_false, false_or, and_false, false_and, Int.reduceToNat, rc0, rc1, ib2, ib3, ib4, ib5, ib6, ib7, ib8, ib9, ib10, rc11, ib12, rc13, ib14, ib15, ib16, ib17, ib18, ib19, rc20, rc21, ib22, ib23, ib24, rc25, ib26, ib27, ib28, ib29, ib30, ib31, rc32, ib33, rc34, ib35, rc36, ib37, rc38, ib39, ib40, ib41, ib42, ib43, ib44, ib45, ib46, ib47, rc48, ib49, ib50, ib51, ib52, ib53, rc54, ib55, ib56, ib57, ib58, ib59, ib60, ib61, ib62, ib63, ib64, ib65, ib66, ib67, ib68, ib69, ib70, ib71, ib72, ib73, ib74, ib75, ib76, ib77, ib78, ib79, ib80, ib81, c1, c2, e71, Int.toNat_natCast]
  rw [ea]
  exact L_la2 hP hN hM hT (Q := layF W gA gW T n n (setF f w n) (wA w).toNat 0 0 (ga σ 75, ga σ 76)) kk n 0 _ _ 0 σ _ (by omega) (pop_le hP.1 (setF_lt n)) (LV_set hP hv hw) ⟨by omega, by omega⟩ Fr_r rfl
theorem L_orC (hn : gi σ 3497 = (n : Int)) (n8 : n ≤ 8) {x1 x2 : Int} (kk : ∀ (C : Nat → Int) (l3 : Option AV), (∀ g, g < n → C g = ga σ 74 g) → WP S 188 52 [some (vr 54), some (vi x1), some (vi x2), l3] [] (sf σ 73 C) post) : ∀ (r k : Nat) (C : Nat → Int), k + r = n → (∀ g, g < k → C g = ga σ 74 g) → WP S 188 26 [some (vr 54), some (vi x1), some (vi x2), some (vi (k : Int))] [] (sf σ 73 C) post := by
  intro r
  induction r with
  | zero =>
    intro k C hk hC
    have e : k = n := by omega
    subst e
    rw [w188_26]
    simp only [w188_27, w188_28, w188_31, ↓reduceIte, okp_i, okp_r, okp_n, catS_nil, catS_cons, catV_i, catV_r, catV_l, Option.toList_some, Option.toList_none, List.cons_append, List.nil_append, gi_si, ga_si, gi_sa, ga_sa, gi_sl, ga_sl, gi_sf, ga_sf, gl_si, gl_sa, gl_sf, gl_sl, and_true, true_and, if_true, if_false, ite_true, ite_false, not_false_eq_true, not_true_eq_false, Nat.reduceEqDiff, reduceCtorEq, Nat.reduceLeDiff, Nat.reduceAdd, Nat.reduceMul, Nat.reduceLT, Int.reduceNeg, Int.reduceEq, Int.reduceLT, Int.reduceLE, eq_self, Nat.reduceSub, or_true, true_or, or_false, false_or, and_false, false_and, Int.reduceToNat, rc0, rc1, ib2, ib3, ib4, ib5, ib6, ib7, ib8, ib9, ib10, rc11, ib12, rc13, ib14, ib15, ib16, ib17, ib18, ib19, rc20, rc21, ib22, ib23, ib24, rc25, ib26, ib27, ib28, ib29, ib30, ib31, rc32, ib33, rc34, ib35, rc36, ib37, rc38, ib39, ib40, ib41, ib42, ib43, ib44, ib45, ib46, ib47, rc48, ib49, ib50, ib51, ib52, ib53, rc54, ib55, ib56, ib57, ib58, ib59, ib60, ib61, ib62, ib63, ib64, ib65, ib66, ib67, ib68, ib69, ib70, ib71, ib72, ib73, ib74, ib75, ib76, ib77, ib78, ib79, ib80, ib81, hn, Int.le_refl]
    exact kk C _ hC
  | succ r ih =>
    intro k C hk hC
    have c1 : ¬ ((n : Int) ≤ (k : Int)) := by omega
    have c2 : (0 : Int) ≤ (k : Int) := by omega
    have c3 : (k : Int) < 8 := by omega
    have q7 := wr_n1 (x := k) (by omega)
    have sm : k + 1 + r = n := by omega
    rw [w188_26]
    simp only [w188_27, w188_28, w188_31, w188_34, w188_35, w188_38, w188_39, w188_40, w188_43, w188_44, w188_45, w188_46, w188_49, ↓reduceIte, okp_i, okp_r, okp_n, catS_nil, catS_cons, catV_i, catV_r, catV_l, Option.toList_some, Option.toList_none, List.cons_append, List.nil_append, gi_si, ga_si, gi_sa, ga_sa, gi_sl, ga_sl, gi_sf, ga_sf, gl_si, gl_sa, gl_sf, gl_sl, and_true, true_and, if_true, if_false, ite_true, ite_false, not_false_eq_true, not_true_eq_false, Nat.reduceEqDiff, reduceCtorEq, Nat.reduceLeDiff, Nat.reduceAdd, Nat.reduceMul, Nat.reduceLT, Int.reduceNeg, Int.reduceEq, Int.reduceLT, Int.reduceLE, eq_self, Nat.reduceSub, or_true, true_or, or_false, false_or, and_false, false_and, Int.reduceToNat, rc0, rc1, ib2, ib3, ib4, ib5, ib6, ib7, ib8, ib9, ib10, rc11, ib12, rc13, ib14, ib15, ib16, ib17, ib18, ib19, rc20, rc21, ib22, ib23, ib24, rc25, ib26, ib27, ib28, ib29, ib30, ib31, rc32, ib33, rc34, ib35, rc36, ib37, rc38, ib39, ib40, ib41, ib42, ib43, ib44, ib45, ib46, ib47, rc48, ib49, ib50, ib51, ib52, ib53, rc54, ib55, ib56, ib57, ib58, ib59, ib60, ib61, ib62, ib63, ib64, ib65, ib66, ib67, ib68, ib69, ib70, ib71, ib72, ib73, ib74, ib75, ib76, ib77, ib78, ib79, ib80, ib81, hn, c1, c2, c3, q7, Int.toNat_natCast, sa_sf]
    refine ih (k + 1) _ sm (fun g hg => ?_)
    by_cases e : g = k
    · subst e; rw [if_pos rfl]
    · rw [if_neg e]; exact hC g (by omega)
theorem L_orL (hP : PC n m X W gA gW wA) (hN : IsN W gA gW wA n m T) (hM : MH n m X W gA gW wA σ) (hT : TH n m gA wA T σ) {f : Nat → Int} (hf : ∀ g, g < n → ga σ 73 g = f g) (hv : AV' T wA f n m) {q0 : (Nat → Int) × (Nat → Int)} {x1 x2 : Int} (kk : ∀ (σ2 : Sto) (l3 : Option AV), Fr [] [75, 76] σ σ2 → (ga σ2 75, ga σ2 76) = layA W gA gW T wA f n m q0 → WP S 188 73 [some (vr 54), some (vi x1), some (vi x2), l3] [] σ2 post) : ∀ (r k : Nat) (σ1 : Sto), k + r = m → Fr [] [75, 76] σ σ1 → (ga σ1 75, ga σ1 76) = layA W gA gW T wA f n k q0 → WP S 188 54 [some (vr 54), some (vi x1), some (vi x2), some (vi (k : Int))] [] σ1 post := by
  intro r
  induction r with
  | zero =>
    intro k σ1 hk hF hQ
    have e : k = m := by omega
    subst e
    have hm := (MH_Fr hM hF).2.1
    rw [w188_54]
    simp only [w188_55, w188_56, w188_59, ↓reduceIte, okp_i, okp_r, okp_n, catS_nil, catS_cons, catV_i, catV_r, catV_l, Option.toList_some, Option.toList_none, List.cons_append, List.nil_append, gi_si, ga_si, gi_sa, ga_sa, gi_sl, ga_sl, gi_sf, ga_sf, gl_si, gl_sa, gl_sf, gl_sl, and_true, true_and, if_true, if_false, ite_true, ite_false, not_false_eq_true, not_true_eq_false, Nat.reduceEqDiff, reduceCtorEq, Nat.reduceLeDiff, Nat.reduceAdd, Nat.reduceMul, Nat.reduceLT, Int.reduceNeg, Int.reduceEq, Int.reduceLT, Int.reduceLE, eq_self, Nat.reduceSub, or_true, true_or, or_false, false_or, and_false, false_and, Int.reduceToNat, rc0, rc1, ib2, ib3, ib4, ib5, ib6, ib7, ib8, ib9, ib10, rc11, ib12, rc13, ib14, ib15, ib16, ib17, ib18, ib19, rc20, rc21, ib22, ib23, ib24, rc25, ib26, ib27, ib28, ib29, ib30, ib31, rc32, ib33, rc34, ib35, rc36, ib37, rc38, ib39, ib40, ib41, ib42, ib43, ib44, ib45, ib46, ib47, rc48, ib49, ib50, ib51, ib52, ib53, rc54, ib55, ib56, ib57, ib58, ib59, ib60, ib61, ib62, ib63, ib64, ib65, ib66, ib67, ib68, ib69, ib70, ib71, ib72, ib73, ib74, ib75, ib76, ib77, ib78, ib79, ib80, ib81, hm, Int.le_refl]
    exact kk σ1 _ hF hQ
  | succ r ih =>
    intro k σ1 hk hF hQ
    have M1 := MH_Fr hM hF
    have hm := M1.2.1
    have km : k < m := by omega
    have m3 := hP.2.1
    have c1 : ¬ ((m : Int) ≤ (k : Int)) := by omega
    have q7 := wr_n1 (x := k) (by omega)
    have sm : k + 1 + r = m := by omega
    have T1 : TH n m gA wA T σ1 := fun s c hs hc => by rw [hF.2 72 (by decide)]; exact hT s c hs hc
    have e73 : ga σ1 73 = ga σ 73 := hF.2 73 (by decide)
    rw [w188_54]
    simp only [w188_55, w188_56, w188_59, w188_62, w188_63, w188_64, ↓reduceIte, okp_i, okp_r, okp_n, catS_nil, catS_cons, catV_i, catV_r, catV_l, Option.toList_some, Option.toList_none, List.cons_append, List.nil_append, gi_si, ga_si, gi_sa, ga_sa, gi_sl, ga_sl, gi_sf, ga_sf, gl_si, gl_sa, gl_sf, gl_sl, and_true, true_and, if_true, if_false, ite_true, ite_false, not_false_eq_true, not_true_eq_false, Nat.reduceEqDiff, reduceCtorEq, Nat.reduceLeDiff, Nat.reduceAdd, Nat.reduceMul, Nat.reduceLT, Int.reduceNeg, Int.reduceEq, Int.reduceLT, Int.reduceLE, eq_self, Nat.reduceSub, or_true, true_or, or_false, false_or, and_false, false_and, Int.reduceToNat, rc0, rc1, ib2, ib3, ib4, ib5, ib6, ib7, ib8, ib9, ib10, rc11, ib12, rc13, ib14, ib15, ib16, ib17, ib18, ib19, rc20, rc21, ib22, ib23, ib24, rc25, ib26, ib27, ib28, ib29, ib30, ib31, rc32, ib33, rc34, ib35, rc36, ib37, rc38, ib39, ib40, ib41, ib42, ib43, ib44, ib45, ib46, ib47, rc48, ib49, ib50, ib51, ib52, ib53, rc54, ib55, ib56, ib57, ib58, ib59, ib60, ib61, ib62, ib63, ib64, ib65, ib66, ib67, ib68, ib69, ib70, ib71, ib72, ib73, ib74, ib75, ib76, ib77, ib78, ib79, ib80, ib81, hm, c1]
    refine S_lay1 (f := f) hP hN M1 T1 (by rw [e73]; exact hf) hv km ?_
    intro σ2 hF2 h75 h76
    simp only [w188_67, w188_70, ↓reduceIte, okp_i, okp_r, okp_n, catS_nil, catS_cons, catV_i, catV_r, catV_l, Option.toList_some, Option.toList_none, List.cons_append, List.nil_append, gi_si, ga_si, gi_sa, ga_sa, gi_sl, ga_sl, gi_sf, ga_sf, gl_si, gl_sa, gl_sf, gl_sl, and_true, true_and, if_true, if_false, ite_true, ite_false, not_false_eq_true, not_true_eq_false, Nat.reduceEqDiff, reduceCtorEq, Nat.reduceLeDiff, Nat.reduceAdd, Nat.reduceMul, Nat.reduceLT, Int.reduceNeg, Int.reduceEq, Int.reduceLT, Int.reduceLE, eq_self, Nat.reduceSub, or_true, true_or, or_false, false_or, and_false, false_and, Int.reduceToNat, rc0, rc1, ib2, ib3, ib4, ib5, ib6, ib7, ib8, ib9, ib10, rc11, ib12, rc13, ib14, ib15, ib16, ib17, ib18, ib19, rc20, rc21, ib22, ib23, ib24, rc25, ib26, ib27, ib28, ib29, ib30, ib31, rc32, ib33, rc34, ib35, rc36, ib37, rc38, ib39, ib40, ib41, ib42, ib43, ib44, ib45, ib46, ib47, rc48, ib49, ib50, ib51, ib52, ib53, rc54, ib55, ib56, ib57, ib58, ib59, ib60, ib61, ib62, ib63, ib64, ib65, ib66, ib67, ib68, ib69, ib70, ib71, ib72, ib73, ib74, ib75, ib76, ib77, ib78, ib79, ib80, ib81, q7]
    refine ih (k + 1) σ2 sm (Fr_t hF hF2) ?_
    simp only [layA]
    rw [h75, h76, hQ]
theorem op_order {a b : Int} (h : Inv σ) : OpI Inv S 127 188 [some (vr 0), some (vi a), some (vi b)] [some (vr 54), some (vi a), some (vi b), none] σ := by
  obtain ⟨s1, s2, s3, s4, s5, s6⟩ := h.2.2.2.2.2.2.2.1
  unfold OpI
  by_cases hv : 0 ≤ a ∧ a < gi σ 3497
  · obtain ⟨v1, v2⟩ := hv
    have c1 : ¬ a < 0 := by omega
    have c2 : a < gi σ 3497 := v2
    have c3 : ¬ gi σ 3497 ≤ a := by omega
    simp only [w127_0, w127_1, w127_4, w127_5, w127_8, w127_11, w127_12, w127_15, w49_0, w49_1, w49_4, w49_5, w49_6, w49_9, w49_12, w49_13, w49_16, w49_17, ↓reduceIte, okp_i, okp_r, okp_n, catS_nil, catS_cons, catV_i, catV_r, catV_l, Option.toList_some, Option.toList_none, List.cons_append, List.nil_append, gi_si, ga_si, gi_sa, ga_sa, gi_sl, ga_sl, gi_sf, ga_sf, gl_si, gl_sa, gl_sf, gl_sl, and_true, true_and, if_true, if_false, ite_true, ite_false, not_false_eq_true, not_true_eq_false, Nat.reduceEqDiff, reduceCtorEq, Nat.reduceLeDiff, Nat.reduceAdd, Nat.reduceMul, Nat.reduceLT, Int.reduceNeg, Int.reduceEq, Int.reduceLT, Int.reduceLE, eq_self, Nat.reduceSub, or_true, true_or, or_false, false_or, and_false, false_and, Int.reduceToNat, rc0, rc1, ib2, ib3, ib4, ib5, ib6, ib7, ib8, ib9, ib10, rc11, ib12, rc13, ib14, ib15, ib16, ib17, ib18, ib19, rc20, rc21, ib22, ib23, ib24, rc25, ib26, ib27, ib28, ib29, ib30, ib31, rc32, ib33, rc34, ib35, rc36, ib37, rc38, ib39, ib40, ib41, ib42, ib43, ib44, ib45, ib46, ib47, rc48, ib49, ib50, ib51, ib52, ib53, rc54, ib55, ib56, ib57, ib58, ib59, ib60, ib61, ib62, ib63, ib64, ib65, ib66, ib67, ib68, ib69, ib70, ib71, ib72, ib73, ib74, ib75, ib76, ib77, ib78, ib79, ib80, ib81, s1, c1, c2, c3]
    refine S_leI h ?_
    intro σ2 h2 hp e1 e2
    obtain ⟨n, m, X, hn, hm, hx⟩ := nat3 h2
    have hP := PC_of h2 hn hm hx
    obtain ⟨p1, p2, p3⟩ := h2.2.2.2.2.2.2.2.2.2.2 hp
    rw [hn, hm, Int.toNat_natCast, Int.toNat_natCast] at p1 p2 p3
    rw [← e1, hn] at v2 c2 c3
    obtain ⟨g, rfl⟩ : ∃ g : Nat, a = (g : Int) := ⟨a.toNat, by omega⟩
    have gn : g < n := by omega
    have n8 := hP.1
    by_cases q : (bstS (ga σ2 42) (ga σ2 71) n m).1 < 1000000
    · have nn := bst_nn q
      have q' : ¬ 1000000 ≤ (bstS (ga σ2 42) (ga σ2 71) n m).1 := by omega
      have q2 : ¬ (bstS (ga σ2 42) (ga σ2 71) n m).1 = -1 := by omega
      rw [if_pos q] at p2
      obtain ⟨r1, r2⟩ := p3 q g gn
      have d1 : (0 : Int) ≤ (g : Int) := by omega
      have d2 : (g : Int) < 8 := by omega
      have m0 : m ≠ 0 := fun e => by
        have := bst_lt q gn
        omega
      have hM : ∀ v : Int, v = (if b = 0 then ga σ2 45 g else if b = 1 then ga σ2 46 g else if b = 2 then ga σ2 47 g else -1) → WP S 188 0 [some (vr 54), some (vi (g : Int)), some (vi b), none] [] σ2 (fun v2 σ2 => v2 = some (vi v) ∧ Inv σ2) := by
        intro v hv
        simp only [w188_0, w188_1, w188_4, w188_5, w188_6, w188_9, w188_12, w188_13, ↓reduceIte, okp_i, okp_r, okp_n, catS_nil, catS_cons, catV_i, catV_r, catV_l, Option.toList_some, Option.toList_none, List.cons_append, List.nil_append, gi_si, ga_si, gi_sa, ga_sa, gi_sl, ga_sl, gi_sf, ga_sf, gl_si, gl_sa, gl_sf, gl_sl, and_true, true_and, if_true, if_false, ite_true, ite_false, not_false_eq_true, not_true_eq_false, Nat.reduceEqDiff, reduceCtorEq, Nat.reduceLeDiff, Nat.reduceAdd, Nat.reduceMul, Nat.reduceLT, Int.reduceNeg, Int.reduceEq, Int.reduceLT, Int.reduceLE, eq_self, Nat.reduceSub, or_true, true_or, or_false, false_or, and_false, false_and, Int.reduceToNat, rc0, rc1, ib2, ib3, ib4, ib5, ib6, ib7, ib8, ib9, ib10, rc11, ib12, rc13, ib14, ib15, ib16, ib17, ib18, ib19, rc20, rc21, ib22, ib23, ib24, rc25, ib26, ib27, ib28, ib29, ib30, ib31, rc32, ib33, rc34, ib35, rc36, ib37, rc38, ib39, ib40, ib41, ib42, ib43, ib44, ib45, ib46, ib47, rc48, ib49, ib50, ib51, ib52, ib53, rc54, ib55, ib56, ib57, ib58, ib59, ib60, ib61, ib62, ib63, ib64, ib65, ib66, ib67, ib68, ib69, ib70, ib71, ib72, ib73, ib74, ib75, ib76, ib77, ib78, ib79, ib80, ib81, c1, hn, c3]
        refine S_part h2 hn hm hx p1 ?_
        intro σ3 hF3 h3
        obtain ⟨M3, T3, B3⟩ := h3 (by omega) m0
        simp only [w188_16, w188_19, w188_24, w188_25, ↓reduceIte, okp_i, okp_r, okp_n, catS_nil, catS_cons, catV_i, catV_r, catV_l, Option.toList_some, Option.toList_none, List.cons_append, List.nil_append, gi_si, ga_si, gi_sa, ga_sa, gi_sl, ga_sl, gi_sf, ga_sf, gl_si, gl_sa, gl_sf, gl_sl, and_true, true_and, if_true, if_false, ite_true, ite_false, not_false_eq_true, not_true_eq_false, Nat.reduceEqDiff, reduceCtorEq, Nat.reduceLeDiff, Nat.reduceAdd, Nat.reduceMul, Nat.reduceLT, Int.reduceNeg, Int.reduceEq, Int.reduceLT, Int.reduceLE, eq_self, Nat.reduceSub, or_true, true_or, or_false, false_or, and_false, false_and, Int.reduceToNat, rc0, rc1, ib2, ib3, ib4, ib5, ib6, ib7, ib8, ib9, ib10, rc11, ib12, rc13, ib14, ib15, ib16, ib17, ib18, ib19, rc20, rc21, ib22, ib23, ib24, rc25, ib26, ib27, ib28, ib29, ib30, ib31, rc32, ib33, rc34, ib35, rc36, ib37, rc38, ib39, ib40, ib41, ib42, ib43, ib44, ib45, ib46, ib47, rc48, ib49, ib50, ib51, ib52, ib53, rc54, ib55, ib56, ib57, ib58, ib59, ib60, ib61, ib62, ib63, ib64, ib65, ib66, ib67, ib68, ib69, ib70, ib71, ib72, ib73, ib74, ib75, ib76, ib77, ib78, ib79, ib80, ib81, q']
        have L := L_orC (S := S) (σ := σ3) (post := fun v2 σ2 => v2 = some (vi v) ∧ Inv σ2) M3.1 n8 (x1 := (g : Int)) (x2 := b) ?_ n 0 (ga σ3 73) (by omega) (fun g hg => absurd hg (Nat.not_lt_zero g))
        · rw [sf_id] at L
          simp only [w188_16, w188_19, w188_24, w188_25, ↓reduceIte, okp_i, okp_r, okp_n, catS_nil, catS_cons, catV_i, catV_r, catV_l, Option.toList_some, Option.toList_none, List.cons_append, List.nil_append, gi_si, ga_si, gi_sa, ga_sa, gi_sl, ga_sl, gi_sf, ga_sf, gl_si, gl_sa, gl_sf, gl_sl, and_true, true_and, if_true, if_false, ite_true, ite_false, not_false_eq_true, not_true_eq_false, Nat.reduceEqDiff, reduceCtorEq, Nat.reduceLeDiff, Nat.reduceAdd, Nat.reduceMul, Nat.reduceLT, Int.reduceNeg, Int.reduceEq, Int.reduceLT, Int.reduceLE, eq_self, Nat.reduceSub, or_true, true_or, or_false, false_or, and_false, false_and, Int.reduceToNat, rc0, rc1, ib2, ib3, ib4, ib5, ib6, ib7, ib8, ib9, ib10, rc11, ib12, rc13, ib14, ib15, ib16, ib17, ib18, ib19, rc20, rc21, ib22, ib23, ib24, rc25, ib26, ib27, ib28, ib29, ib30, ib31, rc32, ib33, rc34, ib35, rc36, ib37, rc38, ib39, ib40, ib41, ib42, ib43, ib44, ib45, ib46, ib47, rc48, ib49, ib50, ib51, ib52, ib53, rc54, ib55, ib56, ib57, ib58, ib59, ib60, ib61, ib62, ib63, ib64, ib65, ib66, ib67, ib68, ib69, ib70, ib71, ib72, ib73, ib74, ib75, ib76, ib77, ib78, ib79, ib80, ib81, q, q']
          exact L
        · intro C l3 hC
          have F4 : Fr [] [68, 72, 73, 74, 75, 76] σ2 (sf σ3 73 C) := Fr_sf hF3 (by decide)
          have M4 : MH n m X (ga σ2 10) (ga σ2 69) (ga σ2 70) (ga σ2 71) (sf σ3 73 C) := MH_Fr (KI := []) (KA := [73]) M3 (Fr_sf Fr_r (by decide))
          have T4 : TH n m (ga σ2 69) (ga σ2 71) (ga σ2 42) (sf σ3 73 C) := by
            intro s c hs hc
            simp only [↓reduceIte, okp_i, okp_r, okp_n, catS_nil, catS_cons, catV_i, catV_r, catV_l, Option.toList_some, Option.toList_none, List.cons_append, List.nil_append, gi_si, ga_si, gi_sa, ga_sa, gi_sl, ga_sl, gi_sf, ga_sf, gl_si, gl_sa, gl_sf, gl_sl, and_true, true_and, if_true, if_false, ite_true, ite_false, not_false_eq_true, not_true_eq_false, Nat.reduceEqDiff, reduceCtorEq, Nat.reduceLeDiff, Nat.reduceAdd, Nat.reduceMul, Nat.reduceLT, Int.reduceNeg, Int.reduceEq, Int.reduceLT, Int.reduceLE, eq_self, Nat.reduceSub, or_true, true_or, or_false, false_or, and_false, false_and, Int.reduceToNat, rc0, rc1, ib2, ib3, ib4, ib5, ib6, ib7, ib8, ib9, ib10, rc11, ib12, rc13, ib14, ib15, ib16, ib17, ib18, ib19, rc20, rc21, ib22, ib23, ib24, rc25, ib26, ib27, ib28, ib29, ib30, ib31, rc32, ib33, rc34, ib35, rc36, ib37, rc38, ib39, ib40, ib41, ib42, ib43, ib44, ib45, ib46, ib47, rc48, ib49, ib50, ib51, ib52, ib53, rc54, ib55, ib56, ib57, ib58, ib59, ib60, ib61, ib62, ib63, ib64, ib65, ib66, ib67, ib68, ib69, ib70, ib71, ib72, ib73, ib74, ib75, ib76, ib77, ib78, ib79, ib80, ib81]
            exact T3 s c hs hc
          have f4 : ∀ g, g < n → ga (sf σ3 73 C) 73 g = (digF m n (bstS (ga σ2 42) (ga σ2 71) n m).2 g : Int) := fun g hg => by
            simp only [↓reduceIte, okp_i, okp_r, okp_n, catS_nil, catS_cons, catV_i, catV_r, catV_l, Option.toList_some, Option.toList_none, List.cons_append, List.nil_append, gi_si, ga_si, gi_sa, ga_sa, gi_sl, ga_sl, gi_sf, ga_sf, gl_si, gl_sa, gl_sf, gl_sl, and_true, true_and, if_true, if_false, ite_true, ite_false, not_false_eq_true, not_true_eq_false, Nat.reduceEqDiff, reduceCtorEq, Nat.reduceLeDiff, Nat.reduceAdd, Nat.reduceMul, Nat.reduceLT, Int.reduceNeg, Int.reduceEq, Int.reduceLT, Int.reduceLE, eq_self, Nat.reduceSub, or_true, true_or, or_false, false_or, and_false, false_and, Int.reduceToNat, rc0, rc1, ib2, ib3, ib4, ib5, ib6, ib7, ib8, ib9, ib10, rc11, ib12, rc13, ib14, ib15, ib16, ib17, ib18, ib19, rc20, rc21, ib22, ib23, ib24, rc25, ib26, ib27, ib28, ib29, ib30, ib31, rc32, ib33, rc34, ib35, rc36, ib37, rc38, ib39, ib40, ib41, ib42, ib43, ib44, ib45, ib46, ib47, rc48, ib49, ib50, ib51, ib52, ib53, rc54, ib55, ib56, ib57, ib58, ib59, ib60, ib61, ib62, ib63, ib64, ib65, ib66, ib67, ib68, ib69, ib70, ib71, ib72, ib73, ib74, ib75, ib76, ib77, ib78, ib79, ib80, ib81]
            rw [hC g hg]
            exact B3 q g hg
          have g4 : ∀ g, g < n → ga (sf σ3 73 C) 74 g = (digF m n (bstS (ga σ2 42) (ga σ2 71) n m).2 g : Int) := fun g hg => by
            simp only [↓reduceIte, okp_i, okp_r, okp_n, catS_nil, catS_cons, catV_i, catV_r, catV_l, Option.toList_some, Option.toList_none, List.cons_append, List.nil_append, gi_si, ga_si, gi_sa, ga_sa, gi_sl, ga_sl, gi_sf, ga_sf, gl_si, gl_sa, gl_sf, gl_sl, and_true, true_and, if_true, if_false, ite_true, ite_false, not_false_eq_true, not_true_eq_false, Nat.reduceEqDiff, reduceCtorEq, Nat.reduceLeDiff, Nat.reduceAdd, Nat.reduceMul, Nat.reduceLT, Int.reduceNeg, Int.reduceEq, Int.reduceLT, Int.reduceLE, eq_self, Nat.reduceSub, or_true, true_or, or_false, false_or, and_false, false_and, Int.reduceToNat, rc0, rc1, ib2, ib3, ib4, ib5, ib6, ib7, ib8, ib9, ib10, rc11, ib12, rc13, ib14, ib15, ib16, ib17, ib18, ib19, rc20, rc21, ib22, ib23, ib24, rc25, ib26, ib27, ib28, ib29, ib30, ib31, rc32, ib33, rc34, ib35, rc36, ib37, rc38, ib39, ib40, ib41, ib42, ib43, ib44, ib45, ib46, ib47, rc48, ib49, ib50, ib51, ib52, ib53, rc54, ib55, ib56, ib57, ib58, ib59, ib60, ib61, ib62, ib63, ib64, ib65, ib66, ib67, ib68, ib69, ib70, ib71, ib72, ib73, ib74, ib75, ib76, ib77, ib78, ib79, ib80, ib81]
            exact B3 q g hg
          generalize sf σ3 73 C = σ4 at *
          simp only [w188_52, w188_53, ↓reduceIte, okp_i, okp_r, okp_n, catS_nil, catS_cons, catV_i, catV_r, catV_l, Option.toList_some, Option.toList_none, List.cons_append, List.nil_append, gi_si, ga_si, gi_sa, ga_sa, gi_sl, ga_sl, gi_sf, ga_sf, gl_si, gl_sa, gl_sf, gl_sl, and_true, true_and, if_true, if_false, ite_true, ite_false, not_false_eq_true, not_true_eq_false, Nat.reduceEqDiff, reduceCtorEq, Nat.reduceLeDiff, Nat.reduceAdd, Nat.reduceMul, Nat.reduceLT, Int.reduceNeg, Int.reduceEq, Int.reduceLT, Int.reduceLE, eq_self, Nat.reduceSub, or_true, true_or, or_false, false_or, and_false, false_and, Int.reduceToNat, rc0, rc1, ib2, ib3, ib4, ib5, ib6, ib7, ib8, ib9, ib10, rc11, ib12, rc13, ib14, ib15, ib16, ib17, ib18, ib19, rc20, rc21, ib22, ib23, ib24, rc25, ib26, ib27, ib28, ib29, ib30, ib31, rc32, ib33, rc34, ib35, rc36, ib37, rc38, ib39, ib40, ib41, ib42, ib43, ib44, ib45, ib46, ib47, rc48, ib49, ib50, ib51, ib52, ib53, rc54, ib55, ib56, ib57, ib58, ib59, ib60, ib61, ib62, ib63, ib64, ib65, ib66, ib67, ib68, ib69, ib70, ib71, ib72, ib73, ib74, ib75, ib76, ib77, ib78, ib79, ib80, ib81]
          refine L_orL (f := fun g => (digF m n (bstS (ga σ2 42) (ga σ2 71) n m).2 g : Int)) hP p1 M4 T4 f4 (bst_AV q) (q0 := (ga σ4 75, ga σ4 76)) ?_ m 0 σ4 (by omega) Fr_r rfl
          intro σ5 l3 hF5 hQ
          have I5 := Inv_M h2 (Fr_t F4 (Fr_m hF5 (by decide) (by decide)))
          have k74 : ga σ5 74 g = ga σ2 45 g := by
            rw [hF5.2 74 (by decide), g4 g gn, r1]
          have k75 : ga σ5 75 g = ga σ2 46 g := by
            have e : ga σ5 75 = (layA (ga σ2 10) (ga σ2 69) (ga σ2 70) (ga σ2 42) (ga σ2 71) (fun g => (digF m n (bstS (ga σ2 42) (ga σ2 71) n m).2 g : Int)) n m (ga σ4 75, ga σ4 76)).1 := by rw [← hQ]
            rw [e]
            exact (r2 _).1.symm
          have k76 : ga σ5 76 g = ga σ2 47 g := by
            have e : ga σ5 76 = (layA (ga σ2 10) (ga σ2 69) (ga σ2 70) (ga σ2 42) (ga σ2 71) (fun g => (digF m n (bstS (ga σ2 42) (ga σ2 71) n m).2 g : Int)) n m (ga σ4 75, ga σ4 76)).2 := by rw [← hQ]
            rw [e]
            exact (r2 _).2.symm
          simp only [w188_73, w188_74, w188_77, w188_78, w188_81, w188_82, w188_83, w188_86, w188_87, w188_88, w188_91, w188_92, w188_95, w188_96, w188_97, w188_100, w188_101, w188_102, w188_105, w188_106, w188_109, w188_110, w188_111, w188_114, w188_115, ↓reduceIte, okp_i, okp_r, okp_n, catS_nil, catS_cons, catV_i, catV_r, catV_l, Option.toList_some, Option.toList_none, List.cons_append, List.nil_append, gi_si, ga_si, gi_sa, ga_sa, gi_sl, ga_sl, gi_sf, ga_sf, gl_si, gl_sa, gl_sf, gl_sl, and_true, true_and, if_true, if_false, ite_true, ite_false, not_false_eq_true, not_true_eq_false, Nat.reduceEqDiff, reduceCtorEq, Nat.reduceLeDiff, Nat.reduceAdd, Nat.reduceMul, Nat.reduceLT, Int.reduceNeg, Int.reduceEq, Int.reduceLT, Int.reduceLE, eq_self, Nat.reduceSub, or_true, true_or, or_false, false_or, and_false, false_and, Int.reduceToNat, rc0, rc1, ib2, ib3, ib4, ib5, ib6, ib7, ib8, ib9, ib10, rc11, ib12, rc13, ib14, ib15, ib16, ib17, ib18, ib19, rc20, rc21, ib22, ib23, ib24, rc25, ib26, ib27, ib28, ib29, ib30, ib31, rc32, ib33, rc34, ib35, rc36, ib37, rc38, ib39, ib40, ib41, ib42, ib43, ib44, ib45, ib46, ib47, rc48, ib49, ib50, ib51, ib52, ib53, rc54, ib55, ib56, ib57, ib58, ib59, ib60, ib61, ib62, ib63, ib64, ib65, ib66, ib67, ib68, ib69, ib70, ib71, ib72, ib73, ib74, ib75, ib76, ib77, ib78, ib79, ib80, ib81, d1, d2, k74, k75, k76, Int.toNat_natCast]
          rw [hv]
          by_cases b0 : b = 0
          · simp only [b0, ↓reduceIte, okp_i, okp_r, okp_n, catS_nil, catS_cons, catV_i, catV_r, catV_l, Option.toList_some, Option.toList_none, List.cons_append, List.nil_append, gi_si, ga_si, gi_sa, ga_sa, gi_sl, ga_sl, gi_sf, ga_sf, gl_si, gl_sa, gl_sf, gl_sl, and_true, true_and, if_true, if_false, ite_true, ite_false, not_false_eq_true, not_true_eq_false, Nat.reduceEqDiff, reduceCtorEq, Nat.reduceLeDiff, Nat.reduceAdd, Nat.reduceMul, Nat.reduceLT, Int.reduceNeg, Int.reduceEq, Int.reduceLT, Int.reduceLE, eq_self, Nat.reduceSub, or_true, true_or, or_false, false_or, and_false, false_and, Int.reduceToNat, rc0, rc1, ib2, ib3, ib4, ib5, ib6, ib7, ib8, ib9, ib10, rc11, ib12, rc13, ib14, ib15, ib16, ib17, ib18, ib19, rc20, rc21, ib22, ib23, ib24, rc25, ib26, ib27, ib28, ib29, ib30, ib31, rc32, ib33, rc34, ib35, rc36, ib37, rc38, ib39, ib40, ib41, ib42, ib43, ib44, ib45, ib46, ib47, rc48, ib49, ib50, ib51, ib52, ib53, rc54, ib55, ib56, ib57, ib58, ib59, ib60, ib61, ib62, ib63, ib64, ib65, ib66, ib67, ib68, ib69, ib70, ib71, ib72, ib73, ib74, ib75, ib76, ib77, ib78, ib79, ib80, ib81]
            exact I5
          · by_cases b1 : b = 1
            · simp only [b1, ↓reduceIte, okp_i, okp_r, okp_n, catS_nil, catS_cons, catV_i, catV_r, catV_l, Option.toList_some, Option.toList_none, List.cons_append, List.nil_append, gi_si, ga_si, gi_sa, ga_sa, gi_sl, ga_sl, gi_sf, ga_sf, gl_si, gl_sa, gl_sf, gl_sl, and_true, true_and, if_true, if_false, ite_true, ite_false, not_false_eq_true, not_true_eq_false, Nat.reduceEqDiff, reduceCtorEq, Nat.reduceLeDiff, Nat.reduceAdd, Nat.reduceMul, Nat.reduceLT, Int.reduceNeg, Int.reduceEq, Int.reduceLT, Int.reduceLE, eq_self, Nat.reduceSub, or_true, true_or, or_false, false_or, and_false, false_and, Int.reduceToNat, rc0, rc1, ib2, ib3, ib4, ib5, ib6, ib7, ib8, ib9, ib10, rc11, ib12, rc13, ib14, ib15, ib16, ib17, ib18, ib19, rc20, rc21, ib22, ib23, ib24, rc25, ib26, ib27, ib28, ib29, ib30, ib31, rc32, ib33, rc34, ib35, rc36, ib37, rc38, ib39, ib40, ib41, ib42, ib43, ib44, ib45, ib46, ib47, rc48, ib49, ib50, ib51, ib52, ib53, rc54, ib55, ib56, ib57, ib58, ib59, ib60, ib61, ib62, ib63, ib64, ib65, ib66, ib67, ib68, ib69, ib70, ib71, ib72, ib73, ib74, ib75, ib76, ib77, ib78, ib79, ib80, ib81]
              exact I5
            · by_cases b2 : b = 2
              · simp only [b2, ↓reduceIte, okp_i, okp_r, okp_n, catS_nil, catS_cons, catV_i, catV_r, catV_l, Option.toList_some, Option.toList_none, List.cons_append, List.nil_append, gi_si, ga_si, gi_sa, ga_sa, gi_sl, ga_sl, gi_sf, ga_sf, gl_si, gl_sa, gl_sf, gl_sl, and_true, true_and, if_true, if_false, ite_true, ite_false, not_false_eq_true, not_true_eq_false, Nat.reduceEqDiff, reduceCtorEq, Nat.reduceLeDiff, Nat.reduceAdd, Nat.reduceMul, Nat.reduceLT, Int.reduceNeg, Int.reduceEq, Int.reduceLT, Int.reduceLE, eq_self, Nat.reduceSub, or_true, true_or, or_false, false_or, and_false, false_and, Int.reduceToNat, rc0, rc1, ib2, ib3, ib4, ib5, ib6, ib7, ib8, ib9, ib10, rc11, ib12, rc13, ib14, ib15, ib16, ib17, ib18, ib19, rc20, rc21, ib22, ib23, ib24, rc25, ib26, ib27, ib28, ib29, ib30, ib31, rc32, ib33, rc34, ib35, rc36, ib37, rc38, ib39, ib40, ib41, ib42, ib43, ib44, ib45, ib46, ib47, rc48, ib49, ib50, ib51, ib52, ib53, rc54, ib55, ib56, ib57, ib58, ib59, ib60, ib61, ib62, ib63, ib64, ib65, ib66, ib67, ib68, ib69, ib70, ib71, ib72, ib73, ib74, ib75, ib76, ib77, ib78, ib79, ib80, ib81]
                exact I5
              · simp only [b0, b1, b2, ↓reduceIte, okp_i, okp_r, okp_n, catS_nil, catS_cons, catV_i, catV_r, catV_l, Option.toList_some, Option.toList_none, List.cons_append, List.nil_append, gi_si, ga_si, gi_sa, ga_sa, gi_sl, ga_sl, gi_sf, ga_sf, gl_si, gl_sa, gl_sf, gl_sl, and_true, true_and, if_true, if_false, ite_true, ite_false, not_false_eq_true, not_true_eq_false, Nat.reduceEqDiff, reduceCtorEq, Nat.reduceLeDiff, Nat.reduceAdd, Nat.reduceMul, Nat.reduceLT, Int.reduceNeg, Int.reduceEq, Int.reduceLT, Int.reduceLE, eq_self, Nat.reduceSub, or_true, true_or, or_false, false_or, and_false, false_and, Int.reduceToNat, rc0, rc1, ib2, ib3, ib4, ib5, ib6, ib7, ib8, ib9, ib10, rc11, ib12, rc13, ib14, ib15, ib16, ib17, ib18, ib19, rc20, rc21, ib22, ib23, ib24, rc25, ib26, ib27, ib28, ib29, ib30, ib31, rc32, ib33, rc34, ib35, rc36, ib37, rc38, ib39, ib40, ib41, ib42, ib43, ib44, ib45, ib46, ib47, rc48, ib49, ib50, ib51, ib52, ib53, rc54, ib55, ib56, ib57, ib58, ib59, ib60, ib61, ib62, ib63, ib64, ib65, ib66, ib67, ib68, ib69, ib70, ib71, ib72, ib73, ib74, ib75, ib76, ib77, ib78, ib79, ib80, ib81]
                exact I5
      by_cases b0 : b = 0
      · subst b0
        simp only [w127_1, w127_4, w127_5, w127_8, w127_11, w127_12, w127_15, w127_18, w127_19, w127_22, w127_23, w127_24, w127_25v0, w127_25v1, w127_25v2, w127_25o, w127_52, w127_53, w127_56, w127_57, w127_60, w127_61, w127_62, w127_65, w127_66, w127_69, w127_70, w127_71, w127_74, w127_75, w127_78, w127_79, w127_80, w50_0, w50_1, w50_4, w50_5, w50_6, ↓reduceIte, okp_i, okp_r, okp_n, catS_nil, catS_cons, catV_i, catV_r, catV_l, Option.toList_some, Option.toList_none, List.cons_append, List.nil_append, gi_si, ga_si, gi_sa, ga_sa, gi_sl, ga_sl, gi_sf, ga_sf, gl_si, gl_sa, gl_sf, gl_sl, and_true, true_and, if_true, if_false, ite_true, ite_false, not_false_eq_true, not_true_eq_false, Nat.reduceEqDiff, reduceCtorEq, Nat.reduceLeDiff, Nat.reduceAdd, Nat.reduceMul, Nat.reduceLT, Int.reduceNeg, Int.reduceEq, Int.reduceLT, Int.reduceLE, eq_self, Nat.reduceSub, or_true, true_or, or_false, false_or, and_false, false_and, Int.reduceToNat, rc0, rc1, ib2, ib3, ib4, ib5, ib6, ib7, ib8, ib9, ib10, rc11, ib12, rc13, ib14, ib15, ib16, ib17, ib18, ib19, rc20, rc21, ib22, ib23, ib24, rc25, ib26, ib27, ib28, ib29, ib30, ib31, rc32, ib33, rc34, ib35, rc36, ib37, rc38, ib39, ib40, ib41, ib42, ib43, ib44, ib45, ib46, ib47, rc48, ib49, ib50, ib51, ib52, ib53, rc54, ib55, ib56, ib57, ib58, ib59, ib60, ib61, ib62, ib63, ib64, ib65, ib66, ib67, ib68, ib69, ib70, ib71, ib72, ib73, ib74, ib75, ib76, ib77, ib78, ib79, ib80, ib81, p2, q2, d1, d2, Int.toNat_natCast]
        exact ⟨_, rfl, hM _ rfl⟩
      · by_cases b1 : b = 1
        · subst b1
          simp only [w127_1, w127_4, w127_5, w127_8, w127_11, w127_12, w127_15, w127_18, w127_19, w127_22, w127_23, w127_24, w127_25v0, w127_25v1, w127_25v2, w127_25o, w127_52, w127_53, w127_56, w127_57, w127_60, w127_61, w127_62, w127_65, w127_66, w127_69, w127_70, w127_71, w127_74, w127_75, w127_78, w127_79, w127_80, w51_0, w51_1, w51_4, w51_5, w51_6, ↓reduceIte, okp_i, okp_r, okp_n, catS_nil, catS_cons, catV_i, catV_r, catV_l, Option.toList_some, Option.toList_none, List.cons_append, List.nil_append, gi_si, ga_si, gi_sa, ga_sa, gi_sl, ga_sl, gi_sf, ga_sf, gl_si, gl_sa, gl_sf, gl_sl, and_true, true_and, if_true, if_false, ite_true, ite_false, not_false_eq_true, not_true_eq_false, Nat.reduceEqDiff, reduceCtorEq, Nat.reduceLeDiff, Nat.reduceAdd, Nat.reduceMul, Nat.reduceLT, Int.reduceNeg, Int.reduceEq, Int.reduceLT, Int.reduceLE, eq_self, Nat.reduceSub, or_true, true_or, or_false, false_or, and_false, false_and, Int.reduceToNat, rc0, rc1, ib2, ib3, ib4, ib5, ib6, ib7, ib8, ib9, ib10, rc11, ib12, rc13, ib14, ib15, ib16, ib17, ib18, ib19, rc20, rc21, ib22, ib23, ib24, rc25, ib26, ib27, ib28, ib29, ib30, ib31, rc32, ib33, rc34, ib35, rc36, ib37, rc38, ib39, ib40, ib41, ib42, ib43, ib44, ib45, ib46, ib47, rc48, ib49, ib50, ib51, ib52, ib53, rc54, ib55, ib56, ib57, ib58, ib59, ib60, ib61, ib62, ib63, ib64, ib65, ib66, ib67, ib68, ib69, ib70, ib71, ib72, ib73, ib74, ib75, ib76, ib77, ib78, ib79, ib80, ib81, p2, q2, d1, d2, Int.toNat_natCast]
          exact ⟨_, rfl, hM _ rfl⟩
        · by_cases b2 : b = 2
          · subst b2
            simp only [w127_1, w127_4, w127_5, w127_8, w127_11, w127_12, w127_15, w127_18, w127_19, w127_22, w127_23, w127_24, w127_25v0, w127_25v1, w127_25v2, w127_25o, w127_52, w127_53, w127_56, w127_57, w127_60, w127_61, w127_62, w127_65, w127_66, w127_69, w127_70, w127_71, w127_74, w127_75, w127_78, w127_79, w127_80, w52_0, w52_1, w52_4, w52_5, w52_6, ↓reduceIte, okp_i, okp_r, okp_n, catS_nil, catS_cons, catV_i, catV_r, catV_l, Option.toList_some, Option.toList_none, List.cons_append, List.nil_append, gi_si, ga_si, gi_sa, ga_sa, gi_sl, ga_sl, gi_sf, ga_sf, gl_si, gl_sa, gl_sf, gl_sl, and_true, true_and, if_true, if_false, ite_true, ite_false, not_false_eq_true, not_true_eq_false, Nat.reduceEqDiff, reduceCtorEq, Nat.reduceLeDiff, Nat.reduceAdd, Nat.reduceMul, Nat.reduceLT, Int.reduceNeg, Int.reduceEq, Int.reduceLT, Int.reduceLE, eq_self, Nat.reduceSub, or_true, true_or, or_false, false_or, and_false, false_and, Int.reduceToNat, rc0, rc1, ib2, ib3, ib4, ib5, ib6, ib7, ib8, ib9, ib10, rc11, ib12, rc13, ib14, ib15, ib16, ib17, ib18, ib19, rc20, rc21, ib22, ib23, ib24, rc25, ib26, ib27, ib28, ib29, ib30, ib31, rc32, ib33, rc34, ib35, rc36, ib37, rc38, ib39, ib40, ib41, ib42, ib43, ib44, ib45, ib46, ib47, rc48, ib49, ib50, ib51, ib52, ib53, rc54, ib55, ib56, ib57, ib58, ib59, ib60, ib61, ib62, ib63, ib64, ib65, ib66, ib67, ib68, ib69, ib70, ib71, ib72, ib73, ib74, ib75, ib76, ib77, ib78, ib79, ib80, ib81, p2, q2, d1, d2, Int.toNat_natCast]
            exact ⟨_, rfl, hM _ rfl⟩
          · have bo : b < 0 ∨ 2 < b := by omega
            simp only [w127_1, w127_4, w127_5, w127_8, w127_11, w127_12, w127_15, w127_18, w127_19, w127_22, w127_23, w127_24, w127_52, w127_53, w127_56, w127_57, w127_60, w127_61, w127_62, w127_65, w127_66, w127_69, w127_70, w127_71, w127_74, w127_75, w127_78, w127_79, w127_80, w127_25o bo, ↓reduceIte, okp_i, okp_r, okp_n, catS_nil, catS_cons, catV_i, catV_r, catV_l, Option.toList_some, Option.toList_none, List.cons_append, List.nil_append, gi_si, ga_si, gi_sa, ga_sa, gi_sl, ga_sl, gi_sf, ga_sf, gl_si, gl_sa, gl_sf, gl_sl, and_true, true_and, if_true, if_false, ite_true, ite_false, not_false_eq_true, not_true_eq_false, Nat.reduceEqDiff, reduceCtorEq, Nat.reduceLeDiff, Nat.reduceAdd, Nat.reduceMul, Nat.reduceLT, Int.reduceNeg, Int.reduceEq, Int.reduceLT, Int.reduceLE, eq_self, Nat.reduceSub, or_true, true_or, or_false, false_or, and_false, false_and, Int.reduceToNat, rc0, rc1, ib2, ib3, ib4, ib5, ib6, ib7, ib8, ib9, ib10, rc11, ib12, rc13, ib14, ib15, ib16, ib17, ib18, ib19, rc20, rc21, ib22, ib23, ib24, rc25, ib26, ib27, ib28, ib29, ib30, ib31, rc32, ib33, rc34, ib35, rc36, ib37, rc38, ib39, ib40, ib41, ib42, ib43, ib44, ib45, ib46, ib47, rc48, ib49, ib50, ib51, ib52, ib53, rc54, ib55, ib56, ib57, ib58, ib59, ib60, ib61, ib62, ib63, ib64, ib65, ib66, ib67, ib68, ib69, ib70, ib71, ib72, ib73, ib74, ib75, ib76, ib77, ib78, ib79, ib80, ib81, p2, q2]
            exact ⟨_, rfl, hM _ (by simp only [b0, b1, b2, ↓reduceIte, okp_i, okp_r, okp_n, catS_nil, catS_cons, catV_i, catV_r, catV_l, Option.toList_some, Option.toList_none, List.cons_append, List.nil_append, gi_si, ga_si, gi_sa, ga_sa, gi_sl, ga_sl, gi_sf, ga_sf, gl_si, gl_sa, gl_sf, gl_sl, and_true, true_and, if_true, if_false, ite_true, ite_false, not_false_eq_true, not_true_eq_false, Nat.reduceEqDiff, reduceCtorEq, Nat.reduceLeDiff, Nat.reduceAdd, Nat.reduceMul, Nat.reduceLT, Int.reduceNeg, Int.reduceEq, Int.reduceLT, Int.reduceLE, eq_self, Nat.reduceSub, or_true, true_or, or_false, false_or, and_false, false_and, Int.reduceToNat, rc0, rc1, ib2, ib3, ib4, ib5, ib6, ib7, ib8, ib9, ib10, rc11, ib12, rc13, ib14, ib15, ib16, ib17, ib18, ib19, rc20, rc21, ib22, ib23, ib24, rc25, ib26, ib27, ib28, ib29, ib30, ib31, rc32, ib33, rc34, ib35, rc36, ib37, rc38, ib39, ib40, ib41, ib42, ib43, ib44, ib45, ib46, ib47, rc48, ib49, ib50, ib51, ib52, ib53, rc54, ib55, ib56, ib57, ib58, ib59, ib60, ib61, ib62, ib63, ib64, ib65, ib66, ib67, ib68, ib69, ib70, ib71, ib72, ib73, ib74, ib75, ib76, ib77, ib78, ib79, ib80, ib81])⟩
    · have q' : 1000000 ≤ (bstS (ga σ2 42) (ga σ2 71) n m).1 := by omega
      rw [if_neg q] at p2
      simp only [w127_1, w127_4, w127_5, w127_8, w127_11, w127_12, w127_15, w127_18, w127_19, w127_22, w127_23, w127_24, w127_25v0, w127_25v1, w127_25v2, w127_25o, w127_52, w127_53, w127_56, w127_57, w127_60, w127_61, w127_62, w127_65, w127_66, w127_69, w127_70, w127_71, w127_74, w127_75, w127_78, w127_79, w127_80, ↓reduceIte, okp_i, okp_r, okp_n, catS_nil, catS_cons, catV_i, catV_r, catV_l, Option.toList_some, Option.toList_none, List.cons_append, List.nil_append, gi_si, ga_si, gi_sa, ga_sa, gi_sl, ga_sl, gi_sf, ga_sf, gl_si, gl_sa, gl_sf, gl_sl, and_true, true_and, if_true, if_false, ite_true, ite_false, not_false_eq_true, not_true_eq_false, Nat.reduceEqDiff, reduceCtorEq, Nat.reduceLeDiff, Nat.reduceAdd, Nat.reduceMul, Nat.reduceLT, Int.reduceNeg, Int.reduceEq, Int.reduceLT, Int.reduceLE, eq_self, Nat.reduceSub, or_true, true_or, or_false, false_or, and_false, false_and, Int.reduceToNat, rc0, rc1, ib2, ib3, ib4, ib5, ib6, ib7, ib8, ib9, ib10, rc11, ib12, rc13, ib14, ib15, ib16, ib17, ib18, ib19, rc20, rc21, ib22, ib23, ib24, rc25, ib26, ib27, ib28, ib29, ib30, ib31, rc32, ib33, rc34, ib35, rc36, ib37, rc38, ib39, ib40, ib41, ib42, ib43, ib44, ib45, ib46, ib47, rc48, ib49, ib50, ib51, ib52, ib53, rc54, ib55, ib56, ib57, ib58, ib59, ib60, ib61, ib62, ib63, ib64, ib65, ib66, ib67, ib68, ib69, ib70, ib71, ib72, ib73, ib74, ib75, ib76, ib77, ib78, ib79, ib80, ib81, p2]
      refine ⟨_, rfl, ?_⟩
      simp only [w188_0, w188_1, w188_4, w188_5, w188_6, w188_9, w188_12, w188_13, ↓reduceIte, okp_i, okp_r, okp_n, catS_nil, catS_cons, catV_i, catV_r, catV_l, Option.toList_some, Option.toList_none, List.cons_append, List.nil_append, gi_si, ga_si, gi_sa, ga_sa, gi_sl, ga_sl, gi_sf, ga_sf, gl_si, gl_sa, gl_sf, gl_sl, and_true, true_and, if_true, if_false, ite_true, ite_false, not_false_eq_true, not_true_eq_false, Nat.reduceEqDiff, reduceCtorEq, Nat.reduceLeDiff, Nat.reduceAdd, Nat.reduceMul, Nat.reduceLT, Int.reduceNeg, Int.reduceEq, Int.reduceLT, Int.reduceLE, eq_self, Nat.reduceSub, or_true, true_or, or_false, false_or, and_false, false_and, Int.reduceToNat, rc0, rc1, ib2, ib3, ib4, ib5, ib6, ib7, ib8, ib9, ib10, rc11, ib12, rc13, ib14, ib15, ib16, ib17, ib18, ib19, rc20, rc21, ib22, ib23, ib24, rc25, ib26, ib27, ib28, ib29, ib30, ib31, rc32, ib33, rc34, ib35, rc36, ib37, rc38, ib39, ib40, ib41, ib42, ib43, ib44, ib45, ib46, ib47, rc48, ib49, ib50, ib51, ib52, ib53, rc54, ib55, ib56, ib57, ib58, ib59, ib60, ib61, ib62, ib63, ib64, ib65, ib66, ib67, ib68, ib69, ib70, ib71, ib72, ib73, ib74, ib75, ib76, ib77, ib78, ib79, ib80, ib81, c1, hn, c3]
      refine S_part h2 hn hm hx p1 ?_
      intro σ3 hF3 _
      simp only [w188_16, w188_19, w188_22, w188_23, ↓reduceIte, okp_i, okp_r, okp_n, catS_nil, catS_cons, catV_i, catV_r, catV_l, Option.toList_some, Option.toList_none, List.cons_append, List.nil_append, gi_si, ga_si, gi_sa, ga_sa, gi_sl, ga_sl, gi_sf, ga_sf, gl_si, gl_sa, gl_sf, gl_sl, and_true, true_and, if_true, if_false, ite_true, ite_false, not_false_eq_true, not_true_eq_false, Nat.reduceEqDiff, reduceCtorEq, Nat.reduceLeDiff, Nat.reduceAdd, Nat.reduceMul, Nat.reduceLT, Int.reduceNeg, Int.reduceEq, Int.reduceLT, Int.reduceLE, eq_self, Nat.reduceSub, or_true, true_or, or_false, false_or, and_false, false_and, Int.reduceToNat, rc0, rc1, ib2, ib3, ib4, ib5, ib6, ib7, ib8, ib9, ib10, rc11, ib12, rc13, ib14, ib15, ib16, ib17, ib18, ib19, rc20, rc21, ib22, ib23, ib24, rc25, ib26, ib27, ib28, ib29, ib30, ib31, rc32, ib33, rc34, ib35, rc36, ib37, rc38, ib39, ib40, ib41, ib42, ib43, ib44, ib45, ib46, ib47, rc48, ib49, ib50, ib51, ib52, ib53, rc54, ib55, ib56, ib57, ib58, ib59, ib60, ib61, ib62, ib63, ib64, ib65, ib66, ib67, ib68, ib69, ib70, ib71, ib72, ib73, ib74, ib75, ib76, ib77, ib78, ib79, ib80, ib81, q, q']
      exact Inv_M h2 hF3
  · have hM : WP S 188 0 [some (vr 54), some (vi a), some (vi b), none] [] σ (fun v2 σ2 => v2 = some (vi (-1)) ∧ Inv σ2) := by
      simp only [w188_0, w188_1, w188_4, w188_5, w188_6, w188_9, w188_22, w188_23, ↓reduceIte, okp_i, okp_r, okp_n, catS_nil, catS_cons, catV_i, catV_r, catV_l, Option.toList_some, Option.toList_none, List.cons_append, List.nil_append, gi_si, ga_si, gi_sa, ga_sa, gi_sl, ga_sl, gi_sf, ga_sf, gl_si, gl_sa, gl_sf, gl_sl, and_true, true_and, if_true, if_false, ite_true, ite_false, not_false_eq_true, not_true_eq_false, Nat.reduceEqDiff, reduceCtorEq, Nat.reduceLeDiff, Nat.reduceAdd, Nat.reduceMul, Nat.reduceLT, Int.reduceNeg, Int.reduceEq, Int.reduceLT, Int.reduceLE, eq_self, Nat.reduceSub, or_true, true_or, or_false, false_or, and_false, false_and, Int.reduceToNat, rc0, rc1, ib2, ib3, ib4, ib5, ib6, ib7, ib8, ib9, ib10, rc11, ib12, rc13, ib14, ib15, ib16, ib17, ib18, ib19, rc20, rc21, ib22, ib23, ib24, rc25, ib26, ib27, ib28, ib29, ib30, ib31, rc32, ib33, rc34, ib35, rc36, ib37, rc38, ib39, ib40, ib41, ib42, ib43, ib44, ib45, ib46, ib47, rc48, ib49, ib50, ib51, ib52, ib53, rc54, ib55, ib56, ib57, ib58, ib59, ib60, ib61, ib62, ib63, ib64, ib65, ib66, ib67, ib68, ib69, ib70, ib71, ib72, ib73, ib74, ib75, ib76, ib77, ib78, ib79, ib80, ib81]
      repeat' split
      all_goals first | exact h | (exfalso; omega)
    simp only [w127_0, w127_1, w127_4, w127_5, w127_8, w127_22, w127_23, w49_0, w49_1, w49_4, w49_5, w49_6, w49_9, w49_12, w49_13, w49_16, w49_17, ↓reduceIte, okp_i, okp_r, okp_n, catS_nil, catS_cons, catV_i, catV_r, catV_l, Option.toList_some, Option.toList_none, List.cons_append, List.nil_append, gi_si, ga_si, gi_sa, ga_sa, gi_sl, ga_sl, gi_sf, ga_sf, gl_si, gl_sa, gl_sf, gl_sl, and_true, true_and, if_true, if_false, ite_true, ite_false, not_false_eq_true, not_true_eq_false, Nat.reduceEqDiff, reduceCtorEq, Nat.reduceLeDiff, Nat.reduceAdd, Nat.reduceMul, Nat.reduceLT, Int.reduceNeg, Int.reduceEq, Int.reduceLT, Int.reduceLE, eq_self, Nat.reduceSub, or_true, true_or, or_false, false_or, and_false, false_and, Int.reduceToNat, rc0, rc1, ib2, ib3, ib4, ib5, ib6, ib7, ib8, ib9, ib10, rc11, ib12, rc13, ib14, ib15, ib16, ib17, ib18, ib19, rc20, rc21, ib22, ib23, ib24, rc25, ib26, ib27, ib28, ib29, ib30, ib31, rc32, ib33, rc34, ib35, rc36, ib37, rc38, ib39, ib40, ib41, ib42, ib43, ib44, ib45, ib46, ib47, rc48, ib49, ib50, ib51, ib52, ib53, rc54, ib55, ib56, ib57, ib58, ib59, ib60, ib61, ib62, ib63, ib64, ib65, ib66, ib67, ib68, ib69, ib70, ib71, ib72, ib73, ib74, ib75, ib76, ib77, ib78, ib79, ib80, ib81, s1]
    repeat' split
    all_goals first | exact ⟨_, rfl, hM⟩ | (exfalso; omega)
end ORD2
