/-! the class leaves a lane: all the lanes that go on -/
section LEAVE2
variable {S : Scr} {σ σ0 : Sto} {post : Pst} {kind frm to beg x : Int} {D : Int → Nat → Prop}
theorem fi_self {p0 dg : Nat} : fiF p0 dg p0 = 0 := by unfold fiF; rw [if_neg (Nat.lt_irrefl p0), Nat.sub_self]
theorem np1 {n : Nat} : 0 < ((n + 1 : Nat) : Int) := by omega
theorem wr_pl {p dg : Nat} (h : p < 20) : wr ((p : Int) + 1) = ((p + 1 : Nat) : Int) := by rw [wr_id (by omega) (by omega)]; omega
theorem cmp_pl {p dg : Nat} : ((dg : Int) ≤ ((p + 1 : Nat) : Int)) = (dg ≤ p + 1) := propext (by omega)
theorem L_leave (hT0 : InvT σ0) (hA0 : InvA σ0) (hB0 : InvB σ0) (hbeg : 0 ≤ beg ∧ beg ≤ 1439) (hx : 1 ≤ x ∧ x ≤ 3000) {l0 c p0 dg n : Nat} (hl0 : ((l0 / 2 : Nat) : Int) < gi σ0 3461) (hc8 : c < 8) (hc : dsL σ0 l0 = (c : Int)) (hdg : rkF (ga σ0 55) (ga σ0 56) (c : Int) (gi σ0 3461).toNat = dg) (hp0 : rkF (ga σ0 55) (ga σ0 56) (c : Int) (l0 / 2) = p0) (hRA : RA (AS σ0 kind frm beg) (BS σ0 kind beg) n x l0) {Φ : (Int → Nat → Int) → Prop} (hΦ : ∀ F a b, Φ F → RA (AS σ0 kind frm beg) (BS σ0 kind beg) (n + 1) a b → x < a → Φ (updF F a b ((n + 1 : Nat) : Int))) (hΦs : ∀ F, Φ F → SND (AS σ0 kind frm beg) (BS σ0 kind beg) F x) (g0 : GS σ0 σ) (hTN : TBL σ0 kind σ 35 (beg + x + gi σ0 3463)) (hTF : TBL σ0 kind σ 37 (beg + x + gi σ0 3464)) (kk : ∀ σ' F, Fr [2053] [33] σ σ' → RelC x σ' F → CNT σ' → Φ F → (∀ t l, BS σ0 kind beg x l0 t l → OKc D F (n + 1) t l) → post none σ') : ∀ (r f : Nat) (σ1 : Sto) (F : Int → Nat → Int) (l9 l10 l11 : Option AV), f + 1 + r = dg → Fr [2053] [33] σ σ1 → RelC x σ1 F → CNT σ1 → Φ F → (∀ t l, BS σ0 kind beg x l0 t l → fiF p0 dg (rkF (ga σ0 55) (ga σ0 56) (c : Int) (l / 2)) < f + 1 → OKc D F (n + 1) t l) → WP S 78 55 [some (vr 32), some (vi (l0 : Int)), some (vi x), some (vi (n : Int)), some (vi (c : Int)), some (vi (dg : Int)), some (vi (if beg + x < gi σ0 3462 then 1 else (dg : Int) - 1)), some (vi (plF p0 dg f : Int)), some (vi ((f + 1 : Nat) : Int)), l9, l10, l11] [] σ1 post := by
  have hdg16 : dg ≤ 16 := by
    have := rkF_le (f := ga σ0 55) (g := ga σ0 56) (c := (c : Int)) (gi σ0 3461).toNat
    have t7 := hT0.2.2.2.2.2.2.1
    omega
  have hp0d : p0 < dg := by
    have := rkF_lt (f := ga σ0 55) (g := ga σ0 56) (c := (c : Int)) (ds_at hc) (show l0 / 2 < (gi σ0 3461).toNat by omega)
    omega
  have t9 := hT0.2.2.2.2.2.2.2.2.1
  have t10 := hT0.2.2.2.2.2.2.2.2.2.1
  have hnb : 0 < n ∧ n ≤ 3000 := by
    have := RA_bd (hAS hT0 hB0) (hBS hT0 hB0) n x l0 hRA
    omega
  intro r
  induction r with
  | zero =>
    intro f σ1 F l9 l10 l11 hf hF hR hC hP hE
    have c1 : ((dg : Int) ≤ ((f + 1 : Nat) : Int)) = True := eq_true (by omega)
    rw [w78_55]
    simp only [w78_0, w78_1, w78_4, w78_5, w78_8, w78_10, w78_11, w78_14, w78_16, w78_19, w78_21, w78_22, w78_25, w78_27, w78_28, w78_31, w78_32, w78_33, w78_36, w78_38, w78_39, w78_42, w78_44, w78_45, w78_46, w78_47, w78_50, w78_52, w78_53, w78_57, w78_59, w78_62, w78_64, w78_65, w78_66, w78_68, w78_71, w78_73, w78_74, w78_75, w78_78, w78_79, w78_81, w78_83, w78_85, w78_88, w78_89, w78_92, w78_93, w78_95, w78_96, w78_99, w78_101, w78_103, w78_106, w78_108, w78_110, w78_113, w78_114, w78_117, w78_119, w78_122, w78_125, w78_126, w78_129, w78_131, w78_134, w78_136, w78_137, w78_139, w78_140, w78_141, w78_144, w78_146, w78_149, w78_150, w78_152, w78_153, w78_154, w78_155, w78_158, w78_161, w78_164, ↓reduceIte, okp_i, okp_r, okp_n, catS_nil, catS_cons, catV_i, catV_r, catV_l, Option.toList_some, Option.toList_none, List.cons_append, List.nil_append, gi_si, ga_si, gi_sa, ga_sa, gi_sl, ga_sl, gi_sf, ga_sf, gl_si, gl_sa, gl_sf, gl_sl, and_true, true_and, if_true, if_false, ite_true, ite_false, not_false_eq_true, not_true_eq_false, Nat.reduceEqDiff, reduceCtorEq, Nat.reduceLeDiff, Nat.reduceAdd, Nat.reduceMul, Nat.reduceLT, Int.reduceNeg, Int.reduceEq, Int.reduceLT, Int.reduceLE, eq_self, Nat.reduceSub, or_true, true_or, or_false, false_or, and_false, false_and, Int.reduceToNat, rc0, rc1, ib2, ib3, ib4, ib5, ib6, ib7, ib8, ib9, ib10, rc11, ib12, rc13, ib14, ib15, ib16, ib17, ib18, ib19, rc20, rc21, ib22, ib23, ib24, rc25, ib26, ib27, ib28, ib29, ib30, ib31, rc32, ib33, rc34, ib35, rc36, ib37, rc38, ib39, ib40, ib41, ib42, ib43, ib44, ib45, ib46, ib47, rc48, ib49, ib50, ib51, ib52, ib53, rc54, ib55, ib56, ib57, ib58, ib59, ib60, ib61, ib62, ib63, ib64, ib65, ib66, ib67, ib68, ib69, ib70, ib71, ib72, ib73, ib74, ib75, ib76, ib77, ib78, ib79, ib80, ib81, c1]
    refine kk σ1 F hF hR hC hP (fun t l hb => hE t l hb ?_)
    have hl := hb.1
    have ho := hb.2.1
    rw [hc] at ho
    have h2 := rkF_lt (f := ga σ0 55) (g := ga σ0 56) (c := (c : Int)) (og_at hT0 hl ho) (show l / 2 < (gi σ0 3461).toNat by omega)
    rw [hdg] at h2
    unfold fiF
    split <;> omega
  | succ r ih =>
    intro f σ1 F l9 l10 l11 hf hF hR hC hP hE
    have g1 : GS σ0 σ1 := Fr_t g0 (Fr_m hF (by decide) (by decide))
    have c1 : ((dg : Int) ≤ ((f + 1 : Nat) : Int)) = False := eq_false (by omega)
    have f1 : f + 1 < dg := by omega
    have f0 : f < dg := by omega
    obtain ⟨-, hpd⟩ := fi_pl hp0d f0
    obtain ⟨hfi, hpd1⟩ := fi_pl hp0d f1
    have hps := pl_s hp0d f1
    have ew1 := wr_pl (p := plF p0 dg f) (dg := dg) (by omega)
    have ecm := cmp_pl (p := plF p0 dg f) (dg := dg)
    have ew2 : wr (((f + 1 : Nat) : Int) + 1) = ((f + 1 + 1 : Nat) : Int) := by rw [wr_id (by omega) (by omega)]; omega
    have ew3 : wr ((n : Int) + 1) = ((n + 1 : Nat) : Int) := by rw [wr_id (by omega) (by omega)]; omega
    have hf' : f + 1 + 1 + r = dg := by omega
    obtain ⟨l, k1, k2, k3, k4⟩ := ln_at hT0 hA0 hc8 (p := plF p0 dg (f + 1)) (by rw [hdg]; exact hpd1)
    have hl32 : l < 32 := by have t7 := hT0.2.2.2.2.2.2.1; omega
    have hne : l / 2 ≠ l0 / 2 := fun e => by
      rw [e, hp0] at k3
      rw [← k3, fi_self] at hfi
      exact absurd hfi.symm (Nat.succ_ne_zero f)
    have htn := tn_fi (x := x) (beg := beg) (f := f + 1) hT0 (by omega) hl0 k1 hc k2 hdg hp0 (by rw [k3]; exact hfi)
    have hst : ∀ y : Int, y = tnL σ0 l0 l (beg + x) → ga σ1 (if ((f + 1 : Nat) : Int) = (if beg + x < gi σ0 3462 then 1 else (dg : Int) - 1) then 35 else 37) l = drL σ0 kind l (beg + (x + y)) := by
      intro y hy
      rw [hy, htn]
      by_cases q : ((f + 1 : Nat) : Int) = (if beg + x < gi σ0 3462 then 1 else (dg : Int) - 1)
      · rw [if_pos q, if_pos q, hF.2 35 (by decide), hTN l k1, Int.add_assoc]
      · rw [if_neg q, if_neg q, hF.2 37 (by decide), hTF l k1, Int.add_assoc]
    have hst := hst _ rfl
    have c2 : (0 ≤ (l : Int)) = True := eq_true (by omega)
    have c3 : ((l : Int) < 32) = True := eq_true (by omega)
    have tb := tn_bd hT0 (l0 := l0) (l := l) (m := beg + x)
    have db := dr_bd (kind := kind) hT0 hB0 (m := beg + (x + tnL σ0 l0 l (beg + x))) k1
    have ew4 : wr (x + tnL σ0 l0 l (beg + x)) = x + tnL σ0 l0 l (beg + x) := wr_id (by omega) (by omega)
    -- behind entering
    have hin : WP S 75 0 [some (vr 32), some (vi (l : Int)), some (vi (x + tnL σ0 l0 l (beg + x))), some (vi (drL σ0 kind l (beg + (x + tnL σ0 l0 l (beg + x))))), some (vi ((n + 1 : Nat) : Int)), none, none] [] σ1 (fun v σ2 => v = none ∧ ∀ m9 m10 m11 : Option AV, WP S 78 55 [some (vr 32), some (vi (l0 : Int)), some (vi x), some (vi (n : Int)), some (vi (c : Int)), some (vi (dg : Int)), some (vi (if beg + x < gi σ0 3462 then 1 else (dg : Int) - 1)), some (vi (plF p0 dg (f + 1) : Int)), some (vi ((f + 1 + 1 : Nat) : Int)), m9, m10, m11] [] σ2 post) := by
      have huq : ∀ t' l', BS σ0 kind beg x l0 t' l' → fiF p0 dg (rkF (ga σ0 55) (ga σ0 56) (c : Int) (l' / 2)) < f + 1 + 1 → fiF p0 dg (rkF (ga σ0 55) (ga σ0 56) (c : Int) (l' / 2)) < f + 1 ∨ l' = l := by
        intro t' l' hb hlt
        by_cases q : fiF p0 dg (rkF (ga σ0 55) (ga σ0 56) (c : Int) (l' / 2)) < f + 1
        · exact Or.inl q
        · have e : fiF p0 dg (rkF (ga σ0 55) (ga σ0 56) (c : Int) (l' / 2)) = f + 1 := Nat.le_antisymm (Nat.lt_succ_iff.mp hlt) (Nat.not_lt.mp q)
          have ho := hb.2.1
          rw [hc] at ho
          have h2 := rkF_lt (f := ga σ0 55) (g := ga σ0 56) (c := (c : Int)) (og_at hT0 hb.1 ho) (show l' / 2 < (gi σ0 3461).toNat by have := hb.1; omega)
          rw [hdg] at h2
          have e2 := pl_fi hp0d h2
          rw [e, ← k3] at e2
          have e3 := rkF_inj (og_at hT0 k1 k2) (og_at hT0 hb.1 ho) e2
          exact Or.inr (ln_uniq hT0 k1 k2 ho e3).symm
      refine S_enter hR hC (by omega) hl32 (by omega) db hx.2 (Nat.succ_pos n) ?_ ?_
      · intro hno
        refine ⟨rfl, fun m9 m10 m11 => ih (f + 1) σ1 F m9 m10 m11 hf' hF hR hC hP (fun t' l' hb hlt => ?_)⟩
        rcases huq t' l' hb hlt with q | q
        · exact hE t' l' hb q
        · rw [q] at hb
          obtain ⟨b1, b2, b3, b4, b5, b6⟩ := hb
          exact absurd ⟨by omega, by omega⟩ hno
      · intro d1 d2 σ2 hF2 hR2 hC2
        have hB2 : BS σ0 kind beg x l0 (x + tnL σ0 l0 l (beg + x) + drL σ0 kind l (beg + (x + tnL σ0 l0 l (beg + x)))) l := ⟨k1, by rw [k2, hc], hne, by omega, rfl, d2⟩
        have hRA2 := RA_s hRA hB2
        have hxa : x ≤ x + tnL σ0 l0 l (beg + x) + drL σ0 kind l (beg + (x + tnL σ0 l0 l (beg + x))) := by omega
        refine ⟨rfl, fun m9 m10 m11 => ih (f + 1) σ2 _ m9 m10 m11 hf' (Fr_t hF hF2) hR2 hC2 (hΦ F _ _ hP hRA2 (by omega)) (fun t' l' hb hlt => ?_)⟩
        rcases huq t' l' hb hlt with q | q
        · exact upd_ok np1 (hE t' l' hb q)
        · rw [q] at hb ⊢
          obtain ⟨b1, b2, b3, b4, b5, b6⟩ := hb
          rw [b5]
          exact upd_at (Nat.succ_pos n) (SND_nn (hΦs F hP) hxa) (Nat.le_refl _)
    clear ih kk hE hR hC hP
    rw [w78_55]
    have k4' : ga σ0 9 (16 * c + plF p0 dg (f + 1)) = (l : Int) := k4
    have hp16 : plF p0 dg (f + 1) < 16 := Nat.lt_of_lt_of_le hpd1 hdg16
    have i01 : ((1 : Int) = 0) = False := eq_false (by decide)
    by_cases q : ((f + 1 : Nat) : Int) = (if beg + x < gi σ0 3462 then 1 else (dg : Int) - 1)
    · have q' : (((f + 1 : Nat) : Int) = (if beg + x < gi σ0 3462 then 1 else (dg : Int) - 1)) = True := eq_true q
      rw [if_pos q] at htn
      simp only [if_pos q] at hst
      by_cases qp : plF p0 dg f + 1 < dg
      · rw [if_pos qp] at hps
        have qp' : (dg ≤ plF p0 dg f + 1) = False := eq_false (Nat.not_le.mpr qp)
        rw [hps] at k4'
        rw [hps] at hin
        simp only [w78_0, w78_1, w78_4, w78_5, w78_8, w78_10, w78_11, w78_14, w78_16, w78_19, w78_21, w78_22, w78_25, w78_27, w78_28, w78_31, w78_32, w78_33, w78_36, w78_38, w78_39, w78_42, w78_44, w78_45, w78_46, w78_47, w78_50, w78_52, w78_53, w78_57, w78_59, w78_62, w78_64, w78_65, w78_66, w78_68, w78_71, w78_73, w78_74, w78_75, w78_78, w78_79, w78_81, w78_83, w78_85, w78_88, w78_89, w78_92, w78_93, w78_95, w78_96, w78_99, w78_101, w78_103, w78_106, w78_108, w78_110, w78_113, w78_114, w78_117, w78_119, w78_122, w78_125, w78_126, w78_129, w78_131, w78_134, w78_136, w78_137, w78_139, w78_140, w78_141, w78_144, w78_146, w78_149, w78_150, w78_152, w78_153, w78_154, w78_155, w78_158, w78_161, w78_164, w84_0, w84_1, w84_1b, w84_4, w84_5, w84_6, ↓reduceIte, okp_i, okp_r, okp_n, catS_nil, catS_cons, catV_i, catV_r, catV_l, Option.toList_some, Option.toList_none, List.cons_append, List.nil_append, gi_si, ga_si, gi_sa, ga_sa, gi_sl, ga_sl, gi_sf, ga_sf, gl_si, gl_sa, gl_sf, gl_sl, and_true, true_and, if_true, if_false, ite_true, ite_false, not_false_eq_true, not_true_eq_false, Nat.reduceEqDiff, reduceCtorEq, Nat.reduceLeDiff, Nat.reduceAdd, Nat.reduceMul, Nat.reduceLT, Int.reduceNeg, Int.reduceEq, Int.reduceLT, Int.reduceLE, eq_self, Nat.reduceSub, or_true, true_or, or_false, false_or, and_false, false_and, Int.reduceToNat, rc0, rc1, ib2, ib3, ib4, ib5, ib6, ib7, ib8, ib9, ib10, rc11, ib12, rc13, ib14, ib15, ib16, ib17, ib18, ib19, rc20, rc21, ib22, ib23, ib24, rc25, ib26, ib27, ib28, ib29, ib30, ib31, rc32, ib33, rc34, ib35, rc36, ib37, rc38, ib39, ib40, ib41, ib42, ib43, ib44, ib45, ib46, ib47, rc48, ib49, ib50, ib51, ib52, ib53, rc54, ib55, ib56, ib57, ib58, ib59, ib60, ib61, ib62, ib63, ib64, ib65, ib66, ib67, ib68, ib69, ib70, ib71, ib72, ib73, ib74, ib75, ib76, ib77, ib78, ib79, ib80, ib81, c1, ew1, ecm, qp', q', S_laneAround g1 hc8 (Nat.lt_of_lt_of_le qp hdg16), k4', c2, c3, Int.toNat_natCast, hst, S_tmin hT0 g1 (Or.inr rfl), ← htn, ew2, ew3, ew4, i01]
        refine WP_mono hin _ ?_
        rintro v σ2 ⟨rfl, hk⟩
        try simp only [w78_0, w78_1, w78_4, w78_5, w78_8, w78_10, w78_11, w78_14, w78_16, w78_19, w78_21, w78_22, w78_25, w78_27, w78_28, w78_31, w78_32, w78_33, w78_36, w78_38, w78_39, w78_42, w78_44, w78_45, w78_46, w78_47, w78_50, w78_52, w78_53, w78_57, w78_59, w78_62, w78_64, w78_65, w78_66, w78_68, w78_71, w78_73, w78_74, w78_75, w78_78, w78_79, w78_81, w78_83, w78_85, w78_88, w78_89, w78_92, w78_93, w78_95, w78_96, w78_99, w78_101, w78_103, w78_106, w78_108, w78_110, w78_113, w78_114, w78_117, w78_119, w78_122, w78_125, w78_126, w78_129, w78_131, w78_134, w78_136, w78_137, w78_139, w78_140, w78_141, w78_144, w78_146, w78_149, w78_150, w78_152, w78_153, w78_154, w78_155, w78_158, w78_161, w78_164, ↓reduceIte, okp_i, okp_r, okp_n, catS_nil, catS_cons, catV_i, catV_r, catV_l, Option.toList_some, Option.toList_none, List.cons_append, List.nil_append, gi_si, ga_si, gi_sa, ga_sa, gi_sl, ga_sl, gi_sf, ga_sf, gl_si, gl_sa, gl_sf, gl_sl, and_true, true_and, if_true, if_false, ite_true, ite_false, not_false_eq_true, not_true_eq_false, Nat.reduceEqDiff, reduceCtorEq, Nat.reduceLeDiff, Nat.reduceAdd, Nat.reduceMul, Nat.reduceLT, Int.reduceNeg, Int.reduceEq, Int.reduceLT, Int.reduceLE, eq_self, Nat.reduceSub, or_true, true_or, or_false, false_or, and_false, false_and, Int.reduceToNat, rc0, rc1, ib2, ib3, ib4, ib5, ib6, ib7, ib8, ib9, ib10, rc11, ib12, rc13, ib14, ib15, ib16, ib17, ib18, ib19, rc20, rc21, ib22, ib23, ib24, rc25, ib26, ib27, ib28, ib29, ib30, ib31, rc32, ib33, rc34, ib35, rc36, ib37, rc38, ib39, ib40, ib41, ib42, ib43, ib44, ib45, ib46, ib47, rc48, ib49, ib50, ib51, ib52, ib53, rc54, ib55, ib56, ib57, ib58, ib59, ib60, ib61, ib62, ib63, ib64, ib65, ib66, ib67, ib68, ib69, ib70, ib71, ib72, ib73, ib74, ib75, ib76, ib77, ib78, ib79, ib80, ib81, ew2]
        exact hk _ _ _
      · rw [if_neg qp] at hps
        have qp' : (dg ≤ plF p0 dg f + 1) = True := eq_true (Nat.not_lt.mp qp)
        have e0 : ((0 : Nat) : Int) = 0 := rfl
        have hla := fun post : Pst => S_laneAround (S := S) (post := post) g1 hc8 (p := 0) (by decide)
        simp only [e0] at hla
        rw [hps] at k4'
        rw [hps] at hin
        simp only [w78_0, w78_1, w78_4, w78_5, w78_8, w78_10, w78_11, w78_14, w78_16, w78_19, w78_21, w78_22, w78_25, w78_27, w78_28, w78_31, w78_32, w78_33, w78_36, w78_38, w78_39, w78_42, w78_44, w78_45, w78_46, w78_47, w78_50, w78_52, w78_53, w78_57, w78_59, w78_62, w78_64, w78_65, w78_66, w78_68, w78_71, w78_73, w78_74, w78_75, w78_78, w78_79, w78_81, w78_83, w78_85, w78_88, w78_89, w78_92, w78_93, w78_95, w78_96, w78_99, w78_101, w78_103, w78_106, w78_108, w78_110, w78_113, w78_114, w78_117, w78_119, w78_122, w78_125, w78_126, w78_129, w78_131, w78_134, w78_136, w78_137, w78_139, w78_140, w78_141, w78_144, w78_146, w78_149, w78_150, w78_152, w78_153, w78_154, w78_155, w78_158, w78_161, w78_164, w84_0, w84_1, w84_1b, w84_4, w84_5, w84_6, ↓reduceIte, okp_i, okp_r, okp_n, catS_nil, catS_cons, catV_i, catV_r, catV_l, Option.toList_some, Option.toList_none, List.cons_append, List.nil_append, gi_si, ga_si, gi_sa, ga_sa, gi_sl, ga_sl, gi_sf, ga_sf, gl_si, gl_sa, gl_sf, gl_sl, and_true, true_and, if_true, if_false, ite_true, ite_false, not_false_eq_true, not_true_eq_false, Nat.reduceEqDiff, reduceCtorEq, Nat.reduceLeDiff, Nat.reduceAdd, Nat.reduceMul, Nat.reduceLT, Int.reduceNeg, Int.reduceEq, Int.reduceLT, Int.reduceLE, eq_self, Nat.reduceSub, or_true, true_or, or_false, false_or, and_false, false_and, Int.reduceToNat, rc0, rc1, ib2, ib3, ib4, ib5, ib6, ib7, ib8, ib9, ib10, rc11, ib12, rc13, ib14, ib15, ib16, ib17, ib18, ib19, rc20, rc21, ib22, ib23, ib24, rc25, ib26, ib27, ib28, ib29, ib30, ib31, rc32, ib33, rc34, ib35, rc36, ib37, rc38, ib39, ib40, ib41, ib42, ib43, ib44, ib45, ib46, ib47, rc48, ib49, ib50, ib51, ib52, ib53, rc54, ib55, ib56, ib57, ib58, ib59, ib60, ib61, ib62, ib63, ib64, ib65, ib66, ib67, ib68, ib69, ib70, ib71, ib72, ib73, ib74, ib75, ib76, ib77, ib78, ib79, ib80, ib81, c1, ew1, ecm, qp', q', hla, k4', c2, c3, Int.toNat_natCast, hst, S_tmin hT0 g1 (Or.inr rfl), ← htn, ew2, ew3, ew4, i01]
        refine WP_mono hin _ ?_
        rintro v σ2 ⟨rfl, hk⟩
        try simp only [w78_0, w78_1, w78_4, w78_5, w78_8, w78_10, w78_11, w78_14, w78_16, w78_19, w78_21, w78_22, w78_25, w78_27, w78_28, w78_31, w78_32, w78_33, w78_36, w78_38, w78_39, w78_42, w78_44, w78_45, w78_46, w78_47, w78_50, w78_52, w78_53, w78_57, w78_59, w78_62, w78_64, w78_65, w78_66, w78_68, w78_71, w78_73, w78_74, w78_75, w78_78, w78_79, w78_81, w78_83, w78_85, w78_88, w78_89, w78_92, w78_93, w78_95, w78_96, w78_99, w78_101, w78_103, w78_106, w78_108, w78_110, w78_113, w78_114, w78_117, w78_119, w78_122, w78_125, w78_126, w78_129, w78_131, w78_134, w78_136, w78_137, w78_139, w78_140, w78_141, w78_144, w78_146, w78_149, w78_150, w78_152, w78_153, w78_154, w78_155, w78_158, w78_161, w78_164, ↓reduceIte, okp_i, okp_r, okp_n, catS_nil, catS_cons, catV_i, catV_r, catV_l, Option.toList_some, Option.toList_none, List.cons_append, List.nil_append, gi_si, ga_si, gi_sa, ga_sa, gi_sl, ga_sl, gi_sf, ga_sf, gl_si, gl_sa, gl_sf, gl_sl, and_true, true_and, if_true, if_false, ite_true, ite_false, not_false_eq_true, not_true_eq_false, Nat.reduceEqDiff, reduceCtorEq, Nat.reduceLeDiff, Nat.reduceAdd, Nat.reduceMul, Nat.reduceLT, Int.reduceNeg, Int.reduceEq, Int.reduceLT, Int.reduceLE, eq_self, Nat.reduceSub, or_true, true_or, or_false, false_or, and_false, false_and, Int.reduceToNat, rc0, rc1, ib2, ib3, ib4, ib5, ib6, ib7, ib8, ib9, ib10, rc11, ib12, rc13, ib14, ib15, ib16, ib17, ib18, ib19, rc20, rc21, ib22, ib23, ib24, rc25, ib26, ib27, ib28, ib29, ib30, ib31, rc32, ib33, rc34, ib35, rc36, ib37, rc38, ib39, ib40, ib41, ib42, ib43, ib44, ib45, ib46, ib47, rc48, ib49, ib50, ib51, ib52, ib53, rc54, ib55, ib56, ib57, ib58, ib59, ib60, ib61, ib62, ib63, ib64, ib65, ib66, ib67, ib68, ib69, ib70, ib71, ib72, ib73, ib74, ib75, ib76, ib77, ib78, ib79, ib80, ib81, ew2]
        exact hk _ _ _
    · have q' : (((f + 1 : Nat) : Int) = (if beg + x < gi σ0 3462 then 1 else (dg : Int) - 1)) = False := eq_false q
      rw [if_neg q] at htn
      simp only [if_neg q] at hst
      by_cases qp : plF p0 dg f + 1 < dg
      · rw [if_pos qp] at hps
        have qp' : (dg ≤ plF p0 dg f + 1) = False := eq_false (Nat.not_le.mpr qp)
        rw [hps] at k4'
        rw [hps] at hin
        simp only [w78_0, w78_1, w78_4, w78_5, w78_8, w78_10, w78_11, w78_14, w78_16, w78_19, w78_21, w78_22, w78_25, w78_27, w78_28, w78_31, w78_32, w78_33, w78_36, w78_38, w78_39, w78_42, w78_44, w78_45, w78_46, w78_47, w78_50, w78_52, w78_53, w78_57, w78_59, w78_62, w78_64, w78_65, w78_66, w78_68, w78_71, w78_73, w78_74, w78_75, w78_78, w78_79, w78_81, w78_83, w78_85, w78_88, w78_89, w78_92, w78_93, w78_95, w78_96, w78_99, w78_101, w78_103, w78_106, w78_108, w78_110, w78_113, w78_114, w78_117, w78_119, w78_122, w78_125, w78_126, w78_129, w78_131, w78_134, w78_136, w78_137, w78_139, w78_140, w78_141, w78_144, w78_146, w78_149, w78_150, w78_152, w78_153, w78_154, w78_155, w78_158, w78_161, w78_164, w84_0, w84_1, w84_1b, w84_4, w84_5, w84_6, ↓reduceIte, okp_i, okp_r, okp_n, catS_nil, catS_cons, catV_i, catV_r, catV_l, Option.toList_some, Option.toList_none, List.cons_append, List.nil_append, gi_si, ga_si, gi_sa, ga_sa, gi_sl, ga_sl, gi_sf, ga_sf, gl_si, gl_sa, gl_sf, gl_sl, and_true, true_and, if_true, if_false, ite_true, ite_false, not_false_eq_true, not_true_eq_false, Nat.reduceEqDiff, reduceCtorEq, Nat.reduceLeDiff, Nat.reduceAdd, Nat.reduceMul, Nat.reduceLT, Int.reduceNeg, Int.reduceEq, Int.reduceLT, Int.reduceLE, eq_self, Nat.reduceSub, or_true, true_or, or_false, false_or, and_false, false_and, Int.reduceToNat, rc0, rc1, ib2, ib3, ib4, ib5, ib6, ib7, ib8, ib9, ib10, rc11, ib12, rc13, ib14, ib15, ib16, ib17, ib18, ib19, rc20, rc21, ib22, ib23, ib24, rc25, ib26, ib27, ib28, ib29, ib30, ib31, rc32, ib33, rc34, ib35, rc36, ib37, rc38, ib39, ib40, ib41, ib42, ib43, ib44, ib45, ib46, ib47, rc48, ib49, ib50, ib51, ib52, ib53, rc54, ib55, ib56, ib57, ib58, ib59, ib60, ib61, ib62, ib63, ib64, ib65, ib66, ib67, ib68, ib69, ib70, ib71, ib72, ib73, ib74, ib75, ib76, ib77, ib78, ib79, ib80, ib81, c1, ew1, ecm, qp', q', S_laneAround g1 hc8 (Nat.lt_of_lt_of_le qp hdg16), k4', c2, c3, Int.toNat_natCast, hst, S_tmin hT0 g1 (Or.inl rfl), ← htn, ew2, ew3, ew4, i01]
        refine WP_mono hin _ ?_
        rintro v σ2 ⟨rfl, hk⟩
        try simp only [w78_0, w78_1, w78_4, w78_5, w78_8, w78_10, w78_11, w78_14, w78_16, w78_19, w78_21, w78_22, w78_25, w78_27, w78_28, w78_31, w78_32, w78_33, w78_36, w78_38, w78_39, w78_42, w78_44, w78_45, w78_46, w78_47, w78_50, w78_52, w78_53, w78_57, w78_59, w78_62, w78_64, w78_65, w78_66, w78_68, w78_71, w78_73, w78_74, w78_75, w78_78, w78_79, w78_81, w78_83, w78_85, w78_88, w78_89, w78_92, w78_93, w78_95, w78_96, w78_99, w78_101, w78_103, w78_106, w78_108, w78_110, w78_113, w78_114, w78_117, w78_119, w78_122, w78_125, w78_126, w78_129, w78_131, w78_134, w78_136, w78_137, w78_139, w78_140, w78_141, w78_144, w78_146, w78_149, w78_150, w78_152, w78_153, w78_154, w78_155, w78_158, w78_161, w78_164, ↓reduceIte, okp_i, okp_r, okp_n, catS_nil, catS_cons, catV_i, catV_r, catV_l, Option.toList_some, Option.toList_none, List.cons_append, List.nil_append, gi_si, ga_si, gi_sa, ga_sa, gi_sl, ga_sl, gi_sf, ga_sf, gl_si, gl_sa, gl_sf, gl_sl, and_true, true_and, if_true, if_false, ite_true, ite_false, not_false_eq_true, not_true_eq_false, Nat.reduceEqDiff, reduceCtorEq, Nat.reduceLeDiff, Nat.reduceAdd, Nat.reduceMul, Nat.reduceLT, Int.reduceNeg, Int.reduceEq, Int.reduceLT, Int.reduceLE, eq_self, Nat.reduceSub, or_true, true_or, or_false, false_or, and_false, false_and, Int.reduceToNat, rc0, rc1, ib2, ib3, ib4, ib5, ib6, ib7, ib8, ib9, ib10, rc11, ib12, rc13, ib14, ib15, ib16, ib17, ib18, ib19, rc20, rc21, ib22, ib23, ib24, rc25, ib26, ib27, ib28, ib29, ib30, ib31, rc32, ib33, rc34, ib35, rc36, ib37, rc38, ib39, ib40, ib41, ib42, ib43, ib44, ib45, ib46, ib47, rc48, ib49, ib50, ib51, ib52, ib53, rc54, ib55, ib56, ib57, ib58, ib59, ib60, ib61, ib62, ib63, ib64, ib65, ib66, ib67, ib68, ib69, ib70, ib71, ib72, ib73, ib74, ib75, ib76, ib77, ib78, ib79, ib80, ib81, ew2]
        exact hk _ _ _
      · rw [if_neg qp] at hps
        have qp' : (dg ≤ plF p0 dg f + 1) = True := eq_true (Nat.not_lt.mp qp)
        have e0 : ((0 : Nat) : Int) = 0 := rfl
        have hla := fun post : Pst => S_laneAround (S := S) (post := post) g1 hc8 (p := 0) (by decide)
        simp only [e0] at hla
        rw [hps] at k4'
        rw [hps] at hin
        simp only [w78_0, w78_1, w78_4, w78_5, w78_8, w78_10, w78_11, w78_14, w78_16, w78_19, w78_21, w78_22, w78_25, w78_27, w78_28, w78_31, w78_32, w78_33, w78_36, w78_38, w78_39, w78_42, w78_44, w78_45, w78_46, w78_47, w78_50, w78_52, w78_53, w78_57, w78_59, w78_62, w78_64, w78_65, w78_66, w78_68, w78_71, w78_73, w78_74, w78_75, w78_78, w78_79, w78_81, w78_83, w78_85, w78_88, w78_89, w78_92, w78_93, w78_95, w78_96, w78_99, w78_101, w78_103, w78_106, w78_108, w78_110, w78_113, w78_114, w78_117, w78_119, w78_122, w78_125, w78_126, w78_129, w78_131, w78_134, w78_136, w78_137, w78_139, w78_140, w78_141, w78_144, w78_146, w78_149, w78_150, w78_152, w78_153, w78_154, w78_155, w78_158, w78_161, w78_164, w84_0, w84_1, w84_1b, w84_4, w84_5, w84_6, ↓reduceIte, okp_i, okp_r, okp_n, catS_nil, catS_cons, catV_i, catV_r, catV_l, Option.toList_some, Option.toList_none, List.cons_append, List.nil_append, gi_si, ga_si, gi_sa, ga_sa, gi_sl, ga_sl, gi_sf, ga_sf, gl_si, gl_sa, gl_sf, gl_sl, and_true, true_and, if_true, if_false, ite_true, ite_false, not_false_eq_true, not_true_eq_false, Nat.reduceEqDiff, reduceCtorEq, Nat.reduceLeDiff, Nat.reduceAdd, Nat.reduceMul, Nat.reduceLT, Int.reduceNeg, Int.reduceEq, Int.reduceLT, Int.reduceLE, eq_self, Nat.reduceSub, or_true, true_or, or_false, false_or, and_false, false_and, Int.reduceToNat, rc0, rc1, ib2, ib3, ib4, ib5, ib6, ib7, ib8, ib9, ib10, rc11, ib12, rc13, ib14, ib15, ib16, ib17, ib18, ib19, rc20, rc21, ib22, ib23, ib24, rc25, ib26, ib27, ib28, ib29, ib30, ib31, rc32, ib33, rc34, ib35, rc36, ib37, rc38, ib39, ib40, ib41, ib42, ib43, ib44, ib45, ib46, ib47, rc48, ib49, ib50, ib51, ib52, ib53, rc54, ib55, ib56, ib57, ib58, ib59, ib60, ib61, ib62, ib63, ib64, ib65, ib66, ib67, ib68, ib69, ib70, ib71, ib72, ib73, ib74, ib75, ib76, ib77, ib78, ib79, ib80, ib81, c1, ew1, ecm, qp', q', hla, k4', c2, c3, Int.toNat_natCast, hst, S_tmin hT0 g1 (Or.inl rfl), ← htn, ew2, ew3, ew4, i01]
        refine WP_mono hin _ ?_
        rintro v σ2 ⟨rfl, hk⟩
        try simp only [w78_0, w78_1, w78_4, w78_5, w78_8, w78_10, w78_11, w78_14, w78_16, w78_19, w78_21, w78_22, w78_25, w78_27, w78_28, w78_31, w78_32, w78_33, w78_36, w78_38, w78_39, w78_42, w78_44, w78_45, w78_46, w78_47, w78_50, w78_52, w78_53, w78_57, w78_59, w78_62, w78_64, w78_65, w78_66, w78_68, w78_71, w78_73, w78_74, w78_75, w78_78, w78_79, w78_81, w78_83, w78_85, w78_88, w78_89, w78_92, w78_93, w78_95, w78_96, w78_99, w78_101, w78_103, w78_106, w78_108, w78_110, w78_113, w78_114, w78_117, w78_119, w78_122, w78_125, w78_126, w78_129, w78_131, w78_134, w78_136, w78_137, w78_139, w78_140, w78_141, w78_144, w78_146, w78_149, w78_150, w78_152, w78_153, w78_154, w78_155, w78_158, w78_161, w78_164, ↓reduceIte, okp_i, okp_r, okp_n, catS_nil, catS_cons, catV_i, catV_r, catV_l, Option.toList_some, Option.toList_none, List.cons_append, List.nil_append, gi_si, ga_si, gi_sa, ga_sa, gi_sl, ga_sl, gi_sf, ga_sf, gl_si, gl_sa, gl_sf, gl_sl, and_true, true_and, if_true, if_false, ite_true, ite_false, not_false_eq_true, not_true_eq_false, Nat.reduceEqDiff, reduceCtorEq, Nat.reduceLeDiff, Nat.reduceAdd, Nat.reduceMul, Nat.reduceLT, Int.reduceNeg, Int.reduceEq, Int.reduceLT, Int.reduceLE, eq_self, Nat.reduceSub, or_true, true_or, or_false, false_or, and_false, false_and, Int.reduceToNat, rc0, rc1, ib2, ib3, ib4, ib5, ib6, ib7, ib8, ib9, ib10, rc11, ib12, rc13, ib14, ib15, ib16, ib17, ib18, ib19, rc20, rc21, ib22, ib23, ib24, rc25, ib26, ib27, ib28, ib29, ib30, ib31, rc32, ib33, rc34, ib35, rc36, ib37, rc38, ib39, ib40, ib41, ib42, ib43, ib44, ib45, ib46, ib47, rc48, ib49, ib50, ib51, ib52, ib53, rc54, ib55, ib56, ib57, ib58, ib59, ib60, ib61, ib62, ib63, ib64, ib65, ib66, ib67, ib68, ib69, ib70, ib71, ib72, ib73, ib74, ib75, ib76, ib77, ib78, ib79, ib80, ib81, ew2]
        exact hk _ _ _
end LEAVE2
