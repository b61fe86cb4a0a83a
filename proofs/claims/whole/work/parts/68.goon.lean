/-! a minute of the class's search -/
def nsF (y : Int) : Nat := (Int32.ofInt y).toUInt32.toNat
theorem ns_bit {y : Int} {l : Nat} (hl : l < 32) : i2 (· &&& ·) (i2 iushrF y (l : Int)) 1 = ((nsF y / 2 ^ l % 2 : Nat) : Int) := by
  have hk : ∀ l : Fin 32, (((Int32.ofInt (l.val : Int)).toUInt32 &&& Int32.toUInt32 31).toNat % 32 = l.val) := by decide +kernel
  have hk := hk ⟨l, hl⟩
  simp only at hk
  unfold i2 iushrF
  rw [Int32.ofInt_toInt, ← Int32.toInt_toBitVec, Int32.toBitVec_and]
  have e1 : ((Int32.ofInt y).toUInt32 >>> ((Int32.ofInt (l : Int)).toUInt32 &&& Int32.toUInt32 31)).toInt32.toBitVec = ((Int32.ofInt y).toUInt32 >>> ((Int32.ofInt (l : Int)).toUInt32 &&& Int32.toUInt32 31)).toBitVec := rfl
  have e2 : (Int32.ofInt 1).toBitVec = 1#32 := by decide
  rw [e1, e2]
  have e3 : (((Int32.ofInt y).toUInt32 >>> ((Int32.ofInt (l : Int)).toUInt32 &&& Int32.toUInt32 31)).toBitVec &&& 1#32).toNat = nsF y / 2 ^ l % 2 := by
    rw [BitVec.toNat_and]
    show (((Int32.ofInt y).toUInt32 >>> ((Int32.ofInt (l : Int)).toUInt32 &&& Int32.toUInt32 31)).toNat &&& 1) = _
    rw [UInt32.toNat_shiftRight, hk, Nat.shiftRight_eq_div_pow, Nat.and_one_is_mod]
    rfl
  rw [BitVec.toInt_eq_toNat_of_lt (by rw [e3]; omega), e3]
theorem ns_or {y w : Int} : nsF (i2 (· ||| ·) y w) = nsF y ||| nsF w := by
  unfold nsF i2
  rw [Int32.ofInt_toInt]
  show ((Int32.ofInt y) ||| (Int32.ofInt w)).toBitVec.toNat = _
  rw [Int32.toBitVec_or, BitVec.toNat_or]
  rfl
theorem ns_shl : ∀ j : Fin 32, nsF (i2 ishlF 1 (j.val : Int)) = 2 ^ j.val := by decide +kernel
theorem ns_0 : nsF 0 = 0 := by decide
/-- lane l is settled -/
def bitN (y : Int) (l : Nat) : Prop := (nsF y).testBit l = true
theorem bit_z {y : Int} {l : Nat} (hl : l < 32) : i2 (· &&& ·) (i2 iushrF y (l : Int)) 1 = 0 ↔ ¬ bitN y l := by
  rw [ns_bit hl]
  unfold bitN
  rw [Nat.testBit_eq_decide_div_mod_eq]
  simp only [decide_eq_true_eq]
  omega
theorem bit_or0 {y : Int} {l : Nat} : bitN (i2 (· ||| ·) y 0) l ↔ bitN y l := by
  unfold bitN
  rw [ns_or, ns_0, Nat.or_zero]
theorem bit_or1 {y : Int} {l j : Nat} (hj : j < 32) (h : bitN (i2 (· ||| ·) y (i2 ishlF 1 (j : Int))) l) : bitN y l ∨ l = j := by
  unfold bitN at *
  have e : nsF (i2 ishlF 1 (j : Int)) = 2 ^ j := ns_shl ⟨j, hj⟩
  rw [ns_or, e, Nat.testBit_or, Bool.or_eq_true] at h
  rcases h with h | h
  · exact Or.inl h
  · rw [Nat.testBit_two_pow] at h
    simp only [decide_eq_true_eq] at h
    exact Or.inr h.symm
theorem bit_0 {l : Nat} : ¬ bitN 0 l := by
  unfold bitN
  rw [ns_0, Nat.zero_testBit]
  decide
theorem ans_early {A : Int → Nat → Prop} {B : Int → Nat → Int → Nat → Prop} {M : Nat → Prop} {x T N : Int} {j : Nat} (h : ANS A B M x j T N) : ∀ n t l, t < x → M l → ¬ RA A B n t l := by
  rcases h with ⟨-, -, h3⟩ | ⟨-, -, h3, -⟩
  · exact fun n t l ht hm => h3 n t l (Or.inl ht) hm
  · exact h3
theorem wr_m1 {y : Int} {N : Nat} (h : 0 ≤ y) (h1 : y ≤ (N : Int)) (hN : N = 19520) : wr (y - 1) = y - 1 := wr_id (by omega) (by omega)
section GOON
variable {S : Scr} {σ σ0 : Sto} {post : Pst} {kind frm to beg x st : Int} {D : Int → Nat → Prop}
theorem S_leave (hT0 : InvT σ0) (hA0 : InvA σ0) (hB0 : InvB σ0) (hbeg : 0 ≤ beg ∧ beg ≤ 1439) (hx : 1 ≤ x ∧ x ≤ 3000) {l0 n : Nat} (hl0 : ((l0 / 2 : Nat) : Int) < gi σ0 3461) (hRA : RA (AS σ0 kind frm beg) (BS σ0 kind beg) n x l0) {Φ : (Int → Nat → Int) → Prop} (hΦ : ∀ F a b, Φ F → RA (AS σ0 kind frm beg) (BS σ0 kind beg) (n + 1) a b → x < a → Φ (updF F a b ((n + 1 : Nat) : Int))) (hΦs : ∀ F, Φ F → SND (AS σ0 kind frm beg) (BS σ0 kind beg) F x) (g0 : GS σ0 σ) (hkm : gi σ 2059 = beg) (hTN : TBL σ0 kind σ 35 (beg + x + gi σ0 3463)) (hTF : TBL σ0 kind σ 37 (beg + x + gi σ0 3464)) {F : Int → Nat → Int} (hR : RelC x σ F) (hC : CNT σ) (hP : Φ F) (kk : ∀ σ' F, Fr [2053] [33] σ σ' → RelC x σ' F → CNT σ' → Φ F → (∀ t l, BS σ0 kind beg x l0 t l → OKc D F (n + 1) t l) → post none σ') : WP S 78 0 [some (vr 32), some (vi (l0 : Int)), some (vi x), some (vi (n : Int)), none, none, none, none, none, none, none, none] [] σ post := by
  obtain ⟨c, hc8, hc⟩ := ds_bd hT0 hl0
  have hT := GS_T hT0 g0
  have hA := GS_A hA0 g0
  have k61 : gi σ 3461 = gi σ0 3461 := g0.1 3461 (by decide)
  have k55 : ga σ 55 = ga σ0 55 := g0.2 55 (by decide)
  have k56 : ga σ 56 = ga σ0 56 := g0.2 56 (by decide)
  have hl32 : l0 < 32 := by have t7 := hT0.2.2.2.2.2.2.1; omega
  obtain ⟨d1, -⟩ := dv2l hl32
  have hpl := fun post : Pst => S_placeAt (S := S) (post := post) (c := (c : Int)) hT hA (s := l0 / 2) (by rw [k61]; exact hl0) (by rw [k55, k56]; exact ds_at hc)
  simp only [k55, k56] at hpl
  have ew : wr (beg + x) = beg + x := wr_id (by omega) (by omega)
  have c6 : ((2 : Int) = 0) = False := eq_false (by decide)
  have hp0d := rkF_lt (f := ga σ0 55) (g := ga σ0 56) (c := (c : Int)) (ds_at hc) (show l0 / 2 < (gi σ0 3461).toNat by omega)
  obtain ⟨dg, hdg⟩ : ∃ dg, rkF (ga σ0 55) (ga σ0 56) (c : Int) (gi σ0 3461).toNat = dg := ⟨_, rfl⟩
  obtain ⟨p0, hp0⟩ : ∃ p0, rkF (ga σ0 55) (ga σ0 56) (c : Int) (l0 / 2) = p0 := ⟨_, rfl⟩
  have hdeg := fun post : Pst => S_degree (S := S) (post := post) hA0 g0 hc8
  have hns := fun post : Pst => S_nearStep (S := S) (post := post) (m := beg + x) hT0 hA0 g0 hc8
  simp only [hdg] at hdeg hns
  simp only [hp0] at hpl
  rw [hdg, hp0] at hp0d
  simp only [w78_0, w78_1, w78_4, w78_5, w78_8, w78_10, w78_11, w78_14, w78_16, w78_19, w78_21, w78_22, w78_25, w78_27, w78_28, w78_31, w78_32, w78_33, w78_36, w78_38, w78_39, w78_42, w78_44, w78_45, w78_46, w78_47, w78_50, w78_52, w78_53, w78_57, w78_59, w78_62, w78_64, w78_65, w78_66, w78_68, w78_71, w78_73, w78_74, w78_75, w78_78, w78_79, w78_81, w78_83, w78_85, w78_88, w78_89, w78_92, w78_93, w78_95, w78_96, w78_99, w78_101, w78_103, w78_106, w78_108, w78_110, w78_113, w78_114, w78_117, w78_119, w78_122, w78_125, w78_126, w78_129, w78_131, w78_134, w78_136, w78_137, w78_139, w78_140, w78_141, w78_144, w78_146, w78_149, w78_150, w78_152, w78_153, w78_154, w78_155, w78_158, w78_161, w78_164, ↓reduceIte, okp_i, okp_r, okp_n, catS_nil, catS_cons, catV_i, catV_r, catV_l, Option.toList_some, Option.toList_none, List.cons_append, List.nil_append, gi_si, ga_si, gi_sa, ga_sa, gi_sl, ga_sl, gi_sf, ga_sf, gl_si, gl_sa, gl_sf, gl_sl, and_true, true_and, if_true, if_false, ite_true, ite_false, not_false_eq_true, not_true_eq_false, Nat.reduceEqDiff, reduceCtorEq, Nat.reduceLeDiff, Nat.reduceAdd, Nat.reduceMul, Nat.reduceLT, Int.reduceNeg, Int.reduceEq, Int.reduceLT, Int.reduceLE, eq_self, Nat.reduceSub, or_true, true_or, or_false, false_or, and_false, false_and, Int.reduceToNat, rc0, rc1, ib2, ib3, ib4, ib5, ib6, ib7, ib8, ib9, ib10, rc11, ib12, rc13, ib14, ib15, ib16, ib17, ib18, ib19, rc20, rc21, ib22, ib23, ib24, rc25, ib26, ib27, ib28, ib29, ib30, ib31, rc32, ib33, rc34, ib35, rc36, ib37, rc38, ib39, ib40, ib41, ib42, ib43, ib44, ib45, ib46, ib47, rc48, ib49, ib50, ib51, ib52, ib53, rc54, ib55, ib56, ib57, ib58, ib59, ib60, ib61, ib62, ib63, ib64, ib65, ib66, ib67, ib68, ib69, ib70, ib71, ib72, ib73, ib74, ib75, ib76, ib77, ib78, ib79, ib80, ib81, S_laneEnd hT0 g0 hl0, hc, hdeg, hkm, ew, hns, c6, d1, hpl]
  have e0 : plF p0 dg 0 = p0 := by unfold plF; rw [if_pos (by omega)]; rfl
  have := L_leave (S := S) (post := post) hT0 hA0 hB0 hbeg hx hl0 hc8 hc hdg hp0 hRA hΦ hΦs g0 hTN hTF kk (dg - 1) 0 σ F none none none (by omega) Fr_r hR hC hP (fun t l hb hlt => by
    have ho := hb.2.1
    rw [hc] at ho
    have hf0 : fiF p0 dg (rkF (ga σ0 55) (ga σ0 56) (c : Int) (l / 2)) = 0 := by omega
    have h2 := rkF_lt (f := ga σ0 55) (g := ga σ0 56) (c := (c : Int)) (og_at hT0 hb.1 ho) (show l / 2 < (gi σ0 3461).toNat by have := hb.1; omega)
    rw [hdg] at h2
    have e2 := pl_fi hp0d h2
    rw [hf0, e0, ← hp0] at e2
    exact absurd (rkF_inj (ds_at hc) (og_at hT0 hb.1 ho) e2).symm hb.2.2.1)
  rw [e0] at this
  exact this
/-- what holds in the midst of a minute -/
def GI (σ0 : Sto) (kind frm to beg st x : Int) (j : Nat) (σ : Sto) (F : Int → Nat → Int) : Prop :=
  RelC x σ F ∧ CNT σ ∧ SND (AS σ0 kind frm beg) (BS σ0 kind beg) F x ∧ CG (AS σ0 kind frm beg) (BS σ0 kind beg) (DS σ0 kind frm beg st) F x j ∧
  (gi σ 2060 = -1 → CN (AS σ0 kind frm beg) (BS σ0 kind beg) (DS σ0 kind frm beg st) F (Qj x j) x) ∧
  ANS (AS σ0 kind frm beg) (BS σ0 kind beg) (fun l => dsL σ0 l = to) x j (gi σ 2060) (gi σ 2061) ∧
  (∀ l, bitN (gi σ 2054) l → ∃ t0 n0, st ≤ beg + t0 ∧ RA (AS σ0 kind frm beg) (BS σ0 kind beg) n0 t0 l ∧ (t0 < x ∨ (t0 = x ∧ l < j))) ∧
  ∀ l, l < j → F x l = 0
theorem L_goOn (hT0 : InvT σ0) (hA0 : InvA σ0) (hB0 : InvB σ0) (hS : Stdy σ0 st) (hbeg : 0 ≤ beg ∧ beg ≤ 1439) (hx : 1 ≤ x ∧ x ≤ 3000) {sb : Int} (hsb : sb = 0 ∨ sb = 1) (hsb1 : sb = 1 → st ≤ beg + x) (g0 : GS σ0 σ) (hkm : gi σ 2059 = beg) (hkt : gi σ 2058 = to) (hTN : TBL σ0 kind σ 35 (beg + x + gi σ0 3463)) (hTF : TBL σ0 kind σ 37 (beg + x + gi σ0 3464)) (kk : ∀ σ' F, Fr [2053, 2054, 2060, 2061] [33] σ σ' → GI σ0 kind frm to beg st x (2 * (gi σ0 3461).toNat) σ' F → post none σ') : ∀ (r j : Nat) (σ1 : Sto) (F : Int → Nat → Int) (l6 : Option AV), j + r = 2 * (gi σ0 3461).toNat → Fr [2053, 2054, 2060, 2061] [33] σ σ1 → GI σ0 kind frm to beg st x j σ1 F → WP S 76 75 [some (vr 32), some (vi x), some (vi sb), some (vi ((x.toNat % 610 * 32 : Nat) : Int)), some (vi ((2 * (gi σ0 3461).toNat : Nat) : Int)), some (vi (j : Int)), l6] [] σ1 post := by
  have t7 := hT0.2.2.2.2.2.2.1
  intro r
  induction r with
  | zero =>
    intro j σ1 F l6 hj hF hI
    have e : j = 2 * (gi σ0 3461).toNat := hj
    have c1 : (((2 * (gi σ0 3461).toNat : Nat) : Int) ≤ (j : Int)) = True := eq_true (by omega)
    rw [w76_75]
    simp only [w76_0, w76_1, w76_4, w76_5, w76_8, w76_9, w76_12, w76_13, w76_14, w76_15, w76_18, w76_19, w76_22, w76_23, w76_26, w76_27, w76_30, w76_31, w76_34, w76_35, w76_38, w76_39, w76_40, w76_41, w76_44, w76_45, w76_48, w76_49, w76_52, w76_53, w76_56, w76_57, w76_59, w76_60, w76_61, w76_62, w76_63, w76_66, w76_69, w76_70, w76_72, w76_73, w76_77, w76_79, w76_82, w76_83, w76_86, w76_87, w76_89, w76_90, w76_91, w76_93, w76_95, w76_98, w76_101, w76_102, w76_105, w76_106, w76_108, w76_109, w76_110, w76_111, w76_112, w76_112r, w76_113, w76_116, w76_117, w76_118, w76_121, w76_122, w76_125, w76_127, w76_130, w76_131, w76_134, w76_137, w76_138, w76_139, w76_141, w76_144, w76_147, w76_148, w76_151, w76_153, w76_154, w76_155, w76_156, w76_159, w76_160, w76_162, w76_163, w76_165, w76_168, w76_169, w76_169r, w76_170, w76_173, w76_174, w76_177, w76_178, w76_180, w76_181, w76_184, w76_185, w76_186, w76_189, w76_192, w76_195, ↓reduceIte, okp_i, okp_r, okp_n, catS_nil, catS_cons, catV_i, catV_r, catV_l, Option.toList_some, Option.toList_none, List.cons_append, List.nil_append, gi_si, ga_si, gi_sa, ga_sa, gi_sl, ga_sl, gi_sf, ga_sf, gl_si, gl_sa, gl_sf, gl_sl, and_true, true_and, if_true, if_false, ite_true, ite_false, not_false_eq_true, not_true_eq_false, Nat.reduceEqDiff, reduceCtorEq, Nat.reduceLeDiff, Nat.reduceAdd, Nat.reduceMul, Nat.reduceLT, Int.reduceNeg, Int.reduceEq, Int.reduceLT, Int.reduceLE, eq_self, Nat.reduceSub, or_true, true_or, or_false, false_or, and_false, false_and, Int.reduceToNat, rc0, rc1, ib2, ib3, ib4, ib5, ib6, ib7, ib8, ib9, ib10, rc11, ib12, rc13, ib14, ib15, ib16, ib17, ib18, ib19, rc20, rc21, ib22, ib23, ib24, rc25, ib26, ib27, ib28, ib29, ib30, ib31, rc32, ib33, rc34, ib35, rc36, ib37, rc38, ib39, ib40, ib41, ib42, ib43, ib44, ib45, ib46, ib47, rc48, ib49, ib50, ib51, ib52, ib53, rc54, ib55, ib56, ib57, ib58, ib59, ib60, ib61, ib62, ib63, ib64, ib65, ib66, ib67, ib68, ib69, ib70, ib71, ib72, ib73, ib74, ib75, ib76, ib77, ib78, ib79, ib80, ib81, c1]
    rw [e] at hI
    exact kk σ1 F hF hI
  | succ r ih =>
    intro j σ1 F l6 hj hF hI
    have g1 : GS σ0 σ1 := Fr_t g0 (Fr_m hF (by decide) (by decide))
    have hl32 : j < 32 := by omega
    have hj2 : ((j / 2 : Nat) : Int) < gi σ0 3461 := by omega
    have hj' : j + 1 + r = 2 * (gi σ0 3461).toNat := by omega
    have c1 : (((2 * (gi σ0 3461).toNat : Nat) : Int) ≤ (j : Int)) = False := eq_false (by omega)
    obtain ⟨xa, hxa⟩ : ∃ xa : Nat, x = (xa : Int) := ⟨x.toNat, by omega⟩
    have hxt : x.toNat = xa := by omega
    obtain ⟨-, -, i3, i4, i5⟩ := ixR (a := xa) (l := j) (by omega) hl32
    have e1 : wr ((j : Int) + 1) = ((j + 1 : Nat) : Int) := wr_t1 (Nat.le_of_lt (Nat.lt_trans hl32 (by decide)))
    obtain ⟨hR, hC, hSn, hCG, hCN, hAn, hSt, hZ⟩ := hI
    have hold := hR.1 x j (Int.le_refl _) (by omega) hl32
    rw [hxt] at hold ⊢
    have k58 : gi σ1 2058 = to := by rw [hF.1 2058 (by decide)]; exact hkt
    have hend : ∀ σ2 F2 y6, Fr [2053, 2054, 2060, 2061] [33] σ σ2 → GI σ0 kind frm to beg st x (j + 1) σ2 F2 → WP S 76 75 [some (vr 32), some (vi x), some (vi sb), some (vi ((xa % 610 * 32 : Nat) : Int)), some (vi ((2 * (gi σ0 3461).toNat : Nat) : Int)), some (vi ((j + 1 : Nat) : Int)), y6] [] σ2 post := by
      intro σ2 F2 y6 a1 a2
      have := ih (j + 1) σ2 F2 y6 hj' a1 a2
      rw [hxt] at this
      exact this
    clear ih kk
    have hdI := dI_S (kind := kind) (frm := frm) (beg := beg) hT0 hB0 hS
    have hearly := ans_early hAn
    -- worse states don't arrive
    have hnoD : dsL σ0 j = to → DS σ0 kind frm beg st x j → False := fun hm hd => by
      obtain ⟨t0, n0, h1, h2⟩ := dE_S x j hd
      exact hearly n0 t0 j h1 hm h2
    have hStj : ∀ y, (∀ l, bitN y l → bitN (gi σ1 2054) l) → ∀ l, bitN y l → ∃ t0 n0, st ≤ beg + t0 ∧ RA (AS σ0 kind frm beg) (BS σ0 kind beg) n0 t0 l ∧ (t0 < x ∨ (t0 = x ∧ l < j + 1)) := fun y hy l hb => by
      obtain ⟨t0, n0, h1, h2, h3⟩ := hSt l (hy l hb)
      exact ⟨t0, n0, h1, h2, h3.imp id (fun h => ⟨h.1, Nat.lt_succ_of_lt h.2⟩)⟩
    rw [w76_75]
    by_cases q0 : F x j = 0
    · have q0' : (ga σ1 33 (xa % 610 * 32 + j) = 0) = True := eq_true (by rw [hold]; exact q0)
      have hdom : ∀ n, RA (AS σ0 kind frm beg) (BS σ0 kind beg) n x j → DS σ0 kind frm beg st x j := fun n hr => by
        rcases hCG n j (Nat.le_refl j) hr with u | ⟨u1, u2⟩
        · exact u
        · rw [q0] at u1
          exact absurd u1 (by decide)
      simp only [w76_0, w76_1, w76_4, w76_5, w76_8, w76_9, w76_12, w76_13, w76_14, w76_15, w76_18, w76_19, w76_22, w76_23, w76_26, w76_27, w76_30, w76_31, w76_34, w76_35, w76_38, w76_39, w76_40, w76_41, w76_44, w76_45, w76_48, w76_49, w76_52, w76_53, w76_56, w76_57, w76_59, w76_60, w76_61, w76_62, w76_63, w76_66, w76_69, w76_70, w76_72, w76_73, w76_77, w76_79, w76_82, w76_83, w76_86, w76_87, w76_89, w76_90, w76_91, w76_93, w76_95, w76_98, w76_101, w76_102, w76_105, w76_106, w76_108, w76_109, w76_110, w76_111, w76_112, w76_112r, w76_113, w76_116, w76_117, w76_118, w76_121, w76_122, w76_125, w76_127, w76_130, w76_131, w76_134, w76_137, w76_138, w76_139, w76_141, w76_144, w76_147, w76_148, w76_151, w76_153, w76_154, w76_155, w76_156, w76_159, w76_160, w76_162, w76_163, w76_165, w76_168, w76_169, w76_169r, w76_170, w76_173, w76_174, w76_177, w76_178, w76_180, w76_181, w76_184, w76_185, w76_186, w76_189, w76_192, w76_195, ↓reduceIte, okp_i, okp_r, okp_n, catS_nil, catS_cons, catV_i, catV_r, catV_l, Option.toList_some, Option.toList_none, List.cons_append, List.nil_append, gi_si, ga_si, gi_sa, ga_sa, gi_sl, ga_sl, gi_sf, ga_sf, gl_si, gl_sa, gl_sf, gl_sl, and_true, true_and, if_true, if_false, ite_true, ite_false, not_false_eq_true, not_true_eq_false, Nat.reduceEqDiff, reduceCtorEq, Nat.reduceLeDiff, Nat.reduceAdd, Nat.reduceMul, Nat.reduceLT, Int.reduceNeg, Int.reduceEq, Int.reduceLT, Int.reduceLE, eq_self, Nat.reduceSub, or_true, true_or, or_false, false_or, and_false, false_and, Int.reduceToNat, rc0, rc1, ib2, ib3, ib4, ib5, ib6, ib7, ib8, ib9, ib10, rc11, ib12, rc13, ib14, ib15, ib16, ib17, ib18, ib19, rc20, rc21, ib22, ib23, ib24, rc25, ib26, ib27, ib28, ib29, ib30, ib31, rc32, ib33, rc34, ib35, rc36, ib37, rc38, ib39, ib40, ib41, ib42, ib43, ib44, ib45, ib46, ib47, rc48, ib49, ib50, ib51, ib52, ib53, rc54, ib55, ib56, ib57, ib58, ib59, ib60, ib61, ib62, ib63, ib64, ib65, ib66, ib67, ib68, ib69, ib70, ib71, ib72, ib73, ib74, ib75, ib76, ib77, ib78, ib79, ib80, ib81, c1, i3, i4, i5, Int.toNat_natCast, q0', e1]
      refine hend σ1 F _ hF ⟨hR, hC, hSn, fun n l hl hr => hCG n l (Nat.le_of_succ_le hl) hr, fun hm => cn_dom hdI hdom (hCN hm), ans_no (fun hm n hr => hnoD hm (hdom n hr)) hAn, hStj _ (fun l h => h), fun l hl => ?_⟩
      rcases Nat.lt_succ_iff_lt_or_eq.mp hl with q | q
      · exact hZ l q
      · rw [q]; exact q0
    · have q0' : (ga σ1 33 (xa % 610 * 32 + j) = 0) = False := eq_false (by rw [hold]; exact q0)
      obtain ⟨n, hn, hRA⟩ := hSn x j (Int.le_refl _) q0
      have hold' : ga σ1 33 (xa % 610 * 32 + j) = (n : Int) := by rw [hold, hn]
      have hn0 : ((n : Int) = 0) = False := eq_false (by rw [← hn]; exact q0)
      -- the cell is emptied
      have hRz := rel_zer (b := j) (by omega) hR hl32
      rw [hxt] at hRz
      have hFz : Fr [2053] [33] σ1 (si (sa σ1 33 (xa % 610 * 32 + j) 0) 2053 (gi σ1 2053 - 1)) := Fr_si (Fr_sa Fr_r (by decide)) (by decide)
      have hRz2 : RelC x (si (sa σ1 33 (xa % 610 * 32 + j) 0) 2053 (gi σ1 2053 - 1)) (zerF F x j) := hRz
      have hCz : CNT (si (sa σ1 33 (xa % 610 * 32 + j) 0) 2053 (gi σ1 2053 - 1)) := by
        obtain ⟨NN, hNN, hCC⟩ := id hC
        refine ⟨NN, hNN, ?_⟩
        have hu := cnt_upd (f := ga σ1 33) (i := xa % 610 * 32 + j) (y := 0) NN (ixN hl32 hNN)
        have e33 : ga (si (sa σ1 33 (xa % 610 * 32 + j) 0) 2053 (gi σ1 2053 - 1)) 33 = (fun i => if i = xa % 610 * 32 + j then 0 else ga σ1 33 i) := by simp only [↓reduceIte, okp_i, okp_r, okp_n, catS_nil, catS_cons, catV_i, catV_r, catV_l, Option.toList_some, Option.toList_none, List.cons_append, List.nil_append, gi_si, ga_si, gi_sa, ga_sa, gi_sl, ga_sl, gi_sf, ga_sf, gl_si, gl_sa, gl_sf, gl_sl, and_true, true_and, if_true, if_false, ite_true, ite_false, not_false_eq_true, not_true_eq_false, Nat.reduceEqDiff, reduceCtorEq, Nat.reduceLeDiff, Nat.reduceAdd, Nat.reduceMul, Nat.reduceLT, Int.reduceNeg, Int.reduceEq, Int.reduceLT, Int.reduceLE, eq_self, Nat.reduceSub, or_true, true_or, or_false, false_or, and_false, false_and, Int.reduceToNat, rc0, rc1, ib2, ib3, ib4, ib5, ib6, ib7, ib8, ib9, ib10, rc11, ib12, rc13, ib14, ib15, ib16, ib17, ib18, ib19, rc20, rc21, ib22, ib23, ib24, rc25, ib26, ib27, ib28, ib29, ib30, ib31, rc32, ib33, rc34, ib35, rc36, ib37, rc38, ib39, ib40, ib41, ib42, ib43, ib44, ib45, ib46, ib47, rc48, ib49, ib50, ib51, ib52, ib53, rc54, ib55, ib56, ib57, ib58, ib59, ib60, ib61, ib62, ib63, ib64, ib65, ib66, ib67, ib68, ib69, ib70, ib71, ib72, ib73, ib74, ib75, ib76, ib77, ib78, ib79, ib80, ib81]
        rw [e33, hu, if_neg (by rw [hold]; exact q0), if_pos rfl]
        simp only [↓reduceIte, okp_i, okp_r, okp_n, catS_nil, catS_cons, catV_i, catV_r, catV_l, Option.toList_some, Option.toList_none, List.cons_append, List.nil_append, gi_si, ga_si, gi_sa, ga_sa, gi_sl, ga_sl, gi_sf, ga_sf, gl_si, gl_sa, gl_sf, gl_sl, and_true, true_and, if_true, if_false, ite_true, ite_false, not_false_eq_true, not_true_eq_false, Nat.reduceEqDiff, reduceCtorEq, Nat.reduceLeDiff, Nat.reduceAdd, Nat.reduceMul, Nat.reduceLT, Int.reduceNeg, Int.reduceEq, Int.reduceLT, Int.reduceLE, eq_self, Nat.reduceSub, or_true, true_or, or_false, false_or, and_false, false_and, Int.reduceToNat, rc0, rc1, ib2, ib3, ib4, ib5, ib6, ib7, ib8, ib9, ib10, rc11, ib12, rc13, ib14, ib15, ib16, ib17, ib18, ib19, rc20, rc21, ib22, ib23, ib24, rc25, ib26, ib27, ib28, ib29, ib30, ib31, rc32, ib33, rc34, ib35, rc36, ib37, rc38, ib39, ib40, ib41, ib42, ib43, ib44, ib45, ib46, ib47, rc48, ib49, ib50, ib51, ib52, ib53, rc54, ib55, ib56, ib57, ib58, ib59, ib60, ib61, ib62, ib63, ib64, ib65, ib66, ib67, ib68, ib69, ib70, ib71, ib72, ib73, ib74, ib75, ib76, ib77, ib78, ib79, ib80, ib81]
        rw [hCC, Int.add_zero]
      have ewm : wr (gi σ1 2053 - 1) = gi σ1 2053 - 1 := by
        obtain ⟨NN, hNN, hCC⟩ := hC
        have := cnt_bd (f := ga σ1 33) NN
        rw [hCC]
        exact wr_m1 this.1 this.2 hNN
      have hSz := zer_snd (b := j) hSn
      have hGz := zer_g hCG
      have hZz : ∀ l, l < j + 1 → zerF F x j x l = 0 := fun l hl => by
        unfold zerF
        by_cases q : l = j
        · rw [if_pos ⟨rfl, q⟩]
        · rw [if_neg (fun h => q h.2)]
          exact hZ l (Nat.lt_of_le_of_ne (Nat.lt_succ_iff.mp hl) q)
      have k54 : gi (si (sa σ1 33 (xa % 610 * 32 + j) 0) 2053 (gi σ1 2053 - 1)) 2054 = gi σ1 2054 := by simp only [↓reduceIte, okp_i, okp_r, okp_n, catS_nil, catS_cons, catV_i, catV_r, catV_l, Option.toList_some, Option.toList_none, List.cons_append, List.nil_append, gi_si, ga_si, gi_sa, ga_sa, gi_sl, ga_sl, gi_sf, ga_sf, gl_si, gl_sa, gl_sf, gl_sl, and_true, true_and, if_true, if_false, ite_true, ite_false, not_false_eq_true, not_true_eq_false, Nat.reduceEqDiff, reduceCtorEq, Nat.reduceLeDiff, Nat.reduceAdd, Nat.reduceMul, Nat.reduceLT, Int.reduceNeg, Int.reduceEq, Int.reduceLT, Int.reduceLE, eq_self, Nat.reduceSub, or_true, true_or, or_false, false_or, and_false, false_and, Int.reduceToNat, rc0, rc1, ib2, ib3, ib4, ib5, ib6, ib7, ib8, ib9, ib10, rc11, ib12, rc13, ib14, ib15, ib16, ib17, ib18, ib19, rc20, rc21, ib22, ib23, ib24, rc25, ib26, ib27, ib28, ib29, ib30, ib31, rc32, ib33, rc34, ib35, rc36, ib37, rc38, ib39, ib40, ib41, ib42, ib43, ib44, ib45, ib46, ib47, rc48, ib49, ib50, ib51, ib52, ib53, rc54, ib55, ib56, ib57, ib58, ib59, ib60, ib61, ib62, ib63, ib64, ib65, ib66, ib67, ib68, ib69, ib70, ib71, ib72, ib73, ib74, ib75, ib76, ib77, ib78, ib79, ib80, ib81]
      have k60 : gi (si (sa σ1 33 (xa % 610 * 32 + j) 0) 2053 (gi σ1 2053 - 1)) 2060 = gi σ1 2060 := by simp only [↓reduceIte, okp_i, okp_r, okp_n, catS_nil, catS_cons, catV_i, catV_r, catV_l, Option.toList_some, Option.toList_none, List.cons_append, List.nil_append, gi_si, ga_si, gi_sa, ga_sa, gi_sl, ga_sl, gi_sf, ga_sf, gl_si, gl_sa, gl_sf, gl_sl, and_true, true_and, if_true, if_false, ite_true, ite_false, not_false_eq_true, not_true_eq_false, Nat.reduceEqDiff, reduceCtorEq, Nat.reduceLeDiff, Nat.reduceAdd, Nat.reduceMul, Nat.reduceLT, Int.reduceNeg, Int.reduceEq, Int.reduceLT, Int.reduceLE, eq_self, Nat.reduceSub, or_true, true_or, or_false, false_or, and_false, false_and, Int.reduceToNat, rc0, rc1, ib2, ib3, ib4, ib5, ib6, ib7, ib8, ib9, ib10, rc11, ib12, rc13, ib14, ib15, ib16, ib17, ib18, ib19, rc20, rc21, ib22, ib23, ib24, rc25, ib26, ib27, ib28, ib29, ib30, ib31, rc32, ib33, rc34, ib35, rc36, ib37, rc38, ib39, ib40, ib41, ib42, ib43, ib44, ib45, ib46, ib47, rc48, ib49, ib50, ib51, ib52, ib53, rc54, ib55, ib56, ib57, ib58, ib59, ib60, ib61, ib62, ib63, ib64, ib65, ib66, ib67, ib68, ib69, ib70, ib71, ib72, ib73, ib74, ib75, ib76, ib77, ib78, ib79, ib80, ib81]
      have k61 : gi (si (sa σ1 33 (xa % 610 * 32 + j) 0) 2053 (gi σ1 2053 - 1)) 2061 = gi σ1 2061 := by simp only [↓reduceIte, okp_i, okp_r, okp_n, catS_nil, catS_cons, catV_i, catV_r, catV_l, Option.toList_some, Option.toList_none, List.cons_append, List.nil_append, gi_si, ga_si, gi_sa, ga_sa, gi_sl, ga_sl, gi_sf, ga_sf, gl_si, gl_sa, gl_sf, gl_sl, and_true, true_and, if_true, if_false, ite_true, ite_false, not_false_eq_true, not_true_eq_false, Nat.reduceEqDiff, reduceCtorEq, Nat.reduceLeDiff, Nat.reduceAdd, Nat.reduceMul, Nat.reduceLT, Int.reduceNeg, Int.reduceEq, Int.reduceLT, Int.reduceLE, eq_self, Nat.reduceSub, or_true, true_or, or_false, false_or, and_false, false_and, Int.reduceToNat, rc0, rc1, ib2, ib3, ib4, ib5, ib6, ib7, ib8, ib9, ib10, rc11, ib12, rc13, ib14, ib15, ib16, ib17, ib18, ib19, rc20, rc21, ib22, ib23, ib24, rc25, ib26, ib27, ib28, ib29, ib30, ib31, rc32, ib33, rc34, ib35, rc36, ib37, rc38, ib39, ib40, ib41, ib42, ib43, ib44, ib45, ib46, ib47, rc48, ib49, ib50, ib51, ib52, ib53, rc54, ib55, ib56, ib57, ib58, ib59, ib60, ib61, ib62, ib63, ib64, ib65, ib66, ib67, ib68, ib69, ib70, ib71, ib72, ib73, ib74, ib75, ib76, ib77, ib78, ib79, ib80, ib81]
      have k58' : gi (si (sa σ1 33 (xa % 610 * 32 + j) 0) 2053 (gi σ1 2053 - 1)) 2058 = to := by simp only [↓reduceIte, okp_i, okp_r, okp_n, catS_nil, catS_cons, catV_i, catV_r, catV_l, Option.toList_some, Option.toList_none, List.cons_append, List.nil_append, gi_si, ga_si, gi_sa, ga_sa, gi_sl, ga_sl, gi_sf, ga_sf, gl_si, gl_sa, gl_sf, gl_sl, and_true, true_and, if_true, if_false, ite_true, ite_false, not_false_eq_true, not_true_eq_false, Nat.reduceEqDiff, reduceCtorEq, Nat.reduceLeDiff, Nat.reduceAdd, Nat.reduceMul, Nat.reduceLT, Int.reduceNeg, Int.reduceEq, Int.reduceLT, Int.reduceLE, eq_self, Nat.reduceSub, or_true, true_or, or_false, false_or, and_false, false_and, Int.reduceToNat, rc0, rc1, ib2, ib3, ib4, ib5, ib6, ib7, ib8, ib9, ib10, rc11, ib12, rc13, ib14, ib15, ib16, ib17, ib18, ib19, rc20, rc21, ib22, ib23, ib24, rc25, ib26, ib27, ib28, ib29, ib30, ib31, rc32, ib33, rc34, ib35, rc36, ib37, rc38, ib39, ib40, ib41, ib42, ib43, ib44, ib45, ib46, ib47, rc48, ib49, ib50, ib51, ib52, ib53, rc54, ib55, ib56, ib57, ib58, ib59, ib60, ib61, ib62, ib63, ib64, ib65, ib66, ib67, ib68, ib69, ib70, ib71, ib72, ib73, ib74, ib75, ib76, ib77, ib78, ib79, ib80, ib81]; exact k58
      have gz : GS σ0 (si (sa σ1 33 (xa % 610 * 32 + j) 0) 2053 (gi σ1 2053 - 1)) := Fr_t g1 (Fr_m hFz (by decide) (by decide))
      simp only [w76_0, w76_1, w76_4, w76_5, w76_8, w76_9, w76_12, w76_13, w76_14, w76_15, w76_18, w76_19, w76_22, w76_23, w76_26, w76_27, w76_30, w76_31, w76_34, w76_35, w76_38, w76_39, w76_40, w76_41, w76_44, w76_45, w76_48, w76_49, w76_52, w76_53, w76_56, w76_57, w76_59, w76_60, w76_61, w76_62, w76_63, w76_66, w76_69, w76_70, w76_72, w76_73, w76_77, w76_79, w76_82, w76_83, w76_86, w76_87, w76_89, w76_90, w76_91, w76_93, w76_95, w76_98, w76_101, w76_102, w76_105, w76_106, w76_108, w76_109, w76_110, w76_111, w76_112, w76_112r, w76_113, w76_116, w76_117, w76_118, w76_122, w76_125, w76_127, w76_130, w76_131, w76_134, w76_137, w76_138, w76_139, w76_141, w76_144, w76_147, w76_148, w76_151, w76_153, w76_154, w76_155, w76_156, w76_159, w76_160, w76_162, w76_163, w76_165, w76_168, w76_169, w76_169r, w76_170, w76_173, w76_174, w76_177, w76_178, w76_180, w76_181, w76_184, w76_185, w76_186, w76_189, w76_192, w76_195, ↓reduceIte, okp_i, okp_r, okp_n, catS_nil, catS_cons, catV_i, catV_r, catV_l, Option.toList_some, Option.toList_none, List.cons_append, List.nil_append, gi_si, ga_si, gi_sa, ga_sa, gi_sl, ga_sl, gi_sf, ga_sf, gl_si, gl_sa, gl_sf, gl_sl, and_true, true_and, if_true, if_false, ite_true, ite_false, not_false_eq_true, not_true_eq_false, Nat.reduceEqDiff, reduceCtorEq, Nat.reduceLeDiff, Nat.reduceAdd, Nat.reduceMul, Nat.reduceLT, Int.reduceNeg, Int.reduceEq, Int.reduceLT, Int.reduceLE, eq_self, Nat.reduceSub, or_true, true_or, or_false, false_or, and_false, false_and, Int.reduceToNat, rc0, rc1, ib2, ib3, ib4, ib5, ib6, ib7, ib8, ib9, ib10, rc11, ib12, rc13, ib14, ib15, ib16, ib17, ib18, ib19, rc20, rc21, ib22, ib23, ib24, rc25, ib26, ib27, ib28, ib29, ib30, ib31, rc32, ib33, rc34, ib35, rc36, ib37, rc38, ib39, ib40, ib41, ib42, ib43, ib44, ib45, ib46, ib47, rc48, ib49, ib50, ib51, ib52, ib53, rc54, ib55, ib56, ib57, ib58, ib59, ib60, ib61, ib62, ib63, ib64, ib65, ib66, ib67, ib68, ib69, ib70, ib71, ib72, ib73, ib74, ib75, ib76, ib77, ib78, ib79, ib80, ib81, c1, i3, i4, i5, Int.toNat_natCast, hold', hn0, ewm]
      have hFz' := Fr_t hF (Fr_m hFz (KI' := [2053, 2054, 2060, 2061]) (KA' := [33]) (by decide) (by decide))
      generalize si (sa σ1 33 (xa % 610 * 32 + j) 0) 2053 (gi σ1 2053 - 1) = σ2 at *
      have hmin : ∀ n', RA (AS σ0 kind frm beg) (BS σ0 kind beg) n' x j → DS σ0 kind frm beg st x j ∨ n ≤ n' := fun n' hr => by
        rcases hCG n' j (Nat.le_refl j) hr with u | ⟨u1, u2⟩
        · exact Or.inl u
        · rw [hn] at u2
          exact Or.inr (Int.ofNat_le.mp u2)
      by_cases qm : dsL σ0 j = to
      · have qm' : (dsL σ0 j = to) = True := eq_true qm
        have hy := ans_yes (j := j) (n1 := n) (M := fun l => dsL σ0 l = to) qm hRA (fun n' hr => (hmin n' hr).elim (fun u => (hnoD qm u).elim) (fun u => u)) hAn
        have fin : ∀ σ3, Fr [2060, 2061] [] σ2 σ3 → gi σ3 2060 = x → gi σ3 2061 = (if gi σ1 2061 = -1 then (n : Int) else minF (gi σ1 2061) (n : Int)) → WP S 76 75 [some (vr 32), some (vi x), some (vi sb), some (vi ((xa % 610 * 32 : Nat) : Int)), some (vi ((2 * (gi σ0 3461).toNat : Nat) : Int)), some (vi ((j + 1 : Nat) : Int)), some (vi (n : Int))] [] σ3 post := by
          intro σ3 f3 v1 v2
          refine hend σ3 (zerF F x j) _ (Fr_t hFz' (Fr_m f3 (by decide) (by decide))) ⟨rel_Fr hRz2 f3, cnt_Fr hCz f3, hSz, hGz, fun hm => ?_, ?_, ?_, hZz⟩
          · rw [v1] at hm
            omega
          · rw [v1, v2]
            exact hy
          · rw [f3.1 2054 (by decide), k54]
            exact hStj _ (fun l h => h)
        by_cases qs : gi σ1 2061 = -1
        · rw [if_pos qs] at fin
          have qs' : (gi σ2 2061 = -1) = True := eq_true (by rw [k61]; exact qs)
          simp only [w76_0, w76_1, w76_4, w76_5, w76_8, w76_9, w76_12, w76_13, w76_14, w76_15, w76_18, w76_19, w76_22, w76_23, w76_26, w76_27, w76_30, w76_31, w76_34, w76_35, w76_38, w76_39, w76_40, w76_41, w76_44, w76_45, w76_48, w76_49, w76_52, w76_53, w76_56, w76_57, w76_59, w76_60, w76_61, w76_62, w76_63, w76_66, w76_69, w76_70, w76_72, w76_73, w76_77, w76_79, w76_82, w76_83, w76_86, w76_87, w76_89, w76_90, w76_91, w76_93, w76_95, w76_98, w76_101, w76_102, w76_105, w76_106, w76_108, w76_109, w76_110, w76_111, w76_112, w76_112r, w76_113, w76_116, w76_117, w76_118, w76_121, w76_122, w76_125, w76_127, w76_130, w76_131, w76_134, w76_137, w76_138, w76_139, w76_141, w76_144, w76_147, w76_148, w76_151, w76_153, w76_154, w76_155, w76_156, w76_159, w76_160, w76_162, w76_163, w76_165, w76_168, w76_169, w76_169r, w76_170, w76_173, w76_174, w76_177, w76_178, w76_180, w76_181, w76_184, w76_185, w76_186, w76_189, w76_192, w76_195, w77_0, w77_1, w77_2, w77_5, w77_6, w77_7, w77_10, w77_11, w77_14, w77_15, w77_18, w77_19, w77_22, w77_23, w77_26, w77_29, ↓reduceIte, okp_i, okp_r, okp_n, catS_nil, catS_cons, catV_i, catV_r, catV_l, Option.toList_some, Option.toList_none, List.cons_append, List.nil_append, gi_si, ga_si, gi_sa, ga_sa, gi_sl, ga_sl, gi_sf, ga_sf, gl_si, gl_sa, gl_sf, gl_sl, and_true, true_and, if_true, if_false, ite_true, ite_false, not_false_eq_true, not_true_eq_false, Nat.reduceEqDiff, reduceCtorEq, Nat.reduceLeDiff, Nat.reduceAdd, Nat.reduceMul, Nat.reduceLT, Int.reduceNeg, Int.reduceEq, Int.reduceLT, Int.reduceLE, eq_self, Nat.reduceSub, or_true, true_or, or_false, false_or, and_false, false_and, Int.reduceToNat, rc0, rc1, ib2, ib3, ib4, ib5, ib6, ib7, ib8, ib9, ib10, rc11, ib12, rc13, ib14, ib15, ib16, ib17, ib18, ib19, rc20, rc21, ib22, ib23, ib24, rc25, ib26, ib27, ib28, ib29, ib30, ib31, rc32, ib33, rc34, ib35, rc36, ib37, rc38, ib39, ib40, ib41, ib42, ib43, ib44, ib45, ib46, ib47, rc48, ib49, ib50, ib51, ib52, ib53, rc54, ib55, ib56, ib57, ib58, ib59, ib60, ib61, ib62, ib63, ib64, ib65, ib66, ib67, ib68, ib69, ib70, ib71, ib72, ib73, ib74, ib75, ib76, ib77, ib78, ib79, ib80, ib81, S_laneEnd hT0 gz hj2, k58', qm', qs', e1]
          exact fin _ (Fr_si (Fr_si Fr_r (by decide)) (by decide)) (by simp only [↓reduceIte, okp_i, okp_r, okp_n, catS_nil, catS_cons, catV_i, catV_r, catV_l, Option.toList_some, Option.toList_none, List.cons_append, List.nil_append, gi_si, ga_si, gi_sa, ga_sa, gi_sl, ga_sl, gi_sf, ga_sf, gl_si, gl_sa, gl_sf, gl_sl, and_true, true_and, if_true, if_false, ite_true, ite_false, not_false_eq_true, not_true_eq_false, Nat.reduceEqDiff, reduceCtorEq, Nat.reduceLeDiff, Nat.reduceAdd, Nat.reduceMul, Nat.reduceLT, Int.reduceNeg, Int.reduceEq, Int.reduceLT, Int.reduceLE, eq_self, Nat.reduceSub, or_true, true_or, or_false, false_or, and_false, false_and, Int.reduceToNat, rc0, rc1, ib2, ib3, ib4, ib5, ib6, ib7, ib8, ib9, ib10, rc11, ib12, rc13, ib14, ib15, ib16, ib17, ib18, ib19, rc20, rc21, ib22, ib23, ib24, rc25, ib26, ib27, ib28, ib29, ib30, ib31, rc32, ib33, rc34, ib35, rc36, ib37, rc38, ib39, ib40, ib41, ib42, ib43, ib44, ib45, ib46, ib47, rc48, ib49, ib50, ib51, ib52, ib53, rc54, ib55, ib56, ib57, ib58, ib59, ib60, ib61, ib62, ib63, ib64, ib65, ib66, ib67, ib68, ib69, ib70, ib71, ib72, ib73, ib74, ib75, ib76, ib77, ib78, ib79, ib80, ib81]) (by simp only [↓reduceIte, okp_i, okp_r, okp_n, catS_nil, catS_cons, catV_i, catV_r, catV_l, Option.toList_some, Option.toList_none, List.cons_append, List.nil_append, gi_si, ga_si, gi_sa, ga_sa, gi_sl, ga_sl, gi_sf, ga_sf, gl_si, gl_sa, gl_sf, gl_sl, and_true, true_and, if_true, if_false, ite_true, ite_false, not_false_eq_true, not_true_eq_false, Nat.reduceEqDiff, reduceCtorEq, Nat.reduceLeDiff, Nat.reduceAdd, Nat.reduceMul, Nat.reduceLT, Int.reduceNeg, Int.reduceEq, Int.reduceLT, Int.reduceLE, eq_self, Nat.reduceSub, or_true, true_or, or_false, false_or, and_false, false_and, Int.reduceToNat, rc0, rc1, ib2, ib3, ib4, ib5, ib6, ib7, ib8, ib9, ib10, rc11, ib12, rc13, ib14, ib15, ib16, ib17, ib18, ib19, rc20, rc21, ib22, ib23, ib24, rc25, ib26, ib27, ib28, ib29, ib30, ib31, rc32, ib33, rc34, ib35, rc36, ib37, rc38, ib39, ib40, ib41, ib42, ib43, ib44, ib45, ib46, ib47, rc48, ib49, ib50, ib51, ib52, ib53, rc54, ib55, ib56, ib57, ib58, ib59, ib60, ib61, ib62, ib63, ib64, ib65, ib66, ib67, ib68, ib69, ib70, ib71, ib72, ib73, ib74, ib75, ib76, ib77, ib78, ib79, ib80, ib81])
        · rw [if_neg qs] at fin
          have qs' : (gi σ2 2061 = -1) = False := eq_false (by rw [k61]; exact qs)
          simp only [w76_0, w76_1, w76_4, w76_5, w76_8, w76_9, w76_12, w76_13, w76_14, w76_15, w76_18, w76_19, w76_22, w76_23, w76_26, w76_27, w76_30, w76_31, w76_34, w76_35, w76_38, w76_39, w76_40, w76_41, w76_44, w76_45, w76_48, w76_49, w76_52, w76_53, w76_56, w76_57, w76_59, w76_60, w76_61, w76_62, w76_63, w76_66, w76_69, w76_70, w76_72, w76_73, w76_77, w76_79, w76_82, w76_83, w76_86, w76_87, w76_89, w76_90, w76_91, w76_93, w76_95, w76_98, w76_101, w76_102, w76_105, w76_106, w76_108, w76_109, w76_110, w76_111, w76_112, w76_112r, w76_113, w76_116, w76_117, w76_118, w76_121, w76_122, w76_125, w76_127, w76_130, w76_131, w76_134, w76_137, w76_138, w76_139, w76_141, w76_144, w76_147, w76_148, w76_151, w76_153, w76_154, w76_155, w76_156, w76_159, w76_160, w76_162, w76_163, w76_165, w76_168, w76_169, w76_169r, w76_170, w76_173, w76_174, w76_177, w76_178, w76_180, w76_181, w76_184, w76_185, w76_186, w76_189, w76_192, w76_195, w77_0, w77_1, w77_2, w77_5, w77_6, w77_7, w77_10, w77_11, w77_14, w77_15, w77_18, w77_19, w77_22, w77_23, w77_26, w77_29, ↓reduceIte, okp_i, okp_r, okp_n, catS_nil, catS_cons, catV_i, catV_r, catV_l, Option.toList_some, Option.toList_none, List.cons_append, List.nil_append, gi_si, ga_si, gi_sa, ga_sa, gi_sl, ga_sl, gi_sf, ga_sf, gl_si, gl_sa, gl_sf, gl_sl, and_true, true_and, if_true, if_false, ite_true, ite_false, not_false_eq_true, not_true_eq_false, Nat.reduceEqDiff, reduceCtorEq, Nat.reduceLeDiff, Nat.reduceAdd, Nat.reduceMul, Nat.reduceLT, Int.reduceNeg, Int.reduceEq, Int.reduceLT, Int.reduceLE, eq_self, Nat.reduceSub, or_true, true_or, or_false, false_or, and_false, false_and, Int.reduceToNat, rc0, rc1, ib2, ib3, ib4, ib5, ib6, ib7, ib8, ib9, ib10, rc11, ib12, rc13, ib14, ib15, ib16, ib17, ib18, ib19, rc20, rc21, ib22, ib23, ib24, rc25, ib26, ib27, ib28, ib29, ib30, ib31, rc32, ib33, rc34, ib35, rc36, ib37, rc38, ib39, ib40, ib41, ib42, ib43, ib44, ib45, ib46, ib47, rc48, ib49, ib50, ib51, ib52, ib53, rc54, ib55, ib56, ib57, ib58, ib59, ib60, ib61, ib62, ib63, ib64, ib65, ib66, ib67, ib68, ib69, ib70, ib71, ib72, ib73, ib74, ib75, ib76, ib77, ib78, ib79, ib80, ib81, S_laneEnd hT0 gz hj2, k58', qm', qs', e1]
          exact fin _ (Fr_si (Fr_si Fr_r (by decide)) (by decide)) (by simp only [↓reduceIte, okp_i, okp_r, okp_n, catS_nil, catS_cons, catV_i, catV_r, catV_l, Option.toList_some, Option.toList_none, List.cons_append, List.nil_append, gi_si, ga_si, gi_sa, ga_sa, gi_sl, ga_sl, gi_sf, ga_sf, gl_si, gl_sa, gl_sf, gl_sl, and_true, true_and, if_true, if_false, ite_true, ite_false, not_false_eq_true, not_true_eq_false, Nat.reduceEqDiff, reduceCtorEq, Nat.reduceLeDiff, Nat.reduceAdd, Nat.reduceMul, Nat.reduceLT, Int.reduceNeg, Int.reduceEq, Int.reduceLT, Int.reduceLE, eq_self, Nat.reduceSub, or_true, true_or, or_false, false_or, and_false, false_and, Int.reduceToNat, rc0, rc1, ib2, ib3, ib4, ib5, ib6, ib7, ib8, ib9, ib10, rc11, ib12, rc13, ib14, ib15, ib16, ib17, ib18, ib19, rc20, rc21, ib22, ib23, ib24, rc25, ib26, ib27, ib28, ib29, ib30, ib31, rc32, ib33, rc34, ib35, rc36, ib37, rc38, ib39, ib40, ib41, ib42, ib43, ib44, ib45, ib46, ib47, rc48, ib49, ib50, ib51, ib52, ib53, rc54, ib55, ib56, ib57, ib58, ib59, ib60, ib61, ib62, ib63, ib64, ib65, ib66, ib67, ib68, ib69, ib70, ib71, ib72, ib73, ib74, ib75, ib76, ib77, ib78, ib79, ib80, ib81]) (by simp only [↓reduceIte, okp_i, okp_r, okp_n, catS_nil, catS_cons, catV_i, catV_r, catV_l, Option.toList_some, Option.toList_none, List.cons_append, List.nil_append, gi_si, ga_si, gi_sa, ga_sa, gi_sl, ga_sl, gi_sf, ga_sf, gl_si, gl_sa, gl_sf, gl_sl, and_true, true_and, if_true, if_false, ite_true, ite_false, not_false_eq_true, not_true_eq_false, Nat.reduceEqDiff, reduceCtorEq, Nat.reduceLeDiff, Nat.reduceAdd, Nat.reduceMul, Nat.reduceLT, Int.reduceNeg, Int.reduceEq, Int.reduceLT, Int.reduceLE, eq_self, Nat.reduceSub, or_true, true_or, or_false, false_or, and_false, false_and, Int.reduceToNat, rc0, rc1, ib2, ib3, ib4, ib5, ib6, ib7, ib8, ib9, ib10, rc11, ib12, rc13, ib14, ib15, ib16, ib17, ib18, ib19, rc20, rc21, ib22, ib23, ib24, rc25, ib26, ib27, ib28, ib29, ib30, ib31, rc32, ib33, rc34, ib35, rc36, ib37, rc38, ib39, ib40, ib41, ib42, ib43, ib44, ib45, ib46, ib47, rc48, ib49, ib50, ib51, ib52, ib53, rc54, ib55, ib56, ib57, ib58, ib59, ib60, ib61, ib62, ib63, ib64, ib65, ib66, ib67, ib68, ib69, ib70, ib71, ib72, ib73, ib74, ib75, ib76, ib77, ib78, ib79, ib80, ib81, k61])
      · have qm' : (dsL σ0 j = to) = False := eq_false qm
        by_cases qb : bitN (gi σ1 2054) j
        · have qb' : (i2 (· &&& ·) (i2 iushrF (gi σ2 2054) (j : Int)) 1 = 0) = False := eq_false (by rw [k54, bit_z hl32]; exact fun h => h qb)
          have hd : DS σ0 kind frm beg st x j := by
            obtain ⟨t0, n0, h1, h2, h3⟩ := hSt j qb
            exact ⟨t0, n0, by omega, h1, h2⟩
          simp only [w76_0, w76_1, w76_4, w76_5, w76_8, w76_9, w76_12, w76_13, w76_14, w76_15, w76_18, w76_19, w76_22, w76_23, w76_26, w76_27, w76_30, w76_31, w76_34, w76_35, w76_38, w76_39, w76_40, w76_41, w76_44, w76_45, w76_48, w76_49, w76_52, w76_53, w76_56, w76_57, w76_59, w76_60, w76_61, w76_62, w76_63, w76_66, w76_69, w76_70, w76_72, w76_73, w76_77, w76_79, w76_82, w76_83, w76_86, w76_87, w76_89, w76_90, w76_91, w76_93, w76_95, w76_98, w76_101, w76_102, w76_105, w76_106, w76_108, w76_109, w76_110, w76_111, w76_112, w76_112r, w76_113, w76_116, w76_117, w76_118, w76_121, w76_122, w76_125, w76_127, w76_130, w76_131, w76_134, w76_137, w76_138, w76_139, w76_141, w76_144, w76_147, w76_148, w76_151, w76_153, w76_154, w76_155, w76_156, w76_159, w76_160, w76_162, w76_163, w76_165, w76_168, w76_169, w76_169r, w76_170, w76_173, w76_174, w76_177, w76_178, w76_180, w76_181, w76_184, w76_185, w76_186, w76_189, w76_192, w76_195, ↓reduceIte, okp_i, okp_r, okp_n, catS_nil, catS_cons, catV_i, catV_r, catV_l, Option.toList_some, Option.toList_none, List.cons_append, List.nil_append, gi_si, ga_si, gi_sa, ga_sa, gi_sl, ga_sl, gi_sf, ga_sf, gl_si, gl_sa, gl_sf, gl_sl, and_true, true_and, if_true, if_false, ite_true, ite_false, not_false_eq_true, not_true_eq_false, Nat.reduceEqDiff, reduceCtorEq, Nat.reduceLeDiff, Nat.reduceAdd, Nat.reduceMul, Nat.reduceLT, Int.reduceNeg, Int.reduceEq, Int.reduceLT, Int.reduceLE, eq_self, Nat.reduceSub, or_true, true_or, or_false, false_or, and_false, false_and, Int.reduceToNat, rc0, rc1, ib2, ib3, ib4, ib5, ib6, ib7, ib8, ib9, ib10, rc11, ib12, rc13, ib14, ib15, ib16, ib17, ib18, ib19, rc20, rc21, ib22, ib23, ib24, rc25, ib26, ib27, ib28, ib29, ib30, ib31, rc32, ib33, rc34, ib35, rc36, ib37, rc38, ib39, ib40, ib41, ib42, ib43, ib44, ib45, ib46, ib47, rc48, ib49, ib50, ib51, ib52, ib53, rc54, ib55, ib56, ib57, ib58, ib59, ib60, ib61, ib62, ib63, ib64, ib65, ib66, ib67, ib68, ib69, ib70, ib71, ib72, ib73, ib74, ib75, ib76, ib77, ib78, ib79, ib80, ib81, S_laneEnd hT0 gz hj2, k58', qm', qb', e1]
          refine hend σ2 (zerF F x j) _ hFz' ⟨hRz2, hCz, hSz, hGz, fun hm => ?_, ?_, ?_, hZz⟩
          · rw [k60] at hm
            exact zer_n (cn_dom hdI (fun _ _ => hd) (hCN hm))
          · rw [k60, k61]
            exact ans_no (fun hm => absurd hm qm) hAn
          · rw [k54]
            exact hStj _ (fun l h => h)
        · have qb' : (i2 (· &&& ·) (i2 iushrF (gi σ2 2054) (j : Int)) 1 = 0) = True := eq_true (by rw [k54, bit_z hl32]; exact qb)
          simp only [w76_0, w76_1, w76_4, w76_5, w76_8, w76_9, w76_12, w76_13, w76_14, w76_15, w76_18, w76_19, w76_22, w76_23, w76_26, w76_27, w76_30, w76_31, w76_34, w76_35, w76_38, w76_39, w76_40, w76_41, w76_44, w76_45, w76_48, w76_49, w76_52, w76_53, w76_56, w76_57, w76_59, w76_60, w76_61, w76_62, w76_63, w76_66, w76_69, w76_70, w76_72, w76_73, w76_77, w76_79, w76_82, w76_83, w76_86, w76_87, w76_89, w76_90, w76_91, w76_93, w76_95, w76_98, w76_101, w76_102, w76_105, w76_106, w76_108, w76_109, w76_110, w76_111, w76_112, w76_112r, w76_113, w76_116, w76_117, w76_118, w76_121, w76_122, w76_125, w76_127, w76_130, w76_131, w76_134, w76_137, w76_138, w76_139, w76_141, w76_144, w76_147, w76_148, w76_151, w76_153, w76_154, w76_155, w76_156, w76_159, w76_160, w76_162, w76_163, w76_165, w76_169, w76_169r, w76_170, w76_173, w76_174, w76_177, w76_178, w76_180, w76_181, w76_184, w76_185, w76_186, w76_189, w76_192, w76_195, ↓reduceIte, okp_i, okp_r, okp_n, catS_nil, catS_cons, catV_i, catV_r, catV_l, Option.toList_some, Option.toList_none, List.cons_append, List.nil_append, gi_si, ga_si, gi_sa, ga_sa, gi_sl, ga_sl, gi_sf, ga_sf, gl_si, gl_sa, gl_sf, gl_sl, and_true, true_and, if_true, if_false, ite_true, ite_false, not_false_eq_true, not_true_eq_false, Nat.reduceEqDiff, reduceCtorEq, Nat.reduceLeDiff, Nat.reduceAdd, Nat.reduceMul, Nat.reduceLT, Int.reduceNeg, Int.reduceEq, Int.reduceLT, Int.reduceLE, eq_self, Nat.reduceSub, or_true, true_or, or_false, false_or, and_false, false_and, Int.reduceToNat, rc0, rc1, ib2, ib3, ib4, ib5, ib6, ib7, ib8, ib9, ib10, rc11, ib12, rc13, ib14, ib15, ib16, ib17, ib18, ib19, rc20, rc21, ib22, ib23, ib24, rc25, ib26, ib27, ib28, ib29, ib30, ib31, rc32, ib33, rc34, ib35, rc36, ib37, rc38, ib39, ib40, ib41, ib42, ib43, ib44, ib45, ib46, ib47, rc48, ib49, ib50, ib51, ib52, ib53, rc54, ib55, ib56, ib57, ib58, ib59, ib60, ib61, ib62, ib63, ib64, ib65, ib66, ib67, ib68, ib69, ib70, ib71, ib72, ib73, ib74, ib75, ib76, ib77, ib78, ib79, ib80, ib81, S_laneEnd hT0 gz hj2, k58', qm', qb']
          refine S_leave (D := DS σ0 kind frm beg st) (n := n) (Φ := fun F => SND (AS σ0 kind frm beg) (BS σ0 kind beg) F x ∧ CG (AS σ0 kind frm beg) (BS σ0 kind beg) (DS σ0 kind frm beg st) F x (j + 1) ∧ (gi σ1 2060 = -1 → CN (AS σ0 kind frm beg) (BS σ0 kind beg) (DS σ0 kind frm beg st) F (Qj x j) x) ∧ ∀ l, l < j + 1 → F x l = 0) hT0 hA0 hB0 hbeg hx hj2 hRA ?_ (fun F h => h.1) gz (by rw [hFz'.1 2059 (by decide)]; exact hkm) (fun l hl => by rw [hFz'.2 35 (by decide)]; exact hTN l hl) (fun l hl => by rw [hFz'.2 37 (by decide)]; exact hTF l hl) hRz2 hCz ⟨hSz, hGz, fun hm => zer_n (hCN hm), hZz⟩ ?_
          · intro F' a b ⟨p1, p2, p3, p4⟩ hr ha
            refine ⟨upd_snd p1 hr, upd_g ha p2, fun hm => cn_upd np1 (p3 hm), fun l hl => ?_⟩
            unfold updF
            rw [if_neg (fun q => by omega)]
            exact p4 l hl
          · intro σ3 F3 f3 v1 v2 ⟨p1, p2, p3, p4⟩ v4
            have m60 : gi σ3 2060 = gi σ1 2060 := by rw [f3.1 2060 (by decide)]; exact k60
            have m61 : gi σ3 2061 = gi σ1 2061 := by rw [f3.1 2061 (by decide)]; exact k61
            have m54 : gi σ3 2054 = gi σ1 2054 := by rw [f3.1 2054 (by decide)]; exact k54
            have fin : ∀ y, (∀ l, bitN y l → ∃ t0 n0, st ≤ beg + t0 ∧ RA (AS σ0 kind frm beg) (BS σ0 kind beg) n0 t0 l ∧ (t0 < x ∨ (t0 = x ∧ l < j + 1))) → WP S 76 75 [some (vr 32), some (vi x), some (vi sb), some (vi ((xa % 610 * 32 : Nat) : Int)), some (vi ((2 * (gi σ0 3461).toNat : Nat) : Int)), some (vi ((j + 1 : Nat) : Int)), some (vi (n : Int))] [] (si σ3 2054 y) post := by
              intro y hy
              have f4 : Fr [2054] [] σ3 (si σ3 2054 y) := Fr_si Fr_r (by decide)
              refine hend (si σ3 2054 y) F3 _ (Fr_t (Fr_t hFz' (Fr_m f3 (by decide) (by decide))) (Fr_m f4 (by decide) (by decide))) ⟨rel_Fr v1 f4, cnt_Fr v2 f4, p1, p2, fun hm => ?_, ?_, ?_, p4⟩
              · rw [f4.1 2060 (by decide), m60] at hm
                exact cn_step hdI hmin v4 (p3 hm)
              · rw [f4.1 2060 (by decide), f4.1 2061 (by decide), m60, m61]
                exact ans_no (fun hm => absurd hm qm) hAn
              · have e : gi (si σ3 2054 y) 2054 = y := by simp only [↓reduceIte, okp_i, okp_r, okp_n, catS_nil, catS_cons, catV_i, catV_r, catV_l, Option.toList_some, Option.toList_none, List.cons_append, List.nil_append, gi_si, ga_si, gi_sa, ga_sa, gi_sl, ga_sl, gi_sf, ga_sf, gl_si, gl_sa, gl_sf, gl_sl, and_true, true_and, if_true, if_false, ite_true, ite_false, not_false_eq_true, not_true_eq_false, Nat.reduceEqDiff, reduceCtorEq, Nat.reduceLeDiff, Nat.reduceAdd, Nat.reduceMul, Nat.reduceLT, Int.reduceNeg, Int.reduceEq, Int.reduceLT, Int.reduceLE, eq_self, Nat.reduceSub, or_true, true_or, or_false, false_or, and_false, false_and, Int.reduceToNat, rc0, rc1, ib2, ib3, ib4, ib5, ib6, ib7, ib8, ib9, ib10, rc11, ib12, rc13, ib14, ib15, ib16, ib17, ib18, ib19, rc20, rc21, ib22, ib23, ib24, rc25, ib26, ib27, ib28, ib29, ib30, ib31, rc32, ib33, rc34, ib35, rc36, ib37, rc38, ib39, ib40, ib41, ib42, ib43, ib44, ib45, ib46, ib47, rc48, ib49, ib50, ib51, ib52, ib53, rc54, ib55, ib56, ib57, ib58, ib59, ib60, ib61, ib62, ib63, ib64, ib65, ib66, ib67, ib68, ib69, ib70, ib71, ib72, ib73, ib74, ib75, ib76, ib77, ib78, ib79, ib80, ib81]
                rw [e]
                exact hy
            rcases hsb with rfl | rfl
            · simp only [w76_0, w76_1, w76_4, w76_5, w76_8, w76_9, w76_12, w76_13, w76_14, w76_15, w76_18, w76_19, w76_22, w76_23, w76_26, w76_27, w76_30, w76_31, w76_34, w76_35, w76_38, w76_39, w76_40, w76_41, w76_44, w76_45, w76_48, w76_49, w76_52, w76_53, w76_56, w76_57, w76_59, w76_60, w76_61, w76_62, w76_63, w76_66, w76_69, w76_70, w76_72, w76_73, w76_77, w76_79, w76_82, w76_83, w76_86, w76_87, w76_89, w76_90, w76_91, w76_93, w76_95, w76_98, w76_101, w76_102, w76_105, w76_106, w76_108, w76_109, w76_110, w76_111, w76_112, w76_112r, w76_113, w76_116, w76_117, w76_118, w76_121, w76_122, w76_125, w76_127, w76_130, w76_131, w76_134, w76_137, w76_138, w76_139, w76_141, w76_144, w76_147, w76_148, w76_151, w76_153, w76_154, w76_155, w76_156, w76_159, w76_160, w76_162, w76_163, w76_165, w76_168, w76_169, w76_169r, w76_170, w76_173, w76_174, w76_177, w76_178, w76_180, w76_181, w76_184, w76_185, w76_186, w76_189, w76_192, w76_195, ↓reduceIte, okp_i, okp_r, okp_n, catS_nil, catS_cons, catV_i, catV_r, catV_l, Option.toList_some, Option.toList_none, List.cons_append, List.nil_append, gi_si, ga_si, gi_sa, ga_sa, gi_sl, ga_sl, gi_sf, ga_sf, gl_si, gl_sa, gl_sf, gl_sl, and_true, true_and, if_true, if_false, ite_true, ite_false, not_false_eq_true, not_true_eq_false, Nat.reduceEqDiff, reduceCtorEq, Nat.reduceLeDiff, Nat.reduceAdd, Nat.reduceMul, Nat.reduceLT, Int.reduceNeg, Int.reduceEq, Int.reduceLT, Int.reduceLE, eq_self, Nat.reduceSub, or_true, true_or, or_false, false_or, and_false, false_and, Int.reduceToNat, rc0, rc1, ib2, ib3, ib4, ib5, ib6, ib7, ib8, ib9, ib10, rc11, ib12, rc13, ib14, ib15, ib16, ib17, ib18, ib19, rc20, rc21, ib22, ib23, ib24, rc25, ib26, ib27, ib28, ib29, ib30, ib31, rc32, ib33, rc34, ib35, rc36, ib37, rc38, ib39, ib40, ib41, ib42, ib43, ib44, ib45, ib46, ib47, rc48, ib49, ib50, ib51, ib52, ib53, rc54, ib55, ib56, ib57, ib58, ib59, ib60, ib61, ib62, ib63, ib64, ib65, ib66, ib67, ib68, ib69, ib70, ib71, ib72, ib73, ib74, ib75, ib76, ib77, ib78, ib79, ib80, ib81, m54, e1]
              exact fin _ (hStj _ (fun l h => bit_or0.mp h))
            · have i01 : ((1 : Int) = 0) = False := eq_false (by decide)
              simp only [w76_0, w76_1, w76_4, w76_5, w76_8, w76_9, w76_12, w76_13, w76_14, w76_15, w76_18, w76_19, w76_22, w76_23, w76_26, w76_27, w76_30, w76_31, w76_34, w76_35, w76_38, w76_39, w76_40, w76_41, w76_44, w76_45, w76_48, w76_49, w76_52, w76_53, w76_56, w76_57, w76_59, w76_60, w76_61, w76_62, w76_63, w76_66, w76_69, w76_70, w76_72, w76_73, w76_77, w76_79, w76_82, w76_83, w76_86, w76_87, w76_89, w76_90, w76_91, w76_93, w76_95, w76_98, w76_101, w76_102, w76_105, w76_106, w76_108, w76_109, w76_110, w76_111, w76_112, w76_112r, w76_113, w76_116, w76_117, w76_118, w76_121, w76_122, w76_125, w76_127, w76_130, w76_131, w76_134, w76_137, w76_138, w76_139, w76_141, w76_144, w76_147, w76_148, w76_151, w76_153, w76_154, w76_155, w76_156, w76_159, w76_160, w76_162, w76_163, w76_165, w76_168, w76_169, w76_169r, w76_170, w76_173, w76_174, w76_177, w76_178, w76_180, w76_181, w76_184, w76_185, w76_186, w76_189, w76_192, w76_195, ↓reduceIte, okp_i, okp_r, okp_n, catS_nil, catS_cons, catV_i, catV_r, catV_l, Option.toList_some, Option.toList_none, List.cons_append, List.nil_append, gi_si, ga_si, gi_sa, ga_sa, gi_sl, ga_sl, gi_sf, ga_sf, gl_si, gl_sa, gl_sf, gl_sl, and_true, true_and, if_true, if_false, ite_true, ite_false, not_false_eq_true, not_true_eq_false, Nat.reduceEqDiff, reduceCtorEq, Nat.reduceLeDiff, Nat.reduceAdd, Nat.reduceMul, Nat.reduceLT, Int.reduceNeg, Int.reduceEq, Int.reduceLT, Int.reduceLE, eq_self, Nat.reduceSub, or_true, true_or, or_false, false_or, and_false, false_and, Int.reduceToNat, rc0, rc1, ib2, ib3, ib4, ib5, ib6, ib7, ib8, ib9, ib10, rc11, ib12, rc13, ib14, ib15, ib16, ib17, ib18, ib19, rc20, rc21, ib22, ib23, ib24, rc25, ib26, ib27, ib28, ib29, ib30, ib31, rc32, ib33, rc34, ib35, rc36, ib37, rc38, ib39, ib40, ib41, ib42, ib43, ib44, ib45, ib46, ib47, rc48, ib49, ib50, ib51, ib52, ib53, rc54, ib55, ib56, ib57, ib58, ib59, ib60, ib61, ib62, ib63, ib64, ib65, ib66, ib67, ib68, ib69, ib70, ib71, ib72, ib73, ib74, ib75, ib76, ib77, ib78, ib79, ib80, ib81, m54, e1, i01]
              refine fin _ (fun l hb => ?_)
              rcases bit_or1 hl32 hb with u | u
              · exact hStj _ (fun l h => h) l u
              · exact ⟨x, n, hsb1 rfl, by rw [u]; exact hRA, Or.inr ⟨rfl, by rw [u]; exact Nat.lt_succ_self j⟩⟩
end GOON
