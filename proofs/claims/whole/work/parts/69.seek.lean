/-! the class's search, whole -/
theorem cnt_z {f : Nat → Int} : ∀ n, (∀ i, i < n → f i = 0) → cntF f n = 0 := by
  intro n
  induction n with
  | zero => intro _; rfl
  | succ n ih =>
    intro h
    simp only [cntF]
    rw [ih (fun i hi => h i (by omega)), if_pos (h n (by omega))]
    rfl
theorem wit_mono {a b : Int} (h : a ≤ b) : witF a ≤ witF b := by
  unfold witF
  split <;> split <;> omega
section SEEK
variable {S : Scr} {σ σ0 : Sto} {post : Pst} {kind frm to beg x st : Int}
/-- what the search keeps from one minute to the next -/
def SK (σ0 : Sto) (kind frm to beg : Int) (σ : Sto) : Prop := GS σ0 σ ∧ gi σ 2055 = 1 ∧ gi σ 2056 = kind ∧ gi σ 2057 = frm ∧ gi σ 2058 = to ∧ gi σ 2059 = beg
theorem SK_Fr {σ' : Sto} {KI KA : List Nat} (h : SK σ0 kind frm to beg σ) (hf : Fr KI KA σ σ') (hk : ∀ k ∈ KI, k ∈ [2053, 2054, 2060, 2061, 2179, 2307] := by decide) (ha : ∀ k ∈ KA, k ∈ KRA := by decide) : SK σ0 kind frm to beg σ' := by
  obtain ⟨h1, h2, h3, h4, h5, h6⟩ := h
  have n1 : 2055 ∉ KI := fun q => absurd (hk _ q) (by decide)
  have n2 : 2056 ∉ KI := fun q => absurd (hk _ q) (by decide)
  have n3 : 2057 ∉ KI := fun q => absurd (hk _ q) (by decide)
  have n4 : 2058 ∉ KI := fun q => absurd (hk _ q) (by decide)
  have n5 : 2059 ∉ KI := fun q => absurd (hk _ q) (by decide)
  refine ⟨Fr_t h1 (Fr_m hf (fun k q => ?_) ha), by rw [hf.1 _ n1]; exact h2, by rw [hf.1 _ n2]; exact h3, by rw [hf.1 _ n3]; exact h4, by rw [hf.1 _ n4]; exact h5, by rw [hf.1 _ n5]; exact h6⟩
  have := hk k q
  simp only [List.mem_cons, List.not_mem_nil, or_false] at this ⊢
  omega
theorem S_goOn (hT0 : InvT σ0) (hA0 : InvA σ0) (hB0 : InvB σ0) (hS : Stdy σ0 st) (hbeg : 0 ≤ beg ∧ beg ≤ 1439) (hx : 1 ≤ x ∧ x ≤ 3000) {sb : Int} (hsb : sb = 0 ∨ sb = 1) (hsb1 : sb = 1 → st ≤ beg + x) (hK : SK σ0 kind frm to beg σ) {F : Int → Nat → Int} (hI : GI σ0 kind frm to beg st x 0 σ F) {loN loF : Int} (hloN : loN ≤ witF (beg + x + gi σ0 3463)) (hloF : loF ≤ witF (beg + x + gi σ0 3464)) (hVN : VT σ0 kind σ 35 2179 loN) (hVF : VT σ0 kind σ 37 2307 loF) (kk : ∀ σ' F, SK σ0 kind frm to beg σ' → GI σ0 kind frm to beg st x (2 * (gi σ0 3461).toNat) σ' F → VT σ0 kind σ' 35 2179 (witF (beg + x + gi σ0 3463)) → VT σ0 kind σ' 37 2307 (witF (beg + x + gi σ0 3464)) → post none σ') : WP S 76 0 [some (vr 32), some (vi x), some (vi sb), none, none, none, none] [] σ post := by
  obtain ⟨g0, k55, k56, k57, k58, k59⟩ := id hK
  have t7 := hT0.2.2.2.2.2.2.1
  have t2 := hT0.2.1
  have t9 := hT0.2.2.2.2.2.2.2.2.1
  have t10 := hT0.2.2.2.2.2.2.2.2.2.1
  have ew : wr (beg + x) = beg + x := wr_id (by omega) (by omega)
  have ewN : wr (beg + x + gi σ0 3463) = beg + x + gi σ0 3463 := wr_id (by omega) (by omega)
  have ewF : wr (beg + x + gi σ0 3464) = beg + x + gi σ0 3464 := wr_id (by omega) (by omega)
  have i10 : ((0 : Int) = 1) = False := eq_false (by decide)
  simp only [w76_0, w76_1, w76_4, w76_5, w76_8, w76_9, w76_12, w76_13, w76_14, w76_15, w76_18, w76_19, w76_22, w76_23, ↓reduceIte, okp_i, okp_r, okp_n, catS_nil, catS_cons, catV_i, catV_r, catV_l, Option.toList_some, Option.toList_none, List.cons_append, List.nil_append, gi_si, ga_si, gi_sa, ga_sa, gi_sl, ga_sl, gi_sf, ga_sf, gl_si, gl_sa, gl_sf, gl_sl, and_true, true_and, if_true, if_false, ite_true, ite_false, not_false_eq_true, not_true_eq_false, Nat.reduceEqDiff, reduceCtorEq, Nat.reduceLeDiff, Nat.reduceAdd, Nat.reduceMul, Nat.reduceLT, Int.reduceNeg, Int.reduceEq, Int.reduceLT, Int.reduceLE, eq_self, Nat.reduceSub, or_true, true_or, or_false, false_or, and_false, false_and, Int.reduceToNat, rc0, rc1, ib2, ib3, ib4, ib5, ib6, ib7, ib8, ib9, ib10, rc11, ib12, rc13, ib14, ib15, ib16, ib17, ib18, ib19, rc20, rc21, ib22, ib23, ib24, rc25, ib26, ib27, ib28, ib29, ib30, ib31, rc32, ib33, rc34, ib35, rc36, ib37, rc38, ib39, ib40, ib41, ib42, ib43, ib44, ib45, ib46, ib47, rc48, ib49, ib50, ib51, ib52, ib53, rc54, ib55, ib56, ib57, ib58, ib59, ib60, ib61, ib62, ib63, ib64, ib65, ib66, ib67, ib68, ib69, ib70, ib71, ib72, ib73, ib74, ib75, ib76, ib77, ib78, ib79, ib80, ib81, k56, k59, ew, S_tmin hT0 g0 (Or.inr rfl), ewN]
  refine S_mvN hT0 hB0 g0 (by omega) hloN hVN ?_
  intro σ1 f1 b1 v1
  have g1 := (SK_Fr hK f1).1
  have K1 := SK_Fr hK f1
  obtain ⟨-, -, k56, -, -, k59⟩ := id K1
  simp only [w76_26, w76_27, w76_30, w76_31, w76_34, w76_35, w76_38, w76_39, w76_40, w76_41, w76_44, w76_45, w76_48, w76_49, ↓reduceIte, okp_i, okp_r, okp_n, catS_nil, catS_cons, catV_i, catV_r, catV_l, Option.toList_some, Option.toList_none, List.cons_append, List.nil_append, gi_si, ga_si, gi_sa, ga_sa, gi_sl, ga_sl, gi_sf, ga_sf, gl_si, gl_sa, gl_sf, gl_sl, and_true, true_and, if_true, if_false, ite_true, ite_false, not_false_eq_true, not_true_eq_false, Nat.reduceEqDiff, reduceCtorEq, Nat.reduceLeDiff, Nat.reduceAdd, Nat.reduceMul, Nat.reduceLT, Int.reduceNeg, Int.reduceEq, Int.reduceLT, Int.reduceLE, eq_self, Nat.reduceSub, or_true, true_or, or_false, false_or, and_false, false_and, Int.reduceToNat, rc0, rc1, ib2, ib3, ib4, ib5, ib6, ib7, ib8, ib9, ib10, rc11, ib12, rc13, ib14, ib15, ib16, ib17, ib18, ib19, rc20, rc21, ib22, ib23, ib24, rc25, ib26, ib27, ib28, ib29, ib30, ib31, rc32, ib33, rc34, ib35, rc36, ib37, rc38, ib39, ib40, ib41, ib42, ib43, ib44, ib45, ib46, ib47, rc48, ib49, ib50, ib51, ib52, ib53, rc54, ib55, ib56, ib57, ib58, ib59, ib60, ib61, ib62, ib63, ib64, ib65, ib66, ib67, ib68, ib69, ib70, ib71, ib72, ib73, ib74, ib75, ib76, ib77, ib78, ib79, ib80, ib81, k56, k59, ew, S_tmin hT0 g1 (Or.inl rfl), ewF, i10]
  refine S_mvF hT0 hB0 g1 (by omega) hloF (fun m' p1 p2 p3 l hl => by rw [f1.1 2307 (by decide)] at p2; rw [f1.2 37 (by decide)]; exact hVF m' p1 p2 p3 l hl) ?_
  intro σ2 f2 b2 v2
  have K2 := SK_Fr K1 f2
  have g2 := K2.1
  obtain ⟨-, -, -, -, k58', k59'⟩ := id K2
  have k74 : gi σ2 74 = gi σ0 3461 := by rw [g2.1 74 (by decide)]; exact t2
  obtain ⟨xa, hxa⟩ : ∃ xa : Nat, x = (xa : Int) := ⟨x.toNat, by omega⟩
  obtain ⟨i1, i2, -, -, -⟩ := ixR (a := xa) (l := 0) (by omega) (by decide)
  have c6 : ((610 : Int) = 0) = False := eq_false (by decide)
  have e2 : wr (2 * gi σ0 3461) = ((2 * (gi σ0 3461).toNat : Nat) : Int) := by rw [wr_id (by omega) (by omega)]; omega
  have hI2 : GI σ0 kind frm to beg st x 0 σ2 F := by
    obtain ⟨a1, a2, a3, a4, a5, a6, a7, a8⟩ := hI
    have f12 : Fr [2179, 2307] [35, 37] σ σ2 := Fr_t (Fr_m f1 (by decide) (by decide)) (Fr_m f2 (by decide) (by decide))
    refine ⟨rel_Fr a1 f12, cnt_Fr a2 f12, a3, a4, ?_, ?_, ?_, a8⟩
    · rw [f12.1 2060 (by decide)]; exact a5
    · rw [f12.1 2060 (by decide), f12.1 2061 (by decide)]; exact a6
    · rw [f12.1 2054 (by decide)]; exact a7
  have hgo := L_goOn (S := S) (σ := σ2) (post := post) hT0 hA0 hB0 hS hbeg hx hsb hsb1 g2 k59' k58' (fun l hl => by rw [f2.2 35 (by decide)]; exact b1 l hl) b2 (fun σ3 F3 f3 hI3 => kk σ3 F3 (SK_Fr K2 f3) hI3 (fun m' p1 p2 p3 l hl => by
      rw [f3.1 2179 (by decide), f2.1 2179 (by decide)] at p2
      rw [f3.2 35 (by decide), f2.2 35 (by decide)]
      exact v1 m' p1 p2 p3 l hl) (fun m' p1 p2 p3 l hl => by
      rw [f3.1 2307 (by decide)] at p2
      rw [f3.2 37 (by decide)]
      exact v2 m' p1 p2 p3 l hl)) (2 * (gi σ0 3461).toNat) 0 σ2 F none (by omega) Fr_r hI2
  have hxt : x.toNat = xa := by rw [hxa]; exact Int.toNat_natCast xa
  rw [hxt] at hgo
  rw [hxa] at hgo ⊢
  simp only [w76_0, w76_1, w76_4, w76_5, w76_8, w76_9, w76_12, w76_13, w76_14, w76_15, w76_18, w76_19, w76_22, w76_23, w76_26, w76_27, w76_30, w76_31, w76_34, w76_35, w76_38, w76_39, w76_40, w76_41, w76_44, w76_45, w76_48, w76_49, w76_52, w76_53, w76_56, w76_57, w76_59, w76_60, w76_61, w76_62, w76_63, w76_66, w76_69, w76_70, w76_72, w76_73, w76_77, w76_79, w76_82, w76_83, w76_86, w76_87, w76_89, w76_90, w76_91, w76_93, w76_95, w76_98, w76_101, w76_102, w76_105, w76_106, w76_108, w76_109, w76_110, w76_111, w76_112, w76_112r, w76_113, w76_116, w76_117, w76_118, w76_121, w76_122, w76_125, w76_127, w76_130, w76_131, w76_134, w76_137, w76_138, w76_139, w76_141, w76_144, w76_147, w76_148, w76_151, w76_153, w76_154, w76_155, w76_156, w76_159, w76_160, w76_162, w76_163, w76_165, w76_168, w76_169, w76_169r, w76_170, w76_173, w76_174, w76_177, w76_178, w76_180, w76_181, w76_184, w76_185, w76_186, w76_189, w76_192, w76_195, w88_0, w88_1, w88_4, ↓reduceIte, okp_i, okp_r, okp_n, catS_nil, catS_cons, catV_i, catV_r, catV_l, Option.toList_some, Option.toList_none, List.cons_append, List.nil_append, gi_si, ga_si, gi_sa, ga_sa, gi_sl, ga_sl, gi_sf, ga_sf, gl_si, gl_sa, gl_sf, gl_sl, and_true, true_and, if_true, if_false, ite_true, ite_false, not_false_eq_true, not_true_eq_false, Nat.reduceEqDiff, reduceCtorEq, Nat.reduceLeDiff, Nat.reduceAdd, Nat.reduceMul, Nat.reduceLT, Int.reduceNeg, Int.reduceEq, Int.reduceLT, Int.reduceLE, eq_self, Nat.reduceSub, or_true, true_or, or_false, false_or, and_false, false_and, Int.reduceToNat, rc0, rc1, ib2, ib3, ib4, ib5, ib6, ib7, ib8, ib9, ib10, rc11, ib12, rc13, ib14, ib15, ib16, ib17, ib18, ib19, rc20, rc21, ib22, ib23, ib24, rc25, ib26, ib27, ib28, ib29, ib30, ib31, rc32, ib33, rc34, ib35, rc36, ib37, rc38, ib39, ib40, ib41, ib42, ib43, ib44, ib45, ib46, ib47, rc48, ib49, ib50, ib51, ib52, ib53, rc54, ib55, ib56, ib57, ib58, ib59, ib60, ib61, ib62, ib63, ib64, ib65, ib66, ib67, ib68, ib69, ib70, ib71, ib72, ib73, ib74, ib75, ib76, ib77, ib78, ib79, ib80, ib81, i1, i2, c6, k74, e2]
  exact hgo
/-- from one minute to the next -/
theorem GI_next (hT0 : InvT σ0) (hB0 : InvB σ0) (hx : 1 ≤ x) {F : Int → Nat → Int} (h : GI σ0 kind frm to beg st x (2 * (gi σ0 3461).toNat) σ F) (hm : gi σ 2060 = -1) : GI σ0 kind frm to beg st (x + 1) 0 σ F := by
  obtain ⟨a1, a2, a3, a4, a5, a6, a7, a8⟩ := h
  have hK : ∀ n t l, RA (AS σ0 kind frm beg) (BS σ0 kind beg) n t l → l < 2 * (gi σ0 3461).toNat := fun n t l hr => (RA_bd (hAS hT0 hB0) (hBS hT0 hB0) n t l hr).2.2.2.1
  have h0 : ∀ l, F x l = 0 := fun l => by
    rcases Nat.lt_or_ge l (2 * (gi σ0 3461).toNat) with q | q
    · exact a8 l q
    · by_cases q2 : F x l = 0
      · exact q2
      · obtain ⟨n, -, hr⟩ := a3 x l (Int.le_refl _) q2
        have := hK n x l hr
        omega
  refine ⟨rel_next (by omega) a1 h0, a2, fun t l ht hne => a3 t l (by omega) hne, cg_next (hAS hT0 hB0) (hBS hT0 hB0) (a5 hm), fun _ => cn_next (hAS hT0 hB0) (hBS hT0 hB0) (a5 hm), ?_, fun l hb => ?_, fun l hl => absurd hl (Nat.not_lt_zero l)⟩
  · rw [hm] at a6 ⊢
    exact ans_next hK a6 (by omega)
  · obtain ⟨t0, n0, p1, p2, p3⟩ := a7 l hb
    exact ⟨t0, n0, p1, p2, by omega⟩
theorem L_search (hT0 : InvT σ0) (hA0 : InvA σ0) (hB0 : InvB σ0) (hS : Stdy σ0 st) (hbeg : 0 ≤ beg ∧ beg ≤ 1439) (kk : ∀ σ', SK σ0 kind frm to beg σ' → Ans (AS σ0 kind frm beg) (BS σ0 kind beg) (fun l => dsL σ0 l = to) (gi σ' 2060) (gi σ' 2061) → post none σ') : ∀ (r x : Nat) (σ : Sto), x + r = 3001 → 1 ≤ x → SK σ0 kind frm to beg σ → ((gi σ 2060 = -1 ∧ ∃ F, GI σ0 kind frm to beg st (x : Int) 0 σ F) ∨ (gi σ 2060 ≠ -1 ∧ Ans (AS σ0 kind frm beg) (BS σ0 kind beg) (fun l => dsL σ0 l = to) (gi σ 2060) (gi σ 2061))) → (∃ lo, lo ≤ witF (beg + (x : Int) + gi σ0 3463) ∧ VT σ0 kind σ 35 2179 lo) → (∃ lo, lo ≤ witF (beg + (x : Int) + gi σ0 3464) ∧ VT σ0 kind σ 37 2307 lo) → WP S 73 24 [some (vr 32), some (vi st), some (vi (x : Int))] [] σ post := by
  intro r
  induction r with
  | zero =>
    intro x σ hx hx1 hK hI hVN hVF
    have c1 : (3000 < (x : Int)) = True := eq_true (by omega)
    rw [w73_24]
    simp only [w73_0, w73_1, w73_4, w73_5, w73_8, w73_11, w73_12, w73_15, w73_18, w73_21, w73_22, w73_23, w73_25, w73_28, w73_31, w73_32, w73_35, w73_38, w73_39, w73_42, w73_43, w73_46, w73_47, w73_48, w73_49, w73_52, w73_53, w73_54, w73_55, w73_58, w73_59, w73_62, w73_63, w73_66, w73_69, w73_72, ↓reduceIte, okp_i, okp_r, okp_n, catS_nil, catS_cons, catV_i, catV_r, catV_l, Option.toList_some, Option.toList_none, List.cons_append, List.nil_append, gi_si, ga_si, gi_sa, ga_sa, gi_sl, ga_sl, gi_sf, ga_sf, gl_si, gl_sa, gl_sf, gl_sl, and_true, true_and, if_true, if_false, ite_true, ite_false, not_false_eq_true, not_true_eq_false, Nat.reduceEqDiff, reduceCtorEq, Nat.reduceLeDiff, Nat.reduceAdd, Nat.reduceMul, Nat.reduceLT, Int.reduceNeg, Int.reduceEq, Int.reduceLT, Int.reduceLE, eq_self, Nat.reduceSub, or_true, true_or, or_false, false_or, and_false, false_and, Int.reduceToNat, rc0, rc1, ib2, ib3, ib4, ib5, ib6, ib7, ib8, ib9, ib10, rc11, ib12, rc13, ib14, ib15, ib16, ib17, ib18, ib19, rc20, rc21, ib22, ib23, ib24, rc25, ib26, ib27, ib28, ib29, ib30, ib31, rc32, ib33, rc34, ib35, rc36, ib37, rc38, ib39, ib40, ib41, ib42, ib43, ib44, ib45, ib46, ib47, rc48, ib49, ib50, ib51, ib52, ib53, rc54, ib55, ib56, ib57, ib58, ib59, ib60, ib61, ib62, ib63, ib64, ib65, ib66, ib67, ib68, ib69, ib70, ib71, ib72, ib73, ib74, ib75, ib76, ib77, ib78, ib79, ib80, ib81, c1]
    refine kk σ hK ?_
    rcases hI with ⟨hm, F, hI⟩ | ⟨-, hA⟩
    · have e : (x : Int) = 3001 := by omega
      rw [e] at hI
      have := hI.2.2.2.2.2.1
      rw [hm] at this ⊢
      exact ans_late (hAS hT0 hB0) (hBS hT0 hB0) this
    · exact hA
  | succ r ih =>
    intro x σ hx hx1 hK hI hVN hVF
    have c1 : (3000 < (x : Int)) = False := eq_false (by omega)
    rw [w73_24]
    rcases hI with ⟨hm, F, hI⟩ | ⟨hm, hA⟩
    · by_cases qw : gi σ 2053 ≤ 0
      · simp only [w73_0, w73_1, w73_4, w73_5, w73_8, w73_11, w73_12, w73_15, w73_18, w73_21, w73_22, w73_23, w73_25, w73_28, w73_31, w73_32, w73_35, w73_38, w73_39, w73_42, w73_43, w73_46, w73_47, w73_48, w73_49, w73_52, w73_53, w73_54, w73_55, w73_58, w73_59, w73_62, w73_63, w73_66, w73_69, w73_72, ↓reduceIte, okp_i, okp_r, okp_n, catS_nil, catS_cons, catV_i, catV_r, catV_l, Option.toList_some, Option.toList_none, List.cons_append, List.nil_append, gi_si, ga_si, gi_sa, ga_sa, gi_sl, ga_sl, gi_sf, ga_sf, gl_si, gl_sa, gl_sf, gl_sl, and_true, true_and, if_true, if_false, ite_true, ite_false, not_false_eq_true, not_true_eq_false, Nat.reduceEqDiff, reduceCtorEq, Nat.reduceLeDiff, Nat.reduceAdd, Nat.reduceMul, Nat.reduceLT, Int.reduceNeg, Int.reduceEq, Int.reduceLT, Int.reduceLE, eq_self, Nat.reduceSub, or_true, true_or, or_false, false_or, and_false, false_and, Int.reduceToNat, rc0, rc1, ib2, ib3, ib4, ib5, ib6, ib7, ib8, ib9, ib10, rc11, ib12, rc13, ib14, ib15, ib16, ib17, ib18, ib19, rc20, rc21, ib22, ib23, ib24, rc25, ib26, ib27, ib28, ib29, ib30, ib31, rc32, ib33, rc34, ib35, rc36, ib37, rc38, ib39, ib40, ib41, ib42, ib43, ib44, ib45, ib46, ib47, rc48, ib49, ib50, ib51, ib52, ib53, rc54, ib55, ib56, ib57, ib58, ib59, ib60, ib61, ib62, ib63, ib64, ib65, ib66, ib67, ib68, ib69, ib70, ib71, ib72, ib73, ib74, ib75, ib76, ib77, ib78, ib79, ib80, ib81, c1, qw]
        refine kk σ hK ?_
        obtain ⟨a1, a2, a3, a4, a5, a6, a7, a8⟩ := hI
        have h0 : ∀ t l, (x : Int) ≤ t → t ≤ 3000 → F t l = 0 := by
          intro t l ht ht2
          obtain ⟨NN, hNN, hCC⟩ := a2
          rw [hCC] at qw
          rcases Nat.lt_or_ge l 32 with ql | ql
          · rcases Int.lt_or_le t ((x : Int) + 610) with qt | qt
            · rw [← a1.1 t l ht qt ql]
              exact cnt_0 NN qw _ (ixN ql hNN)
            · exact a1.2.1 t l qt
          · exact a1.2.2 t l ql
        rw [hm] at a6 ⊢
        exact ans_none (dI_S hT0 hB0 hS) dE_S (hAS hT0 hB0) (hBS hT0 hB0) h0 a4 (a5 hm) a6 (by omega)
      · have k59 := hK.2.2.2.2.2
        have ew : wr (beg + (x : Int)) = beg + (x : Int) := wr_id (by omega) (by omega)
        have e1 : wr ((x : Int) + 1) = ((x + 1 : Nat) : Int) := by rw [wr_id (by omega) (by omega)]; omega
        have hx' : x + 1 + r = 3001 := by omega
        obtain ⟨loN, l1, l2⟩ := hVN
        obtain ⟨loF, l3, l4⟩ := hVF
        have hgo : ∀ sb : Int, (sb = 0 ∨ sb = 1) → (sb = 1 → st ≤ beg + (x : Int)) → WP S 76 0 [some (vr 32), some (vi (x : Int)), some (vi sb), none, none, none, none] [] σ (fun v σ1 => v = none ∧ WP S 73 24 [some (vr 32), some (vi st), some (vi ((x + 1 : Nat) : Int))] [] σ1 post) := by
          intro sb s1 s2
          refine S_goOn hT0 hA0 hB0 hS hbeg ⟨by omega, by omega⟩ s1 s2 hK hI l1 l3 l2 l4 ?_
          intro σ1 F1 K1 I1 v1 v2
          have ecast : ((x + 1 : Nat) : Int) = (x : Int) + 1 := by omega
          refine ⟨rfl, ih (x + 1) σ1 hx' (by omega) K1 ?_ ⟨_, wit_mono (by omega), v1⟩ ⟨_, wit_mono (by omega), v2⟩⟩
          by_cases q : gi σ1 2060 = -1
          · refine Or.inl ⟨q, F1, ?_⟩
            rw [ecast]
            exact GI_next hT0 hB0 (by omega) I1 q
          · exact Or.inr ⟨q, ans_found (fun n t l hr => (RA_bd (hAS hT0 hB0) (hBS hT0 hB0) n t l hr).2.2.2.1) I1.2.2.2.2.2.1 q⟩
        by_cases qs : beg + (x : Int) < st
        · simp only [w73_0, w73_1, w73_4, w73_5, w73_8, w73_11, w73_12, w73_15, w73_18, w73_21, w73_22, w73_23, w73_25, w73_28, w73_31, w73_32, w73_35, w73_38, w73_39, w73_42, w73_43, w73_46, w73_47, w73_48, w73_49, w73_52, w73_53, w73_54, w73_55, w73_58, w73_59, w73_62, w73_63, w73_66, w73_69, w73_72, ↓reduceIte, okp_i, okp_r, okp_n, catS_nil, catS_cons, catV_i, catV_r, catV_l, Option.toList_some, Option.toList_none, List.cons_append, List.nil_append, gi_si, ga_si, gi_sa, ga_sa, gi_sl, ga_sl, gi_sf, ga_sf, gl_si, gl_sa, gl_sf, gl_sl, and_true, true_and, if_true, if_false, ite_true, ite_false, not_false_eq_true, not_true_eq_false, Nat.reduceEqDiff, reduceCtorEq, Nat.reduceLeDiff, Nat.reduceAdd, Nat.reduceMul, Nat.reduceLT, Int.reduceNeg, Int.reduceEq, Int.reduceLT, Int.reduceLE, eq_self, Nat.reduceSub, or_true, true_or, or_false, false_or, and_false, false_and, Int.reduceToNat, rc0, rc1, ib2, ib3, ib4, ib5, ib6, ib7, ib8, ib9, ib10, rc11, ib12, rc13, ib14, ib15, ib16, ib17, ib18, ib19, rc20, rc21, ib22, ib23, ib24, rc25, ib26, ib27, ib28, ib29, ib30, ib31, rc32, ib33, rc34, ib35, rc36, ib37, rc38, ib39, ib40, ib41, ib42, ib43, ib44, ib45, ib46, ib47, rc48, ib49, ib50, ib51, ib52, ib53, rc54, ib55, ib56, ib57, ib58, ib59, ib60, ib61, ib62, ib63, ib64, ib65, ib66, ib67, ib68, ib69, ib70, ib71, ib72, ib73, ib74, ib75, ib76, ib77, ib78, ib79, ib80, ib81, c1, qw, hm, k59, ew, qs]
          refine WP_mono (hgo 0 (Or.inl rfl) (fun h => absurd h (by decide))) _ ?_
          rintro v σ1 ⟨rfl, hk⟩
          simp only [w73_0, w73_1, w73_4, w73_5, w73_8, w73_11, w73_12, w73_15, w73_18, w73_21, w73_22, w73_23, w73_25, w73_28, w73_31, w73_32, w73_35, w73_38, w73_39, w73_42, w73_43, w73_46, w73_47, w73_48, w73_49, w73_52, w73_53, w73_54, w73_55, w73_58, w73_59, w73_62, w73_63, w73_66, w73_69, w73_72, ↓reduceIte, okp_i, okp_r, okp_n, catS_nil, catS_cons, catV_i, catV_r, catV_l, Option.toList_some, Option.toList_none, List.cons_append, List.nil_append, gi_si, ga_si, gi_sa, ga_sa, gi_sl, ga_sl, gi_sf, ga_sf, gl_si, gl_sa, gl_sf, gl_sl, and_true, true_and, if_true, if_false, ite_true, ite_false, not_false_eq_true, not_true_eq_false, Nat.reduceEqDiff, reduceCtorEq, Nat.reduceLeDiff, Nat.reduceAdd, Nat.reduceMul, Nat.reduceLT, Int.reduceNeg, Int.reduceEq, Int.reduceLT, Int.reduceLE, eq_self, Nat.reduceSub, or_true, true_or, or_false, false_or, and_false, false_and, Int.reduceToNat, rc0, rc1, ib2, ib3, ib4, ib5, ib6, ib7, ib8, ib9, ib10, rc11, ib12, rc13, ib14, ib15, ib16, ib17, ib18, ib19, rc20, rc21, ib22, ib23, ib24, rc25, ib26, ib27, ib28, ib29, ib30, ib31, rc32, ib33, rc34, ib35, rc36, ib37, rc38, ib39, ib40, ib41, ib42, ib43, ib44, ib45, ib46, ib47, rc48, ib49, ib50, ib51, ib52, ib53, rc54, ib55, ib56, ib57, ib58, ib59, ib60, ib61, ib62, ib63, ib64, ib65, ib66, ib67, ib68, ib69, ib70, ib71, ib72, ib73, ib74, ib75, ib76, ib77, ib78, ib79, ib80, ib81, e1]
          exact hk
        · simp only [w73_0, w73_1, w73_4, w73_5, w73_8, w73_11, w73_12, w73_15, w73_18, w73_21, w73_22, w73_23, w73_25, w73_28, w73_31, w73_32, w73_35, w73_38, w73_39, w73_42, w73_43, w73_46, w73_47, w73_48, w73_49, w73_52, w73_53, w73_54, w73_55, w73_58, w73_59, w73_62, w73_63, w73_66, w73_69, w73_72, ↓reduceIte, okp_i, okp_r, okp_n, catS_nil, catS_cons, catV_i, catV_r, catV_l, Option.toList_some, Option.toList_none, List.cons_append, List.nil_append, gi_si, ga_si, gi_sa, ga_sa, gi_sl, ga_sl, gi_sf, ga_sf, gl_si, gl_sa, gl_sf, gl_sl, and_true, true_and, if_true, if_false, ite_true, ite_false, not_false_eq_true, not_true_eq_false, Nat.reduceEqDiff, reduceCtorEq, Nat.reduceLeDiff, Nat.reduceAdd, Nat.reduceMul, Nat.reduceLT, Int.reduceNeg, Int.reduceEq, Int.reduceLT, Int.reduceLE, eq_self, Nat.reduceSub, or_true, true_or, or_false, false_or, and_false, false_and, Int.reduceToNat, rc0, rc1, ib2, ib3, ib4, ib5, ib6, ib7, ib8, ib9, ib10, rc11, ib12, rc13, ib14, ib15, ib16, ib17, ib18, ib19, rc20, rc21, ib22, ib23, ib24, rc25, ib26, ib27, ib28, ib29, ib30, ib31, rc32, ib33, rc34, ib35, rc36, ib37, rc38, ib39, ib40, ib41, ib42, ib43, ib44, ib45, ib46, ib47, rc48, ib49, ib50, ib51, ib52, ib53, rc54, ib55, ib56, ib57, ib58, ib59, ib60, ib61, ib62, ib63, ib64, ib65, ib66, ib67, ib68, ib69, ib70, ib71, ib72, ib73, ib74, ib75, ib76, ib77, ib78, ib79, ib80, ib81, c1, qw, hm, k59, ew, qs]
          refine WP_mono (hgo 1 (Or.inr rfl) (fun _ => by omega)) _ ?_
          rintro v σ1 ⟨rfl, hk⟩
          simp only [w73_0, w73_1, w73_4, w73_5, w73_8, w73_11, w73_12, w73_15, w73_18, w73_21, w73_22, w73_23, w73_25, w73_28, w73_31, w73_32, w73_35, w73_38, w73_39, w73_42, w73_43, w73_46, w73_47, w73_48, w73_49, w73_52, w73_53, w73_54, w73_55, w73_58, w73_59, w73_62, w73_63, w73_66, w73_69, w73_72, ↓reduceIte, okp_i, okp_r, okp_n, catS_nil, catS_cons, catV_i, catV_r, catV_l, Option.toList_some, Option.toList_none, List.cons_append, List.nil_append, gi_si, ga_si, gi_sa, ga_sa, gi_sl, ga_sl, gi_sf, ga_sf, gl_si, gl_sa, gl_sf, gl_sl, and_true, true_and, if_true, if_false, ite_true, ite_false, not_false_eq_true, not_true_eq_false, Nat.reduceEqDiff, reduceCtorEq, Nat.reduceLeDiff, Nat.reduceAdd, Nat.reduceMul, Nat.reduceLT, Int.reduceNeg, Int.reduceEq, Int.reduceLT, Int.reduceLE, eq_self, Nat.reduceSub, or_true, true_or, or_false, false_or, and_false, false_and, Int.reduceToNat, rc0, rc1, ib2, ib3, ib4, ib5, ib6, ib7, ib8, ib9, ib10, rc11, ib12, rc13, ib14, ib15, ib16, ib17, ib18, ib19, rc20, rc21, ib22, ib23, ib24, rc25, ib26, ib27, ib28, ib29, ib30, ib31, rc32, ib33, rc34, ib35, rc36, ib37, rc38, ib39, ib40, ib41, ib42, ib43, ib44, ib45, ib46, ib47, rc48, ib49, ib50, ib51, ib52, ib53, rc54, ib55, ib56, ib57, ib58, ib59, ib60, ib61, ib62, ib63, ib64, ib65, ib66, ib67, ib68, ib69, ib70, ib71, ib72, ib73, ib74, ib75, ib76, ib77, ib78, ib79, ib80, ib81, e1]
          exact hk
    · by_cases qw : gi σ 2053 ≤ 0
      · simp only [w73_0, w73_1, w73_4, w73_5, w73_8, w73_11, w73_12, w73_15, w73_18, w73_21, w73_22, w73_23, w73_25, w73_28, w73_31, w73_32, w73_35, w73_38, w73_39, w73_42, w73_43, w73_46, w73_47, w73_48, w73_49, w73_52, w73_53, w73_54, w73_55, w73_58, w73_59, w73_62, w73_63, w73_66, w73_69, w73_72, ↓reduceIte, okp_i, okp_r, okp_n, catS_nil, catS_cons, catV_i, catV_r, catV_l, Option.toList_some, Option.toList_none, List.cons_append, List.nil_append, gi_si, ga_si, gi_sa, ga_sa, gi_sl, ga_sl, gi_sf, ga_sf, gl_si, gl_sa, gl_sf, gl_sl, and_true, true_and, if_true, if_false, ite_true, ite_false, not_false_eq_true, not_true_eq_false, Nat.reduceEqDiff, reduceCtorEq, Nat.reduceLeDiff, Nat.reduceAdd, Nat.reduceMul, Nat.reduceLT, Int.reduceNeg, Int.reduceEq, Int.reduceLT, Int.reduceLE, eq_self, Nat.reduceSub, or_true, true_or, or_false, false_or, and_false, false_and, Int.reduceToNat, rc0, rc1, ib2, ib3, ib4, ib5, ib6, ib7, ib8, ib9, ib10, rc11, ib12, rc13, ib14, ib15, ib16, ib17, ib18, ib19, rc20, rc21, ib22, ib23, ib24, rc25, ib26, ib27, ib28, ib29, ib30, ib31, rc32, ib33, rc34, ib35, rc36, ib37, rc38, ib39, ib40, ib41, ib42, ib43, ib44, ib45, ib46, ib47, rc48, ib49, ib50, ib51, ib52, ib53, rc54, ib55, ib56, ib57, ib58, ib59, ib60, ib61, ib62, ib63, ib64, ib65, ib66, ib67, ib68, ib69, ib70, ib71, ib72, ib73, ib74, ib75, ib76, ib77, ib78, ib79, ib80, ib81, c1, qw]
        exact kk σ hK hA
      · have hm' : (gi σ 2060 = -1) = False := eq_false hm
        simp only [w73_0, w73_1, w73_4, w73_5, w73_8, w73_11, w73_12, w73_15, w73_18, w73_21, w73_22, w73_23, w73_25, w73_28, w73_31, w73_32, w73_35, w73_38, w73_39, w73_42, w73_43, w73_46, w73_47, w73_48, w73_49, w73_52, w73_53, w73_54, w73_55, w73_58, w73_59, w73_62, w73_63, w73_66, w73_69, w73_72, ↓reduceIte, okp_i, okp_r, okp_n, catS_nil, catS_cons, catV_i, catV_r, catV_l, Option.toList_some, Option.toList_none, List.cons_append, List.nil_append, gi_si, ga_si, gi_sa, ga_sa, gi_sl, ga_sl, gi_sf, ga_sf, gl_si, gl_sa, gl_sf, gl_sl, and_true, true_and, if_true, if_false, ite_true, ite_false, not_false_eq_true, not_true_eq_false, Nat.reduceEqDiff, reduceCtorEq, Nat.reduceLeDiff, Nat.reduceAdd, Nat.reduceMul, Nat.reduceLT, Int.reduceNeg, Int.reduceEq, Int.reduceLT, Int.reduceLE, eq_self, Nat.reduceSub, or_true, true_or, or_false, false_or, and_false, false_and, Int.reduceToNat, rc0, rc1, ib2, ib3, ib4, ib5, ib6, ib7, ib8, ib9, ib10, rc11, ib12, rc13, ib14, ib15, ib16, ib17, ib18, ib19, rc20, rc21, ib22, ib23, ib24, rc25, ib26, ib27, ib28, ib29, ib30, ib31, rc32, ib33, rc34, ib35, rc36, ib37, rc38, ib39, ib40, ib41, ib42, ib43, ib44, ib45, ib46, ib47, rc48, ib49, ib50, ib51, ib52, ib53, rc54, ib55, ib56, ib57, ib58, ib59, ib60, ib61, ib62, ib63, ib64, ib65, ib66, ib67, ib68, ib69, ib70, ib71, ib72, ib73, ib74, ib75, ib76, ib77, ib78, ib79, ib80, ib81, c1, qw, hm']
        exact kk σ hK hA
theorem L_out (hT0 : InvT σ0) (hA0 : InvA σ0) (hB0 : InvB σ0) {c dg : Nat} (hc8 : c < 8) (hdg : rkF (ga σ0 55) (ga σ0 56) (c : Int) (gi σ0 3461).toNat = dg) {D : Int → Nat → Prop} (hK : SK σ0 kind (c : Int) to beg σ) (hTN : TBL σ0 kind σ 35 beg) (kk : ∀ σ' F, Fr [2053] [33] σ σ' → RelC 0 σ' F → CNT σ' → SND (AS σ0 kind (c : Int) beg) (BS σ0 kind beg) F 0 → (∀ t l, AS σ0 kind (c : Int) beg t l → OKc D F 1 t l) → post none σ') : ∀ (r p : Nat) (σ1 : Sto) (F : Int → Nat → Int) (l2 : Option AV), p + r = dg → Fr [2053] [33] σ σ1 → RelC 0 σ1 F → CNT σ1 → SND (AS σ0 kind (c : Int) beg) (BS σ0 kind beg) F 0 → (∀ t l, AS σ0 kind (c : Int) beg t l → rkF (ga σ0 55) (ga σ0 56) (c : Int) (l / 2) < p → OKc D F 1 t l) → WP S 74 49 [some (vr 32), some (vi (p : Int)), l2] [] σ1 post := by
  have hdg16 : dg ≤ 16 := by
    have := rkF_le (f := ga σ0 55) (g := ga σ0 56) (c := (c : Int)) (gi σ0 3461).toNat
    have t7 := hT0.2.2.2.2.2.2.1
    omega
  intro r
  induction r with
  | zero =>
    intro p σ1 F l2 hp hF hR hC hSn hE
    have K1 := SK_Fr hK hF
    obtain ⟨g1, -, -, k57, -, -⟩ := id K1
    have hdeg := fun post : Pst => S_degree (S := S) (post := post) hA0 g1 hc8
    simp only [hdg] at hdeg
    have c1 : ((dg : Int) ≤ (p : Int)) = True := eq_true (by omega)
    rw [w74_49]
    simp only [w74_0, w74_1, w74_4, w74_5, w74_8, w74_9, w74_10, w74_13, w74_14, w74_15, w74_18, w74_19, w74_22, w74_25, w74_26, w74_29, w74_32, w74_33, w74_36, w74_37, w74_40, w74_41, w74_44, w74_47, w74_48, w74_50, w74_51, w74_54, w74_55, w74_58, w74_61, w74_64, w74_65, w74_68, w74_69, w74_72, w74_73, w74_76, w74_77, w74_78, w74_79, w74_80, w74_81, w74_84, w74_85, w74_88, w74_89, w74_92, w74_95, w74_98, ↓reduceIte, okp_i, okp_r, okp_n, catS_nil, catS_cons, catV_i, catV_r, catV_l, Option.toList_some, Option.toList_none, List.cons_append, List.nil_append, gi_si, ga_si, gi_sa, ga_sa, gi_sl, ga_sl, gi_sf, ga_sf, gl_si, gl_sa, gl_sf, gl_sl, and_true, true_and, if_true, if_false, ite_true, ite_false, not_false_eq_true, not_true_eq_false, Nat.reduceEqDiff, reduceCtorEq, Nat.reduceLeDiff, Nat.reduceAdd, Nat.reduceMul, Nat.reduceLT, Int.reduceNeg, Int.reduceEq, Int.reduceLT, Int.reduceLE, eq_self, Nat.reduceSub, or_true, true_or, or_false, false_or, and_false, false_and, Int.reduceToNat, rc0, rc1, ib2, ib3, ib4, ib5, ib6, ib7, ib8, ib9, ib10, rc11, ib12, rc13, ib14, ib15, ib16, ib17, ib18, ib19, rc20, rc21, ib22, ib23, ib24, rc25, ib26, ib27, ib28, ib29, ib30, ib31, rc32, ib33, rc34, ib35, rc36, ib37, rc38, ib39, ib40, ib41, ib42, ib43, ib44, ib45, ib46, ib47, rc48, ib49, ib50, ib51, ib52, ib53, rc54, ib55, ib56, ib57, ib58, ib59, ib60, ib61, ib62, ib63, ib64, ib65, ib66, ib67, ib68, ib69, ib70, ib71, ib72, ib73, ib74, ib75, ib76, ib77, ib78, ib79, ib80, ib81, k57, hdeg, c1]
    refine kk σ1 F hF hR hC hSn (fun t l ha => hE t l ha ?_)
    have h2 := rkF_lt (f := ga σ0 55) (g := ga σ0 56) (c := (c : Int)) (og_at hT0 ha.1 ha.2.1) (show l / 2 < (gi σ0 3461).toNat by have := ha.1; omega)
    omega
  | succ r ih =>
    intro p σ1 F l2 hp hF hR hC hSn hE
    have K1 := SK_Fr hK hF
    obtain ⟨g1, -, -, k57, -, -⟩ := id K1
    have hdeg := fun post : Pst => S_degree (S := S) (post := post) hA0 g1 hc8
    simp only [hdg] at hdeg
    have c1 : ((dg : Int) ≤ (p : Int)) = False := eq_false (by omega)
    have p16 : p < 16 := by omega
    have hp' : p + 1 + r = dg := by omega
    have e1 : wr ((p : Int) + 1) = ((p + 1 : Nat) : Int) := by rw [wr_id (by omega) (by omega)]; omega
    obtain ⟨l, k1, k2, k3, k4⟩ := ln_at hT0 hA0 hc8 (p := p) (by rw [hdg]; omega)
    have hl32 : l < 32 := by have t7 := hT0.2.2.2.2.2.2.1; omega
    have c2 : (0 ≤ (l : Int)) = True := eq_true (by omega)
    have c3 : ((l : Int) < 32) = True := eq_true (by omega)
    have e35 : ga σ1 35 l = drL σ0 kind l beg := by rw [hF.2 35 (by decide)]; exact hTN l k1
    have db := dr_bd (kind := kind) hT0 hB0 (m := beg) k1
    have hin : WP S 75 0 [some (vr 32), some (vi (l : Int)), some (vi 0), some (vi (drL σ0 kind l beg)), some (vi ((1 : Nat) : Int)), none, none] [] σ1 (fun v σ2 => v = none ∧ ∀ m2 : Option AV, WP S 74 49 [some (vr 32), some (vi ((p + 1 : Nat) : Int)), m2] [] σ2 post) := by
      have huq : ∀ t' l', AS σ0 kind (c : Int) beg t' l' → rkF (ga σ0 55) (ga σ0 56) (c : Int) (l' / 2) < p + 1 → rkF (ga σ0 55) (ga σ0 56) (c : Int) (l' / 2) < p ∨ l' = l := by
        intro t' l' ha hlt
        rcases Nat.lt_succ_iff_lt_or_eq.mp hlt with q | q
        · exact Or.inl q
        · rw [← k3] at q
          exact Or.inr (ln_uniq hT0 k1 k2 ha.2.1 (rkF_inj (og_at hT0 ha.1 ha.2.1) (og_at hT0 k1 k2) q).symm).symm
      refine S_enter hR hC (Int.le_refl _) hl32 ⟨Int.le_refl _, by decide⟩ db (by decide) (by decide) ?_ ?_
      · intro hno
        refine ⟨rfl, fun m2 => ih (p + 1) σ1 F m2 hp' hF hR hC hSn (fun t' l' ha hlt => ?_)⟩
        rcases huq t' l' ha hlt with q | q
        · exact hE t' l' ha q
        · rw [q] at ha
          obtain ⟨b1, b2, b3, b4, b5⟩ := ha
          exact absurd ⟨by omega, by omega⟩ hno
      · intro d1 d2 σ2 hF2 hR2 hC2
        have hA2 : AS σ0 kind (c : Int) beg (0 + drL σ0 kind l beg) l := ⟨k1, k2, by omega, by omega, d2⟩
        refine ⟨rfl, fun m2 => ih (p + 1) σ2 _ m2 hp' (Fr_t hF hF2) hR2 hC2 (upd_snd hSn (RA_i hA2)) (fun t' l' ha hlt => ?_)⟩
        rcases huq t' l' ha hlt with q | q
        · exact upd_ok (by decide) (hE t' l' ha q)
        · rw [q] at ha ⊢
          obtain ⟨b1, b2, b3, b4, b5⟩ := ha
          have e : t' = 0 + drL σ0 kind l beg := by omega
          rw [e]
          exact upd_at (by decide) (SND_nn hSn (by omega)) (Nat.le_refl _)
    have e1' : ((1 : Nat) : Int) = 1 := rfl
    rw [e1'] at hin
    rw [w74_49]
    simp only [w74_0, w74_1, w74_4, w74_5, w74_8, w74_9, w74_10, w74_13, w74_14, w74_15, w74_18, w74_19, w74_22, w74_25, w74_26, w74_29, w74_32, w74_33, w74_36, w74_37, w74_40, w74_41, w74_44, w74_47, w74_48, w74_50, w74_51, w74_54, w74_55, w74_58, w74_61, w74_64, w74_65, w74_68, w74_69, w74_72, w74_73, w74_76, w74_77, w74_78, w74_79, w74_80, w74_81, w74_84, w74_85, w74_88, w74_89, w74_92, w74_95, w74_98, w84_0, w84_1, w84_1b, w84_4, w84_5, w84_6, ↓reduceIte, okp_i, okp_r, okp_n, catS_nil, catS_cons, catV_i, catV_r, catV_l, Option.toList_some, Option.toList_none, List.cons_append, List.nil_append, gi_si, ga_si, gi_sa, ga_sa, gi_sl, ga_sl, gi_sf, ga_sf, gl_si, gl_sa, gl_sf, gl_sl, and_true, true_and, if_true, if_false, ite_true, ite_false, not_false_eq_true, not_true_eq_false, Nat.reduceEqDiff, reduceCtorEq, Nat.reduceLeDiff, Nat.reduceAdd, Nat.reduceMul, Nat.reduceLT, Int.reduceNeg, Int.reduceEq, Int.reduceLT, Int.reduceLE, eq_self, Nat.reduceSub, or_true, true_or, or_false, false_or, and_false, false_and, Int.reduceToNat, rc0, rc1, ib2, ib3, ib4, ib5, ib6, ib7, ib8, ib9, ib10, rc11, ib12, rc13, ib14, ib15, ib16, ib17, ib18, ib19, rc20, rc21, ib22, ib23, ib24, rc25, ib26, ib27, ib28, ib29, ib30, ib31, rc32, ib33, rc34, ib35, rc36, ib37, rc38, ib39, ib40, ib41, ib42, ib43, ib44, ib45, ib46, ib47, rc48, ib49, ib50, ib51, ib52, ib53, rc54, ib55, ib56, ib57, ib58, ib59, ib60, ib61, ib62, ib63, ib64, ib65, ib66, ib67, ib68, ib69, ib70, ib71, ib72, ib73, ib74, ib75, ib76, ib77, ib78, ib79, ib80, ib81, k57, hdeg, c1, S_laneAround g1 hc8 p16, k4, c2, c3, Int.toNat_natCast, e35]
    refine WP_mono hin _ ?_
    rintro v σ2 ⟨rfl, hk⟩
    simp only [w74_0, w74_1, w74_4, w74_5, w74_8, w74_9, w74_10, w74_13, w74_14, w74_15, w74_18, w74_19, w74_22, w74_25, w74_26, w74_29, w74_32, w74_33, w74_36, w74_37, w74_40, w74_41, w74_44, w74_47, w74_48, w74_50, w74_51, w74_54, w74_55, w74_58, w74_61, w74_64, w74_65, w74_68, w74_69, w74_72, w74_73, w74_76, w74_77, w74_78, w74_79, w74_80, w74_81, w74_84, w74_85, w74_88, w74_89, w74_92, w74_95, w74_98, ↓reduceIte, okp_i, okp_r, okp_n, catS_nil, catS_cons, catV_i, catV_r, catV_l, Option.toList_some, Option.toList_none, List.cons_append, List.nil_append, gi_si, ga_si, gi_sa, ga_sa, gi_sl, ga_sl, gi_sf, ga_sf, gl_si, gl_sa, gl_sf, gl_sl, and_true, true_and, if_true, if_false, ite_true, ite_false, not_false_eq_true, not_true_eq_false, Nat.reduceEqDiff, reduceCtorEq, Nat.reduceLeDiff, Nat.reduceAdd, Nat.reduceMul, Nat.reduceLT, Int.reduceNeg, Int.reduceEq, Int.reduceLT, Int.reduceLE, eq_self, Nat.reduceSub, or_true, true_or, or_false, false_or, and_false, false_and, Int.reduceToNat, rc0, rc1, ib2, ib3, ib4, ib5, ib6, ib7, ib8, ib9, ib10, rc11, ib12, rc13, ib14, ib15, ib16, ib17, ib18, ib19, rc20, rc21, ib22, ib23, ib24, rc25, ib26, ib27, ib28, ib29, ib30, ib31, rc32, ib33, rc34, ib35, rc36, ib37, rc38, ib39, ib40, ib41, ib42, ib43, ib44, ib45, ib46, ib47, rc48, ib49, ib50, ib51, ib52, ib53, rc54, ib55, ib56, ib57, ib58, ib59, ib60, ib61, ib62, ib63, ib64, ib65, ib66, ib67, ib68, ib69, ib70, ib71, ib72, ib73, ib74, ib75, ib76, ib77, ib78, ib79, ib80, ib81, e1]
    exact hk _
end SEEK
