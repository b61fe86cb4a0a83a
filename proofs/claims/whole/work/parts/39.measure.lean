/-! the reference's ways on foot: all pairs -/
def RD (f g h : Nat → Int) (n X m : Nat) (D : Nat → Int) : Prop :=
  (∀ x y : Nat, x < 8 → y < 8 → (0 ≤ D (8 * x + y) ∧ D (8 * x + y) ≤ 1000000) ∧ (D (8 * x + y) = 1000000 ∨ ∃ k, wkF f g h n k x y (D (8 * x + y)))) ∧ (∀ x : Nat, x < 8 → D (8 * x + x) = 0) ∧ (∀ s p q : Nat, s < n → p < 8 → q < 8 → ((f s = p ∧ g s = q) ∨ (g s = p ∧ f s = q)) → D (8 * p + q) ≤ h s) ∧ ∀ z x y : Nat, z < m → x < X → y < X → D (8 * x + y) ≤ D (8 * x + z) + D (8 * z + y)
/-- one round of it over the crossing m -/
def nvF (P : Nat → Int) (m x y : Nat) : Int := if P (8 * x + m) + P (8 * m + y) < P (8 * x + y) then P (8 * x + m) + P (8 * m + y) else P (8 * x + y)
theorem nvF_sp {P : Nat → Int} {m x y : Nat} : nvF P m x y ≤ P (8 * x + y) ∧ nvF P m x y ≤ P (8 * x + m) + P (8 * m + y) ∧ (nvF P m x y = P (8 * x + y) ∨ (nvF P m x y = P (8 * x + m) + P (8 * m + y) ∧ P (8 * x + m) + P (8 * m + y) < P (8 * x + y))) := by
  unfold nvF
  split
  · next q => exact ⟨by omega, by omega, Or.inr ⟨rfl, q⟩⟩
  · exact ⟨by omega, by omega, Or.inl rfl⟩
def CD (P : Nat → Int) (X m A B : Nat) (C : Nat → Int) : Prop := ∀ x y : Nat, x < 8 → y < 8 → C (8 * x + y) = if x < X ∧ y < X ∧ (x < A ∨ (x = A ∧ y < B)) then nvF P m x y else P (8 * x + y)
section MEAS
variable {f g h : Nat → Int} {n X : Nat}
theorem RD_next {m : Nat} {P C : Nat → Int} (hX : X ≤ 8) (hm : m < X) (hP : RD f g h n X m P) (hC : CD P X m X 0 C) : RD f g h n X (m + 1) C := by
  obtain ⟨p1, p2, p3, p4⟩ := hP
  have cv : ∀ x y : Nat, x < X → y < X → C (8 * x + y) = nvF P m x y := fun x y hx hy => by
    rw [hC x y (by omega) (by omega), if_pos ⟨hx, hy, Or.inl hx⟩]
  have cle : ∀ x y : Nat, x < 8 → y < 8 → C (8 * x + y) ≤ P (8 * x + y) := fun x y hx hy => by
    rw [hC x y hx hy]
    split
    · exact nvF_sp.1
    · exact Int.le_refl _
  have nn : ∀ x y : Nat, x < 8 → y < 8 → 0 ≤ P (8 * x + y) := fun x y hx hy => (p1 x y hx hy).1.1
  have cnn : ∀ x y : Nat, x < 8 → y < 8 → 0 ≤ C (8 * x + y) := fun x y hx hy => by
    rw [hC x y hx hy]
    split
    · have a1 := nn x m hx (by omega)
      have a2 := nn m y (by omega) hy
      have a3 := nn x y hx hy
      rcases nvF_sp (P := P) (m := m) (x := x) (y := y) with ⟨-, -, e | e⟩ <;> omega
    · exact nn x y hx hy
  refine ⟨fun x y hx hy => ⟨⟨cnn x y hx hy, Int.le_trans (cle x y hx hy) (p1 x y hx hy).1.2⟩, ?_⟩, fun x hx => ?_, fun s p q hs hp hq he => Int.le_trans (cle p q hp hq) (p3 s p q hs hp hq he), ?_⟩
  · rw [hC x y hx hy]
    split
    · rcases nvF_sp (P := P) (m := m) (x := x) (y := y) with ⟨-, -, e | ⟨e, e'⟩⟩
      · rw [e]; exact (p1 x y hx hy).2
      · rw [e]
        have b1 := p1 x m hx (by omega)
        have b2 := p1 m y (by omega) hy
        have b3 := p1 x y hx hy
        rcases b1.2 with r | ⟨k, r⟩
        · omega
        · rcases b2.2 with r' | ⟨k', r'⟩
          · omega
          · exact Or.inr ⟨_, wk_app _ _ _ _ _ _ _ r r'⟩
    · exact (p1 x y hx hy).2
  · have := cle x x hx hx
    have := cnn x x hx hx
    rw [p2 x hx] at *
    omega
  · intro z x y hz hx hy
    have z8 : z < X := by omega
    have pm := p2 m (by omega)
    rw [cv x y hx hy, cv x z hx z8, cv z y z8 hy]
    obtain ⟨a1, a2, -⟩ := nvF_sp (P := P) (m := m) (x := x) (y := y)
    rcases nvF_sp (P := P) (m := m) (x := x) (y := z) with ⟨-, -, e1 | ⟨e1, -⟩⟩ <;> rcases nvF_sp (P := P) (m := m) (x := z) (y := y) with ⟨-, -, e2 | ⟨e2, -⟩⟩
    · rw [e1, e2]
      by_cases q : z < m
      · have := p4 z x y q hx hy; omega
      · have e : z = m := by omega
        subst e
        exact a2
    · rw [e1, e2]
      by_cases q : z < m
      · have := p4 z x m q hx hm; omega
      · have e : z = m := by omega
        subst e
        omega
    · rw [e1, e2]
      by_cases q : z < m
      · have := p4 z m y q hm hy; omega
      · have e : z = m := by omega
        subst e
        omega
    · rw [e1, e2]
      have := nn m z (by omega) (by omega)
      have := nn z m (by omega) (by omega)
      omega
theorem RD_end {D : Nat → Int} (hX : X ≤ 8) (hv : ∀ s, s < n → (0 ≤ f s ∧ f s < X) ∧ (0 ≤ g s ∧ g s < X)) (hp : ∀ s, s < n → 0 ≤ h s) (hD : RD f g h n X X D) : IsD f g h n D := by
  obtain ⟨p1, p2, p3, p4⟩ := hD
  refine IsD_of (fun s hs => by have := hv s hs; omega) (fun a b ha hb => (p1 a b ha hb).1.2) (fun a ha => by rw [p2 a ha]; exact Int.le_refl _) (fun a b ha hb => (p1 a b ha hb).2) ?_
  intro s a c b hs ha hc hb he
  have hvs := hv s hs
  have aX : a < X := by omega
  have cX : c < X := by omega
  have e1 := p3 s a c hs ha hc he
  by_cases bX : b < X
  · have := p4 c a b cX aX bX
    omega
  · have k7 : D (8 * c + b) = 1000000 := by
      rcases (p1 c b hc hb).2 with r | ⟨k, r⟩
      · exact r
      · exfalso
        have key : ∀ (k : Nat) (p : Int) (d : Int), wkF f g h n k p b d → p < X → False := by
          intro k
          induction k with
          | zero => intro p d hw hp'; obtain ⟨e, -⟩ := hw; omega
          | succ k ih =>
            intro p d hw hp'
            obtain ⟨s', e, hs'', he', hw⟩ := hw
            have := hv s' hs''
            exact ih e _ hw (by omega)
        exact key k (c : Int) _ r (by omega)
    have := (p1 a b ha hb).1.2
    have := hp s hs
    omega
end MEAS
section MEASL
variable {S : Scr} {σ : Sto} {post : Pst}
/-- one round's cell -/
theorem CD_step {P C : Nat → Int} {X m A B : Nat} (hX : X ≤ 8) (hm : m < X) (hA : A < X) (hB : B < X) (p0 : P (8 * m + m) = 0) (nn : ∀ x y : Nat, x < 8 → y < 8 → 0 ≤ P (8 * x + y)) (hC : CD P X m A B C) : C (8 * A + m) = P (8 * A + m) ∧ C (8 * m + B) = P (8 * m + B) ∧ C (8 * A + B) = P (8 * A + B) ∧ CD P X m A (B + 1) (fun j => if j = 8 * A + B then nvF P m A B else C j) := by
  have r1 : nvF P m A m = P (8 * A + m) := by
    unfold nvF
    rw [p0, if_neg (by omega)]
  have r2 : nvF P m m B = P (8 * m + B) := by
    unfold nvF
    rw [p0, if_neg (by omega)]
  refine ⟨?_, ?_, ?_, fun x y hx hy => ?_⟩
  · rw [hC A m (by omega) (by omega)]
    split
    · exact r1
    · rfl
  · rw [hC m B (by omega) (by omega)]
    split
    · exact r2
    · rfl
  · rw [hC A B (by omega) (by omega), if_neg (by omega)]
  · dsimp only
    by_cases q : 8 * x + y = 8 * A + B
    · have qx : x = A := by omega
      have qy : y = B := by omega
      subst qx qy
      rw [if_pos rfl, if_pos ⟨by omega, by omega, by omega⟩]
    · rw [if_neg q, hC x y hx hy]
      by_cases q2 : x < X ∧ y < X ∧ (x < A ∨ (x = A ∧ y < B))
      · rw [if_pos q2, if_pos ⟨q2.1, q2.2.1, by omega⟩]
      · rw [if_neg q2, if_neg (fun z => q2 ⟨z.1, z.2.1, by omega⟩)]
theorem CD_row {P C : Nat → Int} {X m A : Nat} (hC : CD P X m A X C) : CD P X m (A + 1) 0 C := by
  intro x y hx hy
  rw [hC x y hx hy]
  by_cases q2 : x < X ∧ y < X ∧ (x < A ∨ (x = A ∧ y < X))
  · rw [if_pos q2, if_pos ⟨q2.1, q2.2.1, by omega⟩]
  · rw [if_neg q2, if_neg (fun z => q2 ⟨z.1, z.2.1, by omega⟩)]
theorem ix8 {x y : Nat} (hx : x < 8) (hy : y < 8) : wr (8 * (x : Int)) = 8 * (x : Int) ∧ wr (8 * (x : Int) + (y : Int)) = ((8 * x + y : Nat) : Int) ∧ (0 ≤ ((8 * x + y : Nat) : Int)) ∧ (((8 * x + y : Nat) : Int) < 64) := by
  refine ⟨wr_id (by omega) (by omega), ?_, by omega, by omega⟩
  rw [wr_id (by omega) (by omega)]
  omega
theorem wr_n1 {x : Nat} (hx : x < 100) : wr ((x : Int) + 1) = ((x + 1 : Nat) : Int) := by
  rw [wr_id (by omega) (by omega)]
  omega
set_option maxRecDepth 100000 in
theorem L_meB {P : Nat → Int} {X m A : Nat} (hx : gi σ 3460 = (X : Int)) (hX : X ≤ 8) (hm : m < X) (hA : A < X) (p0 : P (8 * m + m) = 0) (pp : ∀ x y : Nat, x < 8 → y < 8 → 0 ≤ P (8 * x + y) ∧ P (8 * x + y) ≤ 1000000)
    (kk : ∀ (C : Nat → Int) (l3 l4 : Option AV), CD P X m A X C → WP S 179 245 [some (vr 54), some (vi (m : Int)), some (vi (A : Int)), l3, l4] [] (sf σ 68 C) post) : ∀ (r B : Nat) (C : Nat → Int) (l4 : Option AV), B + r = X → CD P X m A B C → WP S 179 163 [some (vr 54), some (vi (m : Int)), some (vi (A : Int)), some (vi (B : Int)), l4] [] (sf σ 68 C) post := by
  intro r
  induction r with
  | zero =>
    intro B C l4 hB hC
    have e : B = X := by omega
    subst e
    rw [w179_163]
    simp only [w179_164, w179_165, w179_168, ↓reduceIte, okp_i, okp_r, okp_n, catS_nil, catS_cons, catV_i, catV_r, catV_l, Option.toList_some, Option.toList_none, List.cons_append, List.nil_append, gi_si, ga_si, gi_sa, ga_sa, gi_sl, ga_sl, gi_sf, ga_sf, gl_si, gl_sa, gl_sf, gl_sl, and_true, true_and, if_true, if_false, ite_true, ite_false, not_false_eq_true, not_true_eq_false, Nat.reduceEqDiff, reduceCtorEq, Nat.reduceLeDiff, Nat.reduceAdd, Nat.reduceMul, Nat.reduceLT, Int.reduceNeg, Int.reduceEq, Int.reduceLT, Int.reduceLE, eq_self, Nat.reduceSub, or_true, true_or, or_false, false_or, and_false, false_and, Int.reduceToNat, rc0, rc1, ib2, ib3, ib4, ib5, ib6, ib7, ib8, ib9, ib10, rc11, ib12, rc13, ib14, ib15, ib16, ib17, ib18, ib19, rc20, rc21, ib22, ib23, ib24, rc25, ib26, ib27, ib28, ib29, ib30, ib31, rc32, ib33, rc34, ib35, rc36, ib37, rc38, ib39, ib40, ib41, ib42, ib43, ib44, ib45, ib46, ib47, rc48, ib49, ib50, ib51, ib52, ib53, rc54, ib55, ib56, ib57, ib58, ib59, ib60, ib61, ib62, ib63, ib64, ib65, ib66, ib67, ib68, ib69, ib70, ib71, ib72, ib73, ib74, ib75, ib76, ib77, ib78, ib79, ib80, ib81, hx, Int.le_refl]
    exact kk C _ _ hC
  | succ r ih =>
    intro B C l4 hB hC
    have hBX : B < X := by omega
    have c1 : ¬ ((X : Int) ≤ (B : Int)) := by omega
    have sm : B + 1 + r = X := by omega
    have A8 : A < 8 := by omega
    have B8 : B < 8 := by omega
    have m8 : m < 8 := by omega
    have B100 : B < 100 := Nat.lt_trans B8 (by decide)
    have q7 := wr_n1 B100
    obtain ⟨u1, u2, u3, u4⟩ := ix8 A8 m8
    obtain ⟨v1, v2, v3, v4⟩ := ix8 m8 B8
    obtain ⟨x1, x2, x3, x4⟩ := ix8 A8 B8
    obtain ⟨d1, d2, d3, d4⟩ := CD_step hX hm hA hBX p0 (fun x y hx hy => (pp x y hx hy).1) hC
    have b1 := pp A m A8 m8
    have b2 := pp m B m8 B8
    have q8 : wr (P (8 * A + m) + P (8 * m + B)) = P (8 * A + m) + P (8 * m + B) := wr_id (by clear kk ih hC pp d4; omega) (by clear kk ih hC pp d4; omega)
    rw [w179_163]
    by_cases hlt : P (8 * A + m) + P (8 * m + B) < P (8 * A + B)
    · have hlt' : ¬ P (8 * A + B) ≤ P (8 * A + m) + P (8 * m + B) := by clear kk ih hC pp d4; omega
      simp only [w179_0, w179_1, w179_2, w179_3, w179_5, w179_8, w179_9, w179_12, w179_13, w179_14, w179_16, w179_17, w179_18, w179_20, w179_21, w179_24, w179_25, w179_28, w179_31, w179_32, w179_35, w179_38, w179_39, w179_40, w179_41, w179_42, w179_45, w179_48, w179_49, w179_52, w179_53, w179_54, w179_55, w179_58, w179_60, w179_61, w179_64, w179_65, w179_66, w179_67, w179_68, w179_71, w179_72, w179_73, w179_74, w179_75, w179_78, w179_81, w179_82, w179_85, w179_87, w179_88, w179_91, w179_92, w179_93, w179_94, w179_95, w179_98, w179_99, w179_100, w179_101, w179_102, w179_105, w179_106, w179_107, w179_108, w179_109, w179_112, w179_114, w179_115, w179_118, w179_119, w179_120, w179_121, w179_122, w179_125, w179_126, w179_127, w179_128, w179_129, w179_132, w179_133, w179_134, w179_135, w179_138, w179_141, w179_142, w179_144, w179_145, w179_148, w179_151, w179_152, w179_154, w179_155, w179_158, w179_161, w179_162, w179_164, w179_165, w179_168, w179_171, w179_172, w179_175, w179_177, w179_178, w179_179, w179_180, w179_181, w179_182, w179_183, w179_186, w179_188, w179_189, w179_190, w179_191, w179_192, w179_193, w179_194, w179_196, w179_197, w179_200, w179_202, w179_203, w179_204, w179_205, w179_206, w179_208, w179_209, w179_212, w179_214, w179_215, w179_216, w179_217, w179_218, w179_219, w179_222, w179_224, w179_227, w179_228, w179_231, w179_233, w179_234, w179_235, w179_236, w179_237, w179_238, w179_239, w179_242, w179_248, w179_251, w179_254, w179_257, ↓reduceIte, okp_i, okp_r, okp_n, catS_nil, catS_cons, catV_i, catV_r, catV_l, Option.toList_some, Option.toList_none, List.cons_append, List.nil_append, gi_si, ga_si, gi_sa, ga_sa, gi_sl, ga_sl, gi_sf, ga_sf, gl_si, gl_sa, gl_sf, gl_sl, and_true, true_and, if_true, if_false, ite_true, ite_false, not_false_eq_true, not_true_eq_false, Nat.reduceEqDiff, reduceCtorEq, Nat.reduceLeDiff, Nat.reduceAdd, Nat.reduceMul, Nat.reduceLT, Int.reduceNeg, Int.reduceEq, Int.reduceLT, Int.reduceLE, eq_self, Nat.reduceSub, or_true, true_or, or_false, false_or, and_false, false_and, Int.reduceToNat, rc0, rc1, ib2, ib3, ib4, ib5, ib6, ib7, ib8, ib9, ib10, rc11, ib12, rc13, ib14, ib15, ib16, ib17, ib18, ib19, rc20, rc21, ib22, ib23, ib24, rc25, ib26, ib27, ib28, ib29, ib30, ib31, rc32, ib33, rc34, ib35, rc36, ib37, rc38, ib39, ib40, ib41, ib42, ib43, ib44, ib45, ib46, ib47, rc48, ib49, ib50, ib51, ib52, ib53, rc54, ib55, ib56, ib57, ib58, ib59, ib60, ib61, ib62, ib63, ib64, ib65, ib66, ib67, ib68, ib69, ib70, ib71, ib72, ib73, ib74, ib75, ib76, ib77, ib78, ib79, ib80, ib81, hx, c1, u1, u2, u3, u4, v1, v2, v3, v4, x1, x2, x3, x4, q7, q8, d1, d2, d3, hlt, hlt', Int.toNat_natCast, sa_sf]
      have e : (fun j => if j = 8 * A + B then P (8 * A + m) + P (8 * m + B) else C j) = (fun j => if j = 8 * A + B then nvF P m A B else C j) := by
        funext j
        unfold nvF
        rw [if_pos hlt]
      rw [e]
      exact ih (B + 1) _ _ sm d4
    · have hlt' : P (8 * A + B) ≤ P (8 * A + m) + P (8 * m + B) := by clear kk ih hC pp d4; omega
      simp only [w179_0, w179_1, w179_2, w179_3, w179_5, w179_8, w179_9, w179_12, w179_13, w179_14, w179_16, w179_17, w179_18, w179_20, w179_21, w179_24, w179_25, w179_28, w179_31, w179_32, w179_35, w179_38, w179_39, w179_40, w179_41, w179_42, w179_45, w179_48, w179_49, w179_52, w179_53, w179_54, w179_55, w179_58, w179_60, w179_61, w179_64, w179_65, w179_66, w179_67, w179_68, w179_71, w179_72, w179_73, w179_74, w179_75, w179_78, w179_81, w179_82, w179_85, w179_87, w179_88, w179_91, w179_92, w179_93, w179_94, w179_95, w179_98, w179_99, w179_100, w179_101, w179_102, w179_105, w179_106, w179_107, w179_108, w179_109, w179_112, w179_114, w179_115, w179_118, w179_119, w179_120, w179_121, w179_122, w179_125, w179_126, w179_127, w179_128, w179_129, w179_132, w179_133, w179_134, w179_135, w179_138, w179_141, w179_142, w179_144, w179_145, w179_148, w179_151, w179_152, w179_154, w179_155, w179_158, w179_161, w179_162, w179_164, w179_165, w179_168, w179_171, w179_172, w179_175, w179_177, w179_178, w179_179, w179_180, w179_181, w179_182, w179_183, w179_186, w179_188, w179_189, w179_190, w179_191, w179_192, w179_193, w179_194, w179_196, w179_197, w179_200, w179_202, w179_203, w179_204, w179_205, w179_206, w179_208, w179_209, w179_212, w179_214, w179_215, w179_216, w179_217, w179_218, w179_219, w179_222, w179_224, w179_227, w179_228, w179_231, w179_233, w179_234, w179_235, w179_236, w179_237, w179_238, w179_239, w179_242, w179_248, w179_251, w179_254, w179_257, ↓reduceIte, okp_i, okp_r, okp_n, catS_nil, catS_cons, catV_i, catV_r, catV_l, Option.toList_some, Option.toList_none, List.cons_append, List.nil_append, gi_si, ga_si, gi_sa, ga_sa, gi_sl, ga_sl, gi_sf, ga_sf, gl_si, gl_sa, gl_sf, gl_sl, and_true, true_and, if_true, if_false, ite_true, ite_false, not_false_eq_true, not_true_eq_false, Nat.reduceEqDiff, reduceCtorEq, Nat.reduceLeDiff, Nat.reduceAdd, Nat.reduceMul, Nat.reduceLT, Int.reduceNeg, Int.reduceEq, Int.reduceLT, Int.reduceLE, eq_self, Nat.reduceSub, or_true, true_or, or_false, false_or, and_false, false_and, Int.reduceToNat, rc0, rc1, ib2, ib3, ib4, ib5, ib6, ib7, ib8, ib9, ib10, rc11, ib12, rc13, ib14, ib15, ib16, ib17, ib18, ib19, rc20, rc21, ib22, ib23, ib24, rc25, ib26, ib27, ib28, ib29, ib30, ib31, rc32, ib33, rc34, ib35, rc36, ib37, rc38, ib39, ib40, ib41, ib42, ib43, ib44, ib45, ib46, ib47, rc48, ib49, ib50, ib51, ib52, ib53, rc54, ib55, ib56, ib57, ib58, ib59, ib60, ib61, ib62, ib63, ib64, ib65, ib66, ib67, ib68, ib69, ib70, ib71, ib72, ib73, ib74, ib75, ib76, ib77, ib78, ib79, ib80, ib81, hx, c1, u1, u2, u3, u4, v1, v2, v3, v4, x1, x2, x3, x4, q7, q8, d1, d2, d3, hlt, hlt', Int.toNat_natCast, sa_sf]
      have e : (fun j => if j = 8 * A + B then P (8 * A + B) else C j) = (fun j => if j = 8 * A + B then nvF P m A B else C j) := by
        funext j
        unfold nvF
        rw [if_neg hlt]
      rw [e]
      exact ih (B + 1) _ _ sm d4
end MEASL
