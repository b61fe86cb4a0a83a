/-! all the sharings out, one behind the other -/
section DIG
variable {m n i k g : Nat}
theorem dg_q (hm : 0 < m) (hk : k < n) (hd : m ^ (n - 1 - k) ∣ i + 1) : ∃ q, i / m ^ (n - 1 - k) = q ∧ (i + 1) / m ^ (n - 1 - k) = q + 1 ∧ i + 1 = m ^ (n - 1 - k) * (q + 1) := by
  obtain ⟨c, hc⟩ := hd
  have hp : 0 < m ^ (n - 1 - k) := Nat.pow_pos hm
  generalize m ^ (n - 1 - k) = p at *
  cases c with
  | zero => omega
  | succ q =>
    refine ⟨q, ?_, ?_, hc⟩
    · have e : i = p * q + (p - 1) := by rw [Nat.mul_succ] at hc; omega
      rw [e, Nat.mul_add_div hp, Nat.div_eq_of_lt (by omega), Nat.add_zero]
    · rw [hc, Nat.mul_div_cancel_left _ hp]
theorem dg0 (hm : 0 < m) (hk : k ≤ g) (hg : g < n) (hd : m ^ (n - k) ∣ i + 1) : digF m n (i + 1) g = 0 := by
  have h1 : m ^ (n - 1 - g) * m ∣ i + 1 := by
    rw [← Nat.pow_succ]
    exact Nat.dvd_trans (Nat.pow_dvd_pow m (by omega)) hd
  obtain ⟨c, hc⟩ := h1
  have hp : 0 < m ^ (n - 1 - g) := Nat.pow_pos hm
  unfold digF
  rw [hc, Nat.mul_assoc, Nat.mul_div_cancel_left _ hp, Nat.mul_mod_right]
theorem dg1 (hm : 0 < m) (hk : k < n) (hd : m ^ (n - (k + 1)) ∣ i + 1) (hl : digF m n i k + 1 < m) : digF m n (i + 1) k = digF m n i k + 1 ∧ ∀ g, g < k → digF m n (i + 1) g = digF m n i g := by
  rw [show n - (k + 1) = n - 1 - k by omega] at hd
  obtain ⟨q, h1, h2, -⟩ := dg_q hm hk hd
  unfold digF at *
  rw [h1] at hl
  refine ⟨?_, fun g hg => ?_⟩
  · rw [h1, h2, Nat.add_mod, Nat.mod_eq_of_lt (a := 1) (by omega), Nat.mod_eq_of_lt hl]
  · have e : m ^ (n - 1 - g) = m ^ (n - 1 - k) * (m * m ^ (k - 1 - g)) := by
      rw [← Nat.pow_succ', ← Nat.pow_add]
      congr 1
      omega
    have e3 : (q + 1) / m = q / m := by
      rw [Nat.div_eq_iff hm] at *
      have := Nat.div_add_mod q m
      have : m * (q / m) = q / m * m := Nat.mul_comm _ _
      omega
    rw [e, ← Nat.div_div_eq_div_mul, ← Nat.div_div_eq_div_mul, ← Nat.div_div_eq_div_mul, ← Nat.div_div_eq_div_mul, h1, h2, e3]
theorem dg2 (hm : 0 < m) (hk : k < n) (hd : m ^ (n - (k + 1)) ∣ i + 1) (hl : m ≤ digF m n i k + 1) : m ^ (n - k) ∣ i + 1 := by
  rw [show n - (k + 1) = n - 1 - k by omega] at hd
  obtain ⟨q, h1, h2, h3⟩ := dg_q hm hk hd
  unfold digF at hl
  rw [h1] at hl
  have h4 : q % m < m := Nat.mod_lt _ hm
  have h5 : m ∣ q + 1 := by
    refine ⟨q / m + 1, ?_⟩
    have := Nat.div_add_mod q m
    rw [Nat.mul_succ]
    omega
  rw [h3, show n - k = n - 1 - k + 1 by omega, Nat.pow_succ]
  exact Nat.mul_dvd_mul_left _ h5
theorem dg_lt (hm : 0 < m) : digF m n i g < m := Nat.mod_lt _ hm
theorem dg_z : digF m n 0 g = 0 := by unfold digF; rw [Nat.zero_div, Nat.zero_mod]
end DIG
theorem setF_lt {f : Nat → Int} {w : Nat} : ∀ k, setF f w k < 2 ^ k := by
  intro k
  induction k with
  | zero => exact Nat.one_pos
  | succ k ih =>
    simp only [setF]
    rw [Nat.pow_succ]
    split <;> omega
theorem setF_up {f f' : Nat → Int} {w : Nat} : ∀ k, (∀ g, g < k → f g = f' g) → setF f w k = setF f' w k := by
  intro k
  induction k with
  | zero => intro _; rfl
  | succ k ih =>
    intro h
    simp only [setF]
    rw [ih (fun g hg => h g (by omega)), h k (by omega)]
theorem valF_up {T wA f f' : Nat → Int} {n : Nat} (h : ∀ g, g < n → f g = f' g) : ∀ w, valF T wA f n w = valF T wA f' n w := by
  intro w
  induction w with
  | zero => rfl
  | succ w ih => simp only [valF]; rw [ih, setF_up n h]
theorem pw_bd {m k : Nat} (hm : m ≤ 3) (hk : k ≤ 8) : m ^ k ≤ 6561 := Nat.le_trans (Nat.pow_le_pow_left hm k) (Nat.le_trans (Nat.pow_le_pow_right (by decide) hk) (by decide))
/-- all but these ints and arrays is as it was -/
def Fr (KI KA : List Nat) (σ σ' : Sto) : Prop := (∀ k, k ∉ KI → gi σ' k = gi σ k) ∧ ∀ a, a ∉ KA → ga σ' a = ga σ a
theorem Fr_r {KI KA : List Nat} {σ : Sto} : Fr KI KA σ σ := ⟨fun _ _ => rfl, fun _ _ => rfl⟩
theorem Fr_sf {KI KA : List Nat} {σ σ' : Sto} {a : Nat} {f : Nat → Int} (h : Fr KI KA σ σ') (ha : a ∈ KA) : Fr KI KA σ (sf σ' a f) := ⟨fun k hk => h.1 k hk, fun b hb => by
  have e : ¬ b = a := fun e => hb (by rw [e]; exact ha)
  rw [ga_sf, if_neg e]; exact h.2 b hb⟩
theorem Fr_sa {KI KA : List Nat} {σ σ' : Sto} {a i : Nat} {x : Int} (h : Fr KI KA σ σ') (ha : a ∈ KA) : Fr KI KA σ (sa σ' a i x) := Fr_sf h ha
theorem Fr_si {KI KA : List Nat} {σ σ' : Sto} {k : Nat} {x : Int} (h : Fr KI KA σ σ') (ha : k ∈ KI) : Fr KI KA σ (si σ' k x) := ⟨fun j hj => by
  have e : ¬ j = k := fun e => hj (by rw [e]; exact ha)
  rw [gi_si, if_neg e]; exact h.1 j hj, fun a ha => h.2 a ha⟩
theorem Fr_t {KI KA : List Nat} {σ σ' σ'' : Sto} (h : Fr KI KA σ σ') (h' : Fr KI KA σ' σ'') : Fr KI KA σ σ'' := ⟨fun k hk => by rw [h'.1 k hk, h.1 k hk], fun a ha => by rw [h'.2 a ha, h.2 a ha]⟩
theorem Fr_m {KI KA KI' KA' : List Nat} {σ σ' : Sto} (h : Fr KI KA σ σ') (h1 : ∀ k ∈ KI, k ∈ KI') (h2 : ∀ k ∈ KA, k ∈ KA') : Fr KI' KA' σ σ' := ⟨fun k hk => h.1 k (fun q => hk (h1 k q)), fun a ha => h.2 a (fun q => ha (h2 a q))⟩
section SHARE
variable {S : Scr} {σ : Sto} {post : Pst} {n m X : Nat} {W gA gW wA T T' : Nat → Int}
theorem CH_Fr {KI KA : List Nat} {σ' : Sto} (h : CH n m X W gA gW wA σ) (hf : Fr KI KA σ σ') (h1 : ∀ k ∈ KI, k ≠ 2442 ∧ k ≠ 2443 ∧ k ≠ 73 := by decide) (h2 : ∀ k ∈ KA, k ≠ 39 ∧ k ≠ 40 ∧ k ≠ 41 ∧ k ≠ 10 := by decide) : CH n m X W gA gW wA σ' := by
  refine CH_fr h ?_ ?_
  · simp only [eqI, List.forall_mem_cons, List.not_mem_nil, false_implies, implies_true, and_true]
    exact ⟨hf.1 _ (fun q => (h1 _ q).1 rfl), hf.1 _ (fun q => (h1 _ q).2.1 rfl), hf.1 _ (fun q => (h1 _ q).2.2 rfl)⟩
  · simp only [eqA, List.forall_mem_cons, List.not_mem_nil, false_implies, implies_true, and_true]
    exact ⟨hf.2 _ (fun q => (h2 _ q).1 rfl), hf.2 _ (fun q => (h2 _ q).2.1 rfl), hf.2 _ (fun q => (h2 _ q).2.2.1 rfl), hf.2 _ (fun q => (h2 _ q).2.2.2 rfl)⟩
/-- Arrays.fill -/
theorem L_arf {a N : Nat} {v : Int} (hin : ∀ i : Int, inb 0 a i ↔ (0 ≤ i ∧ i < (N : Int))) (hN : N < 100000) (ha : ¬ a = 4000) (kk : ∀ C : Nat → Int, (∀ j, j < N → C j = v) → post none (sf σ a C)) : ∀ (r k : Nat) (C : Nat → Int), k + r = N → (∀ j, j < k → C j = v) → WP S 206 5 [some (vr a), some (vi v), some (vi (k : Int)), some (vi (N : Int))] [] (sf σ a C) post := by
  intro r
  induction r with
  | zero =>
    intro k C hk hC
    have e : k = N := by omega
    subst e
    rw [w206_5]
    simp only [w206_6, w206_7, w206_20, ↓reduceIte, okp_i, okp_r, okp_n, catS_nil, catS_cons, catV_i, catV_r, catV_l, Option.toList_some, Option.toList_none, List.cons_append, List.nil_append, gi_si, ga_si, gi_sa, ga_sa, gi_sl, ga_sl, gi_sf, ga_sf, gl_si, gl_sa, gl_sf, gl_sl, and_true, true_and, if_true, if_false, ite_true, ite_false, not_false_eq_true, not_true_eq_false, Nat.reduceEqDiff, reduceCtorEq, Nat.reduceLeDiff, Nat.reduceAdd, Nat.reduceMul, Nat.reduceLT, Int.reduceNeg, Int.reduceEq, Int.reduceLT, Int.reduceLE, eq_self, Nat.reduceSub, or_true, true_or, or_false, false_or, and_false, false_and, Int.reduceToNat, rc0, rc1, ib2, ib3, ib4, ib5, ib6, ib7, ib8, ib9, ib10, rc11, ib12, rc13, ib14, ib15, ib16, ib17, ib18, ib19, rc20, rc21, ib22, ib23, ib24, rc25, ib26, ib27, ib28, ib29, ib30, ib31, rc32, ib33, rc34, ib35, rc36, ib37, rc38, ib39, ib40, ib41, ib42, ib43, ib44, ib45, ib46, ib47, rc48, ib49, ib50, ib51, ib52, ib53, rc54, ib55, ib56, ib57, ib58, ib59, ib60, ib61, ib62, ib63, ib64, ib65, ib66, ib67, ib68, ib69, ib70, ib71, ib72, ib73, ib74, ib75, ib76, ib77, ib78, ib79, ib80, ib81, Int.le_refl]
    exact kk C hC
  | succ r ih =>
    intro k C hk hC
    have c1 : ¬ ((N : Int) ≤ (k : Int)) := by omega
    have c2 : (0 : Int) ≤ (k : Int) := by omega
    have c3 : (k : Int) < (N : Int) := by omega
    have q7 : wr ((k : Int) + 1) = ((k + 1 : Nat) : Int) := by rw [wr_id (by omega) (by omega)]; omega
    have sm : k + 1 + r = N := by omega
    rw [w206_5]
    simp only [w206_6, w206_7, w206_10, w206_11, w206_12, w206_13, w206_14, w206_17, hin, ha, ↓reduceIte, okp_i, okp_r, okp_n, catS_nil, catS_cons, catV_i, catV_r, catV_l, Option.toList_some, Option.toList_none, List.cons_append, List.nil_append, gi_si, ga_si, gi_sa, ga_sa, gi_sl, ga_sl, gi_sf, ga_sf, gl_si, gl_sa, gl_sf, gl_sl, and_true, true_and, if_true, if_false, ite_true, ite_false, not_false_eq_true, not_true_eq_false, Nat.reduceEqDiff, reduceCtorEq, Nat.reduceLeDiff, Nat.reduceAdd, Nat.reduceMul, Nat.reduceLT, Int.reduceNeg, Int.reduceEq, Int.reduceLT, Int.reduceLE, eq_self, Nat.reduceSub, or_true, true_or, or_false, false_or, and_false, false_and, Int.reduceToNat, rc0, rc1, ib2, ib3, ib4, ib5, ib6, ib7, ib8, ib9, ib10, rc11, ib12, rc13, ib14, ib15, ib16, ib17, ib18, ib19, rc20, rc21, ib22, ib23, ib24, rc25, ib26, ib27, ib28, ib29, ib30, ib31, rc32, ib33, rc34, ib35, rc36, ib37, rc38, ib39, ib40, ib41, ib42, ib43, ib44, ib45, ib46, ib47, rc48, ib49, ib50, ib51, ib52, ib53, rc54, ib55, ib56, ib57, ib58, ib59, ib60, ib61, ib62, ib63, ib64, ib65, ib66, ib67, ib68, ib69, ib70, ib71, ib72, ib73, ib74, ib75, ib76, ib77, ib78, ib79, ib80, ib81, c1, c2, c3, q7, Int.toNat_natCast, sa_sf]
    refine ih (k + 1) _ sm (fun j hj => ?_)
    try dsimp only
    by_cases e : j = k
    · rw [if_pos e]
    · rw [if_neg e]; exact hC j (by omega)
theorem S_fill44 {v : Int} (kk : ∀ C : Nat → Int, (∀ j, j < 3 → C j = v) → post none (sf σ 44 C)) : WP S 206 0 [some (vr 44), some (vi v), none, none] [] σ post := by
  have h0 := L_arf (S := S) (σ := σ) (a := 44) (N := 3) (fun i => ib44) (by decide) (by decide) kk 3 0 (ga σ 44) rfl (fun j hj => absurd hj (Nat.not_lt_zero j))
  rw [sf_id] at h0
  simp only [w206_0, w206_1, w206_2, w206_3_44, w206_4, ↓reduceIte, okp_i, okp_r, okp_n, catS_nil, catS_cons, catV_i, catV_r, catV_l, Option.toList_some, Option.toList_none, List.cons_append, List.nil_append, gi_si, ga_si, gi_sa, ga_sa, gi_sl, ga_sl, gi_sf, ga_sf, gl_si, gl_sa, gl_sf, gl_sl, and_true, true_and, if_true, if_false, ite_true, ite_false, not_false_eq_true, not_true_eq_false, Nat.reduceEqDiff, reduceCtorEq, Nat.reduceLeDiff, Nat.reduceAdd, Nat.reduceMul, Nat.reduceLT, Int.reduceNeg, Int.reduceEq, Int.reduceLT, Int.reduceLE, eq_self, Nat.reduceSub, or_true, true_or, or_false, false_or, and_false, false_and, Int.reduceToNat, rc0, rc1, ib2, ib3, ib4, ib5, ib6, ib7, ib8, ib9, ib10, rc11, ib12, rc13, ib14, ib15, ib16, ib17, ib18, ib19, rc20, rc21, ib22, ib23, ib24, rc25, ib26, ib27, ib28, ib29, ib30, ib31, rc32, ib33, rc34, ib35, rc36, ib37, rc38, ib39, ib40, ib41, ib42, ib43, ib44, ib45, ib46, ib47, rc48, ib49, ib50, ib51, ib52, ib53, rc54, ib55, ib56, ib57, ib58, ib59, ib60, ib61, ib62, ib63, ib64, ib65, ib66, ib67, ib68, ib69, ib70, ib71, ib72, ib73, ib74, ib75, ib76, ib77, ib78, ib79, ib80, ib81]
  exact h0
theorem S_fill43 {v : Int} (kk : ∀ C : Nat → Int, (∀ j, j < 8 → C j = v) → post none (sf σ 43 C)) : WP S 206 0 [some (vr 43), some (vi v), none, none] [] σ post := by
  have h0 := L_arf (S := S) (σ := σ) (a := 43) (N := 8) (fun i => ib43) (by decide) (by decide) kk 8 0 (ga σ 43) rfl (fun j hj => absurd hj (Nat.not_lt_zero j))
  rw [sf_id] at h0
  simp only [w206_0, w206_1, w206_2, w206_3_43, w206_4, ↓reduceIte, okp_i, okp_r, okp_n, catS_nil, catS_cons, catV_i, catV_r, catV_l, Option.toList_some, Option.toList_none, List.cons_append, List.nil_append, gi_si, ga_si, gi_sa, ga_sa, gi_sl, ga_sl, gi_sf, ga_sf, gl_si, gl_sa, gl_sf, gl_sl, and_true, true_and, if_true, if_false, ite_true, ite_false, not_false_eq_true, not_true_eq_false, Nat.reduceEqDiff, reduceCtorEq, Nat.reduceLeDiff, Nat.reduceAdd, Nat.reduceMul, Nat.reduceLT, Int.reduceNeg, Int.reduceEq, Int.reduceLT, Int.reduceLE, eq_self, Nat.reduceSub, or_true, true_or, or_false, false_or, and_false, false_and, Int.reduceToNat, rc0, rc1, ib2, ib3, ib4, ib5, ib6, ib7, ib8, ib9, ib10, rc11, ib12, rc13, ib14, ib15, ib16, ib17, ib18, ib19, rc20, rc21, ib22, ib23, ib24, rc25, ib26, ib27, ib28, ib29, ib30, ib31, rc32, ib33, rc34, ib35, rc36, ib37, rc38, ib39, ib40, ib41, ib42, ib43, ib44, ib45, ib46, ib47, rc48, ib49, ib50, ib51, ib52, ib53, rc54, ib55, ib56, ib57, ib58, ib59, ib60, ib61, ib62, ib63, ib64, ib65, ib66, ib67, ib68, ib69, ib70, ib71, ib72, ib73, ib74, ib75, ib76, ib77, ib78, ib79, ib80, ib81]
  exact h0
theorem S_fill33 {v : Int} (kk : ∀ C : Nat → Int, (∀ j, j < 19520 → C j = v) → post none (sf σ 33 C)) : WP S 206 0 [some (vr 33), some (vi v), none, none] [] σ post := by
  have h0 := L_arf (S := S) (σ := σ) (a := 33) (N := 19520) (fun i => ib33) (by decide) (by decide) kk 19520 0 (ga σ 33) rfl (fun j hj => absurd hj (Nat.not_lt_zero j))
  rw [sf_id] at h0
  simp only [w206_0, w206_1, w206_2, w206_3_33, w206_4, ↓reduceIte, okp_i, okp_r, okp_n, catS_nil, catS_cons, catV_i, catV_r, catV_l, Option.toList_some, Option.toList_none, List.cons_append, List.nil_append, gi_si, ga_si, gi_sa, ga_sa, gi_sl, ga_sl, gi_sf, ga_sf, gl_si, gl_sa, gl_sf, gl_sl, and_true, true_and, if_true, if_false, ite_true, ite_false, not_false_eq_true, not_true_eq_false, Nat.reduceEqDiff, reduceCtorEq, Nat.reduceLeDiff, Nat.reduceAdd, Nat.reduceMul, Nat.reduceLT, Int.reduceNeg, Int.reduceEq, Int.reduceLT, Int.reduceLE, eq_self, Nat.reduceSub, or_true, true_or, or_false, false_or, and_false, false_and, Int.reduceToNat, rc0, rc1, ib2, ib3, ib4, ib5, ib6, ib7, ib8, ib9, ib10, rc11, ib12, rc13, ib14, ib15, ib16, ib17, ib18, ib19, rc20, rc21, ib22, ib23, ib24, rc25, ib26, ib27, ib28, ib29, ib30, ib31, rc32, ib33, rc34, ib35, rc36, ib37, rc38, ib39, ib40, ib41, ib42, ib43, ib44, ib45, ib46, ib47, rc48, ib49, ib50, ib51, ib52, ib53, rc54, ib55, ib56, ib57, ib58, ib59, ib60, ib61, ib62, ib63, ib64, ib65, ib66, ib67, ib68, ib69, ib70, ib71, ib72, ib73, ib74, ib75, ib76, ib77, ib78, ib79, ib80, ib81]
  exact h0
/-- the next sharing out -/
theorem L_next {i : Nat} (hn : gi σ 2442 = (n : Int)) (hm : gi σ 2443 = (m : Int)) (n8 : n ≤ 8) (m3 : m ≤ 3) (m0 : 0 < m) (kk : ∀ C : Nat → Int, (∀ g, g < n → C g = (digF m n (i + 1) g : Int)) → post none (sf σ 43 C)) : ∀ (k : Nat) (x : Int) (C : Nat → Int), x = (k : Int) - 1 → k ≤ n → m ^ (n - k) ∣ i + 1 → (∀ g, g < k → C g = (digF m n i g : Int)) → (∀ g, k ≤ g → g < n → C g = 0) → WP S 65 7 [some (vr 38), some (vi x)] [] (sf σ 43 C) post := by
  have w1 : wr ((m : Int) - 1) = (m : Int) - 1 := wr_id (by omega) (by omega)
  intro k
  induction k with
  | zero =>
    intro x C hx hk hd h1 h2
    have e : x = -1 := by omega
    subst e
    rw [w65_7]
    simp only [w65_8, w65_39, w65_40, w65_53, ↓reduceIte, okp_i, okp_r, okp_n, catS_nil, catS_cons, catV_i, catV_r, catV_l, Option.toList_some, Option.toList_none, List.cons_append, List.nil_append, gi_si, ga_si, gi_sa, ga_sa, gi_sl, ga_sl, gi_sf, ga_sf, gl_si, gl_sa, gl_sf, gl_sl, and_true, true_and, if_true, if_false, ite_true, ite_false, not_false_eq_true, not_true_eq_false, Nat.reduceEqDiff, reduceCtorEq, Nat.reduceLeDiff, Nat.reduceAdd, Nat.reduceMul, Nat.reduceLT, Int.reduceNeg, Int.reduceEq, Int.reduceLT, Int.reduceLE, eq_self, Nat.reduceSub, or_true, true_or, or_false, false_or, and_false, false_and, Int.reduceToNat, rc0, rc1, ib2, ib3, ib4, ib5, ib6, ib7, ib8, ib9, ib10, rc11, ib12, rc13, ib14, ib15, ib16, ib17, ib18, ib19, rc20, rc21, ib22, ib23, ib24, rc25, ib26, ib27, ib28, ib29, ib30, ib31, rc32, ib33, rc34, ib35, rc36, ib37, rc38, ib39, ib40, ib41, ib42, ib43, ib44, ib45, ib46, ib47, rc48, ib49, ib50, ib51, ib52, ib53, rc54, ib55, ib56, ib57, ib58, ib59, ib60, ib61, ib62, ib63, ib64, ib65, ib66, ib67, ib68, ib69, ib70, ib71, ib72, ib73, ib74, ib75, ib76, ib77, ib78, ib79, ib80, ib81]
    exact kk C (fun g hg => by rw [h2 g (Nat.zero_le g) hg, dg0 m0 (Nat.zero_le g) hg hd]; rfl)
  | succ k ih =>
    intro x C hx hk hd h1 h2
    have e : x = (k : Int) := by omega
    subst e
    have kn : k < n := by omega
    have c1 : ¬ ((k : Int) < 0) := by omega
    have c2 : (0 : Int) ≤ (k : Int) := by omega
    have c3 : (k : Int) < 8 := by omega
    have dl := dg_lt (n := n) (i := i) (g := k) m0
    have hCk := h1 k (by omega)
    rw [w65_7]
    by_cases q : digF m n i k + 1 < m
    · obtain ⟨d1, d2⟩ := dg1 m0 kn hd q
      have q' : ((digF m n i k : Nat) : Int) < (m : Int) - 1 := by omega
      have q8 : wr (((digF m n i k : Nat) : Int) + 1) = ((digF m n i k : Nat) : Int) + 1 := wr_id (by omega) (by omega)
      simp only [w65_0, w65_1, w65_4, w65_5, w65_6, w65_8, w65_11, w65_12, w65_15, w65_16, w65_17, w65_18, w65_21, w65_22, w65_23, w65_26, w65_27, w65_30, w65_31, w65_32, w65_33, w65_36, w65_39, w65_40, w65_43, w65_44, w65_47, w65_48, w65_49, w65_50, w65_51, w65_52, w65_53, ↓reduceIte, okp_i, okp_r, okp_n, catS_nil, catS_cons, catV_i, catV_r, catV_l, Option.toList_some, Option.toList_none, List.cons_append, List.nil_append, gi_si, ga_si, gi_sa, ga_sa, gi_sl, ga_sl, gi_sf, ga_sf, gl_si, gl_sa, gl_sf, gl_sl, and_true, true_and, if_true, if_false, ite_true, ite_false, not_false_eq_true, not_true_eq_false, Nat.reduceEqDiff, reduceCtorEq, Nat.reduceLeDiff, Nat.reduceAdd, Nat.reduceMul, Nat.reduceLT, Int.reduceNeg, Int.reduceEq, Int.reduceLT, Int.reduceLE, eq_self, Nat.reduceSub, or_true, true_or, or_false, false_or, and_false, false_and, Int.reduceToNat, rc0, rc1, ib2, ib3, ib4, ib5, ib6, ib7, ib8, ib9, ib10, rc11, ib12, rc13, ib14, ib15, ib16, ib17, ib18, ib19, rc20, rc21, ib22, ib23, ib24, rc25, ib26, ib27, ib28, ib29, ib30, ib31, rc32, ib33, rc34, ib35, rc36, ib37, rc38, ib39, ib40, ib41, ib42, ib43, ib44, ib45, ib46, ib47, rc48, ib49, ib50, ib51, ib52, ib53, rc54, ib55, ib56, ib57, ib58, ib59, ib60, ib61, ib62, ib63, ib64, ib65, ib66, ib67, ib68, ib69, ib70, ib71, ib72, ib73, ib74, ib75, ib76, ib77, ib78, ib79, ib80, ib81, hn, hm, c1, c2, c3, w1, hCk, q', q8, Int.toNat_natCast, sa_sf]
      refine kk _ (fun g hg => ?_)
      try dsimp only
      by_cases e : g = k
      · subst e
        rw [if_pos rfl, d1]
        omega
      · rw [if_neg e]
        by_cases e2 : g < k
        · rw [d2 g e2]
          exact h1 g (by omega)
        · rw [h2 g (by omega) hg, dg0 m0 (k := k + 1) (by omega) hg hd]
          rfl
    · have hd2 := dg2 m0 kn hd (by omega)
      have q' : ¬ ((digF m n i k : Nat) : Int) < (m : Int) - 1 := by omega
      have q8 : wr ((k : Int) + -1) = (k : Int) - 1 := by rw [wr_id (by omega) (by omega)]; omega
      simp only [w65_0, w65_1, w65_4, w65_5, w65_6, w65_8, w65_11, w65_12, w65_15, w65_16, w65_17, w65_18, w65_21, w65_22, w65_23, w65_26, w65_27, w65_30, w65_31, w65_32, w65_33, w65_36, w65_39, w65_40, w65_43, w65_44, w65_47, w65_48, w65_49, w65_50, w65_51, w65_52, w65_53, ↓reduceIte, okp_i, okp_r, okp_n, catS_nil, catS_cons, catV_i, catV_r, catV_l, Option.toList_some, Option.toList_none, List.cons_append, List.nil_append, gi_si, ga_si, gi_sa, ga_sa, gi_sl, ga_sl, gi_sf, ga_sf, gl_si, gl_sa, gl_sf, gl_sl, and_true, true_and, if_true, if_false, ite_true, ite_false, not_false_eq_true, not_true_eq_false, Nat.reduceEqDiff, reduceCtorEq, Nat.reduceLeDiff, Nat.reduceAdd, Nat.reduceMul, Nat.reduceLT, Int.reduceNeg, Int.reduceEq, Int.reduceLT, Int.reduceLE, eq_self, Nat.reduceSub, or_true, true_or, or_false, false_or, and_false, false_and, Int.reduceToNat, rc0, rc1, ib2, ib3, ib4, ib5, ib6, ib7, ib8, ib9, ib10, rc11, ib12, rc13, ib14, ib15, ib16, ib17, ib18, ib19, rc20, rc21, ib22, ib23, ib24, rc25, ib26, ib27, ib28, ib29, ib30, ib31, rc32, ib33, rc34, ib35, rc36, ib37, rc38, ib39, ib40, ib41, ib42, ib43, ib44, ib45, ib46, ib47, rc48, ib49, ib50, ib51, ib52, ib53, rc54, ib55, ib56, ib57, ib58, ib59, ib60, ib61, ib62, ib63, ib64, ib65, ib66, ib67, ib68, ib69, ib70, ib71, ib72, ib73, ib74, ib75, ib76, ib77, ib78, ib79, ib80, ib81, hn, hm, c1, c2, c3, w1, hCk, q', q8, Int.toNat_natCast, sa_sf]
      refine ih _ _ rfl (by omega) hd2 (fun g hg => ?_) (fun g hg hg' => ?_)
      · try dsimp only
        rw [if_neg (by omega)]
        exact h1 g (by omega)
      · try dsimp only
        by_cases e : g = k
        · rw [if_pos e]
        · rw [if_neg e]
          exact h2 g (by omega) hg'
theorem S_next {i : Nat} (hn : gi σ 2442 = (n : Int)) (hm : gi σ 2443 = (m : Int)) (n8 : n ≤ 8) (m3 : m ≤ 3) (m0 : 0 < m) (ht : ∀ g, g < n → ga σ 43 g = (digF m n i g : Int)) (kk : ∀ C : Nat → Int, (∀ g, g < n → C g = (digF m n (i + 1) g : Int)) → post none (sf σ 43 C)) : WP S 65 0 [some (vr 38), none] [] σ post := by
  have w1 : wr ((n : Int) - 1) = (n : Int) - 1 := wr_id (by omega) (by omega)
  have h0 := L_next (S := S) (i := i) hn hm n8 m3 m0 kk n _ (ga σ 43) rfl (Nat.le_refl n) (by rw [Nat.sub_self, Nat.pow_zero]; exact Nat.one_dvd _) ht (fun g h1 h2 => absurd h2 (by omega))
  rw [sf_id] at h0
  simp only [w65_0, w65_1, w65_4, w65_5, w65_6, ↓reduceIte, okp_i, okp_r, okp_n, catS_nil, catS_cons, catV_i, catV_r, catV_l, Option.toList_some, Option.toList_none, List.cons_append, List.nil_append, gi_si, ga_si, gi_sa, ga_sa, gi_sl, ga_sl, gi_sf, ga_sf, gl_si, gl_sa, gl_sf, gl_sl, and_true, true_and, if_true, if_false, ite_true, ite_false, not_false_eq_true, not_true_eq_false, Nat.reduceEqDiff, reduceCtorEq, Nat.reduceLeDiff, Nat.reduceAdd, Nat.reduceMul, Nat.reduceLT, Int.reduceNeg, Int.reduceEq, Int.reduceLT, Int.reduceLE, eq_self, Nat.reduceSub, or_true, true_or, or_false, false_or, and_false, false_and, Int.reduceToNat, rc0, rc1, ib2, ib3, ib4, ib5, ib6, ib7, ib8, ib9, ib10, rc11, ib12, rc13, ib14, ib15, ib16, ib17, ib18, ib19, rc20, rc21, ib22, ib23, ib24, rc25, ib26, ib27, ib28, ib29, ib30, ib31, rc32, ib33, rc34, ib35, rc36, ib37, rc38, ib39, ib40, ib41, ib42, ib43, ib44, ib45, ib46, ib47, rc48, ib49, ib50, ib51, ib52, ib53, rc54, ib55, ib56, ib57, ib58, ib59, ib60, ib61, ib62, ib63, ib64, ib65, ib66, ib67, ib68, ib69, ib70, ib71, ib72, ib73, ib74, ib75, ib76, ib77, ib78, ib79, ib80, ib81, hn, w1]
  exact h0
/-- a sharing out, weighed -/
theorem L_we1 {f : Nat → Int} (hn : gi σ 2442 = (n : Int)) (n8 : n ≤ 8) (m3 : m ≤ 3) (hf : ∀ g, g < n → ga σ 43 g = f g ∧ 0 ≤ f g ∧ f g < m) (kk : ∀ (C : Nat → Int) (l1 l2 : Option AV), (∀ w, w < m → C w = (setF f w n : Int)) → WP S 64 41 [some (vr 38), l1, l2] [] (sf σ 44 C) post) : ∀ (r k : Nat) (C : Nat → Int) (l2 : Option AV), k + r = n → (∀ w, w < m → C w = (setF f w k : Int)) → WP S 64 10 [some (vr 38), some (vi (k : Int)), l2] [] (sf σ 44 C) post := by
  intro r
  induction r with
  | zero =>
    intro k C l2 hk hC
    have e : k = n := by omega
    subst e
    rw [w64_10]
    simp only [w64_11, w64_12, w64_15, ↓reduceIte, okp_i, okp_r, okp_n, catS_nil, catS_cons, catV_i, catV_r, catV_l, Option.toList_some, Option.toList_none, List.cons_append, List.nil_append, gi_si, ga_si, gi_sa, ga_sa, gi_sl, ga_sl, gi_sf, ga_sf, gl_si, gl_sa, gl_sf, gl_sl, and_true, true_and, if_true, if_false, ite_true, ite_false, not_false_eq_true, not_true_eq_false, Nat.reduceEqDiff, reduceCtorEq, Nat.reduceLeDiff, Nat.reduceAdd, Nat.reduceMul, Nat.reduceLT, Int.reduceNeg, Int.reduceEq, Int.reduceLT, Int.reduceLE, eq_self, Nat.reduceSub, or_true, true_or, or_false, false_or, and_false, false_and, Int.reduceToNat, rc0, rc1, ib2, ib3, ib4, ib5, ib6, ib7, ib8, ib9, ib10, rc11, ib12, rc13, ib14, ib15, ib16, ib17, ib18, ib19, rc20, rc21, ib22, ib23, ib24, rc25, ib26, ib27, ib28, ib29, ib30, ib31, rc32, ib33, rc34, ib35, rc36, ib37, rc38, ib39, ib40, ib41, ib42, ib43, ib44, ib45, ib46, ib47, rc48, ib49, ib50, ib51, ib52, ib53, rc54, ib55, ib56, ib57, ib58, ib59, ib60, ib61, ib62, ib63, ib64, ib65, ib66, ib67, ib68, ib69, ib70, ib71, ib72, ib73, ib74, ib75, ib76, ib77, ib78, ib79, ib80, ib81, hn, Int.le_refl]
    exact kk C _ _ hC
  | succ r ih =>
    intro k C l2 hk hC
    have c1 : ¬ ((n : Int) ≤ (k : Int)) := by omega
    have kn : k < n := by omega
    have k8 : k < 8 := by omega
    have c2 : (0 : Int) ≤ (k : Int) := by omega
    have c3 : (k : Int) < 8 := by omega
    have q7 := wr_n1 (x := k) (by omega)
    have sm : k + 1 + r = n := by omega
    obtain ⟨f1, f2, f3⟩ := hf k kn
    obtain ⟨t, ft⟩ : ∃ t : Nat, f k = (t : Int) := ⟨(f k).toNat, by omega⟩
    have tm : t < m := by omega
    have c4 : (0 : Int) ≤ (t : Int) := by omega
    have c5 : (t : Int) < 3 := by omega
    have hCt := hC t tm
    have bo := bt_o k8 (setF_lt (f := f) (w := t) k)
    have bs := bt_s (g := k) (by omega)
    rw [w64_10]
    simp only [w64_0, w64_1, w64_4, w64_5, w64_8, w64_9, w64_11, w64_12, w64_15, w64_18, w64_19, w64_22, w64_23, w64_26, w64_27, w64_28, w64_29, w64_30, w64_31, w64_32, w64_33, w64_34, w64_35, w64_38, w64_42, w64_43, w64_44, w64_46, w64_47, w64_50, w64_53, w64_54, w64_55, w64_56, w64_59, w64_60, w64_61, w64_62, w64_65, w64_66, w64_67, w64_70, w64_73, w64_74, w64_77, w64_80, w64_81, ↓reduceIte, okp_i, okp_r, okp_n, catS_nil, catS_cons, catV_i, catV_r, catV_l, Option.toList_some, Option.toList_none, List.cons_append, List.nil_append, gi_si, ga_si, gi_sa, ga_sa, gi_sl, ga_sl, gi_sf, ga_sf, gl_si, gl_sa, gl_sf, gl_sl, and_true, true_and, if_true, if_false, ite_true, ite_false, not_false_eq_true, not_true_eq_false, Nat.reduceEqDiff, reduceCtorEq, Nat.reduceLeDiff, Nat.reduceAdd, Nat.reduceMul, Nat.reduceLT, Int.reduceNeg, Int.reduceEq, Int.reduceLT, Int.reduceLE, eq_self, Nat.reduceSub, or_true, true_or, or_false, false_or, and_false, false_and, Int.reduceToNat, rc0, rc1, ib2, ib3, ib4, ib5, ib6, ib7, ib8, ib9, ib10, rc11, ib12, rc13, ib14, ib15, ib16, ib17, ib18, ib19, rc20, rc21, ib22, ib23, ib24, rc25, ib26, ib27, ib28, ib29, ib30, ib31, rc32, ib33, rc34, ib35, rc36, ib37, rc38, ib39, ib40, ib41, ib42, ib43, ib44, ib45, ib46, ib47, rc48, ib49, ib50, ib51, ib52, ib53, rc54, ib55, ib56, ib57, ib58, ib59, ib60, ib61, ib62, ib63, ib64, ib65, ib66, ib67, ib68, ib69, ib70, ib71, ib72, ib73, ib74, ib75, ib76, ib77, ib78, ib79, ib80, ib81, hn, c1, c2, c3, c4, c5, f1, ft, hCt, bo, bs, q7, Int.toNat_natCast, sa_sf]
    refine ih (k + 1) _ _ sm (fun w hw => ?_)
    simp only [setF]
    by_cases e : w = t
    · subst e
      rw [if_pos rfl, if_pos ft]
    · rw [if_neg e, if_neg (by omega), Nat.add_zero]
      exact hC w hw
theorem L_we2 {f : Nat → Int} (hP : PC n m X W gA gW wA) (hC : CH n m X W gA gW wA σ) (hs : ∀ w, w < m → ga σ 44 w = (setF f w n : Int)) : ∀ r k : Nat, k + r = m → (WP S 64 45 [some (vr 38), some (vi (valF (ga σ 42) wA f n k)), some (vi (k : Int))] [] σ post ↔ post (some (vi (valF (ga σ 42) wA f n m))) σ) := by
  have hm := hC.2.1
  have m3 := hP.2.1
  have pn := pw8 hP.1
  intro r
  induction r with
  | zero =>
    intro k hk
    have e : k = m := by omega
    subst e
    rw [w64_45]
    simp only [w64_0, w64_1, w64_4, w64_5, w64_8, w64_9, w64_11, w64_12, w64_15, w64_18, w64_19, w64_22, w64_23, w64_26, w64_27, w64_28, w64_29, w64_30, w64_31, w64_32, w64_33, w64_34, w64_35, w64_38, w64_42, w64_43, w64_44, w64_46, w64_47, w64_50, w64_53, w64_54, w64_55, w64_56, w64_59, w64_60, w64_61, w64_62, w64_65, w64_66, w64_67, w64_70, w64_73, w64_74, w64_77, w64_80, w64_81, ↓reduceIte, okp_i, okp_r, okp_n, catS_nil, catS_cons, catV_i, catV_r, catV_l, Option.toList_some, Option.toList_none, List.cons_append, List.nil_append, gi_si, ga_si, gi_sa, ga_sa, gi_sl, ga_sl, gi_sf, ga_sf, gl_si, gl_sa, gl_sf, gl_sl, and_true, true_and, if_true, if_false, ite_true, ite_false, not_false_eq_true, not_true_eq_false, Nat.reduceEqDiff, reduceCtorEq, Nat.reduceLeDiff, Nat.reduceAdd, Nat.reduceMul, Nat.reduceLT, Int.reduceNeg, Int.reduceEq, Int.reduceLT, Int.reduceLE, eq_self, Nat.reduceSub, or_true, true_or, or_false, false_or, and_false, false_and, Int.reduceToNat, rc0, rc1, ib2, ib3, ib4, ib5, ib6, ib7, ib8, ib9, ib10, rc11, ib12, rc13, ib14, ib15, ib16, ib17, ib18, ib19, rc20, rc21, ib22, ib23, ib24, rc25, ib26, ib27, ib28, ib29, ib30, ib31, rc32, ib33, rc34, ib35, rc36, ib37, rc38, ib39, ib40, ib41, ib42, ib43, ib44, ib45, ib46, ib47, rc48, ib49, ib50, ib51, ib52, ib53, rc54, ib55, ib56, ib57, ib58, ib59, ib60, ib61, ib62, ib63, ib64, ib65, ib66, ib67, ib68, ib69, ib70, ib71, ib72, ib73, ib74, ib75, ib76, ib77, ib78, ib79, ib80, ib81, hm, Int.le_refl]
  | succ r ih =>
    intro k hk
    have km : k < m := by omega
    have c1 : ¬ ((m : Int) ≤ (k : Int)) := by omega
    have c2 : (0 : Int) ≤ (k : Int) := by omega
    have c3 : (k : Int) < 3 := by omega
    have q7 := wr_n1 (x := k) (by omega)
    have sm : k + 1 + r = m := by omega
    have i := ih (k + 1) sm
    obtain ⟨a, ea⟩ : ∃ a : Nat, wA k = (a : Int) := ⟨(wA k).toNat, by have := hP.2.2.2.2.1 k km; omega⟩
    have a8 : a < 8 := by have := hP.2.2.2.2.1 k km; have := hP.2.2.1; omega
    have e41 := hC.2.2.2.2.1 k km
    have s8 : setF f k n < 256 := Nat.lt_of_lt_of_le (setF_lt n) pn
    have e44 := hs k km
    simp only [valF, ea, Int.toNat_natCast] at i
    rw [w64_45]
    simp only [w64_0, w64_1, w64_4, w64_5, w64_8, w64_9, w64_11, w64_12, w64_15, w64_18, w64_19, w64_22, w64_23, w64_26, w64_27, w64_28, w64_29, w64_30, w64_31, w64_32, w64_33, w64_34, w64_35, w64_38, w64_42, w64_43, w64_44, w64_46, w64_47, w64_50, w64_53, w64_54, w64_55, w64_56, w64_59, w64_60, w64_61, w64_62, w64_65, w64_66, w64_67, w64_70, w64_73, w64_74, w64_77, w64_80, w64_81, ↓reduceIte, okp_i, okp_r, okp_n, catS_nil, catS_cons, catV_i, catV_r, catV_l, Option.toList_some, Option.toList_none, List.cons_append, List.nil_append, gi_si, ga_si, gi_sa, ga_sa, gi_sl, ga_sl, gi_sf, ga_sf, gl_si, gl_sa, gl_sf, gl_sl, and_true, true_and, if_true, if_false, ite_true, ite_false, not_false_eq_true, not_true_eq_false, Nat.reduceEqDiff, reduceCtorEq, Nat.reduceLeDiff, Nat.reduceAdd, Nat.reduceMul, Nat.reduceLT, Int.reduceNeg, Int.reduceEq, Int.reduceLT, Int.reduceLE, eq_self, Nat.reduceSub, or_true, true_or, or_false, false_or, and_false, false_and, Int.reduceToNat, rc0, rc1, ib2, ib3, ib4, ib5, ib6, ib7, ib8, ib9, ib10, rc11, ib12, rc13, ib14, ib15, ib16, ib17, ib18, ib19, rc20, rc21, ib22, ib23, ib24, rc25, ib26, ib27, ib28, ib29, ib30, ib31, rc32, ib33, rc34, ib35, rc36, ib37, rc38, ib39, ib40, ib41, ib42, ib43, ib44, ib45, ib46, ib47, rc48, ib49, ib50, ib51, ib52, ib53, rc54, ib55, ib56, ib57, ib58, ib59, ib60, ib61, ib62, ib63, ib64, ib65, ib66, ib67, ib68, ib69, ib70, ib71, ib72, ib73, ib74, ib75, ib76, ib77, ib78, ib79, ib80, ib81, hm, c1, c2, c3, q7, e44, e41, ea, S_need s8 a8, Int.toNat_natCast]
    exact i
theorem S_weigh {f : Nat → Int} (hP : PC n m X W gA gW wA) (hC : CH n m X W gA gW wA σ) (hf : ∀ g, g < n → ga σ 43 g = f g ∧ 0 ≤ f g ∧ f g < m) (kk : ∀ C, post (some (vi (valF (ga σ 42) wA f n m))) (sf σ 44 C)) : WP S 64 0 [some (vr 38), none, none] [] σ post := by
  simp only [w64_0, w64_1, w64_4, w64_5, ↓reduceIte, okp_i, okp_r, okp_n, catS_nil, catS_cons, catV_i, catV_r, catV_l, Option.toList_some, Option.toList_none, List.cons_append, List.nil_append, gi_si, ga_si, gi_sa, ga_sa, gi_sl, ga_sl, gi_sf, ga_sf, gl_si, gl_sa, gl_sf, gl_sl, and_true, true_and, if_true, if_false, ite_true, ite_false, not_false_eq_true, not_true_eq_false, Nat.reduceEqDiff, reduceCtorEq, Nat.reduceLeDiff, Nat.reduceAdd, Nat.reduceMul, Nat.reduceLT, Int.reduceNeg, Int.reduceEq, Int.reduceLT, Int.reduceLE, eq_self, Nat.reduceSub, or_true, true_or, or_false, false_or, and_false, false_and, Int.reduceToNat, rc0, rc1, ib2, ib3, ib4, ib5, ib6, ib7, ib8, ib9, ib10, rc11, ib12, rc13, ib14, ib15, ib16, ib17, ib18, ib19, rc20, rc21, ib22, ib23, ib24, rc25, ib26, ib27, ib28, ib29, ib30, ib31, rc32, ib33, rc34, ib35, rc36, ib37, rc38, ib39, ib40, ib41, ib42, ib43, ib44, ib45, ib46, ib47, rc48, ib49, ib50, ib51, ib52, ib53, rc54, ib55, ib56, ib57, ib58, ib59, ib60, ib61, ib62, ib63, ib64, ib65, ib66, ib67, ib68, ib69, ib70, ib71, ib72, ib73, ib74, ib75, ib76, ib77, ib78, ib79, ib80, ib81]
  refine S_fill44 (fun C0 hC0 => ?_)
  simp only [w64_8, w64_9, ↓reduceIte, okp_i, okp_r, okp_n, catS_nil, catS_cons, catV_i, catV_r, catV_l, Option.toList_some, Option.toList_none, List.cons_append, List.nil_append, gi_si, ga_si, gi_sa, ga_sa, gi_sl, ga_sl, gi_sf, ga_sf, gl_si, gl_sa, gl_sf, gl_sl, and_true, true_and, if_true, if_false, ite_true, ite_false, not_false_eq_true, not_true_eq_false, Nat.reduceEqDiff, reduceCtorEq, Nat.reduceLeDiff, Nat.reduceAdd, Nat.reduceMul, Nat.reduceLT, Int.reduceNeg, Int.reduceEq, Int.reduceLT, Int.reduceLE, eq_self, Nat.reduceSub, or_true, true_or, or_false, false_or, and_false, false_and, Int.reduceToNat, rc0, rc1, ib2, ib3, ib4, ib5, ib6, ib7, ib8, ib9, ib10, rc11, ib12, rc13, ib14, ib15, ib16, ib17, ib18, ib19, rc20, rc21, ib22, ib23, ib24, rc25, ib26, ib27, ib28, ib29, ib30, ib31, rc32, ib33, rc34, ib35, rc36, ib37, rc38, ib39, ib40, ib41, ib42, ib43, ib44, ib45, ib46, ib47, rc48, ib49, ib50, ib51, ib52, ib53, rc54, ib55, ib56, ib57, ib58, ib59, ib60, ib61, ib62, ib63, ib64, ib65, ib66, ib67, ib68, ib69, ib70, ib71, ib72, ib73, ib74, ib75, ib76, ib77, ib78, ib79, ib80, ib81]
  refine L_we1 (f := f) hC.1 hP.1 hP.2.1 hf ?_ n 0 C0 _ (by omega) (fun w hw => hC0 w (by have := hP.2.1; omega))
  intro C l1 l2 hCw
  simp only [w64_41, w64_42, w64_43, w64_44, ↓reduceIte, okp_i, okp_r, okp_n, catS_nil, catS_cons, catV_i, catV_r, catV_l, Option.toList_some, Option.toList_none, List.cons_append, List.nil_append, gi_si, ga_si, gi_sa, ga_sa, gi_sl, ga_sl, gi_sf, ga_sf, gl_si, gl_sa, gl_sf, gl_sl, and_true, true_and, if_true, if_false, ite_true, ite_false, not_false_eq_true, not_true_eq_false, Nat.reduceEqDiff, reduceCtorEq, Nat.reduceLeDiff, Nat.reduceAdd, Nat.reduceMul, Nat.reduceLT, Int.reduceNeg, Int.reduceEq, Int.reduceLT, Int.reduceLE, eq_self, Nat.reduceSub, or_true, true_or, or_false, false_or, and_false, false_and, Int.reduceToNat, rc0, rc1, ib2, ib3, ib4, ib5, ib6, ib7, ib8, ib9, ib10, rc11, ib12, rc13, ib14, ib15, ib16, ib17, ib18, ib19, rc20, rc21, ib22, ib23, ib24, rc25, ib26, ib27, ib28, ib29, ib30, ib31, rc32, ib33, rc34, ib35, rc36, ib37, rc38, ib39, ib40, ib41, ib42, ib43, ib44, ib45, ib46, ib47, rc48, ib49, ib50, ib51, ib52, ib53, rc54, ib55, ib56, ib57, ib58, ib59, ib60, ib61, ib62, ib63, ib64, ib65, ib66, ib67, ib68, ib69, ib70, ib71, ib72, ib73, ib74, ib75, ib76, ib77, ib78, ib79, ib80, ib81]
  have h2 : CH n m X W gA gW wA (sf σ 44 C) := CH_fr hC (by simp only [eqI, eqA, List.forall_mem_cons, List.not_mem_nil, false_implies, implies_true, ↓reduceIte, okp_i, okp_r, okp_n, catS_nil, catS_cons, catV_i, catV_r, catV_l, Option.toList_some, Option.toList_none, List.cons_append, List.nil_append, gi_si, ga_si, gi_sa, ga_sa, gi_sl, ga_sl, gi_sf, ga_sf, gl_si, gl_sa, gl_sf, gl_sl, and_true, true_and, if_true, if_false, ite_true, ite_false, not_false_eq_true, not_true_eq_false, Nat.reduceEqDiff, reduceCtorEq, Nat.reduceLeDiff, Nat.reduceAdd, Nat.reduceMul, Nat.reduceLT, Int.reduceNeg, Int.reduceEq, Int.reduceLT, Int.reduceLE, eq_self, Nat.reduceSub, or_true, true_or, or_false, false_or, and_false, false_and, Int.reduceToNat, rc0, rc1, ib2, ib3, ib4, ib5, ib6, ib7, ib8, ib9, ib10, rc11, ib12, rc13, ib14, ib15, ib16, ib17, ib18, ib19, rc20, rc21, ib22, ib23, ib24, rc25, ib26, ib27, ib28, ib29, ib30, ib31, rc32, ib33, rc34, ib35, rc36, ib37, rc38, ib39, ib40, ib41, ib42, ib43, ib44, ib45, ib46, ib47, rc48, ib49, ib50, ib51, ib52, ib53, rc54, ib55, ib56, ib57, ib58, ib59, ib60, ib61, ib62, ib63, ib64, ib65, ib66, ib67, ib68, ib69, ib70, ib71, ib72, ib73, ib74, ib75, ib76, ib77, ib78, ib79, ib80, ib81]) (by simp only [eqI, eqA, List.forall_mem_cons, List.not_mem_nil, false_implies, implies_true, ↓reduceIte, okp_i, okp_r, okp_n, catS_nil, catS_cons, catV_i, catV_r, catV_l, Option.toList_some, Option.toList_none, List.cons_append, List.nil_append, gi_si, ga_si, gi_sa, ga_sa, gi_sl, ga_sl, gi_sf, ga_sf, gl_si, gl_sa, gl_sf, gl_sl, and_true, true_and, if_true, if_false, ite_true, ite_false, not_false_eq_true, not_true_eq_false, Nat.reduceEqDiff, reduceCtorEq, Nat.reduceLeDiff, Nat.reduceAdd, Nat.reduceMul, Nat.reduceLT, Int.reduceNeg, Int.reduceEq, Int.reduceLT, Int.reduceLE, eq_self, Nat.reduceSub, or_true, true_or, or_false, false_or, and_false, false_and, Int.reduceToNat, rc0, rc1, ib2, ib3, ib4, ib5, ib6, ib7, ib8, ib9, ib10, rc11, ib12, rc13, ib14, ib15, ib16, ib17, ib18, ib19, rc20, rc21, ib22, ib23, ib24, rc25, ib26, ib27, ib28, ib29, ib30, ib31, rc32, ib33, rc34, ib35, rc36, ib37, rc38, ib39, ib40, ib41, ib42, ib43, ib44, ib45, ib46, ib47, rc48, ib49, ib50, ib51, ib52, ib53, rc54, ib55, ib56, ib57, ib58, ib59, ib60, ib61, ib62, ib63, ib64, ib65, ib66, ib67, ib68, ib69, ib70, ib71, ib72, ib73, ib74, ib75, ib76, ib77, ib78, ib79, ib80, ib81])
  have := (L_we2 (S := S) (post := post) (f := f) hP h2 (by simp only [↓reduceIte, okp_i, okp_r, okp_n, catS_nil, catS_cons, catV_i, catV_r, catV_l, Option.toList_some, Option.toList_none, List.cons_append, List.nil_append, gi_si, ga_si, gi_sa, ga_sa, gi_sl, ga_sl, gi_sf, ga_sf, gl_si, gl_sa, gl_sf, gl_sl, and_true, true_and, if_true, if_false, ite_true, ite_false, not_false_eq_true, not_true_eq_false, Nat.reduceEqDiff, reduceCtorEq, Nat.reduceLeDiff, Nat.reduceAdd, Nat.reduceMul, Nat.reduceLT, Int.reduceNeg, Int.reduceEq, Int.reduceLT, Int.reduceLE, eq_self, Nat.reduceSub, or_true, true_or, or_false, false_or, and_false, false_and, Int.reduceToNat, rc0, rc1, ib2, ib3, ib4, ib5, ib6, ib7, ib8, ib9, ib10, rc11, ib12, rc13, ib14, ib15, ib16, ib17, ib18, ib19, rc20, rc21, ib22, ib23, ib24, rc25, ib26, ib27, ib28, ib29, ib30, ib31, rc32, ib33, rc34, ib35, rc36, ib37, rc38, ib39, ib40, ib41, ib42, ib43, ib44, ib45, ib46, ib47, rc48, ib49, ib50, ib51, ib52, ib53, rc54, ib55, ib56, ib57, ib58, ib59, ib60, ib61, ib62, ib63, ib64, ib65, ib66, ib67, ib68, ib69, ib70, ib71, ib72, ib73, ib74, ib75, ib76, ib77, ib78, ib79, ib80, ib81]; exact hCw) m 0 (by omega)).mpr (by simp only [↓reduceIte, okp_i, okp_r, okp_n, catS_nil, catS_cons, catV_i, catV_r, catV_l, Option.toList_some, Option.toList_none, List.cons_append, List.nil_append, gi_si, ga_si, gi_sa, ga_sa, gi_sl, ga_sl, gi_sf, ga_sf, gl_si, gl_sa, gl_sf, gl_sl, and_true, true_and, if_true, if_false, ite_true, ite_false, not_false_eq_true, not_true_eq_false, Nat.reduceEqDiff, reduceCtorEq, Nat.reduceLeDiff, Nat.reduceAdd, Nat.reduceMul, Nat.reduceLT, Int.reduceNeg, Int.reduceEq, Int.reduceLT, Int.reduceLE, eq_self, Nat.reduceSub, or_true, true_or, or_false, false_or, and_false, false_and, Int.reduceToNat, rc0, rc1, ib2, ib3, ib4, ib5, ib6, ib7, ib8, ib9, ib10, rc11, ib12, rc13, ib14, ib15, ib16, ib17, ib18, ib19, rc20, rc21, ib22, ib23, ib24, rc25, ib26, ib27, ib28, ib29, ib30, ib31, rc32, ib33, rc34, ib35, rc36, ib37, rc38, ib39, ib40, ib41, ib42, ib43, ib44, ib45, ib46, ib47, rc48, ib49, ib50, ib51, ib52, ib53, rc54, ib55, ib56, ib57, ib58, ib59, ib60, ib61, ib62, ib63, ib64, ib65, ib66, ib67, ib68, ib69, ib70, ib71, ib72, ib73, ib74, ib75, ib76, ib77, ib78, ib79, ib80, ib81]; exact kk C)
  exact this
end SHARE
