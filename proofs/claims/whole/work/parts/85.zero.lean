/-! the start: the first state, and what the Statement says of it -/
def s0I (k : Nat) : Int := if k = 75 then 300 else if k = 77 then 2 else if k = 1283 then -1 else if k = 1286 then 1 else if k = 1287 then 4 else if k = 1288 then -1 else if k = 1290 then 1440 else if k = 2060 then -1 else if k = 2061 then -1 else if k = 2445 then -1 else if k = 3462 then 300 else if k = 3464 then 2 else if k = 3470 then -1 else 0
def sto0 (f : Nat → Int32) : Sto := (s0I, fun a i => if a = 10 then (f i).toInt else 0, fun _ => 0)
theorem ite_b {P : Prop} [Decidable P] {x y : Int} (hx : -1 ≤ x ∧ x ≤ 1440) (hy : -1 ≤ y ∧ y ≤ 1440) : -1 ≤ (if P then x else y) ∧ (if P then x else y) ≤ 1440 := by
  split
  · exact hx
  · exact hy
theorem s0_bd (k : Nat) : -1 ≤ s0I k ∧ s0I k ≤ 1440 := by
  unfold s0I
  iterate 13 refine ite_b ⟨by decide, by decide⟩ ?_
  exact ⟨by decide, by decide⟩
theorem ok0 {f : Nat → Int32} : okσ (sto0 f) := by
  refine ⟨fun k => ?_, fun a i => ?_, fun k => ?_⟩
  · have := s0_bd k
    show inR (s0I k)
    unfold inR
    omega
  · show inR (if a = 10 then (f i).toInt else 0)
    split
    · exact ⟨Int32.le_toInt _, Int32.toInt_lt _⟩
    · exact ⟨by decide, by decide⟩
  · show inL 0
    exact ⟨by decide, by decide⟩
theorem Inv0 {f : Nat → Int32} (hf : ∀ j, j < 64 → f j = if j % 9 = 0 then 0 else 1000000) : Inv (sto0 f) := by
  have g : ∀ k, gi (sto0 f) k = s0I k := fun _ => rfl
  have a0 : ∀ a i, a ≠ 10 → ga (sto0 f) a i = 0 := fun a i h => by
    show (if a = 10 then (f i).toInt else 0) = 0
    rw [if_neg h]
  have z61 : (s0I 3461).toNat = 0 := by decide
  refine ⟨?_, ?_, ?_, ?_, ?_, ?_, ?_, ?_, InvR_0 rfl, ?_⟩
  · simp only [InvT, g]
    refine ⟨by decide, by decide, by decide, by decide, by decide, by decide, by decide, by decide, by decide, by decide, fun s hs => ?_⟩
    have : s0I 3461 = 0 := by decide
    omega
  · simp only [InvA, g, z61]
    refine ⟨fun c hc => ?_, fun s hs => ?_⟩
    · rw [a0 8 c (by decide)]
      rfl
    · have : s0I 3461 = 0 := by decide
      omega
  · unfold InvF
    rw [g, z61]
    intro a b ha hb
    have e : ga (sto0 f) 10 (8 * a + b) = (f (8 * a + b)).toInt := rfl
    rw [e, hf _ (by omega)]
    by_cases q : (8 * a + b) % 9 = 0
    · rw [if_pos q]
      have hab : a = b := by omega
      refine ⟨by decide, fun k d hw => ?_, Or.inr ⟨0, by rw [hab], by decide⟩⟩
      cases k with
      | zero => rw [hw.2]; decide
      | succ k =>
        obtain ⟨s, c, hs, -⟩ := hw
        exact absurd hs (Nat.not_lt_zero s)
    · rw [if_neg q]
      refine ⟨by decide, fun k d hw => ?_, Or.inl (by decide)⟩
      cases k with
      | zero =>
        have hab := hw.1
        exact absurd (show (8 * a + b) % 9 = 0 by omega) q
      | succ k =>
        obtain ⟨s, c, hs, -⟩ := hw
        exact absurd hs (Nat.not_lt_zero s)
  · simp only [InvP, g]
    refine ⟨by decide, by decide, fun k hk => ?_⟩
    have : s0I 3467 = 0 := by decide
    omega
  · simp only [InvB, g]
    refine ⟨by decide, ?_, by decide, fun k hk => ?_⟩
    · rw [a0 61 _ (by decide)]
      decide
    · have : s0I 838 = 0 := by decide
      omega
  · exact ⟨rfl, rfl⟩
  · simp only [InvL, g]
    refine ⟨by decide, by decide, by decide, by decide, fun k hk => ?_⟩
    have : s0I 3504 = 0 := by decide
    omega
  · simp only [InvS, g]
    refine ⟨by decide, by decide, by decide, by decide, fun k hk => ?_, fun k hk => ?_⟩
    · have : s0I 3497 = 0 := by decide
      omega
    · have : s0I 3498 = 0 := by decide
      omega
  · refine ⟨Or.inl rfl, fun q => ?_⟩
    have : gi (sto0 f) 2444 = 0 := rfl
    rw [this] at q
    exact absurd q (by decide)
/-! the String constants, the statics -/
abbrev nrC : Cond := Jvm.Cond.and given_1 narrow_1
abbrev tmS (i : Nat) : Term := Term.string RX2 (sIdx.getD i 0)
theorem fl_ex : ∀ i : Fin 11, Cond.exactly (tmS i.val) "java/lang/String" ∈ flatC nrC := by decide +kernel
theorem fl_co : ∀ i : Fin 11, Cond.eq (.field (tmS i.val) "java/lang/String" "coder" "B") (.int 0) ∈ flatC nrC := by decide +kernel
theorem fl_ar : ∀ i : Fin 11, Cond.arrayOf (.field (tmS i.val) "java/lang/String" "value" "[B") .byte ∈ flatC nrC := by decide +kernel
theorem fl_le : ∀ i : Fin 11, Cond.eq (.length (.field (tmS i.val) "java/lang/String" "value" "[B")) (.int (Int32.ofNat (sLen.getD i.val 0))) ∈ flatC nrC := by decide +kernel
theorem fl_el : ∀ i : Fin 11, ∀ j : Fin 5, j.val < sLen.getD i.val 0 → Cond.eq (.elem (.field (tmS i.val) "java/lang/String" "value" "[B") (.int (Int32.ofNat j.val))) (.int ((sByt.getD i.val []).getD j.val 0)) ∈ flatC nrC := by decide +kernel
theorem fl_ne : ∀ j : Fin 11, ∀ i : Fin 11, i.val < j.val → Cond.not (Cond.eq (tmS i.val) (tmS j.val)) ∈ flatC nrC := by decide +kernel
theorem fl_cs : Cond.eq (.static "java/lang/String" "COMPACT_STRINGS" "Z") (.int 1) ∈ flatC nrC := by decide +kernel
theorem fl_si : Cond.isRef (.static "jdk/internal/util/Preconditions" "SIOOBE_FORMATTER" "Ljava/util/function/BiFunction;") ∈ flatC nrC := by decide +kernel
theorem vk_cg {N : Nat} {len : List Nat} {byt : List (List Int32)} {a v a' v' : Nat → Nat} {A : Nat → Prop} {U : State} {H : Heap} (h1 : ∀ i, i < N → a' i = a i) (h2 : ∀ i, i < N → v' i = v i) (h : vk_S N len byt a v A U H) : vk_S N len byt a' v' A U H := by
  refine ⟨fun i hi => ?_, fun i j hi hj e => h.2 i j hi hj (by rw [← h1 i hi, ← h1 j hj]; exact e)⟩
  rw [h1 i hi, h2 i hi]
  exact h.1 i hi
theorem str0 {args : Array Value} {s : State} {A : Nat → Prop} (h : nrC.before args s = true) (hA : ∀ a : Nat, a < s.heap.size → ¬ A a) : ∃ adK adV : Nat → Nat, vk_S 11 sLen sByt adK adV A s s.heap ∧ ∀ i : Nat, i < 11 → (tmS i).eval args s none [] s = some (.ref (adK i)) := by
  have hs := flat_of_before _ h
  refine vk_Sof (tm := tmS) ?_ ?_ ?_ ?_ ?_ ?_ ?_ hA
  · intro i hi
    have := sl_le ⟨i, hi⟩
    simp only at this
    omega
  · exact fun i hi => hs _ (fl_ex ⟨i, hi⟩)
  · exact fun i hi => hs _ (fl_co ⟨i, hi⟩)
  · exact fun i hi => hs _ (fl_ar ⟨i, hi⟩)
  · exact fun i hi => hs _ (fl_le ⟨i, hi⟩)
  · intro i hi j hj
    have := sl_le ⟨i, hi⟩
    simp only at this
    exact hs _ (fl_el ⟨i, hi⟩ ⟨j, by omega⟩ hj)
  · intro i j hi hj hne
    rcases Nat.lt_or_gt_of_ne hne with q | q
    · exact Or.inl (hs _ (fl_ne ⟨j, hj⟩ ⟨i, hi⟩ q))
    · exact Or.inr (hs _ (fl_ne ⟨i, hi⟩ ⟨j, hj⟩ q))
theorem arr0 {args : Array Value} {s : State} {ty : FieldType} (hpr : ty = .int ∨ ty = .boolean ∨ ty = .byte) (h : (Cond.arrayClass ty).before args s = true) : ∃ cA : ClassId, ArrOfT s cA ty ∧ va_RA s cA ty := by
  obtain ⟨cA, kA, comp, hfind, hk, hkind⟩ := Cond.arrayClass_spec h
  refine ⟨cA, fun n z => ⟨fun k h => (by cases h), kA, hk, comp, hkind⟩, ?_⟩
  rcases hpr with rfl | rfl | rfl <;> exact hfind
