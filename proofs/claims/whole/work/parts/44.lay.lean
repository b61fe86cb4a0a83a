/-! one crew's order -/
def popF (s : Nat) : Nat → Nat
  | 0 => 0
  | k + 1 => popF s k + (if s.testBit k = true then 1 else 0)
theorem pop_all : ∀ s : Fin 256, ∀ g : Fin 8, (s.val.testBit g.val = true → popF (s.val - 2 ^ g.val) 8 + 1 = popF s.val 8) ∧ (popF s.val 8 = 0 → s.val = 0) ∧ (s.val < 2 ^ g.val → popF s.val 8 ≤ g.val) ∧ popF s.val 8 ≤ 8 := by decide +kernel
theorem tb_all : ∀ s : Fin 256, ∀ g : Fin 8, ∀ j : Fin 8, s.val.testBit g.val = true → (s.val - 2 ^ g.val).testBit j.val = (s.val.testBit j.val && decide (j.val ≠ g.val)) := by decide +kernel
theorem pop_sub {s g : Nat} (hs : s < 256) (hg : g < 8) (ht : s.testBit g = true) : popF (s - 2 ^ g) 8 + 1 = popF s 8 := (pop_all ⟨s, hs⟩ ⟨g, hg⟩).1 ht
theorem pop_0 {s : Nat} (hs : s < 256) (h : popF s 8 = 0) : s = 0 := (pop_all ⟨s, hs⟩ 0).2.1 h
theorem pop_le {s n : Nat} (hn : n ≤ 8) (hs : s < 2 ^ n) : popF s 8 ≤ n := by
  have h256 : s < 256 := Nat.lt_of_lt_of_le hs (pw8 hn)
  by_cases q : n = 8
  · have : popF s 8 ≤ 8 := (pop_all ⟨s, h256⟩ 0).2.2.2
    omega
  · exact (pop_all ⟨s, h256⟩ ⟨n, by omega⟩).2.2.1 hs
theorem setF_tb {f : Nat → Int} {w : Nat} : ∀ k g, g < k → ((setF f w k).testBit g = true ↔ f g = w) := by
  intro k
  induction k with
  | zero => intro g hg; omega
  | succ k ih =>
    intro g hg
    have hl := setF_lt (f := f) (w := w) k
    simp only [setF]
    by_cases e : g = k
    · subst e
      by_cases q : f g = w
      · rw [if_pos q, Nat.add_comm, Nat.testBit_two_pow_add_eq, Nat.testBit_lt_two_pow hl]
        exact ⟨fun _ => q, fun _ => rfl⟩
      · rw [if_neg q, Nat.add_zero, Nat.testBit_lt_two_pow hl]
        exact ⟨fun h => absurd h (by decide), fun h => absurd h q⟩
    · by_cases q : f k = w
      · rw [if_pos q, Nat.add_comm, Nat.testBit_two_pow_add_gt (by omega)]
        exact ih g (by omega)
      · rw [if_neg q, Nat.add_zero]
        exact ih g (by omega)
theorem fstF_sp {p : Nat → Bool} : ∀ k a g, a ≤ g → g < a + k → p g = true → p (fstF p k a) = true ∧ fstF p k a < a + k := by
  intro k
  induction k with
  | zero => intro a g h1 h2; omega
  | succ k ih =>
    intro a g h1 h2 h3
    simp only [fstF]
    by_cases q : p a = true
    · rw [if_pos q]
      exact ⟨q, by omega⟩
    · rw [if_neg q]
      have e : g ≠ a := fun e => q (by rw [← e]; exact h3)
      obtain ⟨i1, i2⟩ := ih (a + 1) g (by omega) (by omega) h3
      exact ⟨i1, by omega⟩
section LAY
variable {S : Scr} {σ : Sto} {post : Pst} {n m X : Nat} {W gA gW wA T T' : Nat → Int}
/-- is sign g a best first one -/
def isB (W gA gW T : Nat → Int) (set at_ g : Nat) : Bool := set.testBit g && decide (W (8 * at_ + (gA g).toNat) + gW g + T (8 * (set - 2 ^ g) + (gA g).toNat) = T (8 * set + at_))
/-- a set that can be turned from here -/
def LV (W gA gW wA T : Nat → Int) (n m set at_ : Nat) : Prop := set < 2 ^ n ∧ relC gA wA n m at_ ∧ T (8 * set + at_) < 1000000
theorem nb_hit {s c : Nat} : ∀ k, nbF W gA gW T s c k < 1000000 → ∃ g, g < k ∧ s.testBit g = true ∧ W (8 * c + (gA g).toNat) + gW g + T (8 * (s - 2 ^ g) + (gA g).toNat) = nbF W gA gW T s c k := by
  intro k
  induction k with
  | zero => intro h; simp only [nbF] at h; exact absurd h (by decide)
  | succ k ih =>
    intro h
    simp only [nbF] at h ⊢
    by_cases q : s.testBit k = true
    · rw [if_pos q] at h ⊢
      unfold minF at h ⊢
      by_cases q2 : W (8 * c + (gA k).toNat) + gW k + T (8 * (s - 2 ^ k) + (gA k).toNat) < nbF W gA gW T s c k
      · rw [if_pos q2] at h ⊢
        exact ⟨k, by omega, q, rfl⟩
      · rw [if_neg q2] at h ⊢
        obtain ⟨g, h1, h2, h3⟩ := ih h
        exact ⟨g, by omega, h2, h3⟩
    · rw [if_neg q] at h ⊢
      obtain ⟨g, h1, h2, h3⟩ := ih h
      exact ⟨g, by omega, h2, h3⟩
theorem LV_ex (hT : IsN W gA gW wA n m T) {set at_ : Nat} (h : LV W gA gW wA T n m set at_) (h0 : set ≠ 0) : ∃ g, g < n ∧ isB W gA gW T set at_ g = true := by
  obtain ⟨h1, h2, h3⟩ := h
  have e := hT set at_ h1 h2
  rw [if_neg h0] at e
  rw [e] at h3
  obtain ⟨g, g1, g2, g3⟩ := nb_hit n h3
  refine ⟨g, g1, ?_⟩
  unfold isB
  rw [g2, Bool.true_and, decide_eq_true_eq, e]
  exact g3
theorem LV_pick (hP : PC n m X W gA gW wA) (hT : IsN W gA gW wA n m T) {set at_ : Nat} (h : LV W gA gW wA T n m set at_) (h0 : set ≠ 0) : pickF W gA gW T n set at_ < n ∧ set.testBit (pickF W gA gW T n set at_) = true ∧ LV W gA gW wA T n m (set - 2 ^ pickF W gA gW T n set at_) (gA (pickF W gA gW T n set at_)).toNat := by
  obtain ⟨g, g1, g2⟩ := LV_ex hT h h0
  obtain ⟨p1, p2⟩ := fstF_sp (p := isB W gA gW T set at_) n 0 g (Nat.zero_le g) (by omega) g2
  have e : fstF (isB W gA gW T set at_) n 0 = pickF W gA gW T n set at_ := rfl
  rw [e] at p1 p2
  generalize pickF W gA gW T n set at_ = p at *
  unfold isB at p1
  rw [Bool.and_eq_true, decide_eq_true_eq] at p1
  obtain ⟨p1, p3⟩ := p1
  obtain ⟨h1, h2, h3⟩ := h
  have pn : p < n := by omega
  obtain ⟨⟨b1, b2⟩, b3, b4⟩ := hP.2.2.2.1 p pn
  have x8 := hP.2.2.1
  refine ⟨pn, p1, ⟨Nat.lt_of_le_of_lt (Nat.sub_le _ _) h1, Or.inl ⟨p, pn, by omega⟩, ?_⟩⟩
  have a8 : at_ < 8 := by
    rcases h2 with ⟨g, hg, e⟩ | ⟨w, hw, e⟩
    · have := (hP.2.2.2.1 g hg).1; omega
    · have := hP.2.2.2.2.1 w hw; omega
  have := (hP.2.2.2.2.2 at_ (gA p).toNat a8 (by omega)).1
  omega
/-- what is laid for the signs of the set doesn't hang on what lay there; the others stay -/
theorem layF_ind (hP : PC n m X W gA gW wA) (hT : IsN W gA gW wA n m T) : ∀ (r set at_ : Nat) (time cnt : Int) (q q' : (Nat → Int) × (Nat → Int)), LV W gA gW wA T n m set at_ → popF set 8 ≤ r → ∀ g, g < n → (set.testBit g = false → (layF W gA gW T n r set at_ time cnt q).1 g = q.1 g ∧ (layF W gA gW T n r set at_ time cnt q).2 g = q.2 g) ∧ (set.testBit g = true ∨ (q.1 g = q'.1 g ∧ q.2 g = q'.2 g) → (layF W gA gW T n r set at_ time cnt q).1 g = (layF W gA gW T n r set at_ time cnt q').1 g ∧ (layF W gA gW T n r set at_ time cnt q).2 g = (layF W gA gW T n r set at_ time cnt q').2 g) := by
  have n8 := hP.1
  have pn := pw8 n8
  intro r
  induction r with
  | zero =>
    intro set at_ time cnt q q' hL hp g hg
    have e : set = 0 := pop_0 (by have := hL.1; omega) (by omega)
    subst e
    refine ⟨fun _ => ⟨rfl, rfl⟩, fun h => ?_⟩
    rcases h with h | h
    · rw [Nat.zero_testBit] at h
      exact absurd h (by decide)
    · exact h
  | succ r ih =>
    intro set at_ time cnt q q' hL hp g hg
    simp only [layF]
    by_cases h0 : set = 0
    · subst h0
      rw [if_pos rfl, if_pos rfl]
      refine ⟨fun _ => ⟨rfl, rfl⟩, fun h => ?_⟩
      rcases h with h | h
      · rw [Nat.zero_testBit] at h
        exact absurd h (by decide)
      · exact h
    · rw [if_neg h0, if_neg h0]
      obtain ⟨k1, k2, k3⟩ := LV_pick hP hT hL h0
      generalize pickF W gA gW T n set at_ = p at *
      have s8 : set < 256 := by have := hL.1; omega
      have ps := pop_sub s8 (by omega) k2
      have tb : (set - 2 ^ p).testBit g = (set.testBit g && decide (g ≠ p)) := tb_all ⟨set, s8⟩ ⟨p, by omega⟩ ⟨g, by omega⟩ k2
      obtain ⟨i1, i2⟩ := ih (set - 2 ^ p) (gA p).toNat (time + (W (8 * at_ + (gA p).toNat) + gW p)) (cnt + 1) (fun j => if j = p then cnt else q.1 j, fun j => if j = p then time + (W (8 * at_ + (gA p).toNat) + gW p) else q.2 j) (fun j => if j = p then cnt else q'.1 j, fun j => if j = p then time + (W (8 * at_ + (gA p).toNat) + gW p) else q'.2 j) k3 (by omega) g hg
      by_cases e : g = p
      · subst e
        refine ⟨fun h => ?_, fun _ => ?_⟩
        · rw [k2] at h; exact absurd h (by decide)
        · refine i2 (Or.inr ?_)
          dsimp only
          rw [if_pos rfl, if_pos rfl, if_pos rfl, if_pos rfl]
          exact ⟨rfl, rfl⟩
      · have tb' : (set - 2 ^ p).testBit g = set.testBit g := by
          rw [tb]
          simp only [ne_eq, e, not_false_eq_true, decide_true, Bool.and_true]
        rw [tb'] at i1 i2
        refine ⟨fun h => ?_, fun h => ?_⟩
        · have := i1 h
          simp only [if_neg e] at this
          exact this
        · refine i2 ?_
          simp only [if_neg e]
          exact h
/-- all crews may set out -/
def AV' (T wA f : Nat → Int) (n m : Nat) : Prop := ∀ w, w < m → T (8 * setF f w n + (wA w).toNat) < 1000000
theorem LV_set (hP : PC n m X W gA gW wA) {f : Nat → Int} (hv : AV' T wA f n m) {w : Nat} (hw : w < m) : LV W gA gW wA T n m (setF f w n) (wA w).toNat := ⟨setF_lt n, Or.inr ⟨w, hw, by have := hP.2.2.2.2.1 w hw; omega⟩, hv w hw⟩
theorem layA_ind (hP : PC n m X W gA gW wA) (hT : IsN W gA gW wA n m T) {f : Nat → Int} (hv : AV' T wA f n m) (q q' : (Nat → Int) × (Nat → Int)) : ∀ w, w ≤ m → ∀ g, g < n → (0 ≤ f g ∧ f g < w) → (layA W gA gW T wA f n w q).1 g = (layA W gA gW T wA f n w q').1 g ∧ (layA W gA gW T wA f n w q).2 g = (layA W gA gW T wA f n w q').2 g := by
  have n8 := hP.1
  intro w
  induction w with
  | zero => intro _ g _ h; omega
  | succ w ih =>
    intro hw g hg hf
    simp only [layA]
    have hpop : popF (setF f w n) 8 ≤ n := pop_le n8 (setF_lt n)
    obtain ⟨i1, i2⟩ := layF_ind hP hT n (setF f w n) (wA w).toNat 0 0 (layA W gA gW T wA f n w q) (layA W gA gW T wA f n w q') (LV_set hP hv (by omega)) hpop g hg
    refine i2 ?_
    by_cases e : f g = w
    · exact Or.inl ((setF_tb n g hg).mpr e)
    · exact Or.inr (ih (by omega) g hg ⟨hf.1, by omega⟩)
theorem valF_le {f : Nat → Int} : ∀ w k, k < w → T (8 * setF f k n + (wA k).toNat) ≤ valF T wA f n w := by
  intro w
  induction w with
  | zero => intro k hk; omega
  | succ w ih =>
    intro k hk
    simp only [valF]
    unfold maxF
    by_cases e : k = w
    · subst e
      split <;> omega
    · have := ih k (by omega)
      split <;> omega
theorem bestF_sp {val : Nat → Int} : ∀ i, (bestF val i).1 < 1000000 → (bestF val i).2 < i ∧ val (bestF val i).2 = (bestF val i).1 := by
  intro i
  induction i with
  | zero => intro h; simp only [bestF] at h; exact absurd h (by decide)
  | succ i ih =>
    intro h
    simp only [bestF] at h ⊢
    by_cases q : val i < (bestF val i).1
    · rw [if_pos q] at h ⊢
      exact ⟨by omega, rfl⟩
    · rw [if_neg q] at h ⊢
      obtain ⟨h1, h2⟩ := ih h
      exact ⟨by omega, h2⟩
theorem bst_AV (h : (bstS T wA n m).1 < 1000000) : AV' T wA (fun g => (digF m n (bstS T wA n m).2 g : Int)) n m := by
  intro w hw
  obtain ⟨h1, h2⟩ := bestF_sp _ h
  have h3 := valF_le (T := T) (wA := wA) (n := n) (f := fun g => (digF m n (bstS T wA n m).2 g : Int)) m w hw
  have h4 : valF T wA (fun g => (digF m n (bstS T wA n m).2 g : Int)) n m = (bstS T wA n m).1 := h2
  omega
theorem bst_lt (h : (bstS T wA n m).1 < 1000000) {g : Nat} (hg : g < n) : digF m n (bstS T wA n m).2 g < m := by
  have h1 : (bstS T wA n m).2 < m ^ n := (bestF_sp _ h).1
  refine dg_lt ?_
  by_cases q : 0 < m
  · exact q
  · have e : m = 0 := by omega
    subst e
    rw [Nat.zero_pow (by omega)] at h1
    omega
end LAY
