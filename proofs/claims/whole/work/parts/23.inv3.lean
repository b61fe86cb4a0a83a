/-! the plan of the crews: what it is, by the walks W, the signs (gA, gW) and the crews (wA) -/
/-- the least by the first g signs of the set -/
def nbF (W gA gW T : Nat → Int) (set c : Nat) : Nat → Int
  | 0 => 1000000
  | g + 1 => if set.testBit g = true then minF (nbF W gA gW T set c g) (W (8 * c + (gA g).toNat) + gW g + T (8 * (set - 2 ^ g) + (gA g).toNat)) else nbF W gA gW T set c g
def relC (gA wA : Nat → Int) (n m c : Nat) : Prop := (∃ g, g < n ∧ gA g = c) ∨ ∃ w, w < m ∧ wA w = c
/-- T: by set and crossing, the least minutes to turn all of the set from there -/
def IsN (W gA gW wA : Nat → Int) (n m : Nat) (T : Nat → Int) : Prop := ∀ set c, set < 2 ^ n → relC gA wA n m c → T (8 * set + c) = if set = 0 then 0 else nbF W gA gW T set c n
/-- who turns sign g in the i-th sharing out -/
def digF (m n i g : Nat) : Nat := (i / m ^ (n - 1 - g)) % m
/-- the signs that crew w turns -/
def setF (f : Nat → Int) (w : Nat) : Nat → Nat
  | 0 => 0
  | k + 1 => setF f w k + (if f k = w then 2 ^ k else 0)
/-- when the last sign is turned -/
def valF (T wA f : Nat → Int) (n : Nat) : Nat → Int
  | 0 => 0
  | w + 1 => maxF (valF T wA f n w) (T (8 * setF f w n + (wA w).toNat))
def bestF (val : Nat → Int) : Nat → Int × Nat
  | 0 => (1000000, 0)
  | i + 1 => if val i < (bestF val i).1 then (val i, i) else bestF val i
/-- the first sign of the set that is best from here -/
def fstF (p : Nat → Bool) : Nat → Nat → Nat
  | 0, g => g
  | k + 1, g => if p g = true then g else fstF p k (g + 1)
def pickF (W gA gW T : Nat → Int) (n set at_ : Nat) : Nat := fstF (fun g => set.testBit g && decide (W (8 * at_ + (gA g).toNat) + gW g + T (8 * (set - 2 ^ g) + (gA g).toNat) = T (8 * set + at_))) n 0
/-- one crew's way through its signs: how many ahead, when turned -/
def layF (W gA gW T : Nat → Int) (n : Nat) : Nat → Nat → Nat → Int → Int → (Nat → Int) × (Nat → Int) → (Nat → Int) × (Nat → Int)
  | 0, _, _, _, _, q => q
  | k + 1, set, at_, time, cnt, q => if set = 0 then q else
    layF W gA gW T n k (set - 2 ^ pickF W gA gW T n set at_) (gA (pickF W gA gW T n set at_)).toNat (time + (W (8 * at_ + (gA (pickF W gA gW T n set at_)).toNat) + gW (pickF W gA gW T n set at_))) (cnt + 1) (fun j => if j = pickF W gA gW T n set at_ then cnt else q.1 j, fun j => if j = pickF W gA gW T n set at_ then time + (W (8 * at_ + (gA (pickF W gA gW T n set at_)).toNat) + gW (pickF W gA gW T n set at_)) else q.2 j)
def layA (W gA gW T wA f : Nat → Int) (n : Nat) : Nat → (Nat → Int) × (Nat → Int) → (Nat → Int) × (Nat → Int)
  | 0, q => q
  | w + 1, q => layF W gA gW T n n (setF f w n) (wA w).toNat 0 0 (layA W gA gW T wA f n w q)
def bstS (T wA : Nat → Int) (n m : Nat) : Int × Nat := bestF (fun i => valF T wA (fun g => (digF m n i g : Int)) n m) (m ^ n)
def PlanS (W gA gW wA T cr ah tu : Nat → Int) (n m : Nat) (least : Int) : Prop :=
  IsN W gA gW wA n m T ∧ least = (if (bstS T wA n m).1 < 1000000 then (bstS T wA n m).1 else -1) ∧ ((bstS T wA n m).1 < 1000000 → ∀ g, g < n → cr g = digF m n (bstS T wA n m).2 g ∧ ∀ q, ah g = (layA W gA gW T wA (fun j => (digF m n (bstS T wA n m).2 j : Int)) n m q).1 g ∧ tu g = (layA W gA gW T wA (fun j => (digF m n (bstS T wA n m).2 j : Int)) n m q).2 g)
def InvO (σ : Sto) : Prop := (gi σ 2444 = 0 ∨ gi σ 2444 = 1) ∧ (gi σ 2444 = 1 → PlanS (ga σ 10) (ga σ 69) (ga σ 70) (ga σ 71) (ga σ 42) (ga σ 45) (ga σ 46) (ga σ 47) (gi σ 3497).toNat (gi σ 3498).toNat (gi σ 2445))
theorem InvO_fr {σ σ' : Sto} (h : InvO σ) (h1 : eqI [2444, 2445, 3497, 3498] σ σ') (h2 : eqA [10, 42, 45, 46, 47, 69, 70, 71] σ σ') : InvO σ' := by
  simp only [eqI, eqA, List.forall_mem_cons] at h1 h2
  obtain ⟨a1, a2, a3, a4, -⟩ := h1
  obtain ⟨b1, b2, b3, b4, b5, b6, b7, b8, -⟩ := h2
  simp only [InvO, a1, a2, a3, a4, b1, b2, b3, b4, b5, b6, b7, b8]
  exact h
theorem InvO_0 {σ : Sto} (h : gi σ 2444 = 0) : InvO σ := ⟨Or.inl h, fun q => by rw [h] at q; exact absurd q (by decide)⟩
/-- all of it -/
def Inv (σ : Sto) : Prop := InvT σ ∧ InvA σ ∧ InvF σ ∧ InvP σ ∧ InvB σ ∧ InvE σ ∧ InvL σ ∧ InvS σ ∧ InvR σ ∧ InvO σ
