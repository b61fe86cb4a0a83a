/-! THE INVARIANT between the class's cells and the reference's; each part of it with the keys and arrays that it reads -/
def eqI (K : List Nat) (σ σ' : Sto) : Prop := ∀ k ∈ K, gi σ' k = gi σ k
def eqA (K : List Nat) (σ σ' : Sto) : Prop := ∀ k ∈ K, ga σ' k = ga σ k
/-- crossings, streets, the hour, the corners -/
def InvT (σ : Sto) : Prop :=
  gi σ 73 = gi σ 3460 ∧ gi σ 74 = gi σ 3461 ∧ gi σ 75 = gi σ 3462 ∧ gi σ 76 = gi σ 3463 ∧ gi σ 77 = gi σ 3464 ∧ (0 ≤ gi σ 3460 ∧ gi σ 3460 ≤ 8) ∧ (0 ≤ gi σ 3461 ∧ gi σ 3461 ≤ 16) ∧ (0 ≤ gi σ 3462 ∧ gi σ 3462 < 1440) ∧ (0 ≤ gi σ 3463 ∧ gi σ 3463 ≤ 9) ∧ (0 ≤ gi σ 3464 ∧ gi σ 3464 ≤ 9) ∧
  ∀ s : Nat, (s : Int) < gi σ 3461 → ga σ 2 s = ga σ 55 s ∧ ga σ 3 s = ga σ 56 s ∧ ga σ 4 s = ga σ 57 s ∧ ga σ 5 s = ga σ 58 s ∧ (0 ≤ ga σ 55 s ∧ ga σ 55 s < gi σ 3460) ∧ (0 ≤ ga σ 56 s ∧ ga σ 56 s < gi σ 3460) ∧ ga σ 55 s ≠ ga σ 56 s ∧ (1 ≤ ga σ 57 s ∧ ga σ 57 s ≤ 60) ∧ (ga σ 58 s = 0 ∨ ga σ 58 s = 1)
theorem InvT_fr {σ σ' : Sto} (h : InvT σ) (h1 : eqI [73, 74, 75, 76, 77, 3460, 3461, 3462, 3463, 3464] σ σ') (h2 : eqA [2, 3, 4, 5, 55, 56, 57, 58] σ σ') : InvT σ' := by
  simp only [eqI, eqA, List.forall_mem_cons] at h1 h2
  obtain ⟨a1, a2, a3, a4, a5, a6, a7, a8, a9, a10, -⟩ := h1
  obtain ⟨b1, b2, b3, b4, b5, b6, b7, b8, -⟩ := h2
  simp only [InvT, a1, a2, a3, a4, a5, a6, a7, a8, a9, a10, b1, b2, b3, b4, b5, b6, b7, b8]
  exact h
/-- how many of the first streets lie at a crossing -/
def rkF (f g : Nat → Int) (c : Int) : Nat → Nat
  | 0 => 0
  | s + 1 => rkF f g c s + (if f s = c ∨ g s = c then 1 else 0)
/-- the places around the crossings -/
def InvA (σ : Sto) : Prop :=
  (∀ c : Nat, c < 8 → ga σ 8 c = rkF (ga σ 55) (ga σ 56) c (gi σ 3461).toNat) ∧ ∀ s : Nat, (s : Int) < gi σ 3461 → ga σ 6 s = rkF (ga σ 55) (ga σ 56) (ga σ 55 s) s ∧ ga σ 7 s = rkF (ga σ 55) (ga σ 56) (ga σ 56 s) s ∧ ∀ c : Nat, c < 8 → (ga σ 55 s = c ∨ ga σ 56 s = c) → ga σ 9 (16 * c + rkF (ga σ 55) (ga σ 56) c s) = 2 * s + (if ga σ 55 s = c then 0 else 1)
theorem InvA_fr {σ σ' : Sto} (h : InvA σ) (h1 : eqI [3461] σ σ') (h2 : eqA [6, 7, 8, 9, 55, 56] σ σ') : InvA σ' := by
  simp only [eqI, eqA, List.forall_mem_cons] at h1 h2
  obtain ⟨a1, -⟩ := h1
  obtain ⟨b1, b2, b3, b4, b5, b6, -⟩ := h2
  simp only [InvA, a1, b1, b2, b3, b4, b5, b6]
  exact h
/-- a walk of k streets from a to b, d long -/
def wkF (f g h : Nat → Int) (n : Nat) : Nat → Int → Int → Int → Prop
  | 0, a, b, d => a = b ∧ d = 0
  | k + 1, a, b, d => ∃ s c, s < n ∧ ((f s = a ∧ g s = c) ∨ (g s = a ∧ f s = c)) ∧ wkF f g h n k c b (d - h s)
/-- D is the table of the shortest walks; a million where there is none -/
def IsD (f g h : Nat → Int) (n : Nat) (D : Nat → Int) : Prop :=
  ∀ a b : Nat, a < 8 → b < 8 → D (8 * a + b) ≤ 1000000 ∧ (∀ k d, wkF f g h n k a b d → D (8 * a + b) ≤ d) ∧ (D (8 * a + b) = 1000000 ∨ ∃ k, wkF f g h n k a b (D (8 * a + b)))
def InvF (σ : Sto) : Prop := IsD (ga σ 55) (ga σ 56) (ga σ 57) (gi σ 3461).toNat (ga σ 10)
theorem InvF_fr {σ σ' : Sto} (h : InvF σ) (h1 : eqI [3461] σ σ') (h2 : eqA [10, 55, 56, 57] σ σ') : InvF σ' := by
  simp only [eqI, eqA, List.forall_mem_cons] at h1 h2
  obtain ⟨a1, -⟩ := h1
  obtain ⟨b1, b2, b3, b4, -⟩ := h2
  simp only [InvF, a1, b1, b2, b3, b4]
  exact h
/-- the tape -/
def InvP (σ : Sto) : Prop :=
  gi σ 705 = gi σ 3467 ∧ (0 ≤ gi σ 3467 ∧ gi σ 3467 ≤ 800) ∧ ∀ k : Nat, (k : Int) < gi σ 3467 → (0 ≤ ga σ 12 k ∧ ga σ 12 k < 256) ∧ ga σ 59 k = (if ga σ 12 k < 128 then ga σ 12 k else ga σ 12 k - 256)
theorem InvP_fr {σ σ' : Sto} (h : InvP σ) (h1 : eqI [705, 3467] σ σ') (h2 : eqA [12, 59] σ σ') : InvP σ' := by
  simp only [eqI, eqA, List.forall_mem_cons] at h1 h2
  obtain ⟨a1, a2, -⟩ := h1
  obtain ⟨b1, b2, -⟩ := h2
  simp only [InvP, a1, a2, b1, b2]
  exact h
/-- the acts in force: the class's book, the reference's bank -/
def InvB (σ : Sto) : Prop :=
  (gi σ 3482 = 0 ∨ gi σ 3482 = 1) ∧ gi σ 838 = ga σ 61 (gi σ 3482).toNat ∧ (0 ≤ gi σ 838 ∧ gi σ 838 ≤ 20) ∧ ∀ k : Nat, (k : Int) < gi σ 838 →
    ga σ 15 k = ga σ 63 (20 * (gi σ 3482).toNat + k) ∧ ga σ 16 k = ga σ 64 (20 * (gi σ 3482).toNat + k) ∧ ga σ 17 k = ga σ 65 (20 * (gi σ 3482).toNat + k) ∧ ga σ 18 k = ga σ 66 (20 * (gi σ 3482).toNat + k) ∧
    (0 ≤ ga σ 15 k ∧ ga σ 15 k ≤ 4) ∧ (-1 ≤ ga σ 16 k ∧ ga σ 16 k < 16) ∧ (0 ≤ ga σ 17 k ∧ ga σ 17 k < ga σ 18 k ∧ ga σ 18 k ≤ 1440) ∧
    ((ga σ 14 k = 8 ∧ ga σ 62 (20 * (gi σ 3482).toNat + k) = -1) ∨ (ga σ 14 k = 9 ∧ ga σ 62 (20 * (gi σ 3482).toNat + k) = -2) ∨ (ga σ 14 k = 10 ∧ ga σ 62 (20 * (gi σ 3482).toNat + k) = ga σ 19 k ∧ 1 ≤ ga σ 19 k ∧ ga σ 19 k ≤ 20))
theorem InvB_fr {σ σ' : Sto} (h : InvB σ) (h1 : eqI [838, 3482] σ σ') (h2 : eqA [14, 15, 16, 17, 18, 19, 61, 62, 63, 64, 65, 66] σ σ') : InvB σ' := by
  simp only [eqI, eqA, List.forall_mem_cons] at h1 h2
  obtain ⟨a1, a2, -⟩ := h1
  obtain ⟨b1, b2, b3, b4, b5, b6, b7, b8, b9, b10, b11, b12, -⟩ := h2
  simp only [InvB, a1, a2, b1, b2, b3, b4, b5, b6, b7, b8, b9, b10, b11, b12]
  exact h
/-- the fault -/
def InvE (σ : Sto) : Prop := gi σ 1282 = gi σ 3469 ∧ gi σ 1283 = gi σ 3470
theorem InvE_fr {σ σ' : Sto} (h : InvE σ) (h1 : eqI [1282, 1283, 3469, 3470] σ σ') : InvE σ' := by
  simp only [eqI, List.forall_mem_cons] at h1
  obtain ⟨a1, a2, a3, a4, -⟩ := h1
  simp only [InvE, a1, a2, a3, a4]
  exact h
/-- the counts of harms -/
def InvL (σ : Sto) : Prop :=
  gi σ 3077 = gi σ 3504 ∧ gi σ 3078 = gi σ 3505 ∧ (0 ≤ gi σ 3504 ∧ gi σ 3504 ≤ 60) ∧ (0 ≤ gi σ 3505 ∧ gi σ 3505 ≤ 100000) ∧ ∀ k : Nat, (k : Int) < gi σ 3504 → ga σ 49 k = ga σ 77 k ∧ ga σ 50 k = ga σ 78 k ∧ ga σ 51 k = ga σ 79 k ∧ ga σ 52 k = ga σ 80 k ∧ ga σ 53 k = ga σ 81 k ∧ (0 ≤ ga σ 79 k ∧ ga σ 79 k ≤ 1000) ∧ -1 ≤ ga σ 81 k
theorem InvL_fr {σ σ' : Sto} (h : InvL σ) (h1 : eqI [3077, 3078, 3504, 3505] σ σ') (h2 : eqA [49, 50, 51, 52, 53, 77, 78, 79, 80, 81] σ σ') : InvL σ' := by
  simp only [eqI, eqA, List.forall_mem_cons] at h1 h2
  obtain ⟨a1, a2, a3, a4, -⟩ := h1
  obtain ⟨b1, b2, b3, b4, b5, b6, b7, b8, b9, b10, -⟩ := h2
  simp only [InvL, a1, a2, a3, a4, b1, b2, b3, b4, b5, b6, b7, b8, b9, b10]
  exact h
/-- signs and crews, but for the plan -/
def InvS (σ : Sto) : Prop :=
  gi σ 2442 = gi σ 3497 ∧ gi σ 2443 = gi σ 3498 ∧ (0 ≤ gi σ 3497 ∧ gi σ 3497 ≤ 8) ∧ (0 ≤ gi σ 3498 ∧ gi σ 3498 ≤ 3) ∧ (∀ k : Nat, (k : Int) < gi σ 3497 → ga σ 39 k = ga σ 69 k ∧ ga σ 40 k = ga σ 70 k ∧ (0 ≤ ga σ 69 k ∧ ga σ 69 k < gi σ 3460) ∧ (1 ≤ ga σ 70 k ∧ ga σ 70 k ≤ 60)) ∧ ∀ k : Nat, (k : Int) < gi σ 3498 → ga σ 41 k = ga σ 71 k ∧ (0 ≤ ga σ 71 k ∧ ga σ 71 k < gi σ 3460)
theorem InvS_fr {σ σ' : Sto} (h : InvS σ) (h1 : eqI [2442, 2443, 3497, 3498, 3460] σ σ') (h2 : eqA [39, 40, 41, 69, 70, 71] σ σ') : InvS σ' := by
  simp only [eqI, eqA, List.forall_mem_cons] at h1 h2
  obtain ⟨a1, a2, a3, a4, a5, -⟩ := h1
  obtain ⟨b1, b2, b3, b4, b5, b6, -⟩ := h2
  simp only [InvS, a1, a2, a3, a4, a5, b1, b2, b3, b4, b5, b6]
  exact h
