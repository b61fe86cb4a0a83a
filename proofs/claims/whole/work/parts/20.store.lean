/-! the store: reads behind writes -/
theorem gi_si {σ : Sto} {k j : Nat} {x : Int} : gi (si σ k x) j = if j = k then x else gi σ j := rfl
theorem ga_si {σ : Sto} {k : Nat} {x : Int} : ga (si σ k x) = ga σ := rfl
theorem gl_si {σ : Sto} {k : Nat} {x : Int} : gl (si σ k x) = gl σ := rfl
theorem gi_sf {σ : Sto} {a : Nat} {f : Nat → Int} : gi (sf σ a f) = gi σ := rfl
theorem gl_sf {σ : Sto} {a : Nat} {f : Nat → Int} : gl (sf σ a f) = gl σ := rfl
theorem ga_sf {σ : Sto} {a b : Nat} {f : Nat → Int} : ga (sf σ a f) b = if b = a then f else ga σ b := by
  funext i
  simp only [ga, sf]
  split <;> rfl
theorem gi_sa {σ : Sto} {a i : Nat} {x : Int} : gi (sa σ a i x) = gi σ := rfl
theorem gl_sa {σ : Sto} {a i : Nat} {x : Int} : gl (sa σ a i x) = gl σ := rfl
theorem ga_sa {σ : Sto} {a i b : Nat} {x : Int} : ga (sa σ a i x) b = if b = a then (fun j => if j = i then x else ga σ a j) else ga σ b := by
  unfold sa
  rw [ga_sf]
theorem gi_sl {σ : Sto} {k : Nat} {x : Int} : gi (sl σ k x) = gi σ := rfl
theorem ga_sl {σ : Sto} {k : Nat} {x : Int} : ga (sl σ k x) = ga σ := rfl
theorem gl_sl {σ : Sto} {k j : Nat} {x : Int} : gl (sl σ k x) j = if j = k then x else gl σ j := rfl
/-- a pair of calls: equal answers, and the invariant behind both -/
def OpI (I : Sto → Prop) (S : Scr) (yC yM : Nat) (lvC lvM : Lcs) (σ : Sto) : Prop := WP S yC 0 lvC [] σ (fun v σ1 => ∃ x, v = some (vi x) ∧ WP S yM 0 lvM [] σ1 (fun v2 σ2 => v2 = some (vi x) ∧ I σ2))
