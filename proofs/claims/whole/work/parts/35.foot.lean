/-! the ways on foot, one street more: in place -/
theorem sf_sf {σ : Sto} {a : Nat} {f f' : Nat → Int} : sf (sf σ a f) a f' = sf σ a f' := by
  unfold sf
  congr 2
  funext b
  by_cases h : b = a
  · rw [if_pos h, if_pos h]
  · rw [if_neg h, if_neg h]
    show (if b = a then f else σ.2.1 b) = σ.2.1 b
    rw [if_neg h]
theorem sa_sf {σ : Sto} {a i : Nat} {v : Int} {f : Nat → Int} : sa (sf σ a f) a i v = sf σ a (fun j => if j = i then v else f j) := by
  unfold sa
  rw [sf_sf, ga_sf, if_pos rfl]
theorem sf_id {σ : Sto} {a : Nat} : sf σ a (ga σ a) = σ := by
  unfold sf
  obtain ⟨p, q, r⟩ := σ
  congr 2
  funext b
  by_cases h : b = a
  · rw [if_pos h, h]; rfl
  · rw [if_neg h]
def fmV (D : Nat → Int) (a b : Nat) (L : Int) (x y : Nat) : Int := minF (D (8 * x + y)) (minF (D (8 * x + a) + L + D (8 * b + y)) (D (8 * x + b) + L + D (8 * a + y)))
def KD (f g h : Nat → Int) (n : Nat) (D0 : Nat → Int) (a b : Nat) (L : Int) (m fr to : Nat) (D : Nat → Int) : Prop :=
  ∀ x y : Nat, x < 8 → y < 8 → (0 ≤ D (8 * x + y) ∧ D (8 * x + y) ≤ 1000000) ∧ D (8 * x + y) ≤ D0 (8 * x + y) ∧ (D (8 * x + y) = 1000000 ∨ ∃ k, wkF f g h n k x y (D (8 * x + y))) ∧ ((x < fr ∨ (x = fr ∧ y < to)) → x < m → y < m → D (8 * x + y) ≤ fmV D0 a b L x y)
theorem minF_le (x y : Int) : minF x y ≤ x ∧ minF x y ≤ y ∧ (minF x y = x ∨ minF x y = y) := by
  unfold minF
  split
  · exact ⟨by omega, by omega, Or.inr rfl⟩
  · exact ⟨by omega, by omega, Or.inl rfl⟩
section FOOT
variable {f g h : Nat → Int} {n : Nat} {D0 : Nat → Int} {a b m : Nat} {L : Int}
/-- over the new street -/
theorem over_sd (hL : 0 < L) {x y p q : Nat} {u v : Int} (hu : 0 ≤ u ∧ u ≤ 1000000) (hv : 0 ≤ v ∧ v ≤ 1000000) (su : u = 1000000 ∨ ∃ k, wkF f g h n k x p u) (sv : v = 1000000 ∨ ∃ k, wkF f g h n k q y v) (he : wkF f g h n 1 p q L) (hlt : u + L + v < 1000000) : ∃ k, wkF f g h n k x y (u + L + v) := by
  rcases su with e | ⟨k, su⟩
  · omega
  · rcases sv with e | ⟨k', sv⟩
    · omega
    · exact ⟨_, wk_app _ _ _ _ _ _ _ (wk_app _ _ _ _ _ _ _ su he) sv⟩
theorem KD_step {fr to : Nat} {D : Nat → Int} {tA tB : Int} (hL : 0 < L) (hm : m ≤ 8) (ha : a < m) (hb : b < m) (hfr : fr < m) (hto : to < m) (e1 : wkF f g h n 1 a b L) (e2 : wkF f g h n 1 b a L) (hK : KD f g h n D0 a b L m fr to D)
    (hA : 0 ≤ tA ∧ tA ≤ 1000000) (sA : tA = 1000000 ∨ ∃ k, wkF f g h n k fr a tA) (lA : tA ≤ D0 (8 * fr + a)) (hB : 0 ≤ tB ∧ tB ≤ 1000000) (sB : tB = 1000000 ∨ ∃ k, wkF f g h n k fr b tB) (lB : tB ≤ D0 (8 * fr + b)) :
    KD f g h n D0 a b L m fr (to + 1) (fun i => if i = 8 * fr + to then minF (D (8 * fr + to)) (minF (tA + L + D (8 * b + to)) (tB + L + D (8 * a + to))) else D i) := by
  intro x y hx hy
  obtain ⟨c1, c2, c3, c4⟩ := hK x y hx hy
  dsimp only
  by_cases q : 8 * x + y = 8 * fr + to
  · have qx : x = fr := by omega
    have qy : y = to := by omega
    subst qx qy
    rw [if_pos rfl]
    obtain ⟨b1, b2, b3, -⟩ := hK b y (by omega) hy
    obtain ⟨a1, a2, a3, -⟩ := hK a y (by omega) hy
    obtain ⟨m1, m2, m3⟩ := minF_le (tA + L + D (8 * b + y)) (tB + L + D (8 * a + y))
    obtain ⟨m4, m5, m6⟩ := minF_le (D (8 * x + y)) (minF (tA + L + D (8 * b + y)) (tB + L + D (8 * a + y)))
    refine ⟨by omega, by omega, ?_, fun _ _ _ => ?_⟩
    · rcases m6 with e | e
      · rw [e]; exact c3
      · rcases m3 with e' | e'
        · rw [e, e']
          by_cases hlt : tA + L + D (8 * b + y) < 1000000
          · exact Or.inr (over_sd hL hA b1 sA b3 e1 hlt)
          · left; omega
        · rw [e, e']
          by_cases hlt : tB + L + D (8 * a + y) < 1000000
          · exact Or.inr (over_sd hL hB a1 sB a3 e2 hlt)
          · left; omega
    · obtain ⟨n1, n2, n3⟩ := minF_le (D0 (8 * x + a) + L + D0 (8 * b + y)) (D0 (8 * x + b) + L + D0 (8 * a + y))
      obtain ⟨n4, n5, n6⟩ := minF_le (D0 (8 * x + y)) (minF (D0 (8 * x + a) + L + D0 (8 * b + y)) (D0 (8 * x + b) + L + D0 (8 * a + y)))
      unfold fmV
      rcases n6 with e | e
      · rw [e]; omega
      · rw [e]
        rcases n3 with e' | e' <;> rw [e'] <;> omega
  · rw [if_neg q]
    exact ⟨c1, c2, c3, fun h1 h2 h3 => c4 (by omega) h2 h3⟩
theorem KD_row {fr : Nat} {D : Nat → Int} (hK : KD f g h n D0 a b L m fr m D) : KD f g h n D0 a b L m (fr + 1) 0 D := by
  intro x y hx hy
  obtain ⟨c1, c2, c3, c4⟩ := hK x y hx hy
  exact ⟨c1, c2, c3, fun h1 h2 h3 => c4 (by omega) h2 h3⟩
theorem KD_end {D : Nat → Int} {f0 g0 h0 : Nat → Int} {n0 : Nat} (hn : n = n0 + 1) (hD0 : IsD f0 g0 h0 n0 D0) (hv : ∀ s, s < n0 → (0 ≤ f0 s ∧ f0 s < m) ∧ (0 ≤ g0 s ∧ g0 s < m)) (hp : ∀ s, s < n0 → 0 ≤ h0 s) (heq : ∀ s, s < n0 → f s = f0 s ∧ g s = g0 s ∧ h s = h0 s) (hm : m ≤ 8) (ha : a < m) (hb : b < m) (ea : f n0 = a) (eb : g n0 = b) (eL : h n0 = L) (hL : 0 < L) (hK : KD f g h n D0 a b L m m 0 D) : IsD f g h n D := by
  subst hn
  have w1 : wkF f g h (n0 + 1) 1 a b L := by rw [← eL]; exact wk_one (by omega) (Or.inl ⟨ea, eb⟩)
  have w2 : wkF f g h (n0 + 1) 1 b a L := by rw [← eL]; exact wk_one (by omega) (Or.inr ⟨eb, ea⟩)
  have old : ∀ x y : Nat, x < 8 → y < 8 → (0 ≤ D0 (8 * x + y) ∧ D0 (8 * x + y) ≤ 1000000) ∧ (D0 (8 * x + y) = 1000000 ∨ ∃ k, wkF f g h (n0 + 1) k x y (D0 (8 * x + y))) := fun x y hx hy => ⟨⟨IsD_nn hD0 hp hx hy, (hD0 x y hx hy).1⟩, by
    rcases (hD0 x y hx hy).2.2 with e | ⟨k, e⟩
    · exact Or.inl e
    · exact Or.inr ⟨k, wk_mono (Nat.le_succ n0) heq _ _ _ _ e⟩⟩
  have hF : IsD f g h (n0 + 1) (fun i => if i / 8 < m ∧ i % 8 < m then fmV D0 a b L (i / 8) (i % 8) else D0 i) := by
    have ev : ∀ x y : Nat, x < 8 → y < 8 → (8 * x + y) / 8 = x ∧ (8 * x + y) % 8 = y := fun x y hx hy => by omega
    refine IsD_add hD0 hv hp heq hm ha hb ea eb (by omega) ?_ ?_ ?_ ?_ ?_
    · intro x y hx hy
      obtain ⟨q1, q2⟩ := ev x y hx hy
      try dsimp only
      rw [q1, q2]
      split
      · exact (minF_le _ _).1
      · exact Int.le_refl _
    · intro x y hx hy
      obtain ⟨q1, q2⟩ := ev x y hx hy
      try dsimp only
      rw [q1, q2]
      split
      · next hq =>
        unfold fmV
        obtain ⟨m1, m2, m3⟩ := minF_le (D0 (8 * x + a) + L + D0 (8 * b + y)) (D0 (8 * x + b) + L + D0 (8 * a + y))
        obtain ⟨m4, m5, m6⟩ := minF_le (D0 (8 * x + y)) (minF (D0 (8 * x + a) + L + D0 (8 * b + y)) (D0 (8 * x + b) + L + D0 (8 * a + y)))
        obtain ⟨o1, o2⟩ := old x y hx hy
        obtain ⟨p1, p2⟩ := old x a hx (by omega)
        obtain ⟨p3, p4⟩ := old x b hx (by omega)
        obtain ⟨p5, p6⟩ := old a y (by omega) hy
        obtain ⟨p7, p8⟩ := old b y (by omega) hy
        rcases m6 with e | e
        · rw [e]; exact o2
        · rcases m3 with e' | e'
          · rw [e, e']
            by_cases hlt : D0 (8 * x + a) + L + D0 (8 * b + y) < 1000000
            · exact Or.inr (over_sd hL p1 p7 p2 p8 w1 hlt)
            · left; omega
          · rw [e, e']
            by_cases hlt : D0 (8 * x + b) + L + D0 (8 * a + y) < 1000000
            · exact Or.inr (over_sd hL p3 p5 p4 p6 w2 hlt)
            · left; omega
      · exact (old x y hx hy).2
    · intro x y hx hy
      obtain ⟨q1, q2⟩ := ev x y (by omega) (by omega)
      try dsimp only
      rw [q1, q2, if_pos ⟨hx, hy⟩, eL]
      unfold fmV
      obtain ⟨m1, m2, m3⟩ := minF_le (D0 (8 * x + a) + L + D0 (8 * b + y)) (D0 (8 * x + b) + L + D0 (8 * a + y))
      obtain ⟨m4, m5, m6⟩ := minF_le (D0 (8 * x + y)) (minF (D0 (8 * x + a) + L + D0 (8 * b + y)) (D0 (8 * x + b) + L + D0 (8 * a + y)))
      omega
    · intro x y hx hy
      obtain ⟨q1, q2⟩ := ev x y (by omega) (by omega)
      try dsimp only
      rw [q1, q2, if_pos ⟨hx, hy⟩, eL]
      unfold fmV
      obtain ⟨m1, m2, m3⟩ := minF_le (D0 (8 * x + a) + L + D0 (8 * b + y)) (D0 (8 * x + b) + L + D0 (8 * a + y))
      obtain ⟨m4, m5, m6⟩ := minF_le (D0 (8 * x + y)) (minF (D0 (8 * x + a) + L + D0 (8 * b + y)) (D0 (8 * x + b) + L + D0 (8 * a + y)))
      omega
    · intro x y hx hy hq
      obtain ⟨q1, q2⟩ := ev x y hx hy
      try dsimp only
      rw [q1, q2, if_neg hq]
  intro x y hx hy
  obtain ⟨c1, c2, c3, c4⟩ := hK x y hx hy
  refine ⟨c1.2, fun k d hw => ?_, c3⟩
  have r := (hF x y hx hy).2.1 k d hw
  have q1 : (8 * x + y) / 8 = x := by omega
  have q2 : (8 * x + y) % 8 = y := by omega
  dsimp only at r
  rw [q1, q2] at r
  by_cases hq : x < m ∧ y < m
  · rw [if_pos hq] at r
    have := c4 (by omega) hq.1 hq.2
    omega
  · rw [if_neg hq] at r
    omega
end FOOT
