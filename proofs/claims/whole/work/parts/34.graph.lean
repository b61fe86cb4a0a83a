/-! walks and their table -/
section GRAPH
variable {f g h : Nat → Int} {n : Nat}
theorem IsD_uniq {D D' : Nat → Int} (h1 : IsD f g h n D) (h2 : IsD f g h n D') {a b : Nat} (ha : a < 8) (hb : b < 8) : D (8 * a + b) = D' (8 * a + b) := by
  obtain ⟨p1, p2, p3⟩ := h1 a b ha hb
  obtain ⟨q1, q2, q3⟩ := h2 a b ha hb
  rcases p3 with p3 | ⟨k, p3⟩ <;> rcases q3 with q3 | ⟨k', q3⟩
  · omega
  · have := p2 _ _ q3; omega
  · have := q2 _ _ p3; omega
  · have := p2 _ _ q3
    have := q2 _ _ p3
    omega
theorem wk_app : ∀ (k k' : Nat) (a b c d d' : Int), wkF f g h n k a b d → wkF f g h n k' b c d' → wkF f g h n (k + k') a c (d + d') := by
  intro k
  induction k with
  | zero =>
    intro k' a b c d d' h1 h2
    obtain ⟨rfl, rfl⟩ := h1
    rw [Nat.zero_add, Int.zero_add]
    exact h2
  | succ k ih =>
    intro k' a b c d d' h1 h2
    obtain ⟨s, e, hs, he, hw⟩ := h1
    rw [show k + 1 + k' = (k + k') + 1 by omega]
    refine ⟨s, e, hs, he, ?_⟩
    have := ih k' e b c (d - h s) d' hw h2
    rw [show d + d' - h s = d - h s + d' by omega]
    exact this
theorem wk_one {s : Nat} {a b : Int} (hs : s < n) (he : (f s = a ∧ g s = b) ∨ (g s = a ∧ f s = b)) : wkF f g h n 1 a b (h s) := ⟨s, b, hs, he, rfl, by omega⟩
theorem wk_nn (hp : ∀ s, s < n → 0 ≤ h s) : ∀ (k : Nat) (a b d : Int), wkF f g h n k a b d → 0 ≤ d := by
  intro k
  induction k with
  | zero => intro a b d hw; obtain ⟨-, rfl⟩ := hw; omega
  | succ k ih =>
    intro a b d hw
    obtain ⟨s, e, hs, he, hw⟩ := hw
    have := ih _ _ _ hw
    have := hp s hs
    omega
theorem wk_mono {f' g' h' : Nat → Int} {n' : Nat} (hn : n ≤ n') (heq : ∀ s, s < n → f' s = f s ∧ g' s = g s ∧ h' s = h s) : ∀ (k : Nat) (a b d : Int), wkF f g h n k a b d → wkF f' g' h' n' k a b d := by
  intro k
  induction k with
  | zero => intro a b d hw; exact hw
  | succ k ih =>
    intro a b d hw
    obtain ⟨s, e, hs, he, hw⟩ := hw
    obtain ⟨e1, e2, e3⟩ := heq s hs
    refine ⟨s, e, Nat.lt_of_lt_of_le hs hn, by rw [e1, e2]; exact he, ?_⟩
    rw [e3]
    exact ih _ _ _ hw
/-- a table that is sound, and closed under every street, is the table of the shortest walks -/
theorem IsD_of {D : Nat → Int} (hv : ∀ s, s < n → (0 ≤ f s ∧ f s < 8) ∧ (0 ≤ g s ∧ g s < 8)) (hle : ∀ a b : Nat, a < 8 → b < 8 → D (8 * a + b) ≤ 1000000) (h0 : ∀ a : Nat, a < 8 → D (8 * a + a) ≤ 0) (hs : ∀ a b : Nat, a < 8 → b < 8 → D (8 * a + b) = 1000000 ∨ ∃ k, wkF f g h n k a b (D (8 * a + b)))
    (hc : ∀ (s a c b : Nat), s < n → a < 8 → c < 8 → b < 8 → ((f s = a ∧ g s = c) ∨ (g s = a ∧ f s = c)) → D (8 * a + b) ≤ h s + D (8 * c + b)) : IsD f g h n D := by
  intro a b ha hb
  refine ⟨hle a b ha hb, ?_, hs a b ha hb⟩
  intro k
  induction k generalizing a with
  | zero =>
    intro d hw
    obtain ⟨e, rfl⟩ := hw
    have e : a = b := by omega
    subst e
    exact h0 a ha
  | succ k ih =>
    intro d hw
    obtain ⟨s, e, hs', he, hw⟩ := hw
    obtain ⟨v1, v2⟩ := hv s hs'
    have hen : 0 ≤ e ∧ e < 8 := by omega
    have ee : e = ((e.toNat : Nat) : Int) := by omega
    rw [ee] at hw he
    have i1 := ih e.toNat (by omega) _ hw
    have i2 := hc s a e.toNat b hs' ha (by omega) hb he
    omega
/-- a table of the shortest walks is closed under every street -/
theorem IsD_cl {D : Nat → Int} (hD : IsD f g h n D) (hp : ∀ s, s < n → 0 ≤ h s) {s a c b : Nat} (hs : s < n) (ha : a < 8) (hc : c < 8) (hb : b < 8) (he : (f s = a ∧ g s = c) ∨ (g s = a ∧ f s = c)) : D (8 * a + b) ≤ h s + D (8 * c + b) := by
  obtain ⟨p1, p2, p3⟩ := hD a b ha hb
  obtain ⟨q1, q2, q3⟩ := hD c b hc hb
  have := hp s hs
  rcases q3 with q3 | ⟨k, q3⟩
  · omega
  · have := p2 (k + 1) (h s + D (8 * c + b)) ⟨s, c, hs, he, by rw [show h s + D (8 * c + b) - h s = D (8 * c + b) by omega]; exact q3⟩
    exact this
theorem IsD_0 {D : Nat → Int} (hD : IsD f g h n D) {a : Nat} (ha : a < 8) : D (8 * a + a) ≤ 0 := (hD a a ha ha).2.1 0 0 ⟨rfl, rfl⟩
theorem IsD_nn {D : Nat → Int} (hD : IsD f g h n D) (hp : ∀ s, s < n → 0 ≤ h s) {a b : Nat} (ha : a < 8) (hb : b < 8) : 0 ≤ D (8 * a + b) := by
  rcases (hD a b ha hb).2.2 with q | ⟨k, q⟩
  · omega
  · exact wk_nn hp _ _ _ _ q
/-- one street more -/
theorem IsD_add {D D' : Nat → Int} {f' g' h' : Nat → Int} {m : Nat} (hD : IsD f g h n D) (hv : ∀ s, s < n → (0 ≤ f s ∧ f s < m) ∧ (0 ≤ g s ∧ g s < m)) (hp : ∀ s, s < n → 0 ≤ h s) (heq : ∀ s, s < n → f' s = f s ∧ g' s = g s ∧ h' s = h s) {a b : Nat} (hm : m ≤ 8) (ha : a < m) (hb : b < m) (ea : f' n = a) (eb : g' n = b) (hpos : 0 ≤ h' n)
    (hle : ∀ x y : Nat, x < 8 → y < 8 → D' (8 * x + y) ≤ D (8 * x + y)) (hsd : ∀ x y : Nat, x < 8 → y < 8 → D' (8 * x + y) = 1000000 ∨ ∃ k, wkF f' g' h' (n + 1) k x y (D' (8 * x + y)))
    (hfm : ∀ x y : Nat, x < m → y < m → D' (8 * x + y) ≤ D (8 * x + a) + h' n + D (8 * b + y) ∧ D' (8 * x + y) ≤ D (8 * x + b) + h' n + D (8 * a + y))
    (hlo : ∀ x y : Nat, x < m → y < m → D' (8 * x + y) = D (8 * x + y) ∨ D' (8 * x + y) = D (8 * x + a) + h' n + D (8 * b + y) ∨ D' (8 * x + y) = D (8 * x + b) + h' n + D (8 * a + y)) (hother : ∀ x y : Nat, x < 8 → y < 8 → ¬ (x < m ∧ y < m) → D' (8 * x + y) = D (8 * x + y)) : IsD f' g' h' (n + 1) D' := by
  refine IsD_of ?_ (fun x y hx hy => Int.le_trans (hle x y hx hy) (hD x y hx hy).1) (fun x hx => Int.le_trans (hle x x hx hx) (IsD_0 hD hx)) hsd ?_
  · intro s hs
    by_cases q : s < n
    · obtain ⟨e1, e2, -⟩ := heq s q
      have := hv s q
      rw [e1, e2]
      omega
    · have e : s = n := by omega
      subst e
      omega
  · intro s x c y hs hx hc hy he
    have nn := fun (p q : Nat) (hp' : p < 8) (hq : q < 8) => IsD_nn hD hp (a := p) (b := q) hp' hq
    by_cases q : s < n
    · obtain ⟨e1, e2, e3⟩ := heq s q
      have hvs := hv s q
      rw [e1, e2] at he
      have xm : x < m := by omega
      have cm : c < m := by omega
      have cl := fun (z : Nat) (hz : z < 8) => IsD_cl hD hp q hx hc hz he
      rw [e3]
      by_cases ym : y < m
      · have k1 := cl y hy
        have k2 := cl a (by omega)
        have k3 := cl b (by omega)
        have k4 := hfm x y xm ym
        have k5 := hle x y hx hy
        rcases hlo c y cm ym with r | r | r <;> omega
      · have k1 := cl y hy
        have k5 := hle x y hx hy
        have k6 := hother c y hc hy (by omega)
        omega
    · have e : n = s := by omega
      subst e
      rw [ea, eb] at he
      have xm : x < m := by omega
      have cm : c < m := by omega
      have k0a := IsD_0 hD (show a < 8 by omega)
      have k0b := IsD_0 hD (show b < 8 by omega)
      have k5 := hle x y hx hy
      by_cases ym : y < m
      · have k4 := hfm x y xm ym
        have n1 := nn b a (by omega) (by omega)
        have n2 := nn a b (by omega) (by omega)
        have n3 := nn a y (by omega) hy
        have n4 := nn b y (by omega) hy
        have n5 := nn a a (by omega) (by omega)
        have n6 := nn b b (by omega) (by omega)
        rcases he with ⟨h1, h2⟩ | ⟨h1, h2⟩
        · have hxa : x = a := by omega
          have hcb : c = b := by omega
          subst hxa hcb
          rcases hlo c y cm ym with r | r | r <;> omega
        · have hxa : x = b := by omega
          have hcb : c = a := by omega
          subst hxa hcb
          rcases hlo c y cm ym with r | r | r <;> omega
      · have k6 := hother c y hc hy (by omega)
        have k7 : D (8 * c + y) = 1000000 := by
          rcases (hD c y hc hy).2.2 with r | ⟨k, r⟩
          · exact r
          · exfalso
            have key : ∀ (k : Nat) (p : Int) (d : Int), wkF f g h n k p y d → p < m → False := by
              intro k
              induction k with
              | zero => intro p d hw hp'; obtain ⟨e, -⟩ := hw; omega
              | succ k ih =>
                intro p d hw hp'
                obtain ⟨s', e, hs'', he', hw⟩ := hw
                have := hv s' hs''
                exact ih e _ hw (by omega)
            exact key k (c : Int) _ r (by omega)
        have := (hD x y hx hy).1
        omega
end GRAPH
