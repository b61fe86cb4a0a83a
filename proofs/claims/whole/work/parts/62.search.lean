/-! looking for ways, as a matter of numbers: A t l: one begins so; B t0 l0 t l: one goes on so -/
def RA (A : Int → Nat → Prop) (B : Int → Nat → Int → Nat → Prop) : Nat → Int → Nat → Prop
  | 0, _, _ => False
  | n + 1, t, l => (n = 0 ∧ A t l) ∨ ∃ t0 l0, RA A B n t0 l0 ∧ B t0 l0 t l
def R1F (A : Int → Nat → Prop) (B : Int → Nat → Int → Nat → Prop) (Q : Int → Nat → Nat → Prop) (n : Nat) (t : Int) (l : Nat) : Prop := (n = 1 ∧ A t l) ∨ ∃ n0 t0 l0, n = n0 + 1 ∧ RA A B n0 t0 l0 ∧ Q t0 l0 l ∧ B t0 l0 t l
def SND (A : Int → Nat → Prop) (B : Int → Nat → Int → Nat → Prop) (F : Int → Nat → Int) (x : Int) : Prop := ∀ t l, x ≤ t → F t l ≠ 0 → ∃ n : Nat, F t l = (n : Int) ∧ RA A B n t l
def OKc (D : Int → Nat → Prop) (F : Int → Nat → Int) (n : Nat) (t : Int) (l : Nat) : Prop := D t l ∨ (0 < F t l ∧ F t l ≤ (n : Int))
def CG (A : Int → Nat → Prop) (B : Int → Nat → Int → Nat → Prop) (D : Int → Nat → Prop) (F : Int → Nat → Int) (x : Int) (j : Nat) : Prop := ∀ n l, j ≤ l → RA A B n x l → OKc D F n x l
def CN (A : Int → Nat → Prop) (B : Int → Nat → Int → Nat → Prop) (D : Int → Nat → Prop) (F : Int → Nat → Int) (Q : Int → Nat → Nat → Prop) (x : Int) : Prop := ∀ n t l, x < t → R1F A B Q n t l → OKc D F n t l
def Qj (x : Int) (j : Nat) : Int → Nat → Nat → Prop := fun t0 l0 _ => t0 < x ∨ (t0 = x ∧ l0 < j)
def ANS (A : Int → Nat → Prop) (B : Int → Nat → Int → Nat → Prop) (M : Nat → Prop) (x : Int) (j : Nat) (T N : Int) : Prop :=
  (T = -1 ∧ N = -1 ∧ ∀ n t l, (t < x ∨ (t = x ∧ l < j)) → M l → ¬ RA A B n t l) ∨
  (T = x ∧ (∃ (n : Nat) (l : Nat), N = (n : Int) ∧ M l ∧ RA A B n x l) ∧ (∀ n t l, t < x → M l → ¬ RA A B n t l) ∧ ∀ (n : Nat) l, l < j → M l → RA A B n x l → N ≤ (n : Int))
def Ans (A : Int → Nat → Prop) (B : Int → Nat → Int → Nat → Prop) (M : Nat → Prop) (T N : Int) : Prop :=
  (T = -1 ∧ N = -1 ∧ ∀ n t l, M l → ¬ RA A B n t l) ∨
  ((∃ (n : Nat) (l : Nat), M l ∧ RA A B n T l ∧ N = (n : Int)) ∧ (∀ n t l, M l → RA A B n t l → T ≤ t) ∧ ∀ (n : Nat) l, M l → RA A B n T l → N ≤ (n : Int))
def updF (F : Int → Nat → Int) (a : Int) (b : Nat) (x : Int) : Int → Nat → Int := fun t l => if t = a ∧ l = b then (if F t l = 0 then x else minF (F t l) x) else F t l
def zerF (F : Int → Nat → Int) (a : Int) (b : Nat) : Int → Nat → Int := fun t l => if t = a ∧ l = b then 0 else F t l
section SEARCH
variable {A : Int → Nat → Prop} {B : Int → Nat → Int → Nat → Prop} {D : Int → Nat → Prop} {F : Int → Nat → Int} {M : Nat → Prop} {K : Nat} {x T N : Int} {j : Nat}
theorem RA_bd (hA : ∀ t l, A t l → 1 ≤ t ∧ t ≤ 3000 ∧ l < K) (hB : ∀ t0 l0 t l, B t0 l0 t l → t0 < t ∧ t ≤ 3000 ∧ l < K) : ∀ n t l, RA A B n t l → (n : Int) ≤ t ∧ 1 ≤ t ∧ t ≤ 3000 ∧ l < K ∧ 1 ≤ n := by
  intro n
  induction n with
  | zero => intro t l h; exact absurd h id
  | succ n ih =>
    intro t l h
    rcases h with ⟨h0, h⟩ | ⟨t0, l0, h1, h2⟩
    · obtain ⟨a1, a2, a3⟩ := hA t l h
      exact ⟨by omega, a1, a2, a3, by omega⟩
    · obtain ⟨b1, b2, b3, b4⟩ := ih t0 l0 h1
      obtain ⟨c1, c2, c3⟩ := hB _ _ _ _ h2
      exact ⟨by omega, by omega, c2, c3, by omega⟩
theorem RA_s {n : Nat} {t0 : Int} {l0 : Nat} {t : Int} {l : Nat} (h : RA A B n t0 l0) (hb : B t0 l0 t l) : RA A B (n + 1) t l := Or.inr ⟨t0, l0, h, hb⟩
theorem RA_i {t : Int} {l : Nat} (h : A t l) : RA A B 1 t l := Or.inl ⟨rfl, h⟩
theorem SND_nn (h : SND A B F x) {t : Int} {l : Nat} (ht : x ≤ t) : 0 ≤ F t l := by
  by_cases q : F t l = 0
  · omega
  · obtain ⟨n, hn, -⟩ := h t l ht q
    omega
theorem upd_ok {n : Nat} {t : Int} {l : Nat} {a : Int} {b : Nat} {y : Int} (hy : 0 < y) (h : OKc D F n t l) : OKc D (updF F a b y) n t l := by
  rcases h with h | ⟨h1, h2⟩
  · exact Or.inl h
  · refine Or.inr ?_
    unfold updF minF
    repeat' split
    all_goals omega
theorem upd_at {a : Int} {b : Nat} {y : Nat} (hy : 0 < y) (hs : 0 ≤ F a b) {n : Nat} (hn : y ≤ n) : OKc D (updF F a b (y : Int)) n a b := by
  refine Or.inr ?_
  unfold updF minF
  rw [if_pos ⟨rfl, rfl⟩]
  repeat' split
  all_goals omega
theorem upd_snd {a : Int} {b : Nat} {y : Nat} (h : SND A B F x) (hr : RA A B y a b) : SND A B (updF F a b (y : Int)) x := by
  intro t l ht hne
  unfold updF at hne ⊢
  by_cases q : t = a ∧ l = b
  · rw [if_pos q] at hne ⊢
    obtain ⟨rfl, rfl⟩ := q
    by_cases q2 : F t l = 0
    · rw [if_pos q2]
      exact ⟨y, rfl, hr⟩
    · rw [if_neg q2]
      unfold minF
      split
      · exact ⟨y, rfl, hr⟩
      · exact h t l ht q2
  · rw [if_neg q] at hne ⊢
    exact h t l ht hne
theorem upd_g {a : Int} {b : Nat} {y : Int} (ha : x < a) (h : CG A B D F x j) : CG A B D (updF F a b y) x j := by
  intro n l hl hr
  have e : updF F a b y x l = F x l := by unfold updF; rw [if_neg (fun q => by omega)]
  have := h n l hl hr
  unfold OKc at this ⊢
  rw [e]
  exact this
theorem zer_snd {b : Nat} (h : SND A B F x) : SND A B (zerF F x b) x := by
  intro t l ht hne
  unfold zerF at hne ⊢
  split at hne
  · exact absurd rfl hne
  · rename_i q
    rw [if_neg q]
    exact h t l ht hne
theorem zer_g (h : CG A B D F x j) : CG A B D (zerF F x j) x (j + 1) := by
  intro n l hl hr
  have e : zerF F x j x l = F x l := by unfold zerF; rw [if_neg (fun q => by omega)]
  have := h n l (by omega) hr
  unfold OKc at this ⊢
  rw [e]
  exact this
theorem zer_n {Q : Int → Nat → Nat → Prop} {b : Nat} (h : CN A B D F Q x) : CN A B D (zerF F x b) Q x := by
  intro n t l ht hr
  have e : zerF F x b t l = F t l := by unfold zerF; rw [if_neg (fun q => by omega)]
  have := h n t l ht hr
  unfold OKc at this ⊢
  rw [e]
  exact this
/-- all that goes on from (x, j) is worse: nothing need be done -/
theorem cn_dom (dI : ∀ t0 l0 t l, D t0 l0 → B t0 l0 t l → D t l) (hd : ∀ n, RA A B n x j → D x j) (h : CN A B D F (Qj x j) x) : CN A B D F (Qj x (j + 1)) x := by
  intro n t l ht hr
  rcases hr with ⟨h1, h2⟩ | ⟨n0, t0, l0, h1, h2, h3, h4⟩
  · exact h n t l ht (Or.inl ⟨h1, h2⟩)
  · by_cases q : t0 = x ∧ l0 = j
    · obtain ⟨rfl, rfl⟩ := q
      exact Or.inl (dI _ _ _ _ (hd n0 h2) h4)
    · refine h n t l ht (Or.inr ⟨n0, t0, l0, h1, h2, ?_, h4⟩)
      unfold Qj at h3 ⊢
      omega
/-- all that goes on from (x, j) has been entered -/
theorem cn_step {n1 : Nat} (dI : ∀ t0 l0 t l, D t0 l0 → B t0 l0 t l → D t l) (hg : ∀ n, RA A B n x j → D x j ∨ n1 ≤ n) (hE : ∀ t l, B x j t l → OKc D F (n1 + 1) t l) (h : CN A B D F (Qj x j) x) : CN A B D F (Qj x (j + 1)) x := by
  intro n t l ht hr
  rcases hr with ⟨h1, h2⟩ | ⟨n0, t0, l0, h1, h2, h3, h4⟩
  · exact h n t l ht (Or.inl ⟨h1, h2⟩)
  · by_cases q : t0 = x ∧ l0 = j
    · obtain ⟨rfl, rfl⟩ := q
      rcases hg n0 h2 with q | q
      · exact Or.inl (dI _ _ _ _ q h4)
      · rcases hE t l h4 with u | ⟨u1, u2⟩
        · exact Or.inl u
        · exact Or.inr ⟨u1, by omega⟩
    · refine h n t l ht (Or.inr ⟨n0, t0, l0, h1, h2, ?_, h4⟩)
      unfold Qj at h3 ⊢
      omega
theorem cn_upd {Q : Int → Nat → Nat → Prop} {a : Int} {b : Nat} {y : Int} (hy : 0 < y) (h : CN A B D F Q x) : CN A B D (updF F a b y) Q x := fun n t l ht hr => upd_ok hy (h n t l ht hr)
/-- the next minute -/
theorem cg_next (hA : ∀ t l, A t l → 1 ≤ t ∧ t ≤ 3000 ∧ l < K) (hB : ∀ t0 l0 t l, B t0 l0 t l → t0 < t ∧ t ≤ 3000 ∧ l < K) (h : CN A B D F (Qj x K) x) : CG A B D F (x + 1) 0 := by
  intro n l _ hr
  refine h n (x + 1) l (by omega) ?_
  cases n with
  | zero => exact absurd hr id
  | succ n =>
    rcases hr with ⟨h0, hr⟩ | ⟨t0, l0, h1, h2⟩
    · exact Or.inl ⟨by omega, hr⟩
    · have b1 := RA_bd hA hB n t0 l0 h1
      have b2 := hB _ _ _ _ h2
      exact Or.inr ⟨n, t0, l0, rfl, h1, by unfold Qj; omega, h2⟩
theorem cn_next (hA : ∀ t l, A t l → 1 ≤ t ∧ t ≤ 3000 ∧ l < K) (hB : ∀ t0 l0 t l, B t0 l0 t l → t0 < t ∧ t ≤ 3000 ∧ l < K) (h : CN A B D F (Qj x K) x) : CN A B D F (Qj (x + 1) 0) (x + 1) := by
  intro n t l ht hr
  refine h n t l (by omega) ?_
  rcases hr with hr | ⟨n0, t0, l0, h1, h2, h3, h4⟩
  · exact Or.inl hr
  · have b1 := RA_bd hA hB n0 t0 l0 h2
    refine Or.inr ⟨n0, t0, l0, h1, h2, ?_, h4⟩
    unfold Qj at h3 ⊢
    omega
theorem cg_0 (hA : ∀ t l, A t l → 1 ≤ t ∧ t ≤ 3000 ∧ l < K) (hB : ∀ t0 l0 t l, B t0 l0 t l → t0 < t ∧ t ≤ 3000 ∧ l < K) (h : ∀ t l, A t l → OKc D F 1 t l) : CG A B D F 1 0 ∧ CN A B D F (Qj 1 0) 1 := by
  constructor
  · intro n l _ hr
    cases n with
    | zero => exact absurd hr id
    | succ n =>
      rcases hr with ⟨h0, hr⟩ | ⟨t0, l0, h1, h2⟩
      · rw [h0]; exact h _ _ hr
      · have b1 := RA_bd hA hB n t0 l0 h1
        have b2 := hB _ _ _ _ h2
        omega
  · intro n t l ht hr
    rcases hr with ⟨h1, h2⟩ | ⟨n0, t0, l0, h1, h2, h3, h4⟩
    · rw [h1]; exact h _ _ h2
    · have b1 := RA_bd hA hB n0 t0 l0 h2
      unfold Qj at h3
      omega
/-- no arrival at (x, j) -/
theorem ans_no (hn : M j → ∀ n, ¬ RA A B n x j) (h : ANS A B M x j T N) : ANS A B M x (j + 1) T N := by
  rcases h with ⟨h1, h2, h3⟩ | ⟨h1, h2, h3, h4⟩
  · refine Or.inl ⟨h1, h2, fun n t l hl hm hr => ?_⟩
    by_cases q : t = x ∧ l = j
    · obtain ⟨rfl, rfl⟩ := q
      exact hn hm n hr
    · exact h3 n t l (by omega) hm hr
  · refine Or.inr ⟨h1, h2, h3, fun n l hl hm hr => ?_⟩
    by_cases q : l = j
    · subst q
      exact absurd hr (hn hm n)
    · exact h4 n l (by omega) hm hr
theorem ans_yes {n1 : Nat} (hm1 : M j) (hr1 : RA A B n1 x j) (hl1 : ∀ n, RA A B n x j → n1 ≤ n) (h : ANS A B M x j T N) : ANS A B M x (j + 1) x (if N = -1 then (n1 : Int) else minF N (n1 : Int)) := by
  rcases h with ⟨h1, h2, h3⟩ | ⟨h1, ⟨n2, l2, e2, m2, r2⟩, h3, h4⟩
  · rw [if_pos h2]
    refine Or.inr ⟨rfl, ⟨n1, j, rfl, hm1, hr1⟩, fun n t l hl hm hr => h3 n t l (Or.inl hl) hm hr, fun n l hl hm hr => ?_⟩
    by_cases q : l = j
    · subst q
      have := hl1 n hr
      omega
    · exact absurd hr (h3 n x l (Or.inr ⟨rfl, by omega⟩) hm)
  · have hN : ¬ N = -1 := by omega
    rw [if_neg hN]
    refine Or.inr ⟨rfl, ?_, h3, fun n l hl hm hr => ?_⟩
    · unfold minF
      split
      · exact ⟨n1, j, rfl, hm1, hr1⟩
      · exact ⟨n2, l2, e2, m2, r2⟩
    · by_cases q : l = j
      · subst q
        have := hl1 n hr
        unfold minF
        split <;> omega
      · have := h4 n l (by omega) hm hr
        unfold minF
        split <;> omega
theorem ans_next (hK : ∀ n t l, RA A B n t l → l < K) (h : ANS A B M x K (-1) N) (hx : 0 ≤ x) : ANS A B M (x + 1) 0 (-1) N := by
  rcases h with ⟨h1, h2, h3⟩ | ⟨h1, -⟩
  · refine Or.inl ⟨h1, h2, fun n t l hl hm hr => ?_⟩
    have := hK n t l hr
    exact h3 n t l (by omega) hm hr
  · omega
theorem ans_found (hK : ∀ n t l, RA A B n t l → l < K) (h : ANS A B M x K T N) (hT : T ≠ -1) : Ans A B M T N := by
  rcases h with ⟨h1, h2, h3⟩ | ⟨h1, ⟨n2, l2, e2, m2, r2⟩, h3, h4⟩
  · exact absurd h1 hT
  · subst h1
    refine Or.inr ⟨⟨n2, l2, m2, r2, e2⟩, fun n t l hm hr => ?_, fun n l hm hr => h4 n l (hK n _ l hr) hm hr⟩
    rcases Int.lt_or_le t T with q | q
    · exact absurd hr (h3 n t l q hm)
    · exact q
/-- nothing more comes -/
theorem ans_none (dI : ∀ t0 l0 t l, D t0 l0 → B t0 l0 t l → D t l) (dE : ∀ t l, D t l → ∃ t0 n0, t0 < t ∧ RA A B n0 t0 l) (hA : ∀ t l, A t l → 1 ≤ t ∧ t ≤ 3000 ∧ l < K) (hB : ∀ t0 l0 t l, B t0 l0 t l → t0 < t ∧ t ≤ 3000 ∧ l < K) (hF : ∀ t l, x ≤ t → t ≤ 3000 → F t l = 0) (hg : CG A B D F x 0) (hn : CN A B D F (Qj x 0) x) (h : ANS A B M x 0 (-1) N) (hx : 0 ≤ x) : Ans A B M (-1) N := by
  have hD : ∀ n t l, RA A B n t l → x ≤ t → D t l := by
    intro n
    induction n with
    | zero => intro t l hr; exact absurd hr id
    | succ n ih =>
      intro t l hr ht
      have hb := RA_bd hA hB _ _ _ hr
      have h0 := hF t l ht hb.2.2.1
      have hok : OKc D F (n + 1) t l ∨ D t l := by
        rcases hr with ⟨e0, hr⟩ | ⟨t0, l0, h1, h2⟩
        · refine Or.inl ?_
          rcases Int.lt_or_le x t with q | q
          · exact hn (n + 1) t l q (Or.inl ⟨by omega, hr⟩)
          · have e : t = x := by omega
            subst e
            exact hg (n + 1) l (Nat.zero_le l) (Or.inl ⟨e0, hr⟩)
        · rcases Int.lt_or_le t0 x with q | q
          · refine Or.inl ?_
            rcases Int.lt_or_le x t with q2 | q2
            · exact hn (n + 1) t l q2 (Or.inr ⟨n, t0, l0, rfl, h1, Or.inl q, h2⟩)
            · have e : t = x := by omega
              subst e
              exact hg (n + 1) l (Nat.zero_le l) (Or.inr ⟨t0, l0, h1, h2⟩)
          · exact Or.inr (dI _ _ _ _ (ih t0 l0 h1 q) h2)
      rcases hok with (q | q) | q
      · exact q
      · omega
      · exact q
  rcases h with ⟨h1, h2, h3⟩ | ⟨h1, -⟩
  · refine Or.inl ⟨h1, h2, ?_⟩
    have key : ∀ (m : Nat) (t : Int) (l n : Nat), t.toNat = m → M l → ¬ RA A B n t l := by
      intro m
      induction m using Nat.strongRecOn with
      | _ m ih =>
        intro t l n hm hM hr
        have hb := RA_bd hA hB _ _ _ hr
        rcases Int.lt_or_le t x with q | q
        · exact h3 n t l (Or.inl q) hM hr
        · obtain ⟨t0, n0, g1, g2⟩ := dE t l (hD n t l hr q)
          have hb0 := RA_bd hA hB _ _ _ g2
          exact ih t0.toNat (by omega) t0 l n0 rfl hM g2
    exact fun n t l hm hr => key t.toNat t l n rfl hm hr
  · omega
theorem ans_late (hA : ∀ t l, A t l → 1 ≤ t ∧ t ≤ 3000 ∧ l < K) (hB : ∀ t0 l0 t l, B t0 l0 t l → t0 < t ∧ t ≤ 3000 ∧ l < K) (h : ANS A B M 3001 0 (-1) N) : Ans A B M (-1) N := by
  rcases h with ⟨h1, h2, h3⟩ | ⟨h1, -⟩
  · refine Or.inl ⟨h1, h2, fun n t l hm hr => ?_⟩
    have hb := RA_bd hA hB _ _ _ hr
    exact h3 n t l (Or.inl (by omega)) hm hr
  · omega
end SEARCH
