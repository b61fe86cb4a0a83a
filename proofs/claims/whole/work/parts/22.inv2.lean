/-! the acts: who may, how fast -/
abbrev actF (bK bS bF bT : Nat → Int) (k : Nat) (kind s m : Int) : Prop := (bK k = 4 ∨ bK k = kind) ∧ (bS k < 0 ∨ bS k = s) ∧ bF k ≤ m ∧ m < bT k
/-- may a kind drive, by the first acts: the last one that is for it says so -/
def mayF (bW bK bS bF bT : Nat → Int) (kind s m : Int) : Nat → Int
  | 0 => 1
  | k + 1 => if bW k < 0 ∧ actF bK bS bF bT k kind s m then (if bW k = -1 then 1 else 0) else mayF bW bK bS bF bT kind s m k
/-- how fast it may -/
def spF (bW bK bS bF bT : Nat → Int) (kind s m : Int) : Nat → Int
  | 0 => 5
  | k + 1 => if 0 < bW k ∧ actF bK bS bF bT k kind s m then bW k else spF bW bK bS bF bT kind s m k
/-! the book of the reference, as five rows -/
def bkF (σ : Sto) (a : Nat) : Nat → Int := fun k => ga σ a (20 * (gi σ 3482).toNat + k)
def mayS (σ : Sto) (kind s m : Int) : Int := mayF (bkF σ 62) (bkF σ 63) (bkF σ 64) (bkF σ 65) (bkF σ 66) kind s m (gi σ 838).toNat
def spS (σ : Sto) (kind s m : Int) : Int := spF (bkF σ 62) (bkF σ 63) (bkF σ 64) (bkF σ 65) (bkF σ 66) kind s m (gi σ 838).toNat
def witF (m : Int) : Int := if m < 1440 then m else 1439
/-- how long the lane (s, w) takes a kind that enters it at a minute; 0 where it can't -/
def drvF (both len hr mm sp : Int) (w : Nat) (m : Int) : Int := if (both = 0 ∧ (w : Int) = (if m < hr then 1 else 0)) ∨ mm = 0 then 0 else (10 * len + sp - 1).tdiv sp
def drvS (σ : Sto) (kind : Int) (s w : Nat) (m : Int) : Int := drvF (ga σ 58 s) (ga σ 57 s) (gi σ 3462) (mayS σ kind s (witF m)) (spS σ kind s (witF m)) w (witF m)
def orgS (σ : Sto) (s w : Nat) : Int := if w = 0 then ga σ 55 s else ga σ 56 s
def dstS (σ : Sto) (s w : Nat) : Int := if w = 0 then ga σ 56 s else ga σ 55 s
/-- how long the turn takes at crossing c, from street s0 into s -/
def trnS (σ : Sto) (c : Int) (s0 s : Nat) (m : Int) : Int :=
  if (((rkF (ga σ 55) (ga σ 56) c s : Int) - (rkF (ga σ 55) (ga σ 56) c s0 : Int) + (rkF (ga σ 55) (ga σ 56) c (gi σ 3461).toNat : Int)).tmod (rkF (ga σ 55) (ga σ 56) c (gi σ 3461).toNat : Int)) = (if witF m < gi σ 3462 then 1 else (rkF (ga σ 55) (ga σ 56) c (gi σ 3461).toNat : Int) - 1) then gi σ 3463 else gi σ 3464
/-- n streets lead to the end of lane (s, w) in the minute t behind the start -/
def Rch (σ : Sto) (kind frm beg : Int) : Nat → Int → Nat → Nat → Prop
  | 0, _, _, _ => False
  | n + 1, t, s, w => (s : Int) < gi σ 3461 ∧ w < 2 ∧ t ≤ 3000 ∧ ((n = 0 ∧ orgS σ s w = frm ∧ 0 < drvS σ kind s w beg ∧ t = drvS σ kind s w beg) ∨ ∃ t0 s0 w0, Rch σ kind frm beg n t0 s0 w0 ∧ orgS σ s w = dstS σ s0 w0 ∧ s ≠ s0 ∧ 0 < drvS σ kind s w (beg + (t0 + trnS σ (dstS σ s0 w0) s0 s (beg + t0))) ∧ t = t0 + trnS σ (dstS σ s0 w0) s0 s (beg + t0) + drvS σ kind s w (beg + (t0 + trnS σ (dstS σ s0 w0) s0 s (beg + t0))))
/-- the answer: minutes and streets -/
def AnsR (σ : Sto) (kind frm to beg T N : Int) : Prop :=
  (frm = to ∧ T = 0 ∧ N = 0) ∨ (frm ≠ to ∧ ((T = -1 ∧ N = -1 ∧ ∀ n t s w, dstS σ s w = to → ¬ Rch σ kind frm beg n t s w) ∨ ((∃ n s w, dstS σ s w = to ∧ Rch σ kind frm beg n T s w ∧ N = n) ∧ (∀ n t s w, dstS σ s w = to → Rch σ kind frm beg n t s w → T ≤ t) ∧ ∀ n s w, dstS σ s w = to → Rch σ kind frm beg n T s w → N ≤ n)))
def InvR (σ : Sto) : Prop := (gi σ 2055 = 0 ∨ gi σ 2055 = 1) ∧ (gi σ 2055 = 1 → AnsR σ (gi σ 2056) (gi σ 2057) (gi σ 2058) (gi σ 2059) (gi σ 2060) (gi σ 2061))
theorem AnsR_uniq {σ : Sto} {kind frm to beg T N T' N' : Int} (h : AnsR σ kind frm to beg T N) (h' : AnsR σ kind frm to beg T' N') : T = T' ∧ N = N' := by
  rcases h with ⟨e, rfl, rfl⟩ | ⟨e, h⟩ <;> rcases h' with ⟨e', rfl, rfl⟩ | ⟨e', h'⟩
  · exact ⟨rfl, rfl⟩
  · exact absurd e e'
  · exact absurd e' e
  · rcases h with ⟨rfl, rfl, h⟩ | ⟨⟨n, s, w, hd, hr, rfl⟩, h2, h3⟩ <;> rcases h' with ⟨rfl, rfl, h'⟩ | ⟨⟨n', s', w', hd', hr', rfl⟩, h2', h3'⟩
    · exact ⟨rfl, rfl⟩
    · exact absurd hr' (h _ _ _ _ hd')
    · exact absurd hr (h' _ _ _ _ hd)
    · have e1 : T = T' := Int.le_antisymm (h2 _ _ _ _ hd' hr') (h2' _ _ _ _ hd hr)
      subst e1
      exact ⟨rfl, Int.le_antisymm (h3 _ _ _ hd' hr') (h3' _ _ _ hd hr)⟩
theorem Rch_fr {σ σ' : Sto} {kind frm beg : Int} (h1 : eqI [3461, 3462, 3463, 3464, 3482, 838] σ σ') (h2 : eqA [55, 56, 57, 58, 62, 63, 64, 65, 66] σ σ') : ∀ n t s w, Rch σ' kind frm beg n t s w ↔ Rch σ kind frm beg n t s w := by
  simp only [eqI, eqA, List.forall_mem_cons] at h1 h2
  obtain ⟨a1, a2, a3, a4, a5, a6, -⟩ := h1
  obtain ⟨b1, b2, b3, b4, b5, b6, b7, b8, b9, -⟩ := h2
  have e62 : bkF σ' 62 = bkF σ 62 := by funext k; simp only [bkF, b5, a5]
  have e63 : bkF σ' 63 = bkF σ 63 := by funext k; simp only [bkF, b6, a5]
  have e64 : bkF σ' 64 = bkF σ 64 := by funext k; simp only [bkF, b7, a5]
  have e65 : bkF σ' 65 = bkF σ 65 := by funext k; simp only [bkF, b8, a5]
  have e66 : bkF σ' 66 = bkF σ 66 := by funext k; simp only [bkF, b9, a5]
  have ed : ∀ s w m, drvS σ' kind s w m = drvS σ kind s w m := fun s w m => by simp only [drvS, mayS, spS, e62, e63, e64, e65, e66, a2, a6, b3, b4]
  have eo : ∀ s w, orgS σ' s w = orgS σ s w := fun s w => by simp only [orgS, b1, b2]
  have es : ∀ s w, dstS σ' s w = dstS σ s w := fun s w => by simp only [dstS, b1, b2]
  have et : ∀ c s0 s m, trnS σ' c s0 s m = trnS σ c s0 s m := fun c s0 s m => by simp only [trnS, a1, a2, a3, a4, b1, b2]
  intro n
  induction n with
  | zero => intro t s w; exact Iff.rfl
  | succ n ih =>
    intro t s w
    simp only [Rch, ih, ed, eo, es, et, a1]
theorem AnsR_fr {σ σ' : Sto} {kind frm to beg T N : Int} (h1 : eqI [3461, 3462, 3463, 3464, 3482, 838] σ σ') (h2 : eqA [55, 56, 57, 58, 62, 63, 64, 65, 66] σ σ') : AnsR σ' kind frm to beg T N ↔ AnsR σ kind frm to beg T N := by
  have e := Rch_fr (kind := kind) (frm := frm) (beg := beg) h1 h2
  simp only [eqA, List.forall_mem_cons] at h2
  have es : ∀ s w, dstS σ' s w = dstS σ s w := fun s w => by simp only [dstS, h2.1, h2.2.1]
  simp only [AnsR, e, es]
theorem InvR_fr {σ σ' : Sto} (h : InvR σ) (h0 : eqI [2055, 2056, 2057, 2058, 2059, 2060, 2061] σ σ') (h1 : eqI [3461, 3462, 3463, 3464, 3482, 838] σ σ') (h2 : eqA [55, 56, 57, 58, 62, 63, 64, 65, 66] σ σ') : InvR σ' := by
  have e := fun kind frm to beg T N => AnsR_fr (kind := kind) (frm := frm) (to := to) (beg := beg) (T := T) (N := N) h1 h2
  simp only [eqI, List.forall_mem_cons] at h0
  obtain ⟨a1, a2, a3, a4, a5, a6, a7, -⟩ := h0
  simp only [InvR, e, a1, a2, a3, a4, a5, a6, a7]
  exact h
theorem InvR_0 {σ : Sto} (h : gi σ 2055 = 0) : InvR σ := ⟨Or.inl h, fun q => by rw [h] at q; exact absurd q (by decide)⟩
