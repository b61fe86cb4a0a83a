/-! THE SMALL MACHINE over the real one: what a state of it stands for; Vj: the real machine, from such a state, comes to its end with the post -/
abbrev GG : Type := (Nat → Nat) × va_G × (Nat → ClassId) × Value
def cv (g : GG) : AV → Value
  | .inl x => .int (Int32.ofInt x)
  | .inr (.inl x) => .long (Int64.ofInt x)
  | .inr (.inr k) => if k = 4000 then g.2.2.2 else .ref (g.1 k)
def fvv (g : GG) (σ : Sto) (k j t : Nat) : Value := match t with
  | 0 => .int (Int32.ofInt (gi σ (64 * k + j)))
  | 1 => .long (Int64.ofInt (gl σ (64 * k + j)))
  | r + 2 => .ref (g.1 r)
def celE (g : GG) (σ : Sto) (k : Nat) (c : ShC) : va_E := match c with
  | .inl o => .inr (o.1, o.2.mapIdx (fun j t => fvv g σ k j t))
  | .inr a => .inl (g.2.2.1 a.1, a.2, .inl (fun i => Int32.ofInt (ga σ k i)))
def cel (g : GG) (σ : Sto) : va_W := shp.mapIdx (fun k c => (g.1 k, celE g σ k c))
theorem cel_at {g : GG} {σ : Sto} {k : Nat} {c : ShC} (h : shp[k]? = some c) : (cel g σ)[k]? = some (g.1 k, celE g σ k c) := by
  simp [cel, List.getElem?_mapIdx, h]
theorem cel_set {g : GG} {σ σ' : Sto} {k : Nat} {c : ShC} (h : shp[k]? = some c) (hne : ∀ k' c', shp[k']? = some c' → k' ≠ k → celE g σ' k' c' = celE g σ k' c') : cel g σ' = (cel g σ).set k (g.1 k, celE g σ' k c) := by
  apply List.ext_getElem?
  intro k'
  rw [List.getElem?_set]
  by_cases hk : k = k'
  · subst hk
    have hl : k < (cel g σ).length := by
      have := cel_at (g := g) (σ := σ) h
      exact (List.getElem?_eq_some_iff.mp this).1
    rw [if_pos rfl, if_pos hl, cel_at h]
  · rw [if_neg hk]
    cases hs : shp[k']? with
    | none => simp [cel, List.getElem?_mapIdx, hs]
    | some c' => rw [cel_at hs, cel_at hs, hne k' c' hs (fun e => hk e.symm)]
theorem shp_obj {k : Nat} {o : Nat × List Nat} (h : shp[k]? = some (.inl o)) : o.2.length ≤ 64 ∧ ∃ q, clsL[o.1]? = some q ∧ o.2.length = q.2.2 := by
  have h1 := List.all_eq_true.mp shp_ok _ (List.mem_of_getElem? h)
  simp only [Bool.and_eq_true, decide_eq_true_eq] at h1
  refine ⟨h1.1, ?_⟩
  have h2 := h1.2
  cases hc : clsL[o.1]? with
  | none => rw [hc] at h2; cases h2
  | some q => rw [hc] at h2; exact ⟨q, rfl, by simpa using h2⟩
theorem shp_arr {k : Nat} {a : Nat × Nat} (h : shp[k]? = some (.inr a)) : a.1 < 3 ∧ a.2 < 2147483648 := by
  have h1 := List.all_eq_true.mp shp_ok _ (List.mem_of_getElem? h)
  simpa using h1
theorem ashp_at {a t n : Nat} (h : ashp a = some (t, n)) : shp[a]? = some (.inr (t, n)) := by
  unfold ashp at h
  split at h
  · next q hq => cases h; exact hq
  · cases h
theorem oshp_at {o ci : Nat} {ks : List Nat} (h : oshp o = some (ci, ks)) : shp[o]? = some (.inl (ci, ks)) := by
  unfold oshp at h
  split at h
  · next q hq => cases h; exact hq
  · cases h
theorem cel_sf {g : GG} {σ : Sto} {a t n : Nat} {f : Nat → Int} (h : shp[a]? = some (.inr (t, n))) : cel g (sf σ a f) = (cel g σ).set a (g.1 a, .inl (g.2.2.1 t, n, .inl (fun i => Int32.ofInt (f i)))) := by
  rw [cel_set (σ := σ) h]
  · congr 2
    simp [celE, ga, sf]
  · intro k' c' hs hk
    cases c' with
    | inl o => rfl
    | inr q => simp [celE, ga, sf, hk]
theorem cel_si {g : GG} {σ : Sto} {k j ci : Nat} {ks : List Nat} {x : Int} (h : shp[k]? = some (.inl (ci, ks))) (hj : ks[j]? = some 0) : cel g (si σ (64 * k + j) x) = (cel g σ).set k (g.1 k, .inr (ci, (ks.mapIdx (fun j t => fvv g σ k j t)).set j (.int (Int32.ofInt x)))) := by
  have hlen := (shp_obj h).1
  have hjl : j < ks.length := (List.getElem?_eq_some_iff.mp hj).1
  rw [cel_set (σ := σ) h]
  · congr 2
    simp only [celE]
    congr 2
    apply List.ext_getElem?
    intro j'
    rw [List.getElem?_set, List.getElem?_mapIdx, List.getElem?_mapIdx]
    by_cases hjj : j = j'
    · subst hjj
      rw [if_pos rfl, if_pos (by simpa using hjl), hj]
      simp [fvv, gi, si]
    · rw [if_neg hjj]
      cases ht : ks[j']? with
      | none => rfl
      | some t =>
        simp only [Option.map_some]
        congr 1
        match t with
        | 0 => simp only [fvv, gi, si]; rw [if_neg (by omega)]
        | 1 => rfl
        | r + 2 => rfl
  · intro k' c' hs hk
    cases c' with
    | inr q => rfl
    | inl o =>
      have hlen' := (shp_obj hs).1
      simp only [celE]
      congr 2
      apply List.ext_getElem?
      intro j'
      rw [List.getElem?_mapIdx, List.getElem?_mapIdx]
      cases ht : o.2[j']? with
      | none => rfl
      | some t =>
        have hj' : j' < o.2.length := (List.getElem?_eq_some_iff.mp ht).1
        simp only [Option.map_some]
        congr 1
        match t with
        | 0 => simp only [fvv, gi, si]; rw [if_neg (by simp only at hlen; omega)]
        | 1 => rfl
        | r + 2 => rfl
theorem cel_sl {g : GG} {σ : Sto} {k j ci : Nat} {ks : List Nat} {x : Int} (h : shp[k]? = some (.inl (ci, ks))) (hj : ks[j]? = some 1) : cel g (sl σ (64 * k + j) x) = (cel g σ).set k (g.1 k, .inr (ci, (ks.mapIdx (fun j t => fvv g σ k j t)).set j (.long (Int64.ofInt x)))) := by
  have hlen := (shp_obj h).1
  have hjl : j < ks.length := (List.getElem?_eq_some_iff.mp hj).1
  rw [cel_set (σ := σ) h]
  · congr 2
    simp only [celE]
    congr 2
    apply List.ext_getElem?
    intro j'
    rw [List.getElem?_set, List.getElem?_mapIdx, List.getElem?_mapIdx]
    by_cases hjj : j = j'
    · subst hjj
      rw [if_pos rfl, if_pos (by simpa using hjl), hj]
      simp [fvv, gl, sl]
    · rw [if_neg hjj]
      cases ht : ks[j']? with
      | none => rfl
      | some t =>
        simp only [Option.map_some]
        congr 1
        match t with
        | 0 => rfl
        | 1 => simp only [fvv, gl, sl]; rw [if_neg (by omega)]
        | r + 2 => rfl
  · intro k' c' hs hk
    cases c' with
    | inr q => rfl
    | inl o =>
      have hlen' := (shp_obj hs).1
      simp only [celE]
      congr 2
      apply List.ext_getElem?
      intro j'
      rw [List.getElem?_mapIdx, List.getElem?_mapIdx]
      cases ht : o.2[j']? with
      | none => rfl
      | some t =>
        have hj' : j' < o.2.length := (List.getElem?_eq_some_iff.mp ht).1
        simp only [Option.map_some]
        congr 1
        match t with
        | 0 => rfl
        | 1 => simp only [fvv, gl, sl]; rw [if_neg (by simp only at hlen; omega)]
        | r + 2 => rfl
def lvl (g : GG) (lv : Lcs) : List (Nat × Value) := (List.range lv.length).filterMap (fun i => match lv[i]? with
  | some (some v) => some (i, cv g v)
  | _ => none)
theorem lvl_mem {g : GG} {lv : Lcs} {q : Nat × Value} : q ∈ lvl g lv ↔ ∃ v, lv[q.1]? = some (some v) ∧ q.2 = cv g v := by
  unfold lvl
  rw [List.mem_filterMap]
  constructor
  · rintro ⟨i, -, h⟩
    split at h
    · next v hv => cases h; exact ⟨v, hv, rfl⟩
    · cases h
  · rintro ⟨v, h1, h2⟩
    refine ⟨q.1, List.mem_range.mpr (List.getElem?_eq_some_iff.mp h1).1, ?_⟩
    rw [h1]
    simp only [Option.some.injEq]
    rw [← h2]
theorem lv_mono {ls : Array Slot} {n : Nat} {l l' : List (Nat × Value)} (h : lv_has ls n l) (hs : ∀ q ∈ l', q ∈ l) : lv_has ls n l' := ⟨h.1, h.2.1, fun q hq => h.2.2 q (hs q hq)⟩
theorem lvl_at {g : GG} {lv : Lcs} {ls : Array Slot} {n k : Nat} {v : AV} (h : lv_has ls n (lvl g lv)) (hk : lv[k]? = some (some v)) : ls[k]? = some (.val (cv g v)) := h.2.2 (k, cv g v) (lvl_mem.mpr ⟨v, hk, rfl⟩)
def okL (lv : Lcs) : Prop := ∀ (k : Nat) (v : AV), lv[k]? = some (some v) → okv v
def okS (st : List AV) : Prop := ∀ v ∈ st, okv v
def okσ (σ : Sto) : Prop := (∀ k, inR (gi σ k)) ∧ (∀ a i, inR (ga σ a i)) ∧ ∀ k, inL (gl σ k)
theorem okS_cons {v : AV} {st : List AV} : okS (v :: st) ↔ okv v ∧ okS st := List.forall_mem_cons
theorem okL_set {lv : Lcs} {k : Nat} {v : AV} (h : okL lv) (hv : okv v) : okL (lv.set k (some v)) := by
  intro j w hw
  rw [List.getElem?_set] at hw
  split at hw
  · split at hw
    · cases hw; exact hv
    · cases hw
  · exact h j w hw
theorem okL_none {lv : Lcs} {k : Nat} (h : okL lv) : okL (lv.set k none) := by
  intro j w hw
  rw [List.getElem?_set] at hw
  split at hw
  · split at hw <;> cases hw
  · exact h j w hw
theorem cv_cat {g : GG} (hg : g.2.2.2.category = 1) (v : AV) : (cv g v).category = catV v := by
  rcases v with x | x | k
  · rfl
  · rfl
  · simp only [cv, catV]
    split
    · exact hg
    · rfl
theorem inR_wr (x : Int) : inR (wr x) := by
  have h1 := Int.le_bmod (x := x) (m := 4294967296) (by decide)
  have h2 := Int.bmod_lt (x := x) (m := 4294967296) (by decide)
  unfold wr inR
  omega
theorem inL_wl (x : Int) : inL (wl x) := by
  have h1 := Int.le_bmod (x := x) (m := 18446744073709551616) (by decide)
  have h2 := Int.bmod_lt (x := x) (m := 18446744073709551616) (by decide)
  unfold wl inL
  omega
theorem inR_32 (x : Int32) : inR x.toInt := ⟨Int32.le_toInt x, Int32.toInt_lt x⟩
theorem inL_64 (x : Int64) : inL x.toInt := ⟨Int64.le_toInt x, Int64.toInt_lt x⟩
theorem toI {x : Int} (h : inR x) : (Int32.ofInt x).toInt = x := Int32.toInt_ofInt_of_le h.1 h.2
theorem toL {x : Int} (h : inL x) : (Int64.ofInt x).toInt = x := Int64.toInt_ofInt_of_le h.1 h.2
theorem wr_id {x : Int} (h1 : -2147483648 ≤ x) (h2 : x < 2147483648) : wr x = x := by
  have := Int32.toInt_ofInt (n := x)
  rw [toI ⟨h1, h2⟩] at this
  exact this.symm
theorem wl_id {x : Int} (h1 : -9223372036854775808 ≤ x) (h2 : x < 9223372036854775808) : wl x = x := by
  have := Int64.toInt_ofInt (n := x)
  rw [toL ⟨h1, h2⟩] at this
  exact this.symm
theorem of_wr (x : Int) : Int32.ofInt (wr x) = Int32.ofInt x := by
  apply Int32.toInt_inj.mp
  rw [toI (inR_wr x), Int32.toInt_ofInt]
  rfl
theorem of_wl (x : Int) : Int64.ofInt (wl x) = Int64.ofInt x := by
  apply Int64.toInt_inj.mp
  rw [toL (inL_wl x), Int64.toInt_ofInt]
  rfl
theorem of_add {a b : Int} (ha : inR a) (hb : inR b) : Int32.ofInt a + Int32.ofInt b = Int32.ofInt (wr (a + b)) := by
  apply Int32.toInt_inj.mp
  rw [Int32.toInt_add, toI ha, toI hb, toI (inR_wr _)]
  rfl
theorem of_sub {a b : Int} (ha : inR a) (hb : inR b) : Int32.ofInt a - Int32.ofInt b = Int32.ofInt (wr (a - b)) := by
  apply Int32.toInt_inj.mp
  rw [Int32.toInt_sub, toI ha, toI hb, toI (inR_wr _)]
  rfl
theorem of_mul {a b : Int} (ha : inR a) (hb : inR b) : Int32.ofInt a * Int32.ofInt b = Int32.ofInt (wr (a * b)) := by
  apply Int32.toInt_inj.mp
  rw [Int32.toInt_mul, toI ha, toI hb, toI (inR_wr _)]
  rfl
theorem of_div {a b : Int} (ha : inR a) (hb : inR b) : Int32.ofInt a / Int32.ofInt b = Int32.ofInt (wr (a.tdiv b)) := by
  apply Int32.toInt_inj.mp
  rw [Int32.toInt_div, toI ha, toI hb, toI (inR_wr _)]
  rfl
theorem of_neg {a : Int} (ha : inR a) : - Int32.ofInt a = Int32.ofInt (wr (- a)) := by
  apply Int32.toInt_inj.mp
  rw [Int32.toInt_neg, toI ha, toI (inR_wr _)]
  rfl
theorem of_rem {a b : Int} (ha : inR a) (hb : inR b) : Int32.ofInt a - Int32.ofInt a / Int32.ofInt b * Int32.ofInt b = Int32.ofInt (wr (a.tmod b)) := by
  apply Int32.toInt_inj.mp
  rw [Int32.toInt_sub, Int32.toInt_mul, Int32.toInt_div, toI ha, toI hb, toI (inR_wr _), Int.tmod_def]
  unfold wr
  rw [Int.sub_bmod_bmod, Int.mul_comm b, ← Int.sub_bmod_bmod, Int.bmod_mul_bmod, Int.sub_bmod_bmod]
theorem of_lt {a b : Int} (ha : inR a) (hb : inR b) : Int32.ofInt a < Int32.ofInt b ↔ a < b := by rw [Int32.lt_iff_toInt_lt, toI ha, toI hb]
theorem of_le {a b : Int} (ha : inR a) (hb : inR b) : Int32.ofInt a ≤ Int32.ofInt b ↔ a ≤ b := by rw [Int32.le_iff_toInt_le, toI ha, toI hb]
theorem of_eq {a b : Int} (ha : inR a) (hb : inR b) : Int32.ofInt a = Int32.ofInt b ↔ a = b := by rw [← Int32.toInt_inj, toI ha, toI hb]
theorem ol_add {a b : Int} (ha : inL a) (hb : inL b) : Int64.ofInt a + Int64.ofInt b = Int64.ofInt (wl (a + b)) := by
  apply Int64.toInt_inj.mp
  rw [Int64.toInt_add, toL ha, toL hb, toL (inL_wl _)]
  rfl
theorem ol_sub {a b : Int} (ha : inL a) (hb : inL b) : Int64.ofInt a - Int64.ofInt b = Int64.ofInt (wl (a - b)) := by
  apply Int64.toInt_inj.mp
  rw [Int64.toInt_sub, toL ha, toL hb, toL (inL_wl _)]
  rfl
theorem ol_mul {a b : Int} (ha : inL a) (hb : inL b) : Int64.ofInt a * Int64.ofInt b = Int64.ofInt (wl (a * b)) := by
  apply Int64.toInt_inj.mp
  rw [Int64.toInt_mul, toL ha, toL hb, toL (inL_wl _)]
  rfl
theorem cl_nat {i : Int} (h : inR i) : (Int32.ofInt i).toNatClampNeg = i.toNat := by
  show (Int32.ofInt i).toInt.toNat = i.toNat
  rw [toI h]
theorem in_vp {i : Int} {n : Nat} (h : inR i) (h0 : 0 ≤ i) (h1 : i < (n : Int)) : vp_in (Int32.ofInt i) n := by
  unfold vp_in
  rw [cl_nat h, show (0 : Int32) = Int32.ofInt 0 from rfl, of_lt h (by unfold inR; omega)]
  omega
