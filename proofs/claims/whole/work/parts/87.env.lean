/-! what stands at the entry of the law -/
theorem gw_84 : Cond.initialized "java/lang/String" ∈ gt := inAt_gt (i := 84) (by decide +kernel)
theorem gw_86 : Cond.initialized "jdk/internal/util/Preconditions" ∈ gt := inAt_gt (i := 86) (by decide +kernel)
set_option maxRecDepth 100000 in
theorem gw_618 : Cond.laysStatic "java/lang/String" "COMPACT_STRINGS" "Z" ∈ lw_tbl := List.mem_of_getElem? (i := 618) rfl
set_option maxRecDepth 100000 in
theorem gw_634 : Cond.laysStatic "jdk/internal/util/Preconditions" "SIOOBE_FORMATTER" "Ljava/util/function/BiFunction;" ∈ lw_tbl := List.mem_of_getElem? (i := 634) rfl
theorem gw_71 : Cond.initialized RX9 ∈ gt := inAt_gt (i := 71) (by decide +kernel)
theorem gw_82 : Cond.initialized RX10 ∈ gt := inAt_gt (i := 82) (by decide +kernel)
theorem gw_89 : Cond.classLink RL 7 RX9 ∈ gt := inAt_gt (i := 89) (by decide +kernel)
theorem gw_90 : Cond.instantiable RX9 7 ∈ gt := inAt_gt (i := 90) (by decide +kernel)
theorem gw_91 : Cond.methodLink RL 9 yX9_init ∈ gt := inAt_gt (i := 91) (by decide +kernel)
theorem gw_92 : Cond.instanceMethod yX9_init ∈ gt := inAt_gt (i := 92) (by decide +kernel)
theorem gw_1085 : Cond.classLink RL 10 RX10 ∈ gt := inAt_gt (i := 1085) (by decide +kernel)
theorem gw_1086 : Cond.instantiable RX10 50 ∈ gt := inAt_gt (i := 1086) (by decide +kernel)
theorem gw_1087 : Cond.methodLink RL 12 yX10_init ∈ gt := inAt_gt (i := 1087) (by decide +kernel)
theorem gw_1088 : Cond.instanceMethod yX10_init ∈ gt := inAt_gt (i := 1088) (by decide +kernel)
theorem kn0 {args : Array Value} {s : State} (htg : ∀ w ∈ gt, w.before args s = true) : ∃ D : va_G, ∀ (k : Nat) (q : vw_C), clsL[k]? = some q → u_Kn s q.1 q.2.1 q.2.2 (D.1 k) (D.2 k) := by
  obtain ⟨c0, i0, h0⟩ := u_known (C := RX0) (T := TX0) (N := 7) (n := 7) htg (cls_ws (ci := 0) rfl) (htg _ gw_166)
  obtain ⟨c1, i1, h1⟩ := u_known (C := RX1) (T := TX1) (N := 7) (n := 7) htg (cls_ws (ci := 1) rfl) (htg _ gw_384)
  obtain ⟨c2, i2, h2⟩ := u_known (C := RX2) (T := TX2) (N := 7) (n := 7) htg (cls_ws (ci := 2) rfl) (htg _ gw_202)
  obtain ⟨c3, i3, h3⟩ := u_known (C := RX3) (T := TX3) (N := 12) (n := 12) htg (cls_ws (ci := 3) rfl) (htg _ gw_194)
  obtain ⟨c4, i4, h4⟩ := u_known (C := RX4) (T := TX4) (N := 14) (n := 14) htg (cls_ws (ci := 4) rfl) (htg _ gw_335)
  obtain ⟨c5, i5, h5⟩ := u_known (C := RX5) (T := TX5) (N := 14) (n := 14) htg (cls_ws (ci := 5) rfl) (htg _ gw_267)
  obtain ⟨c6, i6, h6⟩ := u_known (C := RX6) (T := TX6) (N := 2) (n := 2) htg (cls_ws (ci := 6) rfl) (htg _ gw_153)
  obtain ⟨c7, i7, h7⟩ := u_known (C := RX7) (T := TX7) (N := 4) (n := 4) htg (cls_ws (ci := 7) rfl) (htg _ gw_273)
  obtain ⟨c8, i8, h8⟩ := u_known (C := RX8) (T := TX8) (N := 14) (n := 14) htg (cls_ws (ci := 8) rfl) (htg _ gw_98)
  obtain ⟨c9, i9, h9⟩ := u_known (C := RX9) (T := TX9) (N := 7) (n := 7) htg (cls_ws (ci := 9) rfl) (htg _ gw_90)
  obtain ⟨c10, i10, h10⟩ := u_known (C := RX10) (T := TX10) (N := 50) (n := 50) htg (cls_ws (ci := 10) rfl) (htg _ gw_1086)
  refine ⟨(fun k => [c0, c1, c2, c3, c4, c5, c6, c7, c8, c9, c10].getD k c0, fun k => [i0, i1, i2, i3, i4, i5, i6, i7, i8, i9, i10].getD k i0), fun k q hq => ?_⟩
  match k, hq with
  | 0, hq => cases hq; exact h0
  | 1, hq => cases hq; exact h1
  | 2, hq => cases hq; exact h2
  | 3, hq => cases hq; exact h3
  | 4, hq => cases hq; exact h4
  | 5, hq => cases hq; exact h5
  | 6, hq => cases hq; exact h6
  | 7, hq => cases hq; exact h7
  | 8, hq => cases hq; exact h8
  | 9, hq => cases hq; exact h9
  | 10, hq => cases hq; exact h10
  | k + 11, hq => exact absurd (cls_lt hq) (by omega)
set_option maxRecDepth 100000 in
theorem sR0 {args : Array Value} {s : State} (hts : ∀ w ∈ lw_tbl, w.before args s = true) {adK : Nat → Nat} (hk : ∀ i : Nat, i < 11 → (tmS i).eval args s none [] s = some (.ref (adK i))) : ∀ j, j < 11 → vk_R RX2 (sIdx.getD j 0) (sTx.getD j "") (adK j) s := by
  intro j hj
  have h2 := hk j hj
  match j, hj, h2 with
  | 0, _, h2 => exact vk_R.of (A := args) (hts _ (List.mem_of_getElem? (i := 604) rfl)) h2
  | 1, _, h2 => exact vk_R.of (A := args) (hts _ (List.mem_of_getElem? (i := 657) rfl)) h2
  | 2, _, h2 => exact vk_R.of (A := args) (hts _ (List.mem_of_getElem? (i := 658) rfl)) h2
  | 3, _, h2 => exact vk_R.of (A := args) (hts _ (List.mem_of_getElem? (i := 659) rfl)) h2
  | 4, _, h2 => exact vk_R.of (A := args) (hts _ (List.mem_of_getElem? (i := 660) rfl)) h2
  | 5, _, h2 => exact vk_R.of (A := args) (hts _ (List.mem_of_getElem? (i := 661) rfl)) h2
  | 6, _, h2 => exact vk_R.of (A := args) (hts _ (List.mem_of_getElem? (i := 662) rfl)) h2
  | 7, _, h2 => exact vk_R.of (A := args) (hts _ (List.mem_of_getElem? (i := 663) rfl)) h2
  | 8, _, h2 => exact vk_R.of (A := args) (hts _ (List.mem_of_getElem? (i := 664) rfl)) h2
  | 9, _, h2 => exact vk_R.of (A := args) (hts _ (List.mem_of_getElem? (i := 665) rfl)) h2
  | 10, _, h2 => exact vk_R.of (A := args) (hts _ (List.mem_of_getElem? (i := 666) rfl)) h2
  | j + 11, hj, _ => exact absurd hj (by omega)
theorem En0 {args : Array Value} {s : State} {D : va_G} {cI cZ cB : ClassId} {vS : Value} {ad : List Nat} {adK adV : Nat → Nat} {b L : Nat} {xs : Nat → Int32} (hL : L ≤ 3072) (hts : ∀ w ∈ lw_tbl, w.before args s = true) (hgv : nrC.before args s = true) (hK : va_K D clsL (T3 cI cZ cB) s) (hvk : vk_S 11 sLen sByt adK adV (fun q : Nat => s.heap.size ≤ q) s s.heap) (hk : ∀ i : Nat, i < 11 → (tmS i).eval args s none [] s = some (.ref (adK i))) (hZ : va_Z "jdk/internal/util/Preconditions" "SIOOBE_FORMATTER" "Ljava/util/function/BiFunction;" vS (fun q : Nat => s.heap.size ≤ q) s s.heap) (hc : vS.category = 1) (hX : va_X b L xs s s.heap) (hbl : b < s.heap.size) : EnG (gg0 D cI cZ cB vS ad adK adV b) (fun j => (xs j).toInt, L) lawN (fun q : Nat => s.heap.size ≤ q) s := by
  have hA : ∀ q : Nat, q < s.heap.size → ¬ (fun q : Nat => s.heap.size ≤ q) q := fun _ h => Nat.not_le.mpr h
  have htg : ∀ w ∈ gt, w.before args s = true := fun w hw => hts w (List.mem_filter.mp hw).1
  have eK : ∀ j, j < 11 → (gg0 D cI cZ cB vS ad adK adV b).1 (1000 + j) = adK j := fun j hj => by
    have e1 : ¬ (1000 + j < 1000) := by omega
    have e2 : 1000 + j < 2000 := by omega
    have e3 : 1000 + j - 1000 = j := by omega
    simp only [gg0, if_neg e1, if_pos e2, e3]
  have eV : ∀ j, j < 11 → (gg0 D cI cZ cB vS ad adK adV b).1 (2000 + j) = adV j := fun j hj => by
    have e1 : ¬ (2000 + j < 1000) := by omega
    have e2 : ¬ (2000 + j < 2000) := by omega
    have e4 : 2000 + j < 3000 := by omega
    have e3 : 2000 + j - 2000 = j := by omega
    simp only [gg0, if_neg e1, if_neg e2, if_pos e4, e3]
  have e30 : (gg0 D cI cZ cB vS ad adK adV b).1 3000 = b := rfl
  have ex : (fun i => Int32.ofInt ((fun j => (xs j).toInt) i)) = xs := by
    funext i
    exact Int32.ofInt_toInt _
  refine ⟨hK, vk_cg eK eV hvk, fun j hj => ?_, ?_, hZ, hc, fun j => ⟨Int32.le_toInt _, Int32.toInt_lt _⟩, ?_, fun _ => ⟨?_, ?_, ?_⟩⟩
  · rw [eK j hj]
    exact sR0 hts hk j hj
  · exact va_Zof (hts _ gw_618) (htg _ gw_84) (va_eqt (flat_of_before _ hgv _ fl_cs)) hA
  · show L < 2147483648
    omega
  · rw [e30]
    show va_X b L (fun i => Int32.ofInt ((fun j => (xs j).toInt) i)) s s.heap
    rw [ex]
    exact hX
  · rw [e30]
    exact hbl
  · rw [e30]
    exact hA b hbl
theorem vS0 {args : Array Value} {s : State} (hts : ∀ w ∈ lw_tbl, w.before args s = true) (hgv : nrC.before args s = true) : ∃ vS : Value, va_Z "jdk/internal/util/Preconditions" "SIOOBE_FORMATTER" "Ljava/util/function/BiFunction;" vS (fun q : Nat => s.heap.size ≤ q) s s.heap ∧ vS.category = 1 := by
  have hA : ∀ q : Nat, q < s.heap.size → ¬ (fun q : Nat => s.heap.size ≤ q) q := fun _ h => Nat.not_le.mpr h
  have htg : ∀ w ∈ gt, w.before args s = true := fun w hw => hts w (List.mem_filter.mp hw).1
  rcases va_Zqof (hts _ gw_634) (htg _ gw_86) (flat_of_before _ hgv _ fl_si) hA with h | ⟨t, h⟩
  · exact ⟨_, h, rfl⟩
  · exact ⟨_, h, rfl⟩
