/-! the constructors: Arrays.fill, Town -/
theorem gw_73 : Cond.initialized RJ7 ∈ gt := inAt_gt (i := 73) (by decide +kernel)
theorem gw_102 : Cond.methodLink RX8 5 objectInit ∈ gt := inAt_gt (i := 102) (by decide +kernel)
theorem gw_103 : Cond.constant RX8 56 (1000000) ∈ gt := inAt_gt (i := 103) (by decide +kernel)
theorem gw_104 : Cond.methodLink RX8 57 yJ7_fill_53178 ∈ gt := inAt_gt (i := 104) (by decide +kernel)
theorem gw_105 : Cond.static yJ7_fill_53178 ∈ gt := inAt_gt (i := 105) (by decide +kernel)
theorem gw_106 : Cond.code yJ7_fill_53178 cJ7_fill_53178 4 none ∈ gt := List.mem_filter.mpr ⟨List.mem_of_getElem? (i := 106) rfl, rfl⟩
theorem gw_107 : Cond.fieldLink RX8 11 "CrossDawn$Town" "firsts" "[I" ∈ gt := inAt_gt (i := 107) (by decide +kernel)
theorem gw_108 : Cond.fieldLink RX8 15 "CrossDawn$Town" "seconds" "[I" ∈ gt := inAt_gt (i := 108) (by decide +kernel)
theorem gw_109 : Cond.fieldLink RX8 18 "CrossDawn$Town" "lengths" "[I" ∈ gt := inAt_gt (i := 109) (by decide +kernel)
theorem gw_110 : Cond.fieldLink RX8 21 "CrossDawn$Town" "bothWays" "[Z" ∈ gt := inAt_gt (i := 110) (by decide +kernel)
theorem gw_111 : Cond.fieldLink RX8 25 "CrossDawn$Town" "firstPlaces" "[I" ∈ gt := inAt_gt (i := 111) (by decide +kernel)
theorem gw_112 : Cond.fieldLink RX8 28 "CrossDawn$Town" "secondPlaces" "[I" ∈ gt := inAt_gt (i := 112) (by decide +kernel)
theorem gw_113 : Cond.fieldLink RX8 31 "CrossDawn$Town" "degrees" "[I" ∈ gt := inAt_gt (i := 113) (by decide +kernel)
theorem gw_114 : Cond.fieldLink RX8 34 "CrossDawn$Town" "around" "[I" ∈ gt := inAt_gt (i := 114) (by decide +kernel)
theorem gw_115 : Cond.fieldLink RX8 37 "CrossDawn$Town" "foot" "[I" ∈ gt := inAt_gt (i := 115) (by decide +kernel)
theorem gw_116 : Cond.fieldLink RX8 40 "CrossDawn$Town" "crossings" "I" ∈ gt := inAt_gt (i := 116) (by decide +kernel)
theorem gw_117 : Cond.fieldLink RX8 44 "CrossDawn$Town" "streets" "I" ∈ gt := inAt_gt (i := 117) (by decide +kernel)
theorem gw_118 : Cond.fieldLink RX8 47 "CrossDawn$Town" "hour" "I" ∈ gt := inAt_gt (i := 118) (by decide +kernel)
theorem gw_119 : Cond.fieldLink RX8 50 "CrossDawn$Town" "near" "I" ∈ gt := inAt_gt (i := 119) (by decide +kernel)
theorem gw_120 : Cond.fieldLink RX8 53 "CrossDawn$Town" "far" "I" ∈ gt := inAt_gt (i := 120) (by decide +kernel)
theorem gi_fill : GoodIn gt (va_wsS RX8 57 yJ7_fill_53178 (Cond.code yJ7_fill_53178 cJ7_fill_53178 4 none :: gt)) := by
  intro w hw
  unfold va_wsS at hw
  rcases List.mem_append.mp hw with h | h
  · simp only [List.mem_cons, List.not_mem_nil, or_false] at h
    rcases h with rfl | rfl | rfl
    all_goals first | exact gt_good gw_104 | exact gt_good gw_105 | exact gt_good gw_73
  · rcases List.mem_cons.mp h with rfl | h
    · exact gt_good gw_106
    · exact gt_good h
theorem i64 : ∀ i : Fin 65, (Int32.ofNat 64 ≤ Int32.ofNat i.val ↔ 64 ≤ i.val) ∧ (i.val < 64 → ¬ (Int32.ofNat i.val < 0 ∨ 64 ≤ (Int32.ofNat i.val).toNatClampNeg)) ∧ (Int32.ofNat i.val).toNatClampNeg = i.val ∧ Int32.ofNat i.val + Int32.ofInt 1 = Int32.ofNat (i.val + 1) := by decide +kernel
theorem i8 : ∀ i : Fin 9, ((8 : Int32) ≤ Int32.ofNat i.val ↔ 8 ≤ i.val) ∧ (i.val < 8 → ¬ (Int32.ofNat i.val * 8 + Int32.ofNat i.val < 0 ∨ 64 ≤ (Int32.ofNat i.val * 8 + Int32.ofNat i.val).toNatClampNeg)) ∧ (i.val < 8 → (Int32.ofNat i.val * 8 + Int32.ofNat i.val).toNatClampNeg = 9 * i.val) ∧ Int32.ofNat i.val + Int32.ofInt 1 = Int32.ofNat (i.val + 1) := by decide +kernel
theorem upd_at' {f : Nat → Int32} {i : Nat} {x : Int32} {j : Nat} : upd f i x j = if j = i then x else f j := by unfold upd; split <;> rfl
set_option maxHeartbeats 4000000 in
set_option maxRecDepth 100000 in
theorem k_fill (l : Launch) (D : va_G) (cI cZ cB : ClassId) (h0 sz : Nat) (f0 : Nat → Int32) (x : Int32) : Met l yJ7_fill_53178 (Cond.code yJ7_fill_53178 cJ7_fill_53178 4 none :: gt) ({ frames := 1, cells := 0, slots := 0, locals := 20 } : Room) (va_Pc [.ref h0, .int x] (fun U => U.heap.size = sz ∧ va_P D clsL [(h0, .inl (cI, 64, .inl f0))] U.heap ∧ va_K D clsL (T3 cI cZ cB) U ∧ va_D (fun _ => True) [(h0, .inl (cI, 64, .inl f0))])) (va_Qv (fun u : Nat → Int32 => ∀ j, j < 64 → u j = x) (fun u t => va_P D clsL [(h0, .inl (cI, 64, .inl u))] t.heap ∧ va_D (va_A [(h0, .inl (cI, 64, .inl f0))] sz) [(h0, .inl (cI, 64, .inl u))]) (va_A [(h0, .inl (cI, 64, .inl f0))] sz)) 0 0 (va_A [(h0, .inl (cI, 64, .inl f0))] sz) := by
  refine Met.ofW (cc := cJ7_fill_53178) (maxL := 4) (ret := none) (by decide) rfl ?_
  intro p e s m args below meth c s₁ B hml hv
  obtain ⟨rfl, hsz, hP, hK, hD0⟩ := hv
  have hx := B.exec
  have hb := B.bytes
  have hr := B.returns
  subst hsz
  have hD := hD0.self (sz := s.heap.size)
  generalize hAe : va_A [(h0, .inl (cI, 64, .inl f0))] s.heap.size = A at hD ⊢
  have hS : va_S A s.heap s.heap [] := va_S.rf
  have hl := lv_entry ([.ref h0, .int x]) (n := 4) (Nat.le_of_ble_eq_true rfl)
  rw [lg_entry_eq]
  generalize (lg_sl ([.ref h0, .int x]) ++ List.replicate (4 - (lg_sl ([.ref h0, .int x])).length) Slot.unset).toArray = ls at hl ⊢
  have hl : lv_has ls 4 [(0, .ref h0), (1, .int x)] := hl
  have loop : ∀ (r i : Nat) (f : Nat → Int32) (H : Heap) (locs : List Loc) (ls : Array Slot), i + r = 64 → (∀ j, j < i → f j = x) → va_P D clsL [(h0, .inl (cI, 64, .inl f))] H → va_D A [(h0, .inl (cI, 64, .inl f))] → va_S A s.heap H locs → lv_has ls 4 [(2, .int (Int32.ofNat i)), (3, .int (Int32.ofNat 64)), (0, .ref h0), (1, .int x)] → W p l e ({ frames := 1, cells := 0, slots := 0, locals := 20 } : Room) s m #[.ref h0, .int x] below meth c H locs 0 0 (MQ below (va_Qv (fun u : Nat → Int32 => ∀ j, j < 64 → u j = x) (fun u t => va_P D clsL [(h0, .inl (cI, 64, .inl u))] t.heap ∧ va_D A [(h0, .inl (cI, 64, .inl u))]) A) #[.ref h0, .int x] s 0 0 A) (F0 m 5 ls []) := by
    intro r
    induction r with
    | zero =>
      intro i f H locs ls hi hf hP hD hS hl
      have hi64 : i = 64 := hi
      refine lv_iload_n hx hb dJ7_fill_53178_5 rfl (lv_at hl 0 rfl) ?_
      refine lv_iload_n hx hb dJ7_fill_53178_6 rfl (lv_at hl 1 rfl) ?_
      refine lv_icmp_ge (tgt := 20) hx hb dJ7_fill_53178_7 rfl (fun _ => ?_) (fun h => absurd ((i64 ⟨i, by omega⟩).1.mpr (by simp only; omega)) h)
      exact W.vret hx hb hr (fun t ht hW => ⟨⟨f, rfl, fun j hj => hf j (by omega), by rw [ht]; exact hP, hD⟩, hS.F ht⟩) hS.2.2 dJ7_fill_53178_20
    | succ r ih =>
      intro i f H locs ls hi hf hP hD hS hl
      have hi64 : i < 64 := by omega
      obtain ⟨c1, c2, c3, c4⟩ := i64 ⟨i, by omega⟩
      simp only at c1 c2 c3 c4
      refine lv_iload_n hx hb dJ7_fill_53178_5 rfl (lv_at hl 0 rfl) ?_
      refine lv_iload_n hx hb dJ7_fill_53178_6 rfl (lv_at hl 1 rfl) ?_
      refine lv_icmp_ge (tgt := 20) hx hb dJ7_fill_53178_7 rfl (fun h => absurd (c1.mp h) (by omega)) (fun _ => ?_)
      refine lv_aload_n hx hb dJ7_fill_53178_10 rfl (lv_at hl 2 rfl) ?_
      refine lv_iload_n hx hb dJ7_fill_53178_11 rfl (lv_at hl 0 rfl) ?_
      refine lv_iload_n hx hb dJ7_fill_53178_12 rfl (lv_at hl 3 rfl) ?_
      refine va_iast hx hb hK hP hD hS 0 0 rfl rfl (c2 hi64) dJ7_fill_53178_13 (fun H1 locs1 hP1 hD1 hS1 => ?_)
      rw [c3] at hP1 hD1
      refine lv_iinc (k := 0) (lv' := [(2, .int (Int32.ofNat (i + 1))), (3, .int (Int32.ofNat 64)), (0, .ref h0), (1, .int x)]) hx hb dJ7_fill_53178_14 hl rfl c4 (by decide) rfl (fun ls' hl' => ?_)
      refine lv_goto (tgt := 5) hx hb dJ7_fill_53178_17 rfl ?_
      refine ih (i + 1) (upd f i x) H1 locs1 ls' (by omega) (fun j hj => ?_) hP1 hD1 hS1 hl'
      rw [upd_at']
      by_cases q : j = i
      · rw [if_pos q]
      · rw [if_neg q]; exact hf j (by omega)
  refine lv_iconst (v := 0) hx hb dJ7_fill_53178_0 (by decide) ?_
  refine lv_istore_n (lv' := [(2, .int 0), (0, .ref h0), (1, .int x)]) hx hb dJ7_fill_53178_1 rfl hl (by decide) rfl (fun ls hl => ?_)
  refine lv_aload_n hx hb dJ7_fill_53178_2 rfl (lv_at hl 1 rfl) ?_
  refine va_alen (v := Int32.ofNat 64) hx hb hK hP 0 0 rfl rfl rfl dJ7_fill_53178_3 ?_
  refine lv_istore_n (lv' := [(3, .int (Int32.ofNat 64)), (2, .int 0), (0, .ref h0), (1, .int x)]) hx hb dJ7_fill_53178_4 rfl hl (by decide) rfl (fun ls hl => ?_)
  exact loop 64 0 f0 _ _ _ rfl (fun j hj => absurd hj (Nat.not_lt_zero j)) hP hD hS (lv_sub hl [1, 0, 2, 3] rfl)
abbrev wX8 (cI cZ cB : ClassId) (h0 : Nat) (u : List Nat × (Nat → Int32)) : va_W := [(h0, .inr (8, [.ref (u.1.getD 0 0), .ref (u.1.getD 1 0), .ref (u.1.getD 2 0), .ref (u.1.getD 3 0), .ref (u.1.getD 4 0), .ref (u.1.getD 5 0), .ref (u.1.getD 6 0), .ref (u.1.getD 7 0), .ref (u.1.getD 8 0), .int 0, .int 0, .int 300, .int 0, .int 2])), ((u.1.getD 0 0), .inl (cI, 16, .inl (fun _ => 0))), ((u.1.getD 1 0), .inl (cI, 16, .inl (fun _ => 0))), ((u.1.getD 2 0), .inl (cI, 16, .inl (fun _ => 0))), ((u.1.getD 3 0), .inl (cZ, 16, .inl (fun _ => 0))), ((u.1.getD 4 0), .inl (cI, 16, .inl (fun _ => 0))), ((u.1.getD 5 0), .inl (cI, 16, .inl (fun _ => 0))), ((u.1.getD 6 0), .inl (cI, 8, .inl (fun _ => 0))), ((u.1.getD 7 0), .inl (cI, 128, .inl (fun _ => 0))), ((u.1.getD 8 0), .inl (cI, 64, .inl (u.2)))]
set_option maxHeartbeats 4000000 in
set_option maxRecDepth 100000 in
theorem k_X8 (l : Launch) (D : va_G) (cI cZ cB : ClassId) (h0 sz : Nat) : Met l yX8_init (Cond.code yX8_init cX8_init 2 none :: gt) ({ frames := 3, cells := 9, slots := 296, locals := 60 } : Room) (va_Pc [.ref h0] (fun U => U.heap.size = sz ∧ va_P D clsL [(h0, .inr (8, [.null, .null, .null, .null, .null, .null, .null, .null, .null, .int 0, .int 0, .int 0, .int 0, .int 0]))] U.heap ∧ va_K D clsL (T3 cI cZ cB) U ∧ va_D (fun _ => True) [(h0, .inr (8, [.null, .null, .null, .null, .null, .null, .null, .null, .null, .int 0, .int 0, .int 0, .int 0, .int 0]))])) (va_Qv (fun u : List Nat × (Nat → Int32) => ∀ j, j < 64 → u.2 j = if j % 9 = 0 then 0 else 1000000) (fun u t => va_P D clsL (wX8 cI cZ cB h0 u) t.heap ∧ va_D (va_A [(h0, .inr (8, [.null, .null, .null, .null, .null, .null, .null, .null, .null, .int 0, .int 0, .int 0, .int 0, .int 0]))] sz) (wX8 cI cZ cB h0 u)) (va_A [(h0, .inr (8, [.null, .null, .null, .null, .null, .null, .null, .null, .null, .int 0, .int 0, .int 0, .int 0, .int 0]))] sz)) 9 296 (va_A [(h0, .inr (8, [.null, .null, .null, .null, .null, .null, .null, .null, .null, .int 0, .int 0, .int 0, .int 0, .int 0]))] sz) := by
  refine Met.ofW (cc := cX8_init) (maxL := 2) (ret := none) (by decide) rfl ?_
  intro p e s m args below meth c s₁ B hml hv
  obtain ⟨rfl, hsz, hP, hK, hD0⟩ := hv
  have hx := B.exec
  have hb := B.bytes
  have hr := B.returns
  have hts0 := atoms_spec (ws := Cond.code yX8_init cX8_init 2 none :: gt) B.pre
  have hts : ∀ w ∈ gt, w.before _ s = true := fun w hw => hts0 w (List.mem_cons_of_mem _ hw)
  have hown : s.vm.findClass RX8 = some m.cls := findClass_of_methodNamed B.named
  have hlocks := B.notSynchronized
  have hin : meth.name = "<init>" := (name_of_methodNamed B.named B.method).1
  subst hsz
  have hD := hD0.self (sz := s.heap.size)
  generalize hAe : va_A [(h0, .inr (8, [.null, .null, .null, .null, .null, .null, .null, .null, .null, .int 0, .int 0, .int 0, .int 0, .int 0]))] s.heap.size = A at hD ⊢
  have hA : ∀ q : Nat, s.heap.size ≤ q → A q := fun q h => by rw [← hAe]; exact Or.inr h
  have hS : va_S A s.heap s.heap [] := va_S.rf
  have hP : va_P D clsL [(h0, .inr (8, [.null, .null, .null, .null, .null, .null, .null, .null, .null, .int 0, .int 0, .int 0, .int 0, .int 0]))] s.heap := hP
  have hl := lv_entry ([.ref h0]) (n := 2) (Nat.le_of_ble_eq_true rfl)
  rw [lg_entry_eq]
  generalize (lg_sl ([.ref h0]) ++ List.replicate (2 - (lg_sl ([.ref h0])).length) Slot.unset).toArray = ls at hl ⊢
  have hl : lv_has ls 2 [(0, .ref h0)] := hl
  refine lv_aload_n hx hb dX8_init_0 rfl (lv_at hl 0 rfl) ?_
  refine W.objInit hx hb hown (hts _ gw_102) (hts _ gw_95) (hts _ gw_96) rfl (by rw [hml]; exact hl.1) rfl dX8_init_1 (Nat.le_of_ble_eq_true rfl) (Nat.le_of_ble_eq_true rfl) ?_
  refine W.eq (g2 := F0 m 4 ls []) rfl ?_
  refine lv_aload_n hx hb dX8_init_4 rfl (lv_at hl 0 rfl) ?_
  refine lv_bipush (v := 16) hx hb dX8_init_5 (by decide) ?_
  refine N_arr (atype := .int) (ty := .int) (t0 := 0) (N' := 16) hx hb (hts _ gw_150) rfl (Or.inl rfl) hK hP hD hS hA rfl (by decide) (by decide) (by decide) (Nat.le_of_ble_eq_true rfl) (Nat.le_of_ble_eq_true rfl) dX8_init_7 (fun q0 H hP hD hS => ?_)
  have hP : va_P D clsL [(h0, .inr (8, [.null, .null, .null, .null, .null, .null, .null, .null, .null, .int 0, .int 0, .int 0, .int 0, .int 0])), (q0, .inl (cI, 16, .inl (fun _ => 0)))] H := hP
  have hD : va_D A [(h0, .inr (8, [.null, .null, .null, .null, .null, .null, .null, .null, .null, .int 0, .int 0, .int 0, .int 0, .int 0])), (q0, .inl (cI, 16, .inl (fun _ => 0)))] := hD
  refine va_putF (D := D) (ci := 8) (v := .ref q0) (ty := (.array .int)) (C := RX8) (T := TX8) (N := 14) hx hb hts (cls_ws (ci := 8) rfl) tyX8 tyX8_ok nmX8 hown hK hP hD hS 0 rfl rfl 0 (by decide) (hts _ gw_107) (fun _ h9 => h9) rfl hin rfl (by decide +kernel) rfl rfl (Nat.le_of_ble_eq_true rfl) dX8_init_9 (fun H locs hP hD hS => ?_)
  have hP : va_P D clsL [(h0, .inr (8, [.ref q0, .null, .null, .null, .null, .null, .null, .null, .null, .int 0, .int 0, .int 0, .int 0, .int 0])), (q0, .inl (cI, 16, .inl (fun _ => 0)))] H := hP
  have hD : va_D A [(h0, .inr (8, [.ref q0, .null, .null, .null, .null, .null, .null, .null, .null, .int 0, .int 0, .int 0, .int 0, .int 0])), (q0, .inl (cI, 16, .inl (fun _ => 0)))] := hD
  refine lv_aload_n hx hb dX8_init_12 rfl (lv_at hl 0 rfl) ?_
  refine lv_bipush (v := 16) hx hb dX8_init_13 (by decide) ?_
  refine N_arr (atype := .int) (ty := .int) (t0 := 0) (N' := 16) hx hb (hts _ gw_150) rfl (Or.inl rfl) hK hP hD hS hA rfl (by decide) (by decide) (by decide) (Nat.le_of_ble_eq_true rfl) (Nat.le_of_ble_eq_true rfl) dX8_init_15 (fun q1 H hP hD hS => ?_)
  have hP : va_P D clsL [(h0, .inr (8, [.ref q0, .null, .null, .null, .null, .null, .null, .null, .null, .int 0, .int 0, .int 0, .int 0, .int 0])), (q0, .inl (cI, 16, .inl (fun _ => 0))), (q1, .inl (cI, 16, .inl (fun _ => 0)))] H := hP
  have hD : va_D A [(h0, .inr (8, [.ref q0, .null, .null, .null, .null, .null, .null, .null, .null, .int 0, .int 0, .int 0, .int 0, .int 0])), (q0, .inl (cI, 16, .inl (fun _ => 0))), (q1, .inl (cI, 16, .inl (fun _ => 0)))] := hD
  refine va_putF (D := D) (ci := 8) (v := .ref q1) (ty := (.array .int)) (C := RX8) (T := TX8) (N := 14) hx hb hts (cls_ws (ci := 8) rfl) tyX8 tyX8_ok nmX8 hown hK hP hD hS 0 rfl rfl 1 (by decide) (hts _ gw_108) (fun _ h9 => h9) rfl hin rfl (by decide +kernel) rfl rfl (Nat.le_of_ble_eq_true rfl) dX8_init_17 (fun H locs hP hD hS => ?_)
  have hP : va_P D clsL [(h0, .inr (8, [.ref q0, .ref q1, .null, .null, .null, .null, .null, .null, .null, .int 0, .int 0, .int 0, .int 0, .int 0])), (q0, .inl (cI, 16, .inl (fun _ => 0))), (q1, .inl (cI, 16, .inl (fun _ => 0)))] H := hP
  have hD : va_D A [(h0, .inr (8, [.ref q0, .ref q1, .null, .null, .null, .null, .null, .null, .null, .int 0, .int 0, .int 0, .int 0, .int 0])), (q0, .inl (cI, 16, .inl (fun _ => 0))), (q1, .inl (cI, 16, .inl (fun _ => 0)))] := hD
  refine lv_aload_n hx hb dX8_init_20 rfl (lv_at hl 0 rfl) ?_
  refine lv_bipush (v := 16) hx hb dX8_init_21 (by decide) ?_
  refine N_arr (atype := .int) (ty := .int) (t0 := 0) (N' := 16) hx hb (hts _ gw_150) rfl (Or.inl rfl) hK hP hD hS hA rfl (by decide) (by decide) (by decide) (Nat.le_of_ble_eq_true rfl) (Nat.le_of_ble_eq_true rfl) dX8_init_23 (fun q2 H hP hD hS => ?_)
  have hP : va_P D clsL [(h0, .inr (8, [.ref q0, .ref q1, .null, .null, .null, .null, .null, .null, .null, .int 0, .int 0, .int 0, .int 0, .int 0])), (q0, .inl (cI, 16, .inl (fun _ => 0))), (q1, .inl (cI, 16, .inl (fun _ => 0))), (q2, .inl (cI, 16, .inl (fun _ => 0)))] H := hP
  have hD : va_D A [(h0, .inr (8, [.ref q0, .ref q1, .null, .null, .null, .null, .null, .null, .null, .int 0, .int 0, .int 0, .int 0, .int 0])), (q0, .inl (cI, 16, .inl (fun _ => 0))), (q1, .inl (cI, 16, .inl (fun _ => 0))), (q2, .inl (cI, 16, .inl (fun _ => 0)))] := hD
  refine va_putF (D := D) (ci := 8) (v := .ref q2) (ty := (.array .int)) (C := RX8) (T := TX8) (N := 14) hx hb hts (cls_ws (ci := 8) rfl) tyX8 tyX8_ok nmX8 hown hK hP hD hS 0 rfl rfl 2 (by decide) (hts _ gw_109) (fun _ h9 => h9) rfl hin rfl (by decide +kernel) rfl rfl (Nat.le_of_ble_eq_true rfl) dX8_init_25 (fun H locs hP hD hS => ?_)
  have hP : va_P D clsL [(h0, .inr (8, [.ref q0, .ref q1, .ref q2, .null, .null, .null, .null, .null, .null, .int 0, .int 0, .int 0, .int 0, .int 0])), (q0, .inl (cI, 16, .inl (fun _ => 0))), (q1, .inl (cI, 16, .inl (fun _ => 0))), (q2, .inl (cI, 16, .inl (fun _ => 0)))] H := hP
  have hD : va_D A [(h0, .inr (8, [.ref q0, .ref q1, .ref q2, .null, .null, .null, .null, .null, .null, .int 0, .int 0, .int 0, .int 0, .int 0])), (q0, .inl (cI, 16, .inl (fun _ => 0))), (q1, .inl (cI, 16, .inl (fun _ => 0))), (q2, .inl (cI, 16, .inl (fun _ => 0)))] := hD
  refine lv_aload_n hx hb dX8_init_28 rfl (lv_at hl 0 rfl) ?_
  refine lv_bipush (v := 16) hx hb dX8_init_29 (by decide) ?_
  refine N_arr (atype := .boolean) (ty := .boolean) (t0 := 1) (N' := 16) hx hb (hts _ gw_151) rfl (Or.inr (Or.inl rfl)) hK hP hD hS hA rfl (by decide) (by decide) (by decide) (Nat.le_of_ble_eq_true rfl) (Nat.le_of_ble_eq_true rfl) dX8_init_31 (fun q3 H hP hD hS => ?_)
  have hP : va_P D clsL [(h0, .inr (8, [.ref q0, .ref q1, .ref q2, .null, .null, .null, .null, .null, .null, .int 0, .int 0, .int 0, .int 0, .int 0])), (q0, .inl (cI, 16, .inl (fun _ => 0))), (q1, .inl (cI, 16, .inl (fun _ => 0))), (q2, .inl (cI, 16, .inl (fun _ => 0))), (q3, .inl (cZ, 16, .inl (fun _ => 0)))] H := hP
  have hD : va_D A [(h0, .inr (8, [.ref q0, .ref q1, .ref q2, .null, .null, .null, .null, .null, .null, .int 0, .int 0, .int 0, .int 0, .int 0])), (q0, .inl (cI, 16, .inl (fun _ => 0))), (q1, .inl (cI, 16, .inl (fun _ => 0))), (q2, .inl (cI, 16, .inl (fun _ => 0))), (q3, .inl (cZ, 16, .inl (fun _ => 0)))] := hD
  refine va_putF (D := D) (ci := 8) (v := .ref q3) (ty := (.array .boolean)) (C := RX8) (T := TX8) (N := 14) hx hb hts (cls_ws (ci := 8) rfl) tyX8 tyX8_ok nmX8 hown hK hP hD hS 0 rfl rfl 3 (by decide) (hts _ gw_110) (fun _ h9 => h9) rfl hin rfl (by decide +kernel) rfl rfl (Nat.le_of_ble_eq_true rfl) dX8_init_33 (fun H locs hP hD hS => ?_)
  have hP : va_P D clsL [(h0, .inr (8, [.ref q0, .ref q1, .ref q2, .ref q3, .null, .null, .null, .null, .null, .int 0, .int 0, .int 0, .int 0, .int 0])), (q0, .inl (cI, 16, .inl (fun _ => 0))), (q1, .inl (cI, 16, .inl (fun _ => 0))), (q2, .inl (cI, 16, .inl (fun _ => 0))), (q3, .inl (cZ, 16, .inl (fun _ => 0)))] H := hP
  have hD : va_D A [(h0, .inr (8, [.ref q0, .ref q1, .ref q2, .ref q3, .null, .null, .null, .null, .null, .int 0, .int 0, .int 0, .int 0, .int 0])), (q0, .inl (cI, 16, .inl (fun _ => 0))), (q1, .inl (cI, 16, .inl (fun _ => 0))), (q2, .inl (cI, 16, .inl (fun _ => 0))), (q3, .inl (cZ, 16, .inl (fun _ => 0)))] := hD
  refine lv_aload_n hx hb dX8_init_36 rfl (lv_at hl 0 rfl) ?_
  refine lv_bipush (v := 16) hx hb dX8_init_37 (by decide) ?_
  refine N_arr (atype := .int) (ty := .int) (t0 := 0) (N' := 16) hx hb (hts _ gw_150) rfl (Or.inl rfl) hK hP hD hS hA rfl (by decide) (by decide) (by decide) (Nat.le_of_ble_eq_true rfl) (Nat.le_of_ble_eq_true rfl) dX8_init_39 (fun q4 H hP hD hS => ?_)
  have hP : va_P D clsL [(h0, .inr (8, [.ref q0, .ref q1, .ref q2, .ref q3, .null, .null, .null, .null, .null, .int 0, .int 0, .int 0, .int 0, .int 0])), (q0, .inl (cI, 16, .inl (fun _ => 0))), (q1, .inl (cI, 16, .inl (fun _ => 0))), (q2, .inl (cI, 16, .inl (fun _ => 0))), (q3, .inl (cZ, 16, .inl (fun _ => 0))), (q4, .inl (cI, 16, .inl (fun _ => 0)))] H := hP
  have hD : va_D A [(h0, .inr (8, [.ref q0, .ref q1, .ref q2, .ref q3, .null, .null, .null, .null, .null, .int 0, .int 0, .int 0, .int 0, .int 0])), (q0, .inl (cI, 16, .inl (fun _ => 0))), (q1, .inl (cI, 16, .inl (fun _ => 0))), (q2, .inl (cI, 16, .inl (fun _ => 0))), (q3, .inl (cZ, 16, .inl (fun _ => 0))), (q4, .inl (cI, 16, .inl (fun _ => 0)))] := hD
  refine va_putF (D := D) (ci := 8) (v := .ref q4) (ty := (.array .int)) (C := RX8) (T := TX8) (N := 14) hx hb hts (cls_ws (ci := 8) rfl) tyX8 tyX8_ok nmX8 hown hK hP hD hS 0 rfl rfl 4 (by decide) (hts _ gw_111) (fun _ h9 => h9) rfl hin rfl (by decide +kernel) rfl rfl (Nat.le_of_ble_eq_true rfl) dX8_init_41 (fun H locs hP hD hS => ?_)
  have hP : va_P D clsL [(h0, .inr (8, [.ref q0, .ref q1, .ref q2, .ref q3, .ref q4, .null, .null, .null, .null, .int 0, .int 0, .int 0, .int 0, .int 0])), (q0, .inl (cI, 16, .inl (fun _ => 0))), (q1, .inl (cI, 16, .inl (fun _ => 0))), (q2, .inl (cI, 16, .inl (fun _ => 0))), (q3, .inl (cZ, 16, .inl (fun _ => 0))), (q4, .inl (cI, 16, .inl (fun _ => 0)))] H := hP
  have hD : va_D A [(h0, .inr (8, [.ref q0, .ref q1, .ref q2, .ref q3, .ref q4, .null, .null, .null, .null, .int 0, .int 0, .int 0, .int 0, .int 0])), (q0, .inl (cI, 16, .inl (fun _ => 0))), (q1, .inl (cI, 16, .inl (fun _ => 0))), (q2, .inl (cI, 16, .inl (fun _ => 0))), (q3, .inl (cZ, 16, .inl (fun _ => 0))), (q4, .inl (cI, 16, .inl (fun _ => 0)))] := hD
  refine lv_aload_n hx hb dX8_init_44 rfl (lv_at hl 0 rfl) ?_
  refine lv_bipush (v := 16) hx hb dX8_init_45 (by decide) ?_
  refine N_arr (atype := .int) (ty := .int) (t0 := 0) (N' := 16) hx hb (hts _ gw_150) rfl (Or.inl rfl) hK hP hD hS hA rfl (by decide) (by decide) (by decide) (Nat.le_of_ble_eq_true rfl) (Nat.le_of_ble_eq_true rfl) dX8_init_47 (fun q5 H hP hD hS => ?_)
  have hP : va_P D clsL [(h0, .inr (8, [.ref q0, .ref q1, .ref q2, .ref q3, .ref q4, .null, .null, .null, .null, .int 0, .int 0, .int 0, .int 0, .int 0])), (q0, .inl (cI, 16, .inl (fun _ => 0))), (q1, .inl (cI, 16, .inl (fun _ => 0))), (q2, .inl (cI, 16, .inl (fun _ => 0))), (q3, .inl (cZ, 16, .inl (fun _ => 0))), (q4, .inl (cI, 16, .inl (fun _ => 0))), (q5, .inl (cI, 16, .inl (fun _ => 0)))] H := hP
  have hD : va_D A [(h0, .inr (8, [.ref q0, .ref q1, .ref q2, .ref q3, .ref q4, .null, .null, .null, .null, .int 0, .int 0, .int 0, .int 0, .int 0])), (q0, .inl (cI, 16, .inl (fun _ => 0))), (q1, .inl (cI, 16, .inl (fun _ => 0))), (q2, .inl (cI, 16, .inl (fun _ => 0))), (q3, .inl (cZ, 16, .inl (fun _ => 0))), (q4, .inl (cI, 16, .inl (fun _ => 0))), (q5, .inl (cI, 16, .inl (fun _ => 0)))] := hD
  refine va_putF (D := D) (ci := 8) (v := .ref q5) (ty := (.array .int)) (C := RX8) (T := TX8) (N := 14) hx hb hts (cls_ws (ci := 8) rfl) tyX8 tyX8_ok nmX8 hown hK hP hD hS 0 rfl rfl 5 (by decide) (hts _ gw_112) (fun _ h9 => h9) rfl hin rfl (by decide +kernel) rfl rfl (Nat.le_of_ble_eq_true rfl) dX8_init_49 (fun H locs hP hD hS => ?_)
  have hP : va_P D clsL [(h0, .inr (8, [.ref q0, .ref q1, .ref q2, .ref q3, .ref q4, .ref q5, .null, .null, .null, .int 0, .int 0, .int 0, .int 0, .int 0])), (q0, .inl (cI, 16, .inl (fun _ => 0))), (q1, .inl (cI, 16, .inl (fun _ => 0))), (q2, .inl (cI, 16, .inl (fun _ => 0))), (q3, .inl (cZ, 16, .inl (fun _ => 0))), (q4, .inl (cI, 16, .inl (fun _ => 0))), (q5, .inl (cI, 16, .inl (fun _ => 0)))] H := hP
  have hD : va_D A [(h0, .inr (8, [.ref q0, .ref q1, .ref q2, .ref q3, .ref q4, .ref q5, .null, .null, .null, .int 0, .int 0, .int 0, .int 0, .int 0])), (q0, .inl (cI, 16, .inl (fun _ => 0))), (q1, .inl (cI, 16, .inl (fun _ => 0))), (q2, .inl (cI, 16, .inl (fun _ => 0))), (q3, .inl (cZ, 16, .inl (fun _ => 0))), (q4, .inl (cI, 16, .inl (fun _ => 0))), (q5, .inl (cI, 16, .inl (fun _ => 0)))] := hD
  refine lv_aload_n hx hb dX8_init_52 rfl (lv_at hl 0 rfl) ?_
  refine lv_bipush (v := 8) hx hb dX8_init_53 (by decide) ?_
  refine N_arr (atype := .int) (ty := .int) (t0 := 0) (N' := 8) hx hb (hts _ gw_150) rfl (Or.inl rfl) hK hP hD hS hA rfl (by decide) (by decide) (by decide) (Nat.le_of_ble_eq_true rfl) (Nat.le_of_ble_eq_true rfl) dX8_init_55 (fun q6 H hP hD hS => ?_)
  have hP : va_P D clsL [(h0, .inr (8, [.ref q0, .ref q1, .ref q2, .ref q3, .ref q4, .ref q5, .null, .null, .null, .int 0, .int 0, .int 0, .int 0, .int 0])), (q0, .inl (cI, 16, .inl (fun _ => 0))), (q1, .inl (cI, 16, .inl (fun _ => 0))), (q2, .inl (cI, 16, .inl (fun _ => 0))), (q3, .inl (cZ, 16, .inl (fun _ => 0))), (q4, .inl (cI, 16, .inl (fun _ => 0))), (q5, .inl (cI, 16, .inl (fun _ => 0))), (q6, .inl (cI, 8, .inl (fun _ => 0)))] H := hP
  have hD : va_D A [(h0, .inr (8, [.ref q0, .ref q1, .ref q2, .ref q3, .ref q4, .ref q5, .null, .null, .null, .int 0, .int 0, .int 0, .int 0, .int 0])), (q0, .inl (cI, 16, .inl (fun _ => 0))), (q1, .inl (cI, 16, .inl (fun _ => 0))), (q2, .inl (cI, 16, .inl (fun _ => 0))), (q3, .inl (cZ, 16, .inl (fun _ => 0))), (q4, .inl (cI, 16, .inl (fun _ => 0))), (q5, .inl (cI, 16, .inl (fun _ => 0))), (q6, .inl (cI, 8, .inl (fun _ => 0)))] := hD
  refine va_putF (D := D) (ci := 8) (v := .ref q6) (ty := (.array .int)) (C := RX8) (T := TX8) (N := 14) hx hb hts (cls_ws (ci := 8) rfl) tyX8 tyX8_ok nmX8 hown hK hP hD hS 0 rfl rfl 6 (by decide) (hts _ gw_113) (fun _ h9 => h9) rfl hin rfl (by decide +kernel) rfl rfl (Nat.le_of_ble_eq_true rfl) dX8_init_57 (fun H locs hP hD hS => ?_)
  have hP : va_P D clsL [(h0, .inr (8, [.ref q0, .ref q1, .ref q2, .ref q3, .ref q4, .ref q5, .ref q6, .null, .null, .int 0, .int 0, .int 0, .int 0, .int 0])), (q0, .inl (cI, 16, .inl (fun _ => 0))), (q1, .inl (cI, 16, .inl (fun _ => 0))), (q2, .inl (cI, 16, .inl (fun _ => 0))), (q3, .inl (cZ, 16, .inl (fun _ => 0))), (q4, .inl (cI, 16, .inl (fun _ => 0))), (q5, .inl (cI, 16, .inl (fun _ => 0))), (q6, .inl (cI, 8, .inl (fun _ => 0)))] H := hP
  have hD : va_D A [(h0, .inr (8, [.ref q0, .ref q1, .ref q2, .ref q3, .ref q4, .ref q5, .ref q6, .null, .null, .int 0, .int 0, .int 0, .int 0, .int 0])), (q0, .inl (cI, 16, .inl (fun _ => 0))), (q1, .inl (cI, 16, .inl (fun _ => 0))), (q2, .inl (cI, 16, .inl (fun _ => 0))), (q3, .inl (cZ, 16, .inl (fun _ => 0))), (q4, .inl (cI, 16, .inl (fun _ => 0))), (q5, .inl (cI, 16, .inl (fun _ => 0))), (q6, .inl (cI, 8, .inl (fun _ => 0)))] := hD
  refine lv_aload_n hx hb dX8_init_60 rfl (lv_at hl 0 rfl) ?_
  refine lv_sipush (v := 128) hx hb dX8_init_61 (by decide) ?_
  refine N_arr (atype := .int) (ty := .int) (t0 := 0) (N' := 128) hx hb (hts _ gw_150) rfl (Or.inl rfl) hK hP hD hS hA rfl (by decide) (by decide) (by decide) (Nat.le_of_ble_eq_true rfl) (Nat.le_of_ble_eq_true rfl) dX8_init_64 (fun q7 H hP hD hS => ?_)
  have hP : va_P D clsL [(h0, .inr (8, [.ref q0, .ref q1, .ref q2, .ref q3, .ref q4, .ref q5, .ref q6, .null, .null, .int 0, .int 0, .int 0, .int 0, .int 0])), (q0, .inl (cI, 16, .inl (fun _ => 0))), (q1, .inl (cI, 16, .inl (fun _ => 0))), (q2, .inl (cI, 16, .inl (fun _ => 0))), (q3, .inl (cZ, 16, .inl (fun _ => 0))), (q4, .inl (cI, 16, .inl (fun _ => 0))), (q5, .inl (cI, 16, .inl (fun _ => 0))), (q6, .inl (cI, 8, .inl (fun _ => 0))), (q7, .inl (cI, 128, .inl (fun _ => 0)))] H := hP
  have hD : va_D A [(h0, .inr (8, [.ref q0, .ref q1, .ref q2, .ref q3, .ref q4, .ref q5, .ref q6, .null, .null, .int 0, .int 0, .int 0, .int 0, .int 0])), (q0, .inl (cI, 16, .inl (fun _ => 0))), (q1, .inl (cI, 16, .inl (fun _ => 0))), (q2, .inl (cI, 16, .inl (fun _ => 0))), (q3, .inl (cZ, 16, .inl (fun _ => 0))), (q4, .inl (cI, 16, .inl (fun _ => 0))), (q5, .inl (cI, 16, .inl (fun _ => 0))), (q6, .inl (cI, 8, .inl (fun _ => 0))), (q7, .inl (cI, 128, .inl (fun _ => 0)))] := hD
  refine va_putF (D := D) (ci := 8) (v := .ref q7) (ty := (.array .int)) (C := RX8) (T := TX8) (N := 14) hx hb hts (cls_ws (ci := 8) rfl) tyX8 tyX8_ok nmX8 hown hK hP hD hS 0 rfl rfl 7 (by decide) (hts _ gw_114) (fun _ h9 => h9) rfl hin rfl (by decide +kernel) rfl rfl (Nat.le_of_ble_eq_true rfl) dX8_init_66 (fun H locs hP hD hS => ?_)
  have hP : va_P D clsL [(h0, .inr (8, [.ref q0, .ref q1, .ref q2, .ref q3, .ref q4, .ref q5, .ref q6, .ref q7, .null, .int 0, .int 0, .int 0, .int 0, .int 0])), (q0, .inl (cI, 16, .inl (fun _ => 0))), (q1, .inl (cI, 16, .inl (fun _ => 0))), (q2, .inl (cI, 16, .inl (fun _ => 0))), (q3, .inl (cZ, 16, .inl (fun _ => 0))), (q4, .inl (cI, 16, .inl (fun _ => 0))), (q5, .inl (cI, 16, .inl (fun _ => 0))), (q6, .inl (cI, 8, .inl (fun _ => 0))), (q7, .inl (cI, 128, .inl (fun _ => 0)))] H := hP
  have hD : va_D A [(h0, .inr (8, [.ref q0, .ref q1, .ref q2, .ref q3, .ref q4, .ref q5, .ref q6, .ref q7, .null, .int 0, .int 0, .int 0, .int 0, .int 0])), (q0, .inl (cI, 16, .inl (fun _ => 0))), (q1, .inl (cI, 16, .inl (fun _ => 0))), (q2, .inl (cI, 16, .inl (fun _ => 0))), (q3, .inl (cZ, 16, .inl (fun _ => 0))), (q4, .inl (cI, 16, .inl (fun _ => 0))), (q5, .inl (cI, 16, .inl (fun _ => 0))), (q6, .inl (cI, 8, .inl (fun _ => 0))), (q7, .inl (cI, 128, .inl (fun _ => 0)))] := hD
  refine lv_aload_n hx hb dX8_init_69 rfl (lv_at hl 0 rfl) ?_
  refine lv_bipush (v := 64) hx hb dX8_init_70 (by decide) ?_
  refine N_arr (atype := .int) (ty := .int) (t0 := 0) (N' := 64) hx hb (hts _ gw_150) rfl (Or.inl rfl) hK hP hD hS hA rfl (by decide) (by decide) (by decide) (Nat.le_of_ble_eq_true rfl) (Nat.le_of_ble_eq_true rfl) dX8_init_72 (fun q8 H hP hD hS => ?_)
  have hP : va_P D clsL [(h0, .inr (8, [.ref q0, .ref q1, .ref q2, .ref q3, .ref q4, .ref q5, .ref q6, .ref q7, .null, .int 0, .int 0, .int 0, .int 0, .int 0])), (q0, .inl (cI, 16, .inl (fun _ => 0))), (q1, .inl (cI, 16, .inl (fun _ => 0))), (q2, .inl (cI, 16, .inl (fun _ => 0))), (q3, .inl (cZ, 16, .inl (fun _ => 0))), (q4, .inl (cI, 16, .inl (fun _ => 0))), (q5, .inl (cI, 16, .inl (fun _ => 0))), (q6, .inl (cI, 8, .inl (fun _ => 0))), (q7, .inl (cI, 128, .inl (fun _ => 0))), (q8, .inl (cI, 64, .inl (fun _ => 0)))] H := hP
  have hD : va_D A [(h0, .inr (8, [.ref q0, .ref q1, .ref q2, .ref q3, .ref q4, .ref q5, .ref q6, .ref q7, .null, .int 0, .int 0, .int 0, .int 0, .int 0])), (q0, .inl (cI, 16, .inl (fun _ => 0))), (q1, .inl (cI, 16, .inl (fun _ => 0))), (q2, .inl (cI, 16, .inl (fun _ => 0))), (q3, .inl (cZ, 16, .inl (fun _ => 0))), (q4, .inl (cI, 16, .inl (fun _ => 0))), (q5, .inl (cI, 16, .inl (fun _ => 0))), (q6, .inl (cI, 8, .inl (fun _ => 0))), (q7, .inl (cI, 128, .inl (fun _ => 0))), (q8, .inl (cI, 64, .inl (fun _ => 0)))] := hD
  refine va_putF (D := D) (ci := 8) (v := .ref q8) (ty := (.array .int)) (C := RX8) (T := TX8) (N := 14) hx hb hts (cls_ws (ci := 8) rfl) tyX8 tyX8_ok nmX8 hown hK hP hD hS 0 rfl rfl 8 (by decide) (hts _ gw_115) (fun _ h9 => h9) rfl hin rfl (by decide +kernel) rfl rfl (Nat.le_of_ble_eq_true rfl) dX8_init_74 (fun H locs hP hD hS => ?_)
  have hP : va_P D clsL [(h0, .inr (8, [.ref q0, .ref q1, .ref q2, .ref q3, .ref q4, .ref q5, .ref q6, .ref q7, .ref q8, .int 0, .int 0, .int 0, .int 0, .int 0])), (q0, .inl (cI, 16, .inl (fun _ => 0))), (q1, .inl (cI, 16, .inl (fun _ => 0))), (q2, .inl (cI, 16, .inl (fun _ => 0))), (q3, .inl (cZ, 16, .inl (fun _ => 0))), (q4, .inl (cI, 16, .inl (fun _ => 0))), (q5, .inl (cI, 16, .inl (fun _ => 0))), (q6, .inl (cI, 8, .inl (fun _ => 0))), (q7, .inl (cI, 128, .inl (fun _ => 0))), (q8, .inl (cI, 64, .inl (fun _ => 0)))] H := hP
  have hD : va_D A [(h0, .inr (8, [.ref q0, .ref q1, .ref q2, .ref q3, .ref q4, .ref q5, .ref q6, .ref q7, .ref q8, .int 0, .int 0, .int 0, .int 0, .int 0])), (q0, .inl (cI, 16, .inl (fun _ => 0))), (q1, .inl (cI, 16, .inl (fun _ => 0))), (q2, .inl (cI, 16, .inl (fun _ => 0))), (q3, .inl (cZ, 16, .inl (fun _ => 0))), (q4, .inl (cI, 16, .inl (fun _ => 0))), (q5, .inl (cI, 16, .inl (fun _ => 0))), (q6, .inl (cI, 8, .inl (fun _ => 0))), (q7, .inl (cI, 128, .inl (fun _ => 0))), (q8, .inl (cI, 64, .inl (fun _ => 0)))] := hD
  refine lv_aload_n hx hb dX8_init_77 rfl (lv_at hl 0 rfl) ?_
  refine lv_iconst (v := 0) hx hb dX8_init_78 (by decide) ?_
  refine va_put (D := D) (ci := 8) (v := .int 0) (ty := .int) (C := RX8) (T := TX8) (N := 14) hx hb hts (cls_ws (ci := 8) rfl) tyX8 tyX8_ok nmX8 hown hK hP hD hS 0 rfl rfl 9 (by decide) (hts _ gw_116) (fun _ h9 => h9) rfl (by decide +kernel) rfl rfl (Nat.le_of_ble_eq_true rfl) dX8_init_79 (fun H locs hP hD hS => ?_)
  have hP : va_P D clsL [(h0, .inr (8, [.ref q0, .ref q1, .ref q2, .ref q3, .ref q4, .ref q5, .ref q6, .ref q7, .ref q8, .int 0, .int 0, .int 0, .int 0, .int 0])), (q0, .inl (cI, 16, .inl (fun _ => 0))), (q1, .inl (cI, 16, .inl (fun _ => 0))), (q2, .inl (cI, 16, .inl (fun _ => 0))), (q3, .inl (cZ, 16, .inl (fun _ => 0))), (q4, .inl (cI, 16, .inl (fun _ => 0))), (q5, .inl (cI, 16, .inl (fun _ => 0))), (q6, .inl (cI, 8, .inl (fun _ => 0))), (q7, .inl (cI, 128, .inl (fun _ => 0))), (q8, .inl (cI, 64, .inl (fun _ => 0)))] H := hP
  have hD : va_D A [(h0, .inr (8, [.ref q0, .ref q1, .ref q2, .ref q3, .ref q4, .ref q5, .ref q6, .ref q7, .ref q8, .int 0, .int 0, .int 0, .int 0, .int 0])), (q0, .inl (cI, 16, .inl (fun _ => 0))), (q1, .inl (cI, 16, .inl (fun _ => 0))), (q2, .inl (cI, 16, .inl (fun _ => 0))), (q3, .inl (cZ, 16, .inl (fun _ => 0))), (q4, .inl (cI, 16, .inl (fun _ => 0))), (q5, .inl (cI, 16, .inl (fun _ => 0))), (q6, .inl (cI, 8, .inl (fun _ => 0))), (q7, .inl (cI, 128, .inl (fun _ => 0))), (q8, .inl (cI, 64, .inl (fun _ => 0)))] := hD
  refine lv_aload_n hx hb dX8_init_82 rfl (lv_at hl 0 rfl) ?_
  refine lv_iconst (v := 0) hx hb dX8_init_83 (by decide) ?_
  refine va_put (D := D) (ci := 8) (v := .int 0) (ty := .int) (C := RX8) (T := TX8) (N := 14) hx hb hts (cls_ws (ci := 8) rfl) tyX8 tyX8_ok nmX8 hown hK hP hD hS 0 rfl rfl 10 (by decide) (hts _ gw_117) (fun _ h9 => h9) rfl (by decide +kernel) rfl rfl (Nat.le_of_ble_eq_true rfl) dX8_init_84 (fun H locs hP hD hS => ?_)
  have hP : va_P D clsL [(h0, .inr (8, [.ref q0, .ref q1, .ref q2, .ref q3, .ref q4, .ref q5, .ref q6, .ref q7, .ref q8, .int 0, .int 0, .int 0, .int 0, .int 0])), (q0, .inl (cI, 16, .inl (fun _ => 0))), (q1, .inl (cI, 16, .inl (fun _ => 0))), (q2, .inl (cI, 16, .inl (fun _ => 0))), (q3, .inl (cZ, 16, .inl (fun _ => 0))), (q4, .inl (cI, 16, .inl (fun _ => 0))), (q5, .inl (cI, 16, .inl (fun _ => 0))), (q6, .inl (cI, 8, .inl (fun _ => 0))), (q7, .inl (cI, 128, .inl (fun _ => 0))), (q8, .inl (cI, 64, .inl (fun _ => 0)))] H := hP
  have hD : va_D A [(h0, .inr (8, [.ref q0, .ref q1, .ref q2, .ref q3, .ref q4, .ref q5, .ref q6, .ref q7, .ref q8, .int 0, .int 0, .int 0, .int 0, .int 0])), (q0, .inl (cI, 16, .inl (fun _ => 0))), (q1, .inl (cI, 16, .inl (fun _ => 0))), (q2, .inl (cI, 16, .inl (fun _ => 0))), (q3, .inl (cZ, 16, .inl (fun _ => 0))), (q4, .inl (cI, 16, .inl (fun _ => 0))), (q5, .inl (cI, 16, .inl (fun _ => 0))), (q6, .inl (cI, 8, .inl (fun _ => 0))), (q7, .inl (cI, 128, .inl (fun _ => 0))), (q8, .inl (cI, 64, .inl (fun _ => 0)))] := hD
  refine lv_aload_n hx hb dX8_init_87 rfl (lv_at hl 0 rfl) ?_
  refine lv_sipush (v := 300) hx hb dX8_init_88 (by decide) ?_
  refine va_put (D := D) (ci := 8) (v := .int 300) (ty := .int) (C := RX8) (T := TX8) (N := 14) hx hb hts (cls_ws (ci := 8) rfl) tyX8 tyX8_ok nmX8 hown hK hP hD hS 0 rfl rfl 11 (by decide) (hts _ gw_118) (fun _ h9 => h9) rfl (by decide +kernel) rfl rfl (Nat.le_of_ble_eq_true rfl) dX8_init_91 (fun H locs hP hD hS => ?_)
  have hP : va_P D clsL [(h0, .inr (8, [.ref q0, .ref q1, .ref q2, .ref q3, .ref q4, .ref q5, .ref q6, .ref q7, .ref q8, .int 0, .int 0, .int 300, .int 0, .int 0])), (q0, .inl (cI, 16, .inl (fun _ => 0))), (q1, .inl (cI, 16, .inl (fun _ => 0))), (q2, .inl (cI, 16, .inl (fun _ => 0))), (q3, .inl (cZ, 16, .inl (fun _ => 0))), (q4, .inl (cI, 16, .inl (fun _ => 0))), (q5, .inl (cI, 16, .inl (fun _ => 0))), (q6, .inl (cI, 8, .inl (fun _ => 0))), (q7, .inl (cI, 128, .inl (fun _ => 0))), (q8, .inl (cI, 64, .inl (fun _ => 0)))] H := hP
  have hD : va_D A [(h0, .inr (8, [.ref q0, .ref q1, .ref q2, .ref q3, .ref q4, .ref q5, .ref q6, .ref q7, .ref q8, .int 0, .int 0, .int 300, .int 0, .int 0])), (q0, .inl (cI, 16, .inl (fun _ => 0))), (q1, .inl (cI, 16, .inl (fun _ => 0))), (q2, .inl (cI, 16, .inl (fun _ => 0))), (q3, .inl (cZ, 16, .inl (fun _ => 0))), (q4, .inl (cI, 16, .inl (fun _ => 0))), (q5, .inl (cI, 16, .inl (fun _ => 0))), (q6, .inl (cI, 8, .inl (fun _ => 0))), (q7, .inl (cI, 128, .inl (fun _ => 0))), (q8, .inl (cI, 64, .inl (fun _ => 0)))] := hD
  refine lv_aload_n hx hb dX8_init_94 rfl (lv_at hl 0 rfl) ?_
  refine lv_iconst (v := 0) hx hb dX8_init_95 (by decide) ?_
  refine va_put (D := D) (ci := 8) (v := .int 0) (ty := .int) (C := RX8) (T := TX8) (N := 14) hx hb hts (cls_ws (ci := 8) rfl) tyX8 tyX8_ok nmX8 hown hK hP hD hS 0 rfl rfl 12 (by decide) (hts _ gw_119) (fun _ h9 => h9) rfl (by decide +kernel) rfl rfl (Nat.le_of_ble_eq_true rfl) dX8_init_96 (fun H locs hP hD hS => ?_)
  have hP : va_P D clsL [(h0, .inr (8, [.ref q0, .ref q1, .ref q2, .ref q3, .ref q4, .ref q5, .ref q6, .ref q7, .ref q8, .int 0, .int 0, .int 300, .int 0, .int 0])), (q0, .inl (cI, 16, .inl (fun _ => 0))), (q1, .inl (cI, 16, .inl (fun _ => 0))), (q2, .inl (cI, 16, .inl (fun _ => 0))), (q3, .inl (cZ, 16, .inl (fun _ => 0))), (q4, .inl (cI, 16, .inl (fun _ => 0))), (q5, .inl (cI, 16, .inl (fun _ => 0))), (q6, .inl (cI, 8, .inl (fun _ => 0))), (q7, .inl (cI, 128, .inl (fun _ => 0))), (q8, .inl (cI, 64, .inl (fun _ => 0)))] H := hP
  have hD : va_D A [(h0, .inr (8, [.ref q0, .ref q1, .ref q2, .ref q3, .ref q4, .ref q5, .ref q6, .ref q7, .ref q8, .int 0, .int 0, .int 300, .int 0, .int 0])), (q0, .inl (cI, 16, .inl (fun _ => 0))), (q1, .inl (cI, 16, .inl (fun _ => 0))), (q2, .inl (cI, 16, .inl (fun _ => 0))), (q3, .inl (cZ, 16, .inl (fun _ => 0))), (q4, .inl (cI, 16, .inl (fun _ => 0))), (q5, .inl (cI, 16, .inl (fun _ => 0))), (q6, .inl (cI, 8, .inl (fun _ => 0))), (q7, .inl (cI, 128, .inl (fun _ => 0))), (q8, .inl (cI, 64, .inl (fun _ => 0)))] := hD
  refine lv_aload_n hx hb dX8_init_99 rfl (lv_at hl 0 rfl) ?_
  refine lv_iconst (v := 2) hx hb dX8_init_100 (by decide) ?_
  refine va_put (D := D) (ci := 8) (v := .int 2) (ty := .int) (C := RX8) (T := TX8) (N := 14) hx hb hts (cls_ws (ci := 8) rfl) tyX8 tyX8_ok nmX8 hown hK hP hD hS 0 rfl rfl 13 (by decide) (hts _ gw_120) (fun _ h9 => h9) rfl (by decide +kernel) rfl rfl (Nat.le_of_ble_eq_true rfl) dX8_init_101 (fun H locs hP hD hS => ?_)
  have hP : va_P D clsL [(h0, .inr (8, [.ref q0, .ref q1, .ref q2, .ref q3, .ref q4, .ref q5, .ref q6, .ref q7, .ref q8, .int 0, .int 0, .int 300, .int 0, .int 2])), (q0, .inl (cI, 16, .inl (fun _ => 0))), (q1, .inl (cI, 16, .inl (fun _ => 0))), (q2, .inl (cI, 16, .inl (fun _ => 0))), (q3, .inl (cZ, 16, .inl (fun _ => 0))), (q4, .inl (cI, 16, .inl (fun _ => 0))), (q5, .inl (cI, 16, .inl (fun _ => 0))), (q6, .inl (cI, 8, .inl (fun _ => 0))), (q7, .inl (cI, 128, .inl (fun _ => 0))), (q8, .inl (cI, 64, .inl (fun _ => 0)))] H := hP
  have hD : va_D A [(h0, .inr (8, [.ref q0, .ref q1, .ref q2, .ref q3, .ref q4, .ref q5, .ref q6, .ref q7, .ref q8, .int 0, .int 0, .int 300, .int 0, .int 2])), (q0, .inl (cI, 16, .inl (fun _ => 0))), (q1, .inl (cI, 16, .inl (fun _ => 0))), (q2, .inl (cI, 16, .inl (fun _ => 0))), (q3, .inl (cZ, 16, .inl (fun _ => 0))), (q4, .inl (cI, 16, .inl (fun _ => 0))), (q5, .inl (cI, 16, .inl (fun _ => 0))), (q6, .inl (cI, 8, .inl (fun _ => 0))), (q7, .inl (cI, 128, .inl (fun _ => 0))), (q8, .inl (cI, 64, .inl (fun _ => 0)))] := hD
  refine lv_aload_n hx hb dX8_init_104 rfl (lv_at hl 0 rfl) ?_
  refine va_get (D := D) (ci := 8) (v := .ref q8) (C := RX8) (T := TX8) (N := 14) hx hb hts (cls_ws (ci := 8) rfl) hown hK hP 0 rfl rfl 8 (by decide) (hts _ gw_115) (fun _ h9 => h9) rfl dX8_init_105 ?_
  refine lv_ldc (own := RX8) (v := 1000000) hx hb hown (hts _ gw_103) dX8_init_108 ?_
  have hPc := hP.sub (ws' := [(q8, .inl (cI, 64, .inl (fun _ => 0)))]) [9] rfl
  have hDc := hD.sub (ws' := [(q8, .inl (cI, 64, .inl (fun _ => 0)))]) [9] (by decide) rfl
  have hFc := va_free (wc := [(q8, .inl (cI, 64, .inl (fun _ => 0)))]) hD hS hA [9] rfl
  refine va_callv (va_runS (As := [.ref q8, .int 1000000]) (rest := []) ⟨hx, hb, hml, hown, hts⟩ (k_fill l D cI cZ cB q8 H.size (fun _ => 0) 1000000) (va_cwS 2 hts gi_fill rfl rfl rfl ⟨by decide, by decide, by decide +kernel⟩ ⟨Nat.le_of_ble_eq_true rfl, Nat.le_of_ble_eq_true rfl⟩) ⟨fun a U g mk q => by obtain ⟨q0, q1, qP, qK, qD⟩ := q; exact ⟨q0, q1, qP, va_K.moved (u := U) (U := U.calling g mk a) (Vm.Alike.refl U.vm) qK, qD⟩, fun U hU hW => ⟨rfl, by rw [hU], by rw [hU]; exact hPc, va_K.moved hW.alike hK, hDc.weaken (fun _ _ _ _ => trivial)⟩⟩ rfl rfl hl.1 rfl (lv_room (Nat.le_of_ble_eq_true rfl)) dX8_init_110 ⟨Nat.le_of_ble_eq_true rfl, Nat.le_of_ble_eq_true rfl⟩) hS (fun q _ h => hFc q h) hFc (fun u t H1 locs ht hvm hw hB hz1 hk1 hS => ?_)
  obtain ⟨hP1, hD1⟩ := hB
  rw [ht] at hP1
  obtain ⟨hP, hD⟩ := va_join (wr := [(h0, .inr (8, [.ref q0, .ref q1, .ref q2, .ref q3, .ref q4, .ref q5, .ref q6, .ref q7, .ref q8, .int 0, .int 0, .int 300, .int 0, .int 2])), (q0, .inl (cI, 16, .inl (fun _ => 0))), (q1, .inl (cI, 16, .inl (fun _ => 0))), (q2, .inl (cI, 16, .inl (fun _ => 0))), (q3, .inl (cZ, 16, .inl (fun _ => 0))), (q4, .inl (cI, 16, .inl (fun _ => 0))), (q5, .inl (cI, 16, .inl (fun _ => 0))), (q6, .inl (cI, 8, .inl (fun _ => 0))), (q7, .inl (cI, 128, .inl (fun _ => 0)))]) (w1 := [(q8, .inl (cI, 64, .inl u))]) hP hD [9] [0, 1, 2, 3, 4, 5, 6, 7, 8] rfl rfl (by decide) (by decide) hk1 hFc hP1 hD1
  generalize H1 = H at hP hS ⊢
  refine W.widen (k := 9) (n := 296) (by decide) (by decide) ?_
  have loop : ∀ (r i : Nat) (f : Nat → Int32) (H : Heap) (locs : List Loc) (ls : Array Slot), i + r = 8 → (∀ j, j < 64 → f j = if j % 9 = 0 ∧ j < 9 * i then 0 else 1000000) → va_P D clsL [(h0, .inr (8, [.ref q0, .ref q1, .ref q2, .ref q3, .ref q4, .ref q5, .ref q6, .ref q7, .ref q8, .int 0, .int 0, .int 300, .int 0, .int 2])), (q0, .inl (cI, 16, .inl (fun _ => 0))), (q1, .inl (cI, 16, .inl (fun _ => 0))), (q2, .inl (cI, 16, .inl (fun _ => 0))), (q3, .inl (cZ, 16, .inl (fun _ => 0))), (q4, .inl (cI, 16, .inl (fun _ => 0))), (q5, .inl (cI, 16, .inl (fun _ => 0))), (q6, .inl (cI, 8, .inl (fun _ => 0))), (q7, .inl (cI, 128, .inl (fun _ => 0))), (q8, .inl (cI, 64, .inl (f)))] H → va_D A [(h0, .inr (8, [.ref q0, .ref q1, .ref q2, .ref q3, .ref q4, .ref q5, .ref q6, .ref q7, .ref q8, .int 0, .int 0, .int 300, .int 0, .int 2])), (q0, .inl (cI, 16, .inl (fun _ => 0))), (q1, .inl (cI, 16, .inl (fun _ => 0))), (q2, .inl (cI, 16, .inl (fun _ => 0))), (q3, .inl (cZ, 16, .inl (fun _ => 0))), (q4, .inl (cI, 16, .inl (fun _ => 0))), (q5, .inl (cI, 16, .inl (fun _ => 0))), (q6, .inl (cI, 8, .inl (fun _ => 0))), (q7, .inl (cI, 128, .inl (fun _ => 0))), (q8, .inl (cI, 64, .inl (f)))] → va_S A s.heap H locs → lv_has ls 2 [(1, .int (Int32.ofNat i)), (0, .ref h0)] → W p l e ({ frames := 3, cells := 9, slots := 296, locals := 60 } : Room) s m #[.ref h0] below meth c H locs 9 296 (MQ below (va_Qv (fun u : List Nat × (Nat → Int32) => ∀ j, j < 64 → u.2 j = if j % 9 = 0 then 0 else 1000000) (fun u t => va_P D clsL (wX8 cI cZ cB h0 u) t.heap ∧ va_D A (wX8 cI cZ cB h0 u)) A) #[.ref h0] s 9 296 A) (F0 m 115 ls []) := by
    intro r
    induction r with
    | zero =>
      intro i f H locs ls hi hf hP hD hS hl
      have hi8 : i = 8 := hi
      refine lv_iload_n hx hb dX8_init_115 rfl (lv_at hl 0 rfl) ?_
      refine lv_bipush (v := 8) hx hb dX8_init_116 (by decide) ?_
      refine lv_icmp_ge (tgt := 139) hx hb dX8_init_118 rfl (fun _ => ?_) (fun h => absurd ((i8 ⟨i, by omega⟩).1.mpr (by simp only; omega)) h)
      have hfin : ∀ j, j < 64 → f j = if j % 9 = 0 then 0 else 1000000 := fun j hj => by
        rw [hf j hj]
        by_cases q : j % 9 = 0
        · rw [if_pos q, if_pos ⟨q, by omega⟩]
        · rw [if_neg q, if_neg (fun h => q h.1)]
      exact W.vret hx hb hr (fun t ht hW => ⟨⟨([q0, q1, q2, q3, q4, q5, q6, q7, q8], f), rfl, hfin, by rw [ht]; exact hP, hD⟩, hS.F ht⟩) hS.2.2 dX8_init_139
    | succ r ih =>
      intro i f H locs ls hi hf hP hD hS hl
      have hi8 : i < 8 := by omega
      obtain ⟨c1, c2, c3, c4⟩ := i8 ⟨i, by omega⟩
      simp only at c1 c2 c3 c4
      refine lv_iload_n hx hb dX8_init_115 rfl (lv_at hl 0 rfl) ?_
      refine lv_bipush (v := 8) hx hb dX8_init_116 (by decide) ?_
      refine lv_icmp_ge (tgt := 139) hx hb dX8_init_118 rfl (fun h => absurd (c1.mp h) (by omega)) (fun _ => ?_)
      refine lv_aload_n hx hb dX8_init_121 rfl (lv_at hl 1 rfl) ?_
      refine va_get (D := D) (ci := 8) (v := .ref q8) (C := RX8) (T := TX8) (N := 14) hx hb hts (cls_ws (ci := 8) rfl) hown hK hP 0 rfl rfl 8 (by decide) (hts _ gw_115) (fun _ h9 => h9) rfl dX8_init_122 ?_
      refine lv_iload_n hx hb dX8_init_125 rfl (lv_at hl 0 rfl) ?_
      refine lv_bipush (v := 8) hx hb dX8_init_126 (by decide) ?_
      refine lv_imul hx hb dX8_init_128 ?_
      refine lv_iload_n hx hb dX8_init_129 rfl (lv_at hl 0 rfl) ?_
      refine lv_iadd hx hb dX8_init_130 ?_
      refine lv_iconst (v := 0) hx hb dX8_init_131 (by decide) ?_
      refine va_iast hx hb hK hP hD hS 9 0 rfl rfl (c2 hi8) dX8_init_132 (fun H1 locs1 hP1 hD1 hS1 => ?_)
      rw [c3 hi8] at hP1 hD1
      refine lv_iinc (k := 0) (lv' := [(1, .int (Int32.ofNat (i + 1))), (0, .ref h0)]) hx hb dX8_init_133 hl rfl c4 (by decide) rfl (fun ls' hl' => ?_)
      refine lv_goto (tgt := 115) hx hb dX8_init_136 rfl ?_
      refine ih (i + 1) (upd f (9 * i) 0) H1 locs1 ls' (by omega) (fun j hj => ?_) hP1 hD1 hS1 hl'
      rw [upd_at', hf j hj]
      by_cases q : j = 9 * i
      · rw [if_pos q, if_pos (by omega)]
      · rw [if_neg q]
        by_cases q2 : j % 9 = 0 ∧ j < 9 * i
        · rw [if_pos q2, if_pos (by omega)]
        · rw [if_neg q2, if_neg (by omega)]
  refine lv_iconst (v := 0) hx hb dX8_init_113 (by decide) ?_
  refine lv_istore_n (lv' := [(1, .int 0), (0, .ref h0)]) hx hb dX8_init_114 rfl hl (by decide) rfl (fun ls hl => ?_)
  exact loop 8 0 u _ _ _ rfl (fun j hj => by rw [hw j hj, if_neg (by omega)]) hP hD hS hl
