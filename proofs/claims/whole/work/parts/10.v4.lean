def QgG (g : GG) (A : Nat → Prop) (post : Pst) : Array Value → State → Outcome → State → Prop := fun _ st oc t => (∃ (r : Option AV) (σ' : Sto), oc = .returned (r.map (cv g)) ∧ post r σ' ∧ okr r ∧ okσ σ' ∧ va_P g.2.1 clsL (cel g σ') t.heap ∧ va_D A (cel g σ')) ∧ va_F A st t
def PcG (g : GG) (S : Scr) (y : Nat) (as : List AV) (σ : Sto) (sz : Nat) : Array Value → State → Prop := va_Pc (as.map (cv g)) (fun U => U.heap.size = sz ∧ va_P g.2.1 clsL (cel g σ) U.heap ∧ va_D (fun _ => True) (cel g σ) ∧ EnG g S y (va_A (cel g σ) sz) U)
theorem slA_args {g : GG} (hg : g.2.2.2.category = 1) : ∀ (as : List AV) (k i : Nat) (v : AV), (slA as)[i]? = some (some v) → (k + i, cv g v) ∈ lv_args k (as.map (cv g)) := by
  intro as
  induction as with
  | nil => intro k i v h; simp [slA] at h
  | cons a as ih =>
    intro k i v h
    have e : slA (a :: as) = (if catV a = 2 then [some a, none] else [some a]) ++ slA as := by simp [slA]
    rw [e] at h
    rw [List.map_cons]
    simp only [lv_args]
    rw [cv_cat hg]
    by_cases hc : catV a = 2
    · rw [if_pos hc] at h
      rw [if_pos hc]
      match i, h with
      | 0, h =>
        simp at h
        subst h
        exact List.mem_cons_self
      | 1, h => simp at h
      | i + 2, h =>
        simp at h
        have := ih (k + 2) i v h
        rw [show k + (i + 2) = k + 2 + i by omega]
        exact List.mem_cons_of_mem _ this
    · rw [if_neg hc] at h
      rw [if_neg hc]
      match i, h with
      | 0, h =>
        simp at h
        subst h
        exact List.mem_cons_self
      | i + 1, h =>
        simp at h
        have := ih (k + 1) i v h
        rw [show k + (i + 1) = k + 1 + i by omega]
        exact List.mem_cons_of_mem _ this
theorem initL_at {y : Nat} {as : List AV} {i : Nat} {v : AV} (h : (initL y as)[i]? = some (some v)) : (slA as)[i]? = some (some v) := by
  unfold initL at h
  by_cases hi : i < (slA as).length
  · rwa [List.getElem?_append_left hi] at h
  · rw [List.getElem?_append_right (by omega), List.getElem?_replicate] at h
    split at h <;> cases h
theorem slA_mem {v : AV} : ∀ (as : List AV) (i : Nat), (slA as)[i]? = some (some v) → v ∈ as := by
  intro as i h
  have hm := List.mem_of_getElem? h
  unfold slA at hm
  obtain ⟨a, ha, hv⟩ := List.mem_flatMap.mp hm
  split at hv
  · simp at hv; rw [hv]; exact ha
  · simp at hv; rw [hv]; exact ha
theorem lgsl_len {g : GG} (hg : g.2.2.2.category = 1) : ∀ (as : List AV), (lg_sl (as.map (cv g))).length = (slA as).length := by
  intro as
  induction as with
  | nil => rfl
  | cons a as ih =>
    have e : slA (a :: as) = (if catV a = 2 then [some a, none] else [some a]) ++ slA as := by simp [slA]
    have e2 : lg_sl ((a :: as).map (cv g)) = (if (cv g a).category = 2 then [.val (cv g a), .second] else [.val (cv g a)]) ++ lg_sl (as.map (cv g)) := by simp [lg_sl]
    rw [e, e2, cv_cat hg, List.length_append, List.length_append, ih]
    split <;> rfl
theorem ret_nar {ty : FieldType} {x : Int} (h : retOk ty x = true) : narrow ty (.int (Int32.ofInt x)) = .int (Int32.ofInt x) := by
  have hv : ∀ t : FieldType, (∃ z, narrow t (.int (Int32.ofInt x)) = .int z) → vp_nar t (Int32.ofInt x) = Int32.ofInt x → narrow t (.int (Int32.ofInt x)) = .int (Int32.ofInt x) := by
    rintro t ⟨z, hz⟩ he
    unfold vp_nar at he
    rw [hz] at he
    rw [hz]
    exact congrArg Value.int he
  unfold retOk at h
  split at h
  · rfl
  · simp only [decide_eq_true_eq] at h
    rcases h with rfl | rfl <;> decide
  · simp only [decide_eq_true_eq] at h
    exact hv _ ⟨_, rfl⟩ h
  · simp only [decide_eq_true_eq] at h
    exact hv _ ⟨_, rfl⟩ h
  · cases h
section VR4
variable {l : Launch} {g : GG} {S : Scr} {y pc n : Nat} {lv : Lcs} {st : List AV} {σ : Sto} {post : Pst}
theorem V_iret {x : Int} {ty : FieldType} (hr : rto y = some ty) (ho : retOk ty x = true) (hd : decode (cdo y) pc = .ok (.ireturn, 1)) (h : post (some (vi x)) σ) : Vj l g S y pc lv [vi x] σ post := by
  intro A p e s m args below meth c Q C Rt H locs ls X
  obtain ⟨hP, hD, hS, hl, okl, oks, oksg⟩ := id X
  exact Rt (some (vi x)) σ H locs pc ls _ h (fun v hv => by cases hv; exact ok1 oks) oksg hP hD hS (Or.inl ⟨hd, x, ty, rfl, rfl, hr, ret_nar ho⟩)
theorem V_vret (hr : rto y = none) (hd : decode (cdo y) pc = .ok (.return_, 1)) (h : post none σ) : Vj l g S y pc lv [] σ post := by
  intro A p e s m args below meth c Q C Rt H locs ls X
  obtain ⟨hP, hD, hS, hl, okl, oks, oksg⟩ := id X
  exact Rt none σ H locs pc ls _ h (fun v hv => by cases hv) oksg hP hD hS (Or.inr (Or.inl ⟨hd, rfl, rfl, hr⟩))
theorem V_aret {k : Nat} {nm : String} (hr : rto y = some (.object nm)) (hk : k < 1000) (hd : decode (cdo y) pc = .ok (.areturn, 1)) (h : post (some (vr k)) σ) : Vj l g S y pc lv [vr k] σ post := by
  intro A p e s m args below meth c Q C Rt H locs ls X
  obtain ⟨hP, hD, hS, hl, okl, oks, oksg⟩ := id X
  rw [List.map_cons, cv_r (by omega)]
  exact Rt (some (vr k)) σ H locs pc ls _ h (fun v hv => by cases hv; trivial) oksg hP hD hS (Or.inr (Or.inr ⟨hd, k, nm, rfl, hk, rfl, hr⟩))
/-- a method's contract, out of the judgement at its entry -/
theorem Met_of_V {as : List AV} (hy : y < lawN) (hlen : (slA as).length ≤ mxl y) (hg : g.2.2.2.category = 1) (oka : okS as) (hσ : okσ σ) (k : Vj l g S y 0 (initL y as) [] σ post) (sz : Nat) : Met l (nmo y) (Cond.code (nmo y) (cdo y) (mxl y) (rto y) :: gt) (rmo y) (PcG g S y as σ sz) (QgG g (va_A (cel g σ) sz) post) 0 0 (va_A (cel g σ) sz) := by
  have hne : ¬ y = lawN := Nat.ne_of_lt hy
  have e1 : cso y = 0 := by unfold cso; rw [if_neg hne]
  have e2 : sso y = 0 := by unfold sso; rw [if_neg hne]
  obtain ⟨ps, hm⟩ := met_ok hy
  simp only [chkM, Bool.and_eq_true, decide_eq_true_eq] at hm
  refine Met.ofW (cc := cdo y) (maxL := mxl y) (ret := rto y) hm.1.1.1.1.1 rfl ?_
  intro p e s m args below meth c s₁ B hml hv
  obtain ⟨rfl, hsz, hP, hD0, hE⟩ := hv
  have hts := atoms_spec (ws := Cond.code (nmo y) (cdo y) (mxl y) (rto y) :: gt) B.pre
  have hown : s.vm.findClass (nmo y).cls = some m.cls := findClass_of_methodNamed B.named
  have hcn : (nmo y).cls = cnm (clo y) := hm.1.1.2
  rw [hcn] at hown
  subst hsz
  have hD := hD0.self (sz := s.heap.size)
  have hl := lv_entry (as.map (cv g)) (n := mxl y) (by rw [lgsl_len hg]; exact hlen)
  rw [lg_entry_eq]
  have hl' := lv_mono (l' := lvl g (initL y as)) hl (fun q hq => by
    obtain ⟨v, h1, h2⟩ := lvl_mem.mp hq
    have := slA_args hg as 0 q.1 v (initL_at h1)
    rw [Nat.zero_add, ← h2] at this
    exact this)
  have K := k (va_A (cel g σ) s.heap.size) p e s m (as.map (cv g)).toArray below meth c (MQ below (QgG g (va_A (cel g σ) s.heap.size) post) (as.map (cv g)).toArray s 0 0 (va_A (cel g σ) s.heap.size)) ⟨B.exec, B.bytes, B.returns, B.notSynchronized, hml, hown, fun w hw => hts w (List.mem_cons_of_mem _ hw), hE, fun q h => Or.inr h⟩ ?_ s.heap [] _ ⟨hP, hD, va_S.rf, hl', fun i v h => oka v (slA_mem as i (initL_at h)), fun v hv => (by cases hv), hσ⟩
  · rw [e1, e2] at K
    exact K
  · intro r σ' H locs pc' ls' stc hp hr hs hP' hD' hS' hR
    rw [e1, e2]
    rcases hR with ⟨hd, x, ty, rfl, rfl, h1, h2⟩ | ⟨hd, rfl, rfl, h1⟩ | ⟨hd, k', nm, rfl, hk, rfl, h1⟩
    · exact W.zret B.exec B.bytes (B.returns.trans h1) h2 (fun t ht hW => ⟨⟨some (vi x), σ', rfl, hp, hr, hs, by rw [ht]; exact hP', hD'⟩, hS'.F ht⟩) hS'.2.2 hd B.notSynchronized
    · exact W.vret B.exec B.bytes (B.returns.trans h1) (fun t ht hW => ⟨⟨none, σ', rfl, hp, hr, hs, by rw [ht]; exact hP', hD'⟩, hS'.F ht⟩) hS'.2.2 hd B.notSynchronized
    · exact W.aret B.exec B.bytes (B.returns.trans h1) (Or.inl ⟨nm, rfl⟩) (Or.inr ⟨_, rfl⟩) (fun t ht hW => ⟨⟨some (vr k'), σ', by rw [Option.map_some, cv_r (by omega)], hp, hr, hs, by rw [ht]; exact hP', hD'⟩, hS'.F ht⟩) hS'.2.2 hd B.notSynchronized
/-- behind a call -/
theorem vg_call {p : Program} {e : Env} {R : Room} {s : State} {m : MethodId} {args : Array Value} {below : List Frame} {meth : Method} {c : Code} {H : Heap} {locs : List Loc} {cells slots : Nat} {Q : State → Prop} {ls : Array Slot} {rest st0 : List Value} {a : Array Value} {A0 A1 : Nat → Prop} {H0 : Heap} {free : Addr → Prop} {post' : Pst}
    (hr : va_Run p l e R s m args below meth c H locs cells slots 0 0 (F0 m pc ls st0) rest (QgG g A1 post' a) free) (hS : va_S A0 H0 H locs) (hA : ∀ q, q < H.size → A1 q → A0 q) (hf : ∀ q, free q → A0 q)
    (kk : ∀ (r : Option AV) (σ' : Sto) (H1 : Heap) (locs1 : List Loc), post' r σ' → okr r → okσ σ' → va_P g.2.1 clsL (cel g σ') H1 → va_D A1 (cel g σ') → va_S A0 H0 H1 locs1 → W p l e R s m args below meth c H1 locs1 cells slots Q (F0 m (pc + 3) ls ((r.map (cv g)).toList ++ rest))) : W p l e R s m args below meth c H locs cells slots Q (F0 m pc ls st0) := by
  intro T hT X
  obtain ⟨v, st₀, t, T', L, h0, X', hL, e1, e2, ⟨⟨r, σ', hv, hp, hr1, hs1, hP1, hD1⟩, hz, hk⟩, st⟩ := hr T hT X
  cases hv
  rw [h0] at hz hk
  obtain ⟨t2, a1, b1⟩ := kk r σ' T'.heap (locs ++ L) hp hr1 hs1 (by rw [e1]; exact hP1) hD1
    ⟨Nat.le_trans hS.1 (by rw [e1]; exact hz), fun q h1 h2 => by rw [e1, hk q (Nat.lt_of_lt_of_le h1 hS.1) (fun z => h2 (hA q (Nat.lt_of_lt_of_le h1 hS.1) z))]; exact hS.2.1 q h1 h2, fun q hq => by
      rcases List.mem_append.mp hq with h | h
      · exact hS.2.2 q h
      · exact hf _ (hL q h)⟩ T' rfl X'
  exact ⟨t2, st t2 a1, b1⟩
theorem EnG_call {A : Nat → Prop} {s U : State} {H : Heap} {locs : List Loc} {y' : Nat} {B : Nat → Prop} (h : EnG g S y A s) (hS : va_S A s.heap H locs) (hW : s.WarmedH U.vm) (hU : U.heap = H) (hy : ¬ y' = lawN) (hAB : ∀ q, B q → A q) : EnG g S y' B U := by
  obtain ⟨h1, h2, h3, h4, h5, h6, h7, h8, h9⟩ := h
  refine ⟨va_K.moved hW.alike h1, ?_, fun j hj => (h3 j hj).warm hW, ?_, ?_, h6, h7, h8, fun e => absurd e hy⟩
  · rw [hU]; exact ((h2.kept hS.2.1).narrow hAB).moved hW.alike
  · rw [hU]; exact ((h4.kept hS.2.1).narrow hAB).moved hW.alike
  · rw [hU]; exact ((h5.kept hS.2.1).narrow hAB).moved hW.alike
theorem PcG_blind {as : List AV} {sz : Nat} : FrameBlind (PcG g S y as σ sz) := by
  intro a U gg mk q
  obtain ⟨q0, q1, qP, qD, h1, h2, h3, h4, h5, h6⟩ := q
  exact ⟨q0, q1, qP, qD, va_K.moved (u := U) (U := U.calling gg mk a) (Vm.Alike.refl U.vm) h1, vk_S.moved (u := U) (U := U.calling gg mk a) (Vm.Alike.refl U.vm) h2, fun j hj => vk_R.same (u := U) (U := U.calling gg mk a) rfl (h3 j hj), va_Z.moved (u := U) (U := U.calling gg mk a) (Vm.Alike.refl U.vm) h4, va_Z.moved (u := U) (U := U.calling gg mk a) (Vm.Alike.refl U.vm) h5, h6.1, h6.2.1, h6.2.2.1, fun e => by
    obtain ⟨a1, a2, a3⟩ := h6.2.2.2 e
    exact ⟨va_X.moved (u := U) (U := U.calling gg mk a) (Vm.Alike.refl U.vm) a1, a2, a3⟩⟩
theorem room_ok {y' : Nat} (h : roomC y y' = true) : fro y' + 1 ≤ fro y ∧ 8 + (mxl y' + 11) + loo y' ≤ loo y ∧ y' < lawN := by
  simp only [roomC, Bool.and_eq_true, decide_eq_true_eq] at h
  exact ⟨h.1.1, h.1.2, h.2⟩
theorem link_ok {idx y' : Nat} (hm : lkp mlkL (clo y) idx = some y') (h : y' < lawN) : Cond.methodLink (cnm (clo y)) idx (nmo y') ∈ gt := by
  obtain ⟨q, hq⟩ := mlk_ok hm
  unfold chkL at hq
  have hN : lawN = 208 := rfl
  dsimp only at hq
  rw [if_neg (by omega), if_neg (by omega), if_neg (by omega), Bool.and_eq_true] at hq
  exact inAt_gt hq.2
theorem toL_map {r : Option AV} {rest : List AV} : (r.toList ++ rest).map (cv g) = (r.map (cv g)).toList ++ rest.map (cv g) := by
  cases r <;> simp
theorem okr_st {r : Option AV} {rest : List AV} (h : okr r) (hs : okS rest) : okS (r.toList ++ rest) := by
  intro v hv
  rcases List.mem_append.mp hv with h1 | h1
  · exact h v (by simpa using h1)
  · exact hs v h1
theorem rmo_c {y' : Nat} (h : y' < lawN) : (rmo y').cells = 0 ∧ (rmo y').slots = 0 := by
  unfold rmo
  rw [if_neg (Nat.ne_of_lt h)]
  exact ⟨rfl, rfl⟩
theorem V_callV {idx y' o : Nat} {as rest : List AV} {post' : Pst} (hm : lkp mlkL (clo y) idx = some y') (hst : sto y' = false) (hn : as.length = npo y') (hrc : rcls o = some (clo y')) (hroom : roomC y y' = true) (hcat : catS rest ≤ 8) (hsl : (slA (vr o :: as)).length ≤ mxl y') (hd : decode (cdo y) pc = .ok (.invokevirtual idx, 3)) (k1 : Vj l g S y' 0 (initL y' (vr o :: as)) [] σ post') (k2 : ∀ v σ', post' v σ' → Vj l g S y (pc + 3) lv (v.toList ++ rest) σ' post) : Vj l g S y pc lv (as.reverse ++ vr o :: rest) σ post := by
  intro A p e s m args below meth c Q C Rt H locs ls X
  obtain ⟨hP, hD, hS, hl, okl, oks, oksg⟩ := id X
  obtain ⟨hr1, hr2, hr3⟩ := room_ok hroom
  have hE := C.2.2.2.2.2.2.2.1
  have hg := hE.2.2.2.2.2.1
  have hts := C.2.2.2.2.2.2.1
  have oka : okS (vr o :: as) := okS_cons.mpr ⟨trivial, fun v hv => oks v (List.mem_append_left _ (List.mem_reverse.mpr hv))⟩
  have okrest : okS rest := fun v hv => oks v (List.mem_append_right _ (List.mem_cons_of_mem _ hv))
  have hM := Met_of_V hr3 hsl hg oka oksg k1 H.size
  obtain ⟨ps, hmo⟩ := met_ok hr3
  simp only [chkM, Bool.and_eq_true, decide_eq_true_eq] at hmo
  have hst' : (mi y').2.2.2.2.2.2.1 = false := hst
  rw [hst'] at hmo
  simp only [Bool.false_eq_true, if_false, Bool.and_eq_true] at hmo
  have hcn : (nmo y').cls = cnm (clo y') := hmo.1.1.2
  have ho4 : ¬ o = 4000 := by
    unfold rcls at hrc
    split at hrc
    · omega
    · split at hrc
      · next h => exact oshp_lt h
      · cases hrc
  have hrecv : ∃ cellB : Cell, H[g.1 o]? = some cellB ∧ cellB.vm.isStatics = false ∧ s.vm.findClass (nmo y').cls = some cellB.cls := by
    unfold rcls at hrc
    split at hrc
    · next h =>
      have hc11 : clo y' = 11 := (Option.some.inj hrc).symm
      have := vk_recv (i := o - 1000) hE.2.1 (by omega) hS
      rw [show 1000 + (o - 1000) = o by omega] at this
      rw [hcn, hc11]
      exact this
    · split at hrc
      · next ci ks h =>
        have hcc : ci = clo y' := Option.some.inj hrc
        obtain ⟨-, q, hq, -⟩ := shp_obj (oshp_at h)
        have := va_recv hE.1 hP hq (celO h)
        obtain ⟨C0, T0, N0⟩ := q
        rw [(cls_ty hq).2.2] at this
        rw [hcn, ← hcc]
        exact this
      · cases hrc
  have hGI : GoodIn gt (wsV (cnm (clo y)) idx (nmo y').cls (nmo y') (Cond.code (nmo y') (cdo y') (mxl y') (rto y') :: gt)) := by
    intro w hw
    unfold wsV at hw
    rcases List.mem_append.mp hw with h | h
    · simp only [List.mem_cons, List.not_mem_nil, or_false] at h
      rcases h with rfl | rfl | rfl | rfl
      · exact gt_good (link_ok hm hr3)
      · exact gt_good (inAt_gt hmo.2.1)
      · exact gt_good (inAt_gt hmo.2.2)
      · exact gt_good (inAt_gt hmo.1.2)
    · rcases List.mem_cons.mp h with rfl | h
      · exact gt_good (cod_ok hr3)
      · exact gt_good h
  have hF : ∀ q, va_A (cel g σ) H.size q → A q := fun q h => by
    rcases h with ⟨k, e, h⟩ | h
    · exact hD.2 k (q, e) h
    · exact C.2.2.2.2.2.2.2.2 q (Nat.le_trans hS.1 h)
  have hmap : (as.reverse ++ vr o :: rest).map (cv g) = (as.map (cv g)).reverse ++ .ref (g.1 o) :: rest.map (cv g) := by
    rw [List.map_append, List.map_cons, cv_r ho4, List.map_reverse]
  rw [hmap]
  refine vg_call (A1 := va_A (cel g σ) H.size) (va_runV (As := as.map (cv g)) (rest := rest.map (cv g)) (b := g.1 o) (Ts := gt) (own := cnm (clo y)) (C := (nmo y').cls) (nL := mxl y) (n := npo y') ⟨C.1, C.2.1, C.2.2.2.2.1, C.2.2.2.2.2.1, hts⟩ hM (cwV (npo y') hts hGI rfl (rmo_c hr3).1 (rmo_c hr3).2 ⟨rfl, hmo.1.1.1.1.2.1, hmo.1.1.1.1.2.2, hmo.1.1.1.2⟩ ⟨by rw [rmo_fr, rmo_fr]; exact hr1, by rw [rmo_lo, rmo_lo]; exact hr2⟩) ⟨PcG_blind, hrecv, fun U hU hW => ⟨by rw [List.map_cons, cv_r ho4], by rw [hU], by rw [hU]; exact hP, hD.weaken (fun _ _ _ _ => trivial), EnG_call hE hS hW hU (Nat.ne_of_lt hr3) hF⟩⟩ rfl (by rw [List.length_map]; exact hn) hl.1 rfl (lv_room (by rw [cat_sum hg]; exact hcat)) hd ⟨(rmo_ce y).1, (rmo_ce y).2⟩) hS (fun q _ h => hF q h) hF ?_
  intro r σ' H1 locs1 hp hr hs hP1 hD1 hS1
  have K := k2 r σ' hp A p e s m args below meth c Q C Rt H1 locs1 ls ⟨hP1, hD1.weaken (fun _ q _ h => hF q.1 h), hS1, hl, okl, okr_st hr okrest, hs⟩
  rw [toL_map] at K
  exact K
theorem V_callS {idx y' : Nat} {as rest : List AV} {post' : Pst} (hm : lkp mlkL (clo y) idx = some y') (hst : sto y' = true) (hn : as.length = npo y') (hroom : roomC y y' = true) (hcat : catS rest ≤ 8) (hsl : (slA as).length ≤ mxl y') (hd : decode (cdo y) pc = .ok (.invokestatic idx, 3)) (k1 : Vj l g S y' 0 (initL y' as) [] σ post') (k2 : ∀ v σ', post' v σ' → Vj l g S y (pc + 3) lv (v.toList ++ rest) σ' post) : Vj l g S y pc lv (as.reverse ++ rest) σ post := by
  intro A p e s m args below meth c Q C Rt H locs ls X
  obtain ⟨hP, hD, hS, hl, okl, oks, oksg⟩ := id X
  obtain ⟨hr1, hr2, hr3⟩ := room_ok hroom
  have hE := C.2.2.2.2.2.2.2.1
  have hg := hE.2.2.2.2.2.1
  have hts := C.2.2.2.2.2.2.1
  have oka : okS as := fun v hv => oks v (List.mem_append_left _ (List.mem_reverse.mpr hv))
  have okrest : okS rest := fun v hv => oks v (List.mem_append_right _ hv)
  have hM := Met_of_V hr3 hsl hg oka oksg k1 H.size
  obtain ⟨ps, hmo⟩ := met_ok hr3
  simp only [chkM, Bool.and_eq_true, decide_eq_true_eq] at hmo
  have hst' : (mi y').2.2.2.2.2.2.1 = true := hst
  rw [hst'] at hmo
  simp only [if_true] at hmo
  have hGI : GoodIn gt (va_wsS (cnm (clo y)) idx (nmo y') (Cond.code (nmo y') (cdo y') (mxl y') (rto y') :: gt)) := by
    intro w hw
    unfold va_wsS at hw
    rcases List.mem_append.mp hw with h | h
    · simp only [List.mem_cons, List.not_mem_nil, or_false] at h
      rcases h with rfl | rfl | rfl
      · exact gt_good (link_ok hm hr3)
      · exact gt_good (inAt_gt hmo.2)
      · exact gt_good (inAt_gt hmo.1.2)
    · rcases List.mem_cons.mp h with rfl | h
      · exact gt_good (cod_ok hr3)
      · exact gt_good h
  have hF : ∀ q, va_A (cel g σ) H.size q → A q := fun q h => by
    rcases h with ⟨k, e, h⟩ | h
    · exact hD.2 k (q, e) h
    · exact C.2.2.2.2.2.2.2.2 q (Nat.le_trans hS.1 h)
  have hmap : (as.reverse ++ rest).map (cv g) = (as.map (cv g)).reverse ++ rest.map (cv g) := by
    rw [List.map_append, List.map_reverse]
  rw [hmap]
  refine vg_call (A1 := va_A (cel g σ) H.size) (va_runS (As := as.map (cv g)) (rest := rest.map (cv g)) (Ts := gt) (own := cnm (clo y)) (nL := mxl y) (n := npo y') ⟨C.1, C.2.1, C.2.2.2.2.1, C.2.2.2.2.2.1, hts⟩ hM (va_cwS (npo y') hts hGI rfl (rmo_c hr3).1 (rmo_c hr3).2 ⟨hmo.1.1.1.1.2.1, hmo.1.1.1.1.2.2, hmo.1.1.1.2⟩ ⟨by rw [rmo_fr, rmo_fr]; exact hr1, by rw [rmo_lo, rmo_lo]; exact hr2⟩) ⟨PcG_blind, fun U hU hW => ⟨rfl, by rw [hU], by rw [hU]; exact hP, hD.weaken (fun _ _ _ _ => trivial), EnG_call hE hS hW hU (Nat.ne_of_lt hr3) hF⟩⟩ rfl (by rw [List.length_map]; exact hn) hl.1 rfl (lv_room (by rw [cat_sum hg]; exact hcat)) hd ⟨(rmo_ce y).1, (rmo_ce y).2⟩) hS (fun q _ h => hF q h) hF ?_
  intro r σ' H1 locs1 hp hr hs hP1 hD1 hS1
  have K := k2 r σ' hp A p e s m args below meth c Q C Rt H1 locs1 ls ⟨hP1, hD1.weaken (fun _ q _ h => hF q.1 h), hS1, hl, okl, okr_st hr okrest, hs⟩
  rw [toL_map] at K
  exact K
end VR4
