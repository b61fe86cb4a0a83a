theorem zip_ex {α β : Type} {L : List α} {P : List β} (hlen : L.length ≤ P.length) {e : α} (h : e ∈ L) : ∃ q, (e, q) ∈ L.zip P := by
  obtain ⟨i, hi⟩ := List.getElem?_of_mem h
  have h1 : i < L.length := (List.getElem?_eq_some_iff.mp hi).1
  have h2 : i < P.length := Nat.lt_of_lt_of_le h1 hlen
  exact ⟨P[i], List.mem_of_getElem? (i := i) (List.getElem?_zip_eq_some.mpr ⟨hi, List.getElem?_eq_getElem h2⟩)⟩
theorem flk_ok {c idx ci j : Nat} (h : lkp flkL c idx = some (ci, j)) : ∃ C T N, clsL[ci]? = some (C, T, N) ∧ j < N ∧ Cond.fieldLink (cnm c) idx (T j).1 (T j).2.1 (T j).2.2.1 ∈ gt := by
  obtain ⟨q, hq⟩ := zip_ex (P := flkP) (by rw [lens_ok.1]; exact Nat.le_refl _) (lkp_mem h)
  have h1 := List.all_eq_true.mp flk_all _ hq
  unfold chkF at h1
  dsimp only at h1
  cases hc : clsL[ci]? with
  | none => rw [hc] at h1; cases h1
  | some r =>
    obtain ⟨C, T, N⟩ := r
    rw [hc] at h1
    simp only [Bool.and_eq_true, decide_eq_true_eq] at h1
    exact ⟨C, T, N, rfl, h1.1, inAt_gt h1.2⟩
theorem cls_lt {ci : Nat} {q : vw_C} (h : clsL[ci]? = some q) : ci < 11 := (List.getElem?_eq_some_iff.mp h).1
theorem cls_ws {ci : Nat} {C : String} {T : u_T} {N : Nat} (h : clsL[ci]? = some (C, T, N)) : ∀ w ∈ u_ws C T N, w ∈ gt := by
  intro w hw
  have h1 := List.all_eq_true.mp cls_all ci (List.mem_range.mpr (cls_lt h))
  unfold chkC at h1
  rw [h] at h1
  exact inT_gt (List.all_eq_true.mp h1 w hw)
theorem cls_ty {ci : Nat} {C : String} {T : u_T} {N : Nat} (h : clsL[ci]? = some (C, T, N)) : (∀ k, k < N → parseFieldDescriptor (T k).2.2.1 = some (tyf ci k)) ∧ (∀ a, a < N → ∀ b, b < N → a ≠ b → (T a).2.1 ≠ (T b).2.1) ∧ C = cnm ci := by
  match ci, h with
  | 0, h => cases h; exact ⟨tyX0_ok, nmX0, rfl⟩
  | 1, h => cases h; exact ⟨tyX1_ok, nmX1, rfl⟩
  | 2, h => cases h; exact ⟨tyX2_ok, nmX2, rfl⟩
  | 3, h => cases h; exact ⟨tyX3_ok, nmX3, rfl⟩
  | 4, h => cases h; exact ⟨tyX4_ok, nmX4, rfl⟩
  | 5, h => cases h; exact ⟨tyX5_ok, nmX5, rfl⟩
  | 6, h => cases h; exact ⟨tyX6_ok, nmX6, rfl⟩
  | 7, h => cases h; exact ⟨tyX7_ok, nmX7, rfl⟩
  | 8, h => cases h; exact ⟨tyX8_ok, nmX8, rfl⟩
  | 9, h => cases h; exact ⟨tyX9_ok, nmX9, rfl⟩
  | 10, h => cases h; exact ⟨tyX10_ok, nmX10, rfl⟩
  | k + 11, h => exact absurd (cls_lt h) (by omega)
theorem gt_good {w : Cond} (h : w ∈ gt) : w ∈ gt ∧ ((w.onTables && w.keeps) = true ∨ ∃ ty, w = .arrayClass ty) := ⟨h, good_of_word (List.mem_filter.mp h).2⟩
theorem mi_at {y : Nat} (h : y < lawN) : (mtab.take 208)[y]? = some (mi y) := by
  have h2 : y < mtab.length := by rw [mtab_len]; exact Nat.lt_of_lt_of_le h (by decide)
  rw [List.getElem?_take, if_pos (show y < 208 from h)]
  unfold mi
  rw [List.getD_eq_getElem?_getD, List.getElem?_eq_getElem h2]
  rfl
theorem met_ok {y : Nat} (h : y < lawN) : ∃ ps, chkM (mi y) ps = true := by
  obtain ⟨q, hq⟩ := zip_ex (L := mtab.take 208) (P := metP) (by rw [lens_ok.2.2, List.length_take, mtab_len]; decide) (List.mem_of_getElem? (mi_at h))
  exact ⟨q, List.all_eq_true.mp met_all _ hq⟩
theorem cod_ch {a y : Nat} (h : ((metP.drop a).take 26).map (fun ps => lw_tbl[ps.getD 0 0]?) = (((mtab.take 208).drop a).take 26).map (fun q => some (Cond.code q.1 q.2.1 q.2.2.1 q.2.2.2.1))) (h1 : a ≤ y) (h2 : y < a + 26) (h3 : y < lawN) : Cond.code (nmo y) (cdo y) (mxl y) (rto y) ∈ gt := by
  have e := congrArg (fun L => L[y - a]?) h
  have e2 : ((((mtab.take 208).drop a).take 26).map (fun q => some (Cond.code q.1 q.2.1 q.2.2.1 q.2.2.2.1)))[y - a]? = some (some (Cond.code (nmo y) (cdo y) (mxl y) (rto y))) := by
    rw [List.getElem?_map, List.getElem?_take, if_pos (by omega), List.getElem?_drop, show a + (y - a) = y by omega, mi_at h3]
    rfl
  rw [e2, List.getElem?_map] at e
  cases hp : ((metP.drop a).take 26)[y - a]? with
  | none => rw [hp] at e; cases e
  | some ps =>
    rw [hp] at e
    exact List.mem_filter.mpr ⟨List.mem_of_getElem? (Option.some.inj e), rfl⟩
theorem cod_ok {y : Nat} (h : y < lawN) : Cond.code (nmo y) (cdo y) (mxl y) (rto y) ∈ gt := by
  have h3 : y < 208 := h
  by_cases c0 : y < 26
  · exact cod_ch cod_0 (by omega) (by omega) h
  by_cases c1 : y < 52
  · exact cod_ch cod_1 (by omega) (by omega) h
  by_cases c2 : y < 78
  · exact cod_ch cod_2 (by omega) (by omega) h
  by_cases c3 : y < 104
  · exact cod_ch cod_3 (by omega) (by omega) h
  by_cases c4 : y < 130
  · exact cod_ch cod_4 (by omega) (by omega) h
  by_cases c5 : y < 156
  · exact cod_ch cod_5 (by omega) (by omega) h
  by_cases c6 : y < 182
  · exact cod_ch cod_6 (by omega) (by omega) h
  · exact cod_ch cod_7 (by omega) (by omega) h
theorem mlk_ok {c idx y' : Nat} (h : lkp mlkL c idx = some y') : ∃ q, chkL ((c, idx), y') q = true := by
  obtain ⟨q, hq⟩ := zip_ex (P := mlkP) (by rw [lens_ok.2.1]; exact Nat.le_refl _) (lkp_mem h)
  exact ⟨q, List.all_eq_true.mp mlk_all _ hq⟩
section VR3
variable {l : Launch} {g : GG} {S : Scr} {y pc n : Nat} {lv : Lcs} {st : List AV} {σ : Sto} {post : Pst}
theorem celO {o ci : Nat} {ks : List Nat} (h : oshp o = some (ci, ks)) : (cel g σ)[o]? = some (g.1 o, .inr (ci, ks.mapIdx (fun j t => fvv g σ o j t))) := cel_at (oshp_at h)
theorem V_getf {o idx ci j t : Nat} {ks : List Nat} {v : AV} (hl0 : lkp flkL (clo y) idx = some (ci, j)) (ho : oshp o = some (ci, ks)) (ht : ks[j]? = some t) (hv : fvv g σ o j t = cv g v) (hok : okσ σ → okv v) (hd : decode (cdo y) pc = .ok (.getfield idx, 3)) (kk : Vj l g S y (pc + 3) lv (v :: st) σ post) : Vj l g S y pc lv (vr o :: st) σ post := by
  refine V_st kk (fun _ h hs => okS_cons.mpr ⟨hok hs, okt1 h⟩) ?_
  intro p e s m args below meth c Q A H locs ls C X hW
  obtain ⟨hP, hD, hS, hl, okl, oks, oksg⟩ := id X
  rw [List.map_cons, cv_r (oshp_lt ho)]
  obtain ⟨Cn, T, N, h1, h2, h3⟩ := flk_ok hl0
  refine va_get C.1 C.2.1 C.2.2.2.2.2.2.1 (cls_ws h1) C.2.2.2.2.2.1 C.2.2.2.2.2.2.2.1.1 hP o (celO ho) h1 j h2 (C.2.2.2.2.2.2.1 _ h3) (fun _ h => h) (v := cv g v) ?_ hd hW
  rw [List.getElem?_mapIdx, ht, ← hv]
  rfl
theorem V_getS {o idx : Nat} {v : AV} (hy : clo y = 11) (ho : 1000 ≤ o ∧ o < 1011) (hv : (idx = 9 ∧ v = vr (o + 1000)) ∨ (idx = 15 ∧ v = vi 0)) (hd : decode (cdo y) pc = .ok (.getfield idx, 3)) (kk : Vj l g S y (pc + 3) lv (v :: st) σ post) : Vj l g S y pc lv (vr o :: st) σ post := by
  refine V_st kk (fun _ h hs => okS_cons.mpr ⟨by
    rcases hv with ⟨-, rfl⟩ | ⟨-, rfl⟩
    · trivial
    · show inR 0; unfold inR; omega, okt1 h⟩) ?_
  intro p e s m args below meth c Q A H locs ls C X hW
  obtain ⟨hP, hD, hS, hl, okl, oks, oksg⟩ := id X
  rw [List.map_cons, cv_r (by omega)]
  have hT := C.2.2.2.2.2.2.2.1.2.1.1 (o - 1000) (by omega)
  dsimp only at hT
  rw [show 1000 + (o - 1000) = o by omega, show 2000 + (o - 1000) = o + 1000 by omega] at hT
  have hown := C.2.2.2.2.2.1
  rw [hy] at hown
  have hsp := spc_all
  simp only [Bool.and_eq_true] at hsp
  rcases hv with ⟨rfl, rfl⟩ | ⟨rfl, rfl⟩
  · refine vk_getf C.1 C.2.1 hT.2.2.1 hS hown (C.2.2.2.2.2.2.1 _ (inT_gt hsp.1.1.1.2)) (fun _ h => h) hd ?_
    rw [List.map_cons, cv_r (by omega)] at hW
    exact hW
  · exact vk_getf C.1 C.2.1 hT.2.1 hS hown (C.2.2.2.2.2.2.1 _ (inT_gt hsp.1.1.2)) (fun _ h => h) hd hW
theorem V_gets {idx : Nat} {v : AV} (hy : clo y = 11) (hv : (idx = 38 ∧ v = vi 1) ∨ (idx = 1053 ∧ v = vr 4000)) (hd : decode (cdo y) pc = .ok (.getstatic idx, 3)) (kk : Vj l g S y (pc + 3) lv (v :: st) σ post) : Vj l g S y pc lv st σ post := by
  refine V_st kk (fun _ h hs => okS_cons.mpr ⟨by
    rcases hv with ⟨-, rfl⟩ | ⟨-, rfl⟩
    · show inR 1; unfold inR; omega
    · trivial, h⟩) ?_
  intro p e s m args below meth c Q A H locs ls C X hW
  obtain ⟨hP, hD, hS, hl, okl, oks, oksg⟩ := id X
  have hown := C.2.2.2.2.2.1
  rw [hy] at hown
  have hsp := spc_all
  simp only [Bool.and_eq_true] at hsp
  rcases hv with ⟨rfl, rfl⟩ | ⟨rfl, rfl⟩
  · exact va_gets C.1 C.2.1 C.2.2.2.2.2.2.2.1.2.2.2.1 hS hown (C.2.2.2.2.2.2.1 _ (inT_gt hsp.1.2)) (fun _ h => h) hd hW
  · exact va_gets C.1 C.2.1 C.2.2.2.2.2.2.2.1.2.2.2.2.1 hS hown (C.2.2.2.2.2.2.1 _ (inT_gt hsp.2)) (fun _ h => h) hd hW
theorem V_putI {o idx ci j : Nat} {ks : List Nat} {x : Int} (hl0 : lkp flkL (clo y) idx = some (ci, j)) (ho : oshp o = some (ci, ks)) (ht : ks[j]? = some 0) (hf : finf ci j = false) (hty : tyf ci j = .int ∨ (tyf ci j = .boolean ∧ (x = 0 ∨ x = 1))) (hd : decode (cdo y) pc = .ok (.putfield idx, 3)) (kk : Vj l g S y (pc + 3) lv st (si σ (64 * o + j) x) post) : Vj l g S y pc lv (vi x :: vr o :: st) σ post := by
  refine V_gen kk (fun g1 g2 g3 => ⟨g1, okt2 g2, okσ_si g3 (ok1 g2)⟩) ?_
  intro p e s m args below meth c Q A H locs ls C X hW
  obtain ⟨hP, hD, hS, hl, okl, oks, oksg⟩ := id X
  rw [List.map_cons, List.map_cons, cv_r (oshp_lt ho)]
  obtain ⟨Cn, T, N, h1, h2, h3⟩ := flk_ok hl0
  obtain ⟨t1, t2, t3⟩ := cls_ty h1
  have hfin : (T j).2.2.2 = false := by
    unfold finf at hf
    rw [h1] at hf
    exact hf
  have hnf : narrow (tyf ci j) (.int (Int32.ofInt x)) = .int (Int32.ofInt x) ∧ fits (tyf ci j) (.int (Int32.ofInt x)) = true := by
    rcases hty with e | ⟨e, rfl | rfl⟩ <;> rw [e]
    · exact ⟨rfl, rfl⟩
    · exact ⟨by decide, by decide⟩
    · exact ⟨by decide, by decide⟩
  refine va_put C.1 C.2.1 C.2.2.2.2.2.2.1 (cls_ws h1) (tyf ci) t1 t2 C.2.2.2.2.2.1 C.2.2.2.2.2.2.2.1.1 hP hD hS o (celO ho) h1 j h2 (C.2.2.2.2.2.2.1 _ h3) (fun _ h => h) hfin (t1 j h2) hnf.1 hnf.2 (by rw [List.length_mapIdx]; exact (List.getElem?_eq_some_iff.mp ht).1) hd ?_
  intro H1 locs1 hP1 hD1 hS1
  rw [show cv g (vi x) = Value.int (Int32.ofInt x) from rfl, ← cel_si (oshp_at ho) ht] at hP1 hD1
  exact hW H1 locs1 ls hP1 hD1 hS1 hl
theorem V_putL {o idx ci j : Nat} {ks : List Nat} {x : Int} (hl0 : lkp flkL (clo y) idx = some (ci, j)) (ho : oshp o = some (ci, ks)) (ht : ks[j]? = some 1) (hf : finf ci j = false) (hty : tyf ci j = .long) (hd : decode (cdo y) pc = .ok (.putfield idx, 3)) (kk : Vj l g S y (pc + 3) lv st (sl σ (64 * o + j) x) post) : Vj l g S y pc lv (vl x :: vr o :: st) σ post := by
  refine V_gen kk (fun g1 g2 g3 => ⟨g1, okt2 g2, okσ_sl g3 (ok1 g2)⟩) ?_
  intro p e s m args below meth c Q A H locs ls C X hW
  obtain ⟨hP, hD, hS, hl, okl, oks, oksg⟩ := id X
  rw [List.map_cons, List.map_cons, cv_r (oshp_lt ho)]
  obtain ⟨Cn, T, N, h1, h2, h3⟩ := flk_ok hl0
  obtain ⟨t1, t2, t3⟩ := cls_ty h1
  have hfin : (T j).2.2.2 = false := by
    unfold finf at hf
    rw [h1] at hf
    exact hf
  have hnf : narrow (tyf ci j) (.long (Int64.ofInt x)) = .long (Int64.ofInt x) ∧ fits (tyf ci j) (.long (Int64.ofInt x)) = true := by
    rw [hty]
    exact ⟨rfl, rfl⟩
  refine va_put C.1 C.2.1 C.2.2.2.2.2.2.1 (cls_ws h1) (tyf ci) t1 t2 C.2.2.2.2.2.1 C.2.2.2.2.2.2.2.1.1 hP hD hS o (celO ho) h1 j h2 (C.2.2.2.2.2.2.1 _ h3) (fun _ h => h) hfin (t1 j h2) hnf.1 hnf.2 (by rw [List.length_mapIdx]; exact (List.getElem?_eq_some_iff.mp ht).1) hd ?_
  intro H1 locs1 hP1 hD1 hS1
  rw [show cv g (vl x) = Value.long (Int64.ofInt x) from rfl, ← cel_sl (oshp_at ho) ht] at hP1 hD1
  exact hW H1 locs1 ls hP1 hD1 hS1 hl
theorem con_ok {c idx : Nat} {v : Int} (h : lkp conL c idx = some v) : Cond.constant (cnm c) idx (Int32.ofInt v) ∈ gt ∧ inR v := by
  have h1 := List.all_eq_true.mp con_all _ (lkp_mem h)
  simp only [Bool.and_eq_true, decide_eq_true_eq] at h1
  exact ⟨inT_gt h1.1, h1.2⟩
theorem col_ok {c idx : Nat} {v : Int} (h : lkp colL c idx = some v) : Cond.constantLong (cnm c) idx (Int64.ofInt v) ∈ gt ∧ inL v := by
  have h1 := List.all_eq_true.mp col_all _ (lkp_mem h)
  simp only [Bool.and_eq_true, decide_eq_true_eq] at h1
  exact ⟨inT_gt h1.1, h1.2⟩
theorem V_ldcI {idx : Nat} {v : Int} (hc : lkp conL (clo y) idx = some v) (hd : decode (cdo y) pc = .ok (.ldc idx, 2)) (kk : Vj l g S y (pc + 2) lv (vi v :: st) σ post) : Vj l g S y pc lv st σ post := by
  refine V_st kk (fun _ h _ => okS_cons.mpr ⟨(con_ok hc).2, h⟩) ?_
  intro p e s m args below meth c Q A H locs ls C X hW
  obtain ⟨hP, hD, hS, hl, okl, oks, oksg⟩ := id X
  exact lv_ldc C.1 C.2.1 C.2.2.2.2.2.1 (C.2.2.2.2.2.2.1 _ (con_ok hc).1) hd hW
theorem V_ldcw {idx : Nat} {v : Int} (hc : lkp conL (clo y) idx = some v) (hd : decode (cdo y) pc = .ok (.ldc_w idx, 3)) (kk : Vj l g S y (pc + 3) lv (vi v :: st) σ post) : Vj l g S y pc lv st σ post := by
  refine V_st kk (fun _ h _ => okS_cons.mpr ⟨(con_ok hc).2, h⟩) ?_
  intro p e s m args below meth c Q A H locs ls C X hW
  obtain ⟨hP, hD, hS, hl, okl, oks, oksg⟩ := id X
  exact lv_ldcw C.1 C.2.1 C.2.2.2.2.2.1 (C.2.2.2.2.2.2.1 _ (con_ok hc).1) hd hW
theorem V_ldc2 {idx : Nat} {v : Int} (hc : lkp colL (clo y) idx = some v) (hd : decode (cdo y) pc = .ok (.ldc2_w idx, 3)) (kk : Vj l g S y (pc + 3) lv (vl v :: st) σ post) : Vj l g S y pc lv st σ post := by
  refine V_st kk (fun _ h _ => okS_cons.mpr ⟨(col_ok hc).2, h⟩) ?_
  intro p e s m args below meth c Q A H locs ls C X hW
  obtain ⟨hP, hD, hS, hl, okl, oks, oksg⟩ := id X
  exact lv_ldc2 C.1 C.2.1 C.2.2.2.2.2.1 (C.2.2.2.2.2.2.1 _ (col_ok hc).1) hd hW
theorem V_ldcS {idx j : Nat} (hy : clo y = 2) (hj : j < 11) (hi : sIdx.getD j 0 = idx) (hd : decode (cdo y) pc = .ok (.ldc idx, 2)) (kk : Vj l g S y (pc + 2) lv (vr (1000 + j) :: st) σ post) : Vj l g S y pc lv st σ post := by
  refine V_st kk (fun _ h _ => okS_cons.mpr ⟨trivial, h⟩) ?_
  intro p e s m args below meth c Q A H locs ls C X hW
  obtain ⟨hP, hD, hS, hl, okl, oks, oksg⟩ := id X
  have hown := C.2.2.2.2.2.1
  rw [hy] at hown
  have hR := C.2.2.2.2.2.2.2.1.2.2.1 j hj
  rw [hi] at hR
  rw [List.map_cons, cv_r (by omega)] at hW
  exact va_ldcS C.1 C.2.1 hown hR hd hW
theorem cat_sum {st : List AV} (hg : g.2.2.2.category = 1) : ((st.map (cv g)).map fun v => v.category).sum = catS st := by
  unfold catS
  rw [List.map_map]
  congr 1
  apply List.map_congr_left
  intro v _
  exact cv_cat hg v
theorem V_mmin {a b : Int} {idx : Nat} (hm : lkp mlkL (clo y) idx = some 900) (hr : 1 ≤ fro y ∧ catS st + 13 ≤ loo y) (hd : decode (cdo y) pc = .ok (.invokestatic idx, 3)) (kk : Vj l g S y (pc + 3) lv (vi (minF a b) :: st) σ post) : Vj l g S y pc lv (vi b :: vi a :: st) σ post := by
  refine V_st kk (fun _ h _ => okS_cons.mpr ⟨by
    show inR (minF a b)
    unfold minF
    split
    · exact ok1 h
    · exact ok2 h, okt2 h⟩) ?_
  intro p e s m args below meth c Q A H locs ls C X hW
  obtain ⟨hP, hD, hS, hl, okl, oks, oksg⟩ := id X
  obtain ⟨q, hq⟩ := mlk_ok hm
  have hsp := spc_all
  simp only [Bool.and_eq_true] at hsp
  have hts := C.2.2.2.2.2.2.1
  refine va_mmin C.1 C.2.1 (C.2.2.2.2.1.trans hl.1.symm) C.2.2.2.2.2.1 (hts _ (inAt_gt hq)) (hts _ (inT_gt hsp.1.1.1.1.1.1.1.1.1)) (hts _ (inT_gt hsp.1.1.1.1.1.1.1.2)) (hts _ (List.mem_filter.mpr ⟨List.mem_of_getElem? cod_min, rfl⟩)) (by rw [rmo_fr]; exact hr.1) (by rw [cat_sum C.2.2.2.2.2.2.2.1.2.2.2.2.2.1, rmo_lo]; exact hr.2) (rmo_ce y).1 (rmo_ce y).2 hd ?_
  have e1 : (if Int32.ofInt b < Int32.ofInt a then Int32.ofInt b else Int32.ofInt a) = Int32.ofInt (minF a b) := by
    unfold minF
    by_cases h : b < a
    · rw [if_pos h, if_pos ((of_lt (ok1 oks) (ok2 oks)).mpr h)]
    · rw [if_neg h, if_neg (fun q => h ((of_lt (ok1 oks) (ok2 oks)).mp q))]
  rw [e1]
  exact hW
theorem V_mmax {a b : Int} {idx : Nat} (hm : lkp mlkL (clo y) idx = some 901) (hr : 1 ≤ fro y ∧ catS st + 13 ≤ loo y) (hd : decode (cdo y) pc = .ok (.invokestatic idx, 3)) (kk : Vj l g S y (pc + 3) lv (vi (maxF a b) :: st) σ post) : Vj l g S y pc lv (vi b :: vi a :: st) σ post := by
  refine V_st kk (fun _ h _ => okS_cons.mpr ⟨by
    show inR (maxF a b)
    unfold maxF
    split
    · exact ok1 h
    · exact ok2 h, okt2 h⟩) ?_
  intro p e s m args below meth c Q A H locs ls C X hW
  obtain ⟨hP, hD, hS, hl, okl, oks, oksg⟩ := id X
  obtain ⟨q, hq⟩ := mlk_ok hm
  have hsp := spc_all
  simp only [Bool.and_eq_true] at hsp
  have hts := C.2.2.2.2.2.2.1
  refine va_mmax C.1 C.2.1 (C.2.2.2.2.1.trans hl.1.symm) C.2.2.2.2.2.1 (hts _ (inAt_gt hq)) (hts _ (inT_gt hsp.1.1.1.1.1.1.1.1.2)) (hts _ (inT_gt hsp.1.1.1.1.1.1.1.2)) (hts _ (List.mem_filter.mpr ⟨List.mem_of_getElem? cod_max, rfl⟩)) (by rw [rmo_fr]; exact hr.1) (by rw [cat_sum C.2.2.2.2.2.2.2.1.2.2.2.2.2.1, rmo_lo]; exact hr.2) (rmo_ce y).1 (rmo_ce y).2 hd ?_
  have e1 : (if Int32.ofInt a < Int32.ofInt b then Int32.ofInt b else Int32.ofInt a) = Int32.ofInt (maxF a b) := by
    unfold maxF
    by_cases h : a < b
    · rw [if_pos h, if_pos ((of_lt (ok2 oks) (ok1 oks)).mpr h)]
    · rw [if_neg h, if_neg (fun q => h ((of_lt (ok2 oks) (ok1 oks)).mp q))]
  rw [e1]
  exact hW
theorem V_copy {n dp sp : Int} {a b n0 n1 idx : Nat} (hm : lkp mlkL (clo y) idx = some 902) (ha : ashp a = some (0, n1)) (hb : ashp b = some (0, n0)) (h1 : 0 ≤ sp) (h2 : 0 ≤ dp) (h3 : 0 ≤ n) (h4 : sp + n ≤ (n0 : Int)) (h5 : dp + n ≤ (n1 : Int)) (hr : 1 ≤ fro y ∧ catS st + (nativeFrameWords "java/lang/System" "arraycopy" 5 + 11) ≤ loo y) (hd : decode (cdo y) pc = .ok (.invokestatic idx, 3)) (kk : Vj l g S y (pc + 3) lv st (sf σ a (va_cpy (ga σ b) (ga σ a) sp.toNat dp.toNat n.toNat)) post) : Vj l g S y pc lv (vi n :: vi dp :: vr a :: vi sp :: vr b :: st) σ post := by
  refine V_gen kk (fun g1 g2 g3 => ⟨g1, okt1 (okt2 (okt2 g2)), okσ_sf g3 (fun i => by
    unfold va_cpy
    split
    · exact g3.2.1 _ _
    · exact g3.2.1 _ _)⟩) ?_
  intro p e s m args below meth c Q A H locs ls C X hW
  obtain ⟨hP, hD, hS, hl, okl, oks, oksg⟩ := id X
  rw [List.map_cons, List.map_cons, List.map_cons, List.map_cons, List.map_cons, cv_r (ashp_lt ha), cv_r (ashp_lt hb)]
  obtain ⟨q, hq⟩ := mlk_ok hm
  have hsp := spc_all
  simp only [Bool.and_eq_true] at hsp
  have hts := C.2.2.2.2.2.2.1
  have r1 : inR n := ok1 oks
  have r2 : inR dp := ok2 oks
  have r3 : inR sp := ok1 (okt1 (okt2 oks))
  have nn : ∀ {x : Int}, inR x → 0 ≤ x → ¬ Int32.ofInt x < 0 := fun {x} hx h0 h => by
    have := (of_lt hx (by unfold inR; omega : inR 0)).mp h
    omega
  refine va_copyi C.1 C.2.1 (C.2.2.2.2.1.trans hl.1.symm) C.2.2.2.2.2.1 (hts _ (inAt_gt hq)) (hts _ (inT_gt hsp.1.1.1.1.1.1.2)) (hts _ (inT_gt hsp.1.1.1.1.1.2)) (hts _ (inT_gt hsp.1.1.1.1.2)) C.2.2.2.2.2.2.2.1.1 hP hD hS b a 0 0 (celA hb) (celA ha) tys0 tys0 rfl (nn r3 h1) (nn r2 h2) (nn r1 h3) (by rw [cl_nat r3, cl_nat r1]; omega) (by rw [cl_nat r2, cl_nat r1]; omega) (fun i _ => rfl) (by rw [rmo_fr]; exact hr.1) (by rw [cat_sum C.2.2.2.2.2.2.2.1.2.2.2.2.2.1, rmo_lo]; exact hr.2) hd ?_
  intro H1 locs1 hP1 hD1 hS1
  have e1 : cel g (sf σ a (va_cpy (ga σ b) (ga σ a) sp.toNat dp.toNat n.toNat)) = (cel g σ).set a (g.1 a, .inl (g.2.2.1 0, n1, .inl (va_cpy (fun i => Int32.ofInt (ga σ b i)) (fun i => Int32.ofInt (ga σ a i)) (Int32.ofInt sp).toNatClampNeg (Int32.ofInt dp).toNatClampNeg (Int32.ofInt n).toNatClampNeg))) := by
    rw [cel_sf (ashp_at ha), cl_nat r1, cl_nat r2, cl_nat r3]
    congr 5
    refine congrArg Sum.inl (funext fun j => ?_)
    unfold va_cpy
    split <;> rfl
  rw [← e1] at hP1 hD1
  exact hW H1 locs1 ls hP1 hD1 hS1 hl
end VR3
