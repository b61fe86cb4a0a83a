section VR2
variable {l : Launch} {g : GG} {S : Scr} {y pc n : Nat} {lv : Lcs} {st : List AV} {σ : Sto} {post : Pst}
theorem tg_ok {off : Int} (h : 0 ≤ (pc : Int) + off) : (pc : Int) + off = ((((pc : Int) + off).toNat : Nat) : Int) := by omega
theorem V_goto {off : Int} (h0 : 0 ≤ (pc : Int) + off) (hd : decode (cdo y) pc = .ok (.goto off, 3)) (k : Vj l g S y ((pc : Int) + off).toNat lv st σ post) : Vj l g S y pc lv st σ post := by
  refine V_st k (fun _ h _ => h) ?_
  intro p e s m args below meth c Q A H locs ls C X hW
  obtain ⟨hP, hD, hS, hl, okl, oks, oksg⟩ := id X
  exact lv_goto C.1 C.2.1 hd (tg_ok h0) hW
theorem V_if1 {c : Jvm.ClassFile.Cond} {off a : Int} (h00 : 0 ≤ (pc : Int) + off) (hd : decode (cdo y) pc = .ok (.ifCond c off, 3)) (kt : cmpF c a 0 = true → Vj l g S y ((pc : Int) + off).toNat lv st σ post) (kf : ¬ cmpF c a 0 = true → Vj l g S y (pc + 3) lv st σ post) : Vj l g S y pc lv (vi a :: st) σ post := by
  intro A p e s m args below meth c0 Q C Rt H locs ls X
  obtain ⟨hP, hD, hS, hl, okl, oks, oksg⟩ := id X
  have ha : inR a := ok1 oks
  have h0 : inR 0 := by unfold inR; omega
  have X' : WdG g y A s lv st σ H locs ls := ⟨hP, hD, hS, hl, okl, okt1 oks, oksg⟩
  have KT : cmpF c a 0 = true → W p l e (rmo y) s m args below meth c0 H locs (cso y) (sso y) Q (F0 m ((pc : Int) + off).toNat ls (st.map (cv g))) := fun h => kt h A p e s m args below meth c0 Q C Rt H locs ls X'
  have KF : ¬ cmpF c a 0 = true → W p l e (rmo y) s m args below meth c0 H locs (cso y) (sso y) Q (F0 m (pc + 3) ls (st.map (cv g))) := fun h => kf h A p e s m args below meth c0 Q C Rt H locs ls X'
  have ht := tg_ok h00
  cases c <;> simp only [cmpF, decide_eq_true_eq] at KT KF
  · exact lv_if_eq C.1 C.2.1 hd ht (fun h => KT ((of_eq ha h0).mp h)) (fun h => KF (fun e => h ((of_eq ha h0).mpr e)))
  · exact lv_if_ne C.1 C.2.1 hd ht (fun h => KT (fun e => h ((of_eq ha h0).mpr e))) (fun h => KF (fun e => e ((of_eq ha h0).mp h)))
  · exact lv_if_lt C.1 C.2.1 hd ht (fun h => KT ((of_lt ha h0).mp h)) (fun h => KF (fun e => h ((of_lt ha h0).mpr e)))
  · exact lv_if_ge C.1 C.2.1 hd ht (fun h => KT ((of_le h0 ha).mp h)) (fun h => KF (fun e => h ((of_le h0 ha).mpr e)))
  · exact lv_if_gt C.1 C.2.1 hd ht (fun h => KT ((of_lt h0 ha).mp h)) (fun h => KF (fun e => h ((of_lt h0 ha).mpr e)))
  · exact lv_if_le C.1 C.2.1 hd ht (fun h => KT ((of_le ha h0).mp h)) (fun h => KF (fun e => h ((of_le ha h0).mpr e)))
theorem V_if2 {c : Jvm.ClassFile.Cond} {off a b : Int} (h00 : 0 ≤ (pc : Int) + off) (hd : decode (cdo y) pc = .ok (.if_icmp c off, 3)) (kt : cmpF c a b = true → Vj l g S y ((pc : Int) + off).toNat lv st σ post) (kf : ¬ cmpF c a b = true → Vj l g S y (pc + 3) lv st σ post) : Vj l g S y pc lv (vi b :: vi a :: st) σ post := by
  intro A p e s m args below meth c0 Q C Rt H locs ls X
  obtain ⟨hP, hD, hS, hl, okl, oks, oksg⟩ := id X
  have ha : inR a := ok2 oks
  have h0 : inR b := ok1 oks
  have X' : WdG g y A s lv st σ H locs ls := ⟨hP, hD, hS, hl, okl, okt2 oks, oksg⟩
  have KT : cmpF c a b = true → W p l e (rmo y) s m args below meth c0 H locs (cso y) (sso y) Q (F0 m ((pc : Int) + off).toNat ls (st.map (cv g))) := fun h => kt h A p e s m args below meth c0 Q C Rt H locs ls X'
  have KF : ¬ cmpF c a b = true → W p l e (rmo y) s m args below meth c0 H locs (cso y) (sso y) Q (F0 m (pc + 3) ls (st.map (cv g))) := fun h => kf h A p e s m args below meth c0 Q C Rt H locs ls X'
  have ht := tg_ok h00
  cases c <;> simp only [cmpF, decide_eq_true_eq] at KT KF
  · exact lv_icmp_eq C.1 C.2.1 hd ht (fun h => KT ((of_eq ha h0).mp h)) (fun h => KF (fun e => h ((of_eq ha h0).mpr e)))
  · exact lv_icmp_ne C.1 C.2.1 hd ht (fun h => KT (fun e => h ((of_eq ha h0).mpr e))) (fun h => KF (fun e => e ((of_eq ha h0).mp h)))
  · exact lv_icmp_lt C.1 C.2.1 hd ht (fun h => KT ((of_lt ha h0).mp h)) (fun h => KF (fun e => h ((of_lt ha h0).mpr e)))
  · exact lv_icmp_ge C.1 C.2.1 hd ht (fun h => KT ((of_le h0 ha).mp h)) (fun h => KF (fun e => h ((of_le h0 ha).mpr e)))
  · exact lv_icmp_gt C.1 C.2.1 hd ht (fun h => KT ((of_lt h0 ha).mp h)) (fun h => KF (fun e => h ((of_lt h0 ha).mpr e)))
  · exact lv_icmp_le C.1 C.2.1 hd ht (fun h => KT ((of_le ha h0).mp h)) (fun h => KF (fun e => h ((of_le ha h0).mpr e)))
theorem V_tabOut {d lo hi a : Int} {offs : Array Int} (h : a < lo ∨ hi < a) (h0 : 0 ≤ (pc : Int) + d) (hd : decode (cdo y) pc = .ok (.tableswitch d lo hi offs, n)) (k : Vj l g S y ((pc : Int) + d).toNat lv st σ post) : Vj l g S y pc lv (vi a :: st) σ post := by
  refine V_st k (fun _ h _ => okt1 h) ?_
  intro p e s m args below meth c Q A H locs ls C X hW
  obtain ⟨hP, hD, hS, hl, okl, oks, oksg⟩ := id X
  exact lv_tableOut C.1 C.2.1 hd (by rw [toI (ok1 oks)]; exact h) (tg_ok h0) hW
theorem V_tabIn {d lo hi a off : Int} {offs : Array Int} (h : ¬ (a < lo ∨ hi < a)) (ho : offs[(a - lo).toNat]? = some off) (h0 : 0 ≤ (pc : Int) + off) (hd : decode (cdo y) pc = .ok (.tableswitch d lo hi offs, n)) (k : Vj l g S y ((pc : Int) + off).toNat lv st σ post) : Vj l g S y pc lv (vi a :: st) σ post := by
  refine V_st k (fun _ h _ => okt1 h) ?_
  intro p e s m args below meth c Q A H locs ls C X hW
  obtain ⟨hP, hD, hS, hl, okl, oks, oksg⟩ := id X
  exact lv_tableIn C.1 C.2.1 hd (by rw [toI (ok1 oks)]; omega) (by rw [toI (ok1 oks)]; omega) (by rw [toI (ok1 oks)]; exact ho) (tg_ok h0) hW
theorem V_lku {d a : Int} {ps : Array (Int × Int)} (hp : (ps.toList.zip (ps.toList.drop 1)).all (fun (x, next) => x.1 < next.1) = true) (h0 : 0 ≤ (pc : Int) + Op.lookupswitch.offset ps.toList d a) (hd : decode (cdo y) pc = .ok (.lookupswitch d ps, n)) (k : Vj l g S y ((pc : Int) + Op.lookupswitch.offset ps.toList d a).toNat lv st σ post) : Vj l g S y pc lv (vi a :: st) σ post := by
  refine V_st k (fun _ h _ => okt1 h) ?_
  intro p e s m args below meth c Q A H locs ls C X hW
  obtain ⟨hP, hD, hS, hl, okl, oks, oksg⟩ := id X
  exact lv_lookup C.1 C.2.1 hd hp (by rw [toI (ok1 oks)]) (tg_ok h0) hW
theorem tys0 : (tysG g)[0]? = some (g.2.2.1 0, .int) := rfl
theorem tys1 : (tysG g)[1]? = some (g.2.2.1 1, .boolean) := rfl
theorem tys2 : (tysG g)[2]? = some (g.2.2.1 2, .byte) := rfl
theorem celA {a t k : Nat} (h : ashp a = some (t, k)) : (cel g σ)[a]? = some (g.1 a, .inl (g.2.2.1 t, k, .inl (fun i => Int32.ofInt (ga σ a i)))) := cel_at (ashp_at h)
theorem ashp_lt {a t k : Nat} (h : ashp a = some (t, k)) : ¬ a = 4000 := by
  have h1 := (List.getElem?_eq_some_iff.mp (ashp_at h)).1
  have h2 : shp.length = 82 := by decide +kernel
  omega
theorem oshp_lt {o ci : Nat} {ks : List Nat} (h : oshp o = some (ci, ks)) : ¬ o = 4000 := by
  have h1 := (List.getElem?_eq_some_iff.mp (oshp_at h)).1
  have h2 : shp.length = 82 := by decide +kernel
  omega
theorem V_iald {a k : Nat} {i : Int} (ha : ashp a = some (0, k)) (h0 : 0 ≤ i) (h1 : i < (k : Int)) (hd : decode (cdo y) pc = .ok (.iaload, 1)) (kk : Vj l g S y (pc + 1) lv (vi (ga σ a i.toNat) :: st) σ post) : Vj l g S y pc lv (vi i :: vr a :: st) σ post := by
  refine V_st kk (fun _ h hs => okS_cons.mpr ⟨hs.2.1 _ _, okt2 h⟩) ?_
  intro p e s m args below meth c Q A H locs ls C X hW
  obtain ⟨hP, hD, hS, hl, okl, oks, oksg⟩ := id X
  rw [List.map_cons, List.map_cons, cv_r (ashp_lt ha)]
  refine va_iald C.1 C.2.1 C.2.2.2.2.2.2.2.1.1 hP a 0 (celA ha) tys0 (in_vp (ok1 oks) h0 h1) hd ?_
  rw [cl_nat (ok1 oks)]
  exact hW
theorem V_ialdS {i : Int} (hy : y = lawN) (h0 : 0 ≤ i) (h1 : i < (S.2 : Int)) (hd : decode (cdo y) pc = .ok (.iaload, 1)) (kk : Vj l g S y (pc + 1) lv (vi (S.1 i.toNat) :: st) σ post) : Vj l g S y pc lv (vi i :: vr 3000 :: st) σ post := by
  intro A p e s m args below meth c Q C Rt H locs ls X
  obtain ⟨hP, hD, hS, hl, okl, oks, oksg⟩ := id X
  have hW := kk A p e s m args below meth c Q C Rt H locs ls ⟨hP, hD, hS, hl, okl, okS_cons.mpr ⟨C.2.2.2.2.2.2.2.1.2.2.2.2.2.2.1 _, okt2 oks⟩, oksg⟩
  obtain ⟨hX, hb, hbA⟩ := C.2.2.2.2.2.2.2.1.2.2.2.2.2.2.2.2 hy
  rw [List.map_cons, List.map_cons, cv_r (by omega)]
  refine va_sld C.1 C.2.1 hX hb hbA hS (in_vp (ok1 oks) h0 h1) hd ?_
  rw [cl_nat (ok1 oks)]
  exact hW
theorem V_balS {a : Nat} {i : Int} (ha : 2000 ≤ a ∧ a < 2011) (h0 : 0 ≤ i) (h1 : i < (sLen.getD (a - 2000) 0 : Int)) (hd : decode (cdo y) pc = .ok (.baload, 1)) (kk : Vj l g S y (pc + 1) lv (vi ((sByt.getD (a - 2000) []).getD i.toNat 0).toInt :: st) σ post) : Vj l g S y pc lv (vi i :: vr a :: st) σ post := by
  refine V_st kk (fun _ h hs => okS_cons.mpr ⟨inR_32 _, okt2 h⟩) ?_
  intro p e s m args below meth c Q A H locs ls C X hW
  obtain ⟨hP, hD, hS, hl, okl, oks, oksg⟩ := id X
  rw [List.map_cons, List.map_cons, cv_r (by omega)]
  have hT := (C.2.2.2.2.2.2.2.1.2.1.1 (a - 2000) (by omega)).2.2.2
  dsimp only at hT
  rw [show 2000 + (a - 2000) = a by omega] at hT
  refine va_tb C.1 C.2.1 hT hS (in_vp (ok1 oks) h0 h1) rfl hd ?_
  rw [cl_nat (ok1 oks)]
  have hW : W p l e (rmo y) s m args below meth c H locs (cso y) (sso y) Q (F0 m (pc + 1) ls (.int (Int32.ofInt ((sByt.getD (a - 2000) []).getD i.toNat 0).toInt) :: st.map (cv g))) := hW
  rw [Int32.ofInt_toInt] at hW
  exact hW
theorem V_bald {a k t : Nat} {i : Int} (ha : ashp a = some (t, k)) (ht : t = 1 ∨ t = 2) (h0 : 0 ≤ i) (h1 : i < (k : Int)) (hd : decode (cdo y) pc = .ok (.baload, 1)) (kk : Vj l g S y (pc + 1) lv (vi (ga σ a i.toNat) :: st) σ post) : Vj l g S y pc lv (vi i :: vr a :: st) σ post := by
  refine V_st kk (fun _ h hs => okS_cons.mpr ⟨hs.2.1 _ _, okt2 h⟩) ?_
  intro p e s m args below meth c Q A H locs ls C X hW
  obtain ⟨hP, hD, hS, hl, okl, oks, oksg⟩ := id X
  rw [List.map_cons, List.map_cons, cv_r (ashp_lt ha)]
  rcases ht with rfl | rfl
  · refine va_zald C.1 C.2.1 C.2.2.2.2.2.2.2.1.1 hP a 1 (celA ha) tys1 (in_vp (ok1 oks) h0 h1) hd ?_
    rw [cl_nat (ok1 oks)]
    exact hW
  · refine va_bald C.1 C.2.1 C.2.2.2.2.2.2.2.1.1 hP a 2 (celA ha) tys2 (in_vp (ok1 oks) h0 h1) hd ?_
    rw [cl_nat (ok1 oks)]
    exact hW
theorem okσ_sf {a : Nat} {f : Nat → Int} (h : okσ σ) (hf : ∀ i, inR (f i)) : okσ (sf σ a f) := by
  refine ⟨h.1, fun b i => ?_, h.2.2⟩
  simp only [ga, sf]
  split
  · exact hf i
  · exact h.2.1 b i
theorem okσ_sa {a i : Nat} {x : Int} (h : okσ σ) (hx : inR x) : okσ (sa σ a i x) := okσ_sf h (fun j => by
  split
  · exact hx
  · exact h.2.1 a j)
theorem okσ_si {k : Nat} {x : Int} (h : okσ σ) (hx : inR x) : okσ (si σ k x) := by
  refine ⟨fun j => ?_, h.2.1, h.2.2⟩
  simp only [gi, si]
  split
  · exact hx
  · exact h.1 j
theorem okσ_sl {k : Nat} {x : Int} (h : okσ σ) (hx : inL x) : okσ (sl σ k x) := by
  refine ⟨h.1, h.2.1, fun j => ?_⟩
  simp only [gl, sl]
  split
  · exact hx
  · exact h.2.2 j
theorem celSa {a t k : Nat} {i x : Int} (hi : inR i) (ha : ashp a = some (t, k)) : cel g (sa σ a i.toNat x) = (cel g σ).set a (g.1 a, .inl (g.2.2.1 t, k, .inl (upd (fun j => Int32.ofInt (ga σ a j)) (Int32.ofInt i).toNatClampNeg (Int32.ofInt x)))) := by
  unfold sa
  rw [cel_sf (ashp_at ha), cl_nat hi]
  congr 5
  refine congrArg Sum.inl (funext fun j => ?_)
  unfold upd
  split <;> rfl
theorem V_iast {a k : Nat} {i x : Int} (ha : ashp a = some (0, k)) (h0 : 0 ≤ i) (h1 : i < (k : Int)) (hd : decode (cdo y) pc = .ok (.iastore, 1)) (kk : Vj l g S y (pc + 1) lv st (sa σ a i.toNat x) post) : Vj l g S y pc lv (vi x :: vi i :: vr a :: st) σ post := by
  refine V_gen kk (fun g1 g2 g3 => ⟨g1, okt1 (okt2 g2), okσ_sa g3 (ok1 g2)⟩) ?_
  intro p e s m args below meth c Q A H locs ls C X hW
  obtain ⟨hP, hD, hS, hl, okl, oks, oksg⟩ := id X
  rw [List.map_cons, List.map_cons, List.map_cons, cv_r (ashp_lt ha)]
  refine va_iast C.1 C.2.1 C.2.2.2.2.2.2.2.1.1 hP hD hS a 0 (celA ha) tys0 (in_vp (ok2 oks) h0 h1) hd ?_
  intro H1 locs1 hP1 hD1 hS1
  rw [← celSa (ok2 oks) ha] at hP1 hD1
  exact hW H1 locs1 ls hP1 hD1 hS1 hl
theorem V_bastZ {a k : Nat} {i x : Int} (ha : ashp a = some (1, k)) (h0 : 0 ≤ i) (h1 : i < (k : Int)) (hd : decode (cdo y) pc = .ok (.bastore, 1)) (kk : Vj l g S y (pc + 1) lv st (sa σ a i.toNat (narZ x)) post) : Vj l g S y pc lv (vi x :: vi i :: vr a :: st) σ post := by
  refine V_gen kk (fun g1 g2 g3 => ⟨g1, okt1 (okt2 g2), okσ_sa g3 (inR_32 _)⟩) ?_
  intro p e s m args below meth c Q A H locs ls C X hW
  obtain ⟨hP, hD, hS, hl, okl, oks, oksg⟩ := id X
  rw [List.map_cons, List.map_cons, List.map_cons, cv_r (ashp_lt ha)]
  refine va_zast C.1 C.2.1 C.2.2.2.2.2.2.2.1.1 hP hD hS a 1 (celA ha) tys1 (in_vp (ok2 oks) h0 h1) hd ?_
  intro H1 locs1 hP1 hD1 hS1
  have e1 : vp_nar .boolean (Int32.ofInt x) = Int32.ofInt (narZ x) := by unfold narZ; rw [Int32.ofInt_toInt]
  rw [e1, ← celSa (ok2 oks) ha] at hP1 hD1
  exact hW H1 locs1 ls hP1 hD1 hS1 hl
theorem V_bastB {a k : Nat} {i x : Int} (ha : ashp a = some (2, k)) (h0 : 0 ≤ i) (h1 : i < (k : Int)) (hd : decode (cdo y) pc = .ok (.bastore, 1)) (kk : Vj l g S y (pc + 1) lv st (sa σ a i.toNat (narB x)) post) : Vj l g S y pc lv (vi x :: vi i :: vr a :: st) σ post := by
  refine V_gen kk (fun g1 g2 g3 => ⟨g1, okt1 (okt2 g2), okσ_sa g3 (inR_32 _)⟩) ?_
  intro p e s m args below meth c Q A H locs ls C X hW
  obtain ⟨hP, hD, hS, hl, okl, oks, oksg⟩ := id X
  rw [List.map_cons, List.map_cons, List.map_cons, cv_r (ashp_lt ha)]
  refine va_bast C.1 C.2.1 C.2.2.2.2.2.2.2.1.1 hP hD hS a 2 (celA ha) tys2 (in_vp (ok2 oks) h0 h1) hd ?_
  intro H1 locs1 hP1 hD1 hS1
  have e1 : vp_nar .byte (Int32.ofInt x) = Int32.ofInt (narB x) := by unfold narB; rw [Int32.ofInt_toInt]
  rw [e1, ← celSa (ok2 oks) ha] at hP1 hD1
  exact hW H1 locs1 ls hP1 hD1 hS1 hl
theorem V_alenS (hy : y = lawN) (hd : decode (cdo y) pc = .ok (.arraylength, 1)) (kk : Vj l g S y (pc + 1) lv (vi S.2 :: st) σ post) : Vj l g S y pc lv (vr 3000 :: st) σ post := by
  intro A p e s m args below meth c Q C Rt H locs ls X
  obtain ⟨hP, hD, hS, hl, okl, oks, oksg⟩ := id X
  have hL := C.2.2.2.2.2.2.2.1.2.2.2.2.2.2.2.1
  have hW := kk A p e s m args below meth c Q C Rt H locs ls ⟨hP, hD, hS, hl, okl, okS_cons.mpr ⟨by show inR (S.2 : Int); unfold inR; omega, okt1 oks⟩, oksg⟩
  obtain ⟨hX, hb, hbA⟩ := C.2.2.2.2.2.2.2.1.2.2.2.2.2.2.2.2 hy
  rw [List.map_cons, cv_r (by omega)]
  exact va_slen C.1 C.2.1 hX hb hbA hS hd hW
theorem V_alenT {a : Nat} (ha : 2000 ≤ a ∧ a < 2011) (hd : decode (cdo y) pc = .ok (.arraylength, 1)) (kk : Vj l g S y (pc + 1) lv (vi (sLen.getD (a - 2000) 0 : Nat) :: st) σ post) : Vj l g S y pc lv (vr a :: st) σ post := by
  have hb8 : ∀ j, j < 11 → sLen.getD j 0 < 9 := by decide +kernel
  refine V_st kk (fun _ h hs => okS_cons.mpr ⟨by have := hb8 (a - 2000) (by omega); show inR _; unfold inR; omega, okt1 h⟩) ?_
  intro p e s m args below meth c Q A H locs ls C X hW
  obtain ⟨hP, hD, hS, hl, okl, oks, oksg⟩ := id X
  rw [List.map_cons, cv_r (by omega)]
  have hT := (C.2.2.2.2.2.2.2.1.2.1.1 (a - 2000) (by omega)).2.2.2
  dsimp only at hT
  rw [show 2000 + (a - 2000) = a by omega] at hT
  refine va_tlen C.1 C.2.1 hT hS ?_ hd hW
  rfl
theorem V_alen {a k t : Nat} (ha : ashp a = some (t, k)) (hd : decode (cdo y) pc = .ok (.arraylength, 1)) (kk : Vj l g S y (pc + 1) lv (vi k :: st) σ post) : Vj l g S y pc lv (vr a :: st) σ post := by
  have hk := shp_arr (ashp_at ha)
  refine V_st kk (fun _ h hs => okS_cons.mpr ⟨by have := hk.2; show inR _; unfold inR; simp only at this; omega, okt1 h⟩) ?_
  intro p e s m args below meth c Q A H locs ls C X hW
  obtain ⟨hP, hD, hS, hl, okl, oks, oksg⟩ := id X
  rw [List.map_cons, cv_r (ashp_lt ha)]
  have ht : ∃ ty, (tysG g)[t]? = some (g.2.2.1 t, ty) := by
    have h3 : t < 3 := hk.1
    match t, h3 with
    | 0, _ => exact ⟨_, tys0⟩
    | 1, _ => exact ⟨_, tys1⟩
    | 2, _ => exact ⟨_, tys2⟩
  obtain ⟨ty, ht⟩ := ht
  refine va_alen C.1 C.2.1 C.2.2.2.2.2.2.2.1.1 hP a t (celA ha) ht ?_ hd hW
  rfl
end VR2
