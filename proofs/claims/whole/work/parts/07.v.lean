def rmo (y : Nat) : Room := if y = lawN then room_1 else { frames := fro y, cells := 0, slots := 0, locals := loo y }
def cso (y : Nat) : Nat := if y = lawN then 600000 else 0
def sso (y : Nat) : Nat := if y = lawN then 7302250 else 0
theorem rmo_fr (y : Nat) : (rmo y).frames = fro y := by
  unfold rmo
  split
  · next h => subst h; rfl
  · rfl
theorem rmo_lo (y : Nat) : (rmo y).locals = loo y := by
  unfold rmo
  split
  · next h => subst h; rfl
  · rfl
theorem rmo_ce (y : Nat) : cso y ≤ (rmo y).cells ∧ sso y ≤ (rmo y).slots := by
  unfold rmo cso sso
  split <;> exact ⟨Nat.le_refl _, Nat.le_refl _⟩
def tysG (g : GG) : List (ClassId × FieldType) := [(g.2.2.1 0, .int), (g.2.2.1 1, .boolean), (g.2.2.1 2, .byte)]
/-- what stands beside the cells: the tables of classes, the String constants, two statics; for the law its script -/
def EnG (g : GG) (S : Scr) (y : Nat) (A : Nat → Prop) (s : State) : Prop :=
  va_K g.2.1 clsL (tysG g) s ∧ vk_S 11 sLen sByt (fun j => g.1 (1000 + j)) (fun j => g.1 (2000 + j)) A s s.heap ∧ (∀ j, j < 11 → vk_R RX2 (sIdx.getD j 0) (sTx.getD j "") (g.1 (1000 + j)) s) ∧ va_Z "java/lang/String" "COMPACT_STRINGS" "Z" (.int 1) A s s.heap ∧ va_Z "jdk/internal/util/Preconditions" "SIOOBE_FORMATTER" "Ljava/util/function/BiFunction;" g.2.2.2 A s s.heap ∧ g.2.2.2.category = 1 ∧ (∀ j, inR (S.1 j)) ∧ S.2 < 2147483648 ∧ (y = lawN → va_X (g.1 3000) S.2 (fun i => Int32.ofInt (S.1 i)) s s.heap ∧ g.1 3000 < s.heap.size ∧ ¬ A (g.1 3000))
def CxG (g : GG) (S : Scr) (y : Nat) (A : Nat → Prop) (p : Program) (s : State) (m : MethodId) (args : Array Value) (meth : Method) (c : Code) : Prop :=
  p.tables.exec = Jvm.exec ∧ c.code = cdo y ∧ meth.sig.returnType = rto y ∧ meth.locks = false ∧ c.maxLocals = mxl y ∧ s.vm.findClass (cnm (clo y)) = some m.cls ∧ (∀ w ∈ gt, w.before args s = true) ∧ EnG g S y A s ∧ (∀ q, s.heap.size ≤ q → A q)
def WdG (g : GG) (y : Nat) (A : Nat → Prop) (s : State) (lv : Lcs) (st : List AV) (σ : Sto) (H : Heap) (locs : List Loc) (ls : Array Slot) : Prop :=
  va_P g.2.1 clsL (cel g σ) H ∧ va_D A (cel g σ) ∧ va_S A s.heap H locs ∧ lv_has ls (mxl y) (lvl g lv) ∧ okL lv ∧ okS st ∧ okσ σ
def RkG (g : GG) (y pc : Nat) (r : Option AV) (stc : List Value) : Prop :=
  (decode (cdo y) pc = .ok (.ireturn, 1) ∧ ∃ x ty, r = some (vi x) ∧ stc = [.int (Int32.ofInt x)] ∧ rto y = some ty ∧ narrow ty (.int (Int32.ofInt x)) = .int (Int32.ofInt x)) ∨ (decode (cdo y) pc = .ok (.return_, 1) ∧ r = none ∧ stc = [] ∧ rto y = none) ∨ (decode (cdo y) pc = .ok (.areturn, 1) ∧ ∃ k n, r = some (vr k) ∧ k < 1000 ∧ stc = [.ref (g.1 k)] ∧ rto y = some (.object n))
def okr (r : Option AV) : Prop := ∀ v, r = some v → okv v
def RtG (l : Launch) (g : GG) (y : Nat) (A : Nat → Prop) (p : Program) (e : Env) (s : State) (m : MethodId) (args : Array Value) (below : List Frame) (meth : Method) (c : Code) (Q : State → Prop) (post : Pst) : Prop :=
  ∀ (r : Option AV) (σ' : Sto) (H : Heap) (locs : List Loc) (pc : Nat) (ls : Array Slot) (stc : List Value), post r σ' → okr r → okσ σ' → va_P g.2.1 clsL (cel g σ') H → va_D A (cel g σ') → va_S A s.heap H locs → RkG g y pc r stc → W p l e (rmo y) s m args below meth c H locs (cso y) (sso y) Q (F0 m pc ls stc)
def Vj (l : Launch) (g : GG) (S : Scr) : JX := fun y pc lv st σ post =>
  ∀ (A : Nat → Prop) (p : Program) (e : Env) (s : State) (m : MethodId) (args : Array Value) (below : List Frame) (meth : Method) (c : Code) (Q : State → Prop), CxG g S y A p s m args meth c → RtG l g y A p e s m args below meth c Q post → ∀ (H : Heap) (locs : List Loc) (ls : Array Slot), WdG g y A s lv st σ H locs ls → W p l e (rmo y) s m args below meth c H locs (cso y) (sso y) Q (F0 m pc ls (st.map (cv g)))
section VR
variable {l : Launch} {g : GG} {S : Scr} {y pc n : Nat} {lv : Lcs} {st : List AV} {σ : Sto} {post : Pst}
/-- a step that changes the stack alone -/
theorem V_st {pc' : Nat} {st' : List AV} (k : Vj l g S y pc' lv st' σ post) (hok : okL lv → okS st → okσ σ → okS st')
    (hw : ∀ (p : Program) (e : Env) (s : State) (m : MethodId) (args : Array Value) (below : List Frame) (meth : Method) (c : Code) (Q : State → Prop) (A : Nat → Prop) (H : Heap) (locs : List Loc) (ls : Array Slot), CxG g S y A p s m args meth c → WdG g y A s lv st σ H locs ls → W p l e (rmo y) s m args below meth c H locs (cso y) (sso y) Q (F0 m pc' ls (st'.map (cv g))) → W p l e (rmo y) s m args below meth c H locs (cso y) (sso y) Q (F0 m pc ls (st.map (cv g)))) : Vj l g S y pc lv st σ post := by
  intro A p e s m args below meth c Q C Rt H locs ls X
  obtain ⟨hP, hD, hS, hl, okl, oks, oksg⟩ := id X
  exact hw p e s m args below meth c Q A H locs ls C X (k A p e s m args below meth c Q C Rt H locs ls ⟨hP, hD, hS, hl, okl, hok okl oks oksg, oksg⟩)
theorem ok1 {v : AV} {st : List AV} (h : okS (v :: st)) : okv v := (okS_cons.mp h).1
theorem ok2 {v w : AV} {st : List AV} (h : okS (v :: w :: st)) : okv w := (okS_cons.mp (okS_cons.mp h).2).1
theorem okt1 {v : AV} {st : List AV} (h : okS (v :: st)) : okS st := (okS_cons.mp h).2
theorem okt2 {v w : AV} {st : List AV} (h : okS (v :: w :: st)) : okS st := okt1 (okt1 h)
theorem V_iadd {a b : Int} (hd : decode (cdo y) pc = .ok (.iadd, 1)) (k : Vj l g S y (pc + 1) lv (vi (wr (a + b)) :: st) σ post) : Vj l g S y pc lv (vi b :: vi a :: st) σ post := by
  refine V_st k (fun _ h _ => okS_cons.mpr ⟨inR_wr _, okt2 h⟩) ?_
  intro p e s m args below meth c Q A H locs ls C X hW
  obtain ⟨hP, hD, hS, hl, okl, oks, oksg⟩ := id X
  refine lv_iadd C.1 C.2.1 hd ?_
  rw [of_add (ok2 oks) (ok1 oks)]
  exact hW
theorem V_isub {a b : Int} (hd : decode (cdo y) pc = .ok (.isub, 1)) (k : Vj l g S y (pc + 1) lv (vi (wr (a - b)) :: st) σ post) : Vj l g S y pc lv (vi b :: vi a :: st) σ post := by
  refine V_st k (fun _ h _ => okS_cons.mpr ⟨inR_wr _, okt2 h⟩) ?_
  intro p e s m args below meth c Q A H locs ls C X hW
  obtain ⟨hP, hD, hS, hl, okl, oks, oksg⟩ := id X
  refine lv_isub C.1 C.2.1 hd ?_
  rw [of_sub (ok2 oks) (ok1 oks)]
  exact hW
theorem V_imul {a b : Int} (hd : decode (cdo y) pc = .ok (.imul, 1)) (k : Vj l g S y (pc + 1) lv (vi (wr (a * b)) :: st) σ post) : Vj l g S y pc lv (vi b :: vi a :: st) σ post := by
  refine V_st k (fun _ h _ => okS_cons.mpr ⟨inR_wr _, okt2 h⟩) ?_
  intro p e s m args below meth c Q A H locs ls C X hW
  obtain ⟨hP, hD, hS, hl, okl, oks, oksg⟩ := id X
  refine lv_imul C.1 C.2.1 hd ?_
  rw [of_mul (ok2 oks) (ok1 oks)]
  exact hW
theorem V_iand {a b : Int} (hd : decode (cdo y) pc = .ok (.iand, 1)) (k : Vj l g S y (pc + 1) lv (vi (i2 (· &&& ·) a b) :: st) σ post) : Vj l g S y pc lv (vi b :: vi a :: st) σ post := by
  refine V_st k (fun _ h _ => okS_cons.mpr ⟨inR_32 _, okt2 h⟩) ?_
  intro p e s m args below meth c Q A H locs ls C X hW
  obtain ⟨hP, hD, hS, hl, okl, oks, oksg⟩ := id X
  refine lv_iand C.1 C.2.1 hd ?_
  have hW : W p l e (rmo y) s m args below meth c H locs (cso y) (sso y) Q (F0 m (pc + 1) ls (.int (Int32.ofInt (i2 (· &&& ·) a b)) :: st.map (cv g))) := hW
  rw [i2, Int32.ofInt_toInt] at hW
  exact hW
theorem V_ior {a b : Int} (hd : decode (cdo y) pc = .ok (.ior, 1)) (k : Vj l g S y (pc + 1) lv (vi (i2 (· ||| ·) a b) :: st) σ post) : Vj l g S y pc lv (vi b :: vi a :: st) σ post := by
  refine V_st k (fun _ h _ => okS_cons.mpr ⟨inR_32 _, okt2 h⟩) ?_
  intro p e s m args below meth c Q A H locs ls C X hW
  obtain ⟨hP, hD, hS, hl, okl, oks, oksg⟩ := id X
  refine lv_ior C.1 C.2.1 hd ?_
  have hW : W p l e (rmo y) s m args below meth c H locs (cso y) (sso y) Q (F0 m (pc + 1) ls (.int (Int32.ofInt (i2 (· ||| ·) a b)) :: st.map (cv g))) := hW
  rw [i2, Int32.ofInt_toInt] at hW
  exact hW
theorem V_ixor {a b : Int} (hd : decode (cdo y) pc = .ok (.ixor, 1)) (k : Vj l g S y (pc + 1) lv (vi (i2 (· ^^^ ·) a b) :: st) σ post) : Vj l g S y pc lv (vi b :: vi a :: st) σ post := by
  refine V_st k (fun _ h _ => okS_cons.mpr ⟨inR_32 _, okt2 h⟩) ?_
  intro p e s m args below meth c Q A H locs ls C X hW
  obtain ⟨hP, hD, hS, hl, okl, oks, oksg⟩ := id X
  refine lv_ixor C.1 C.2.1 hd ?_
  have hW : W p l e (rmo y) s m args below meth c H locs (cso y) (sso y) Q (F0 m (pc + 1) ls (.int (Int32.ofInt (i2 (· ^^^ ·) a b)) :: st.map (cv g))) := hW
  rw [i2, Int32.ofInt_toInt] at hW
  exact hW
theorem V_ishl {a b : Int} (hd : decode (cdo y) pc = .ok (.ishl, 1)) (k : Vj l g S y (pc + 1) lv (vi (i2 ishlF a b) :: st) σ post) : Vj l g S y pc lv (vi b :: vi a :: st) σ post := by
  refine V_st k (fun _ h _ => okS_cons.mpr ⟨inR_32 _, okt2 h⟩) ?_
  intro p e s m args below meth c Q A H locs ls C X hW
  obtain ⟨hP, hD, hS, hl, okl, oks, oksg⟩ := id X
  refine lv_ishl C.1 C.2.1 hd ?_
  have hW : W p l e (rmo y) s m args below meth c H locs (cso y) (sso y) Q (F0 m (pc + 1) ls (.int (Int32.ofInt (i2 ishlF a b)) :: st.map (cv g))) := hW
  rw [i2, Int32.ofInt_toInt] at hW
  exact hW
theorem V_ishr {a b : Int} (hd : decode (cdo y) pc = .ok (.ishr, 1)) (k : Vj l g S y (pc + 1) lv (vi (i2 ishrF a b) :: st) σ post) : Vj l g S y pc lv (vi b :: vi a :: st) σ post := by
  refine V_st k (fun _ h _ => okS_cons.mpr ⟨inR_32 _, okt2 h⟩) ?_
  intro p e s m args below meth c Q A H locs ls C X hW
  obtain ⟨hP, hD, hS, hl, okl, oks, oksg⟩ := id X
  refine lv_ishr C.1 C.2.1 hd ?_
  have hW : W p l e (rmo y) s m args below meth c H locs (cso y) (sso y) Q (F0 m (pc + 1) ls (.int (Int32.ofInt (i2 ishrF a b)) :: st.map (cv g))) := hW
  rw [i2, Int32.ofInt_toInt] at hW
  exact hW
theorem V_iushr {a b : Int} (hd : decode (cdo y) pc = .ok (.iushr, 1)) (k : Vj l g S y (pc + 1) lv (vi (i2 iushrF a b) :: st) σ post) : Vj l g S y pc lv (vi b :: vi a :: st) σ post := by
  refine V_st k (fun _ h _ => okS_cons.mpr ⟨inR_32 _, okt2 h⟩) ?_
  intro p e s m args below meth c Q A H locs ls C X hW
  obtain ⟨hP, hD, hS, hl, okl, oks, oksg⟩ := id X
  refine lv_iushr (v := Int32.ofInt (i2 iushrF a b)) C.1 C.2.1 hd ?_ hW
  rw [i2, Int32.ofInt_toInt]
  rfl
theorem V_idiv {a b : Int} (hne : ¬ b = 0) (hd : decode (cdo y) pc = .ok (.idiv, 1)) (k : Vj l g S y (pc + 1) lv (vi (wr (a.tdiv b)) :: st) σ post) : Vj l g S y pc lv (vi b :: vi a :: st) σ post := by
  refine V_st k (fun _ h _ => okS_cons.mpr ⟨inR_wr _, okt2 h⟩) ?_
  intro p e s m args below meth c Q A H locs ls C X hW
  obtain ⟨hP, hD, hS, hl, okl, oks, oksg⟩ := id X
  refine lv_idiv C.1 C.2.1 hd ?_ ?_
  · intro h0
    exact hne ((of_eq (ok1 oks) (by unfold inR; omega)).mp (h0.trans (show (0 : Int32) = Int32.ofInt 0 from rfl)))
  · rw [of_div (ok2 oks) (ok1 oks)]
    exact hW
theorem V_irem {a b : Int} (hne : ¬ b = 0) (hd : decode (cdo y) pc = .ok (.irem, 1)) (k : Vj l g S y (pc + 1) lv (vi (wr (a.tmod b)) :: st) σ post) : Vj l g S y pc lv (vi b :: vi a :: st) σ post := by
  refine V_st k (fun _ h _ => okS_cons.mpr ⟨inR_wr _, okt2 h⟩) ?_
  intro p e s m args below meth c Q A H locs ls C X hW
  obtain ⟨hP, hD, hS, hl, okl, oks, oksg⟩ := id X
  refine lv_irem C.1 C.2.1 hd ?_ ?_
  · intro h0
    exact hne ((of_eq (ok1 oks) (by unfold inR; omega)).mp (h0.trans (show (0 : Int32) = Int32.ofInt 0 from rfl)))
  · rw [of_rem (ok2 oks) (ok1 oks)]
    exact hW
theorem V_ineg {a : Int} (hd : decode (cdo y) pc = .ok (.ineg, 1)) (k : Vj l g S y (pc + 1) lv (vi (wr (-a)) :: st) σ post) : Vj l g S y pc lv (vi a :: st) σ post := by
  refine V_st k (fun _ h _ => okS_cons.mpr ⟨inR_wr _, okt1 h⟩) ?_
  intro p e s m args below meth c Q A H locs ls C X hW
  obtain ⟨hP, hD, hS, hl, okl, oks, oksg⟩ := id X
  refine lv_ineg C.1 C.2.1 hd ?_
  rw [of_neg (ok1 oks)]
  exact hW
theorem V_i2l {a : Int} (hd : decode (cdo y) pc = .ok (.i2l, 1)) (k : Vj l g S y (pc + 1) lv (vl a :: st) σ post) : Vj l g S y pc lv (vi a :: st) σ post := by
  refine V_st k (fun _ h _ => okS_cons.mpr ⟨by have h1 : inR a := ok1 h; unfold inR at h1; show inL a; unfold inL; omega, okt1 h⟩) ?_
  intro p e s m args below meth c Q A H locs ls C X hW
  obtain ⟨hP, hD, hS, hl, okl, oks, oksg⟩ := id X
  refine lv_i2l (v := Int64.ofInt a) C.1 C.2.1 hd ?_ hW
  have h1 : inR a := ok1 oks
  apply Int64.toInt_inj.mp
  rw [Int32.toInt_toInt64, toI h1, toL (by unfold inR at h1; unfold inL; omega)]
theorem V_i2b {a : Int} (hd : decode (cdo y) pc = .ok (.i2b, 1)) (k : Vj l g S y (pc + 1) lv (vi (Int32.ofInt a).toInt8.toInt :: st) σ post) : Vj l g S y pc lv (vi a :: st) σ post := by
  have hr8 : ∀ z : Int8, inR z.toInt := fun z => by
    have h1 := Int8.le_toInt z
    have h2 := Int8.toInt_lt z
    unfold inR; omega
  refine V_st k (fun _ h _ => okS_cons.mpr ⟨hr8 _, okt1 h⟩) ?_
  intro p e s m args below meth c Q A H locs ls C X hW
  obtain ⟨hP, hD, hS, hl, okl, oks, oksg⟩ := id X
  refine lv_i2b (v := Int32.ofInt (Int32.ofInt a).toInt8.toInt) C.1 C.2.1 hd ?_ hW
  apply Int32.toInt_inj.mp
  rw [Int8.toInt_toInt32, toI (hr8 _)]
theorem V_i2c {a : Int} (hd : decode (cdo y) pc = .ok (.i2c, 1)) (k : Vj l g S y (pc + 1) lv (vi ((Int32.ofInt a).toUInt32 % 65536).toInt32.toInt :: st) σ post) : Vj l g S y pc lv (vi a :: st) σ post := by
  refine V_st k (fun _ h _ => okS_cons.mpr ⟨inR_32 _, okt1 h⟩) ?_
  intro p e s m args below meth c Q A H locs ls C X hW
  obtain ⟨hP, hD, hS, hl, okl, oks, oksg⟩ := id X
  refine lv_i2c (v := Int32.ofInt ((Int32.ofInt a).toUInt32 % 65536).toInt32.toInt) C.1 C.2.1 hd ?_ hW
  rw [Int32.ofInt_toInt]
theorem V_ladd {a b : Int} (hd : decode (cdo y) pc = .ok (.ladd, 1)) (k : Vj l g S y (pc + 1) lv (vl (wl (a + b)) :: st) σ post) : Vj l g S y pc lv (vl b :: vl a :: st) σ post := by
  refine V_st k (fun _ h _ => okS_cons.mpr ⟨inL_wl _, okt2 h⟩) ?_
  intro p e s m args below meth c Q A H locs ls C X hW
  obtain ⟨hP, hD, hS, hl, okl, oks, oksg⟩ := id X
  refine lv_ladd C.1 C.2.1 hd ?_
  rw [ol_add (ok2 oks) (ok1 oks)]
  exact hW
theorem V_lsub {a b : Int} (hd : decode (cdo y) pc = .ok (.lsub, 1)) (k : Vj l g S y (pc + 1) lv (vl (wl (a - b)) :: st) σ post) : Vj l g S y pc lv (vl b :: vl a :: st) σ post := by
  refine V_st k (fun _ h _ => okS_cons.mpr ⟨inL_wl _, okt2 h⟩) ?_
  intro p e s m args below meth c Q A H locs ls C X hW
  obtain ⟨hP, hD, hS, hl, okl, oks, oksg⟩ := id X
  refine lv_lsub C.1 C.2.1 hd ?_
  rw [ol_sub (ok2 oks) (ok1 oks)]
  exact hW
theorem V_lmul {a b : Int} (hd : decode (cdo y) pc = .ok (.lmul, 1)) (k : Vj l g S y (pc + 1) lv (vl (wl (a * b)) :: st) σ post) : Vj l g S y pc lv (vl b :: vl a :: st) σ post := by
  refine V_st k (fun _ h _ => okS_cons.mpr ⟨inL_wl _, okt2 h⟩) ?_
  intro p e s m args below meth c Q A H locs ls C X hW
  obtain ⟨hP, hD, hS, hl, okl, oks, oksg⟩ := id X
  refine lv_lmul C.1 C.2.1 hd ?_
  rw [ol_mul (ok2 oks) (ok1 oks)]
  exact hW
theorem V_lor {a b : Int} (hd : decode (cdo y) pc = .ok (.lor, 1)) (k : Vj l g S y (pc + 1) lv (vl (lorF a b) :: st) σ post) : Vj l g S y pc lv (vl b :: vl a :: st) σ post := by
  refine V_st k (fun _ h _ => okS_cons.mpr ⟨inL_64 _, okt2 h⟩) ?_
  intro p e s m args below meth c Q A H locs ls C X hW
  obtain ⟨hP, hD, hS, hl, okl, oks, oksg⟩ := id X
  refine lv_lor C.1 C.2.1 hd ?_
  have hW : W p l e (rmo y) s m args below meth c H locs (cso y) (sso y) Q (F0 m (pc + 1) ls (.long (Int64.ofInt (lorF a b)) :: st.map (cv g))) := hW
  rw [lorF, Int64.ofInt_toInt] at hW
  exact hW
theorem V_lshl {a b : Int} (hd : decode (cdo y) pc = .ok (.lshl, 1)) (k : Vj l g S y (pc + 1) lv (vl (lshlF a b) :: st) σ post) : Vj l g S y pc lv (vi b :: vl a :: st) σ post := by
  refine V_st k (fun _ h _ => okS_cons.mpr ⟨inL_64 _, okt2 h⟩) ?_
  intro p e s m args below meth c Q A H locs ls C X hW
  obtain ⟨hP, hD, hS, hl, okl, oks, oksg⟩ := id X
  refine lv_lshl (v := Int64.ofInt (lshlF a b)) C.1 C.2.1 hd ?_ hW
  rw [lshlF, Int64.ofInt_toInt]
theorem V_lcmp {a b : Int} (hd : decode (cdo y) pc = .ok (.lcmp, 1)) (k : Vj l g S y (pc + 1) lv (vi (lcmpF a b) :: st) σ post) : Vj l g S y pc lv (vl b :: vl a :: st) σ post := by
  refine V_st k (fun _ h _ => okS_cons.mpr ⟨by show inR (lcmpF a b); unfold lcmpF inR; split <;> (try split) <;> omega, okt2 h⟩) ?_
  intro p e s m args below meth c Q A H locs ls C X hW
  obtain ⟨hP, hD, hS, hl, okl, oks, oksg⟩ := id X
  refine W.lcmp C.1 C.2.1 hd ?_
  have ha : inL a := ok2 oks
  have hb : inL b := ok1 oks
  have e1 : lg_cmp (Int64.ofInt a) (Int64.ofInt b) = Int32.ofInt (lcmpF a b) := by
    unfold lg_cmp lcmpF
    have q1 : (Int64.ofInt a > Int64.ofInt b) ↔ b < a := by
      show Int64.ofInt b < Int64.ofInt a ↔ _
      rw [Int64.lt_iff_toInt_lt, toL ha, toL hb]
    have q2 : (Int64.ofInt a = Int64.ofInt b) ↔ a = b := by rw [← Int64.toInt_inj, toL ha, toL hb]
    by_cases h1 : b < a
    · rw [if_pos (q1.mpr h1), if_pos h1]; rfl
    · rw [if_neg (fun h => h1 (q1.mp h)), if_neg h1]
      by_cases h2 : a = b
      · rw [if_pos (q2.mpr h2), if_pos h2]; rfl
      · rw [if_neg (fun h => h2 (q2.mp h)), if_neg h2]; rfl
  rw [e1]
  exact hW
theorem V_iconst {v : Int} (h0 : -128 ≤ v ∧ v < 128) (hd : decode (cdo y) pc = .ok (.iconst v, 1)) (k : Vj l g S y (pc + 1) lv (vi v :: st) σ post) : Vj l g S y pc lv st σ post := by
  refine V_st k (fun _ h _ => okS_cons.mpr ⟨by show inR v; unfold inR; omega, h⟩) ?_
  intro p e s m args below meth c Q A H locs ls C X hW
  obtain ⟨hP, hD, hS, hl, okl, oks, oksg⟩ := id X
  exact lv_iconst C.1 C.2.1 hd rfl hW
theorem V_bipush {v : Int} (h0 : -128 ≤ v ∧ v < 128) (hd : decode (cdo y) pc = .ok (.bipush v, 2)) (k : Vj l g S y (pc + 2) lv (vi v :: st) σ post) : Vj l g S y pc lv st σ post := by
  refine V_st k (fun _ h _ => okS_cons.mpr ⟨by show inR v; unfold inR; omega, h⟩) ?_
  intro p e s m args below meth c Q A H locs ls C X hW
  obtain ⟨hP, hD, hS, hl, okl, oks, oksg⟩ := id X
  refine lv_bipush (v := Int32.ofInt v) C.1 C.2.1 hd ?_ hW
  apply Int32.toInt_inj.mp
  rw [Int8.toInt_toInt32, Int8.toInt_ofInt_of_le h0.1 h0.2, toI (by unfold inR; omega)]
theorem V_sipush {v : Int} (h0 : -32768 ≤ v ∧ v < 32768) (hd : decode (cdo y) pc = .ok (.sipush v, 3)) (k : Vj l g S y (pc + 3) lv (vi v :: st) σ post) : Vj l g S y pc lv st σ post := by
  refine V_st k (fun _ h _ => okS_cons.mpr ⟨by show inR v; unfold inR; omega, h⟩) ?_
  intro p e s m args below meth c Q A H locs ls C X hW
  obtain ⟨hP, hD, hS, hl, okl, oks, oksg⟩ := id X
  refine lv_sipush (v := Int32.ofInt v) C.1 C.2.1 hd ?_ hW
  apply Int32.toInt_inj.mp
  rw [Int16.toInt_toInt32, Int16.toInt_ofInt_of_le h0.1 h0.2, toI (by unfold inR; omega)]
theorem V_lconst {q : Fin 2} (hd : decode (cdo y) pc = .ok (.lconst q, 1)) (k : Vj l g S y (pc + 1) lv (vl q.val :: st) σ post) : Vj l g S y pc lv st σ post := by
  refine V_st k (fun _ h _ => okS_cons.mpr ⟨by show inL q.val; unfold inL; omega, h⟩) ?_
  intro p e s m args below meth c Q A H locs ls C X hW
  obtain ⟨hP, hD, hS, hl, okl, oks, oksg⟩ := id X
  exact lv_lconst C.1 C.2.1 hd rfl hW
theorem V_dup {v : AV} (hc : catV v = 1) (hd : decode (cdo y) pc = .ok (.dup, 1)) (k : Vj l g S y (pc + 1) lv (v :: v :: st) σ post) : Vj l g S y pc lv (v :: st) σ post := by
  refine V_st k (fun _ h _ => okS_cons.mpr ⟨ok1 h, h⟩) ?_
  intro p e s m args below meth c Q A H locs ls C X hW
  obtain ⟨hP, hD, hS, hl, okl, oks, oksg⟩ := id X
  exact lv_dup C.1 C.2.1 hd ((cv_cat C.2.2.2.2.2.2.2.1.2.2.2.2.2.1 v).trans hc) hW
theorem V_dup2 {v w : AV} (hc : catV v = 1) (hc2 : catV w = 1) (hd : decode (cdo y) pc = .ok (.dup2, 1)) (k : Vj l g S y (pc + 1) lv (v :: w :: v :: w :: st) σ post) : Vj l g S y pc lv (v :: w :: st) σ post := by
  refine V_st k (fun _ h _ => okS_cons.mpr ⟨ok1 h, okS_cons.mpr ⟨ok2 h, h⟩⟩) ?_
  intro p e s m args below meth c Q A H locs ls C X hW
  obtain ⟨hP, hD, hS, hl, okl, oks, oksg⟩ := id X
  exact lv_dup2_11 C.1 C.2.1 hd ((cv_cat C.2.2.2.2.2.2.2.1.2.2.2.2.2.1 v).trans hc) ((cv_cat C.2.2.2.2.2.2.2.1.2.2.2.2.2.1 w).trans hc2) hW
theorem V_pop {v : AV} (hc : catV v = 1) (hd : decode (cdo y) pc = .ok (.pop, 1)) (k : Vj l g S y (pc + 1) lv st σ post) : Vj l g S y pc lv (v :: st) σ post := by
  refine V_st k (fun _ h _ => okt1 h) ?_
  intro p e s m args below meth c Q A H locs ls C X hW
  obtain ⟨hP, hD, hS, hl, okl, oks, oksg⟩ := id X
  exact lv_pop C.1 C.2.1 hd ((cv_cat C.2.2.2.2.2.2.2.1.2.2.2.2.2.1 v).trans hc) hW
theorem V_iload {k : Nat} {x : Int} (hk : lv[k]? = some (some (vi x))) (hd : decode (cdo y) pc = .ok (.iload k, 2)) (kk : Vj l g S y (pc + 2) lv (vi x :: st) σ post) : Vj l g S y pc lv st σ post := by
  refine V_st kk (fun h1 h _ => okS_cons.mpr ⟨h1 k _ hk, h⟩) ?_
  intro p e s m args below meth c Q A H locs ls C X hW
  obtain ⟨hP, hD, hS, hl, okl, oks, oksg⟩ := id X
  exact lv_iload C.1 C.2.1 hd (lvl_at hl hk) hW
theorem V_iload_n {k : Fin 4} {x : Int} (hk : lv[k.val]? = some (some (vi x))) (hd : decode (cdo y) pc = .ok (.iload_n k, 1)) (kk : Vj l g S y (pc + 1) lv (vi x :: st) σ post) : Vj l g S y pc lv st σ post := by
  refine V_st kk (fun h1 h _ => okS_cons.mpr ⟨h1 k.val _ hk, h⟩) ?_
  intro p e s m args below meth c Q A H locs ls C X hW
  obtain ⟨hP, hD, hS, hl, okl, oks, oksg⟩ := id X
  exact lv_iload_n C.1 C.2.1 hd rfl (lvl_at hl hk) hW
theorem V_lload {k : Nat} {x : Int} (hk : lv[k]? = some (some (vl x))) (hd : decode (cdo y) pc = .ok (.lload k, 2)) (kk : Vj l g S y (pc + 2) lv (vl x :: st) σ post) : Vj l g S y pc lv st σ post := by
  refine V_st kk (fun h1 h _ => okS_cons.mpr ⟨h1 k _ hk, h⟩) ?_
  intro p e s m args below meth c Q A H locs ls C X hW
  obtain ⟨hP, hD, hS, hl, okl, oks, oksg⟩ := id X
  exact lv_lload C.1 C.2.1 hd (lvl_at hl hk) hW
theorem V_lload_n {k : Fin 4} {x : Int} (hk : lv[k.val]? = some (some (vl x))) (hd : decode (cdo y) pc = .ok (.lload_n k, 1)) (kk : Vj l g S y (pc + 1) lv (vl x :: st) σ post) : Vj l g S y pc lv st σ post := by
  refine V_st kk (fun h1 h _ => okS_cons.mpr ⟨h1 k.val _ hk, h⟩) ?_
  intro p e s m args below meth c Q A H locs ls C X hW
  obtain ⟨hP, hD, hS, hl, okl, oks, oksg⟩ := id X
  exact lv_lload_n C.1 C.2.1 hd rfl (lvl_at hl hk) hW
theorem cv_r {x : Nat} (h : ¬ x = 4000) : cv g (vr x) = .ref (g.1 x) := by simp only [cv]; rw [if_neg h]
theorem V_aload {k x : Nat} (hx : ¬ x = 4000) (hk : lv[k]? = some (some (vr x))) (hd : decode (cdo y) pc = .ok (.aload k, 2)) (kk : Vj l g S y (pc + 2) lv (vr x :: st) σ post) : Vj l g S y pc lv st σ post := by
  refine V_st kk (fun h1 h _ => okS_cons.mpr ⟨trivial, h⟩) ?_
  intro p e s m args below meth c Q A H locs ls C X hW
  obtain ⟨hP, hD, hS, hl, okl, oks, oksg⟩ := id X
  have h1 := lvl_at hl hk
  rw [List.map_cons] at hW
  rw [cv_r hx] at h1 hW
  exact lv_aload C.1 C.2.1 hd h1 hW
theorem V_aload_n {k : Fin 4} {x : Nat} (hx : ¬ x = 4000) (hk : lv[k.val]? = some (some (vr x))) (hd : decode (cdo y) pc = .ok (.aload_n k, 1)) (kk : Vj l g S y (pc + 1) lv (vr x :: st) σ post) : Vj l g S y pc lv st σ post := by
  refine V_st kk (fun h1 h _ => okS_cons.mpr ⟨trivial, h⟩) ?_
  intro p e s m args below meth c Q A H locs ls C X hW
  obtain ⟨hP, hD, hS, hl, okl, oks, oksg⟩ := id X
  have h1 := lvl_at hl hk
  rw [List.map_cons] at hW
  rw [cv_r hx] at h1 hW
  exact lv_aload_n C.1 C.2.1 hd rfl h1 hW
/-- a step that may change all -/
theorem V_gen {pc' : Nat} {lv' : Lcs} {st' : List AV} {σ' : Sto} (k : Vj l g S y pc' lv' st' σ' post) (hok : okL lv → okS st → okσ σ → okL lv' ∧ okS st' ∧ okσ σ')
    (hw : ∀ (p : Program) (e : Env) (s : State) (m : MethodId) (args : Array Value) (below : List Frame) (meth : Method) (c : Code) (Q : State → Prop) (A : Nat → Prop) (H : Heap) (locs : List Loc) (ls : Array Slot), CxG g S y A p s m args meth c → WdG g y A s lv st σ H locs ls → (∀ (H' : Heap) (locs' : List Loc) (ls' : Array Slot), va_P g.2.1 clsL (cel g σ') H' → va_D A (cel g σ') → va_S A s.heap H' locs' → lv_has ls' (mxl y) (lvl g lv') → W p l e (rmo y) s m args below meth c H' locs' (cso y) (sso y) Q (F0 m pc' ls' (st'.map (cv g)))) → W p l e (rmo y) s m args below meth c H locs (cso y) (sso y) Q (F0 m pc ls (st.map (cv g)))) : Vj l g S y pc lv st σ post := by
  intro A p e s m args below meth c Q C Rt H locs ls X
  obtain ⟨hP, hD, hS, hl, okl, oks, oksg⟩ := id X
  obtain ⟨h1, h2, h3⟩ := hok okl oks oksg
  exact hw p e s m args below meth c Q A H locs ls C X (fun H' locs' ls' hP hD hS hl => k A p e s m args below meth c Q C Rt H' locs' ls' ⟨hP, hD, hS, hl, h1, h2, h3⟩)
theorem lvl_st1 {ls : Array Slot} {n i : Nat} {v : AV} (hg : g.2.2.2.category = 1) (hi : okst lv i = true) (h : lv_has ls n ((i, cv g v) :: (lvl g lv).filter (fun q => !(q.1 == i) && !(q.1 + 1 == i && q.2.category == 2)))) : lv_has ls n (lvl g (lv.set i (some v))) := by
  refine lv_mono h (fun q hq => ?_)
  obtain ⟨w, h1, h2⟩ := lvl_mem.mp hq
  rw [List.getElem?_set] at h1
  split at h1
  · next e =>
    split at h1
    · cases h1
      obtain ⟨q1, q2⟩ := q
      simp only at e h2
      rw [← e, h2]
      exact List.mem_cons_self
    · cases h1
  · next e =>
    refine List.mem_cons_of_mem _ (List.mem_filter.mpr ⟨lvl_mem.mpr ⟨w, h1, h2⟩, ?_⟩)
    simp only [Bool.and_eq_true, Bool.not_eq_true', beq_eq_false_iff_ne, ne_eq, Bool.and_eq_false_iff]
    refine ⟨fun e2 => e e2.symm, ?_⟩
    by_cases h3 : q.1 + 1 = i
    · right
      subst h3
      simp only [okst, h1] at hi
      rw [h2, cv_cat hg]
      rcases w with x | x | k
      · simp [catV]
      · simp [okp] at hi
      · simp [catV]
    · left; exact h3
theorem lvl_st2 {ls : Array Slot} {n i : Nat} {v : AV} (hg : g.2.2.2.category = 1) (hi : okst lv i = true) (h : lv_has ls n ((i, cv g v) :: (lvl g lv).filter (fun q => !(q.1 == i) && (!(q.1 == i + 1) && !(q.1 + 1 == i && q.2.category == 2))))) : lv_has ls n (lvl g ((lv.set i (some v)).set (i + 1) none)) := by
  refine lv_mono h (fun q hq => ?_)
  obtain ⟨w, h1, h2⟩ := lvl_mem.mp hq
  rw [List.getElem?_set] at h1
  split at h1
  · split at h1 <;> cases h1
  · next e0 =>
    rw [List.getElem?_set] at h1
    split at h1
    · next e =>
      split at h1
      · cases h1
        obtain ⟨q1, q2⟩ := q
        simp only at e h2
        rw [← e, h2]
        exact List.mem_cons_self
      · cases h1
    · next e =>
      refine List.mem_cons_of_mem _ (List.mem_filter.mpr ⟨lvl_mem.mpr ⟨w, h1, h2⟩, ?_⟩)
      simp only [Bool.and_eq_true, Bool.not_eq_true', beq_eq_false_iff_ne, ne_eq, Bool.and_eq_false_iff]
      refine ⟨fun e2 => e e2.symm, fun e2 => e0 e2.symm, ?_⟩
      by_cases h3 : q.1 + 1 = i
      · right
        subst h3
        simp only [okst, h1] at hi
        rw [h2, cv_cat hg]
        rcases w with x | x | k
        · simp [catV]
        · simp [okp] at hi
        · simp [catV]
      · left; exact h3
theorem V_istore {k : Nat} {x : Int} (hk : k < mxl y) (ho : okst lv k = true) (hd : decode (cdo y) pc = .ok (.istore k, 2)) (kk : Vj l g S y (pc + 2) (lv.set k (some (vi x))) st σ post) : Vj l g S y pc lv (vi x :: st) σ post := by
  refine V_gen kk (fun h1 h2 h3 => ⟨okL_set h1 (ok1 h2), okt1 h2, h3⟩) ?_
  intro p e s m args below meth c Q A H locs ls C X hW
  obtain ⟨hP, hD, hS, hl, okl, oks, oksg⟩ := id X
  exact lv_istore C.1 C.2.1 hd hl hk rfl (fun ls' hl' => hW H locs ls' hP hD hS (lvl_st1 (v := vi x) C.2.2.2.2.2.2.2.1.2.2.2.2.2.1 ho hl'))
theorem V_istore_n {k : Fin 4} {x : Int} (hk : k.val < mxl y) (ho : okst lv k.val = true) (hd : decode (cdo y) pc = .ok (.istore_n k, 1)) (kk : Vj l g S y (pc + 1) (lv.set k.val (some (vi x))) st σ post) : Vj l g S y pc lv (vi x :: st) σ post := by
  refine V_gen kk (fun h1 h2 h3 => ⟨okL_set h1 (ok1 h2), okt1 h2, h3⟩) ?_
  intro p e s m args below meth c Q A H locs ls C X hW
  obtain ⟨hP, hD, hS, hl, okl, oks, oksg⟩ := id X
  exact lv_istore_n C.1 C.2.1 hd rfl hl hk rfl (fun ls' hl' => hW H locs ls' hP hD hS (lvl_st1 (v := vi x) C.2.2.2.2.2.2.2.1.2.2.2.2.2.1 ho hl'))
theorem V_lstore {k : Nat} {x : Int} (hk : k + 1 < mxl y) (ho : okst lv k = true) (hd : decode (cdo y) pc = .ok (.lstore k, 2)) (kk : Vj l g S y (pc + 2) ((lv.set k (some (vl x))).set (k + 1) none) st σ post) : Vj l g S y pc lv (vl x :: st) σ post := by
  refine V_gen kk (fun h1 h2 h3 => ⟨okL_none (okL_set h1 (ok1 h2)), okt1 h2, h3⟩) ?_
  intro p e s m args below meth c Q A H locs ls C X hW
  obtain ⟨hP, hD, hS, hl, okl, oks, oksg⟩ := id X
  exact lv_lstore C.1 C.2.1 hd hl hk rfl (fun ls' hl' => hW H locs ls' hP hD hS (lvl_st2 (v := vl x) C.2.2.2.2.2.2.2.1.2.2.2.2.2.1 ho hl'))
theorem V_lstore_n {k : Fin 4} {x : Int} (hk : k.val + 1 < mxl y) (ho : okst lv k.val = true) (hd : decode (cdo y) pc = .ok (.lstore_n k, 1)) (kk : Vj l g S y (pc + 1) ((lv.set k.val (some (vl x))).set (k.val + 1) none) st σ post) : Vj l g S y pc lv (vl x :: st) σ post := by
  refine V_gen kk (fun h1 h2 h3 => ⟨okL_none (okL_set h1 (ok1 h2)), okt1 h2, h3⟩) ?_
  intro p e s m args below meth c Q A H locs ls C X hW
  obtain ⟨hP, hD, hS, hl, okl, oks, oksg⟩ := id X
  exact lv_lstore_n C.1 C.2.1 hd rfl hl hk rfl (fun ls' hl' => hW H locs ls' hP hD hS (lvl_st2 (v := vl x) C.2.2.2.2.2.2.2.1.2.2.2.2.2.1 ho hl'))
theorem V_astore_n {k : Fin 4} {x : Nat} (hx : ¬ x = 4000) (hk : k.val < mxl y) (ho : okst lv k.val = true) (hd : decode (cdo y) pc = .ok (.astore_n k, 1)) (kk : Vj l g S y (pc + 1) (lv.set k.val (some (vr x))) st σ post) : Vj l g S y pc lv (vr x :: st) σ post := by
  refine V_gen kk (fun h1 h2 h3 => ⟨okL_set h1 trivial, okt1 h2, h3⟩) ?_
  intro p e s m args below meth c Q A H locs ls C X hW
  obtain ⟨hP, hD, hS, hl, okl, oks, oksg⟩ := id X
  rw [List.map_cons, cv_r hx]
  exact lv_astore_n C.1 C.2.1 hd rfl hl hk rfl (fun ls' hl' => hW H locs ls' hP hD hS (lvl_st1 (v := vr x) C.2.2.2.2.2.2.2.1.2.2.2.2.2.1 ho (by rw [cv_r hx]; exact hl')))
theorem V_iinc {k : Nat} {d x : Int} (hx : lv[k]? = some (some (vi x))) (hdr : -128 ≤ d ∧ d < 128) (hk : k < mxl y) (ho : okst lv k = true) (hd : decode (cdo y) pc = .ok (.iinc k d, 3)) (kk : Vj l g S y (pc + 3) (lv.set k (some (vi (wr (x + d))))) st σ post) : Vj l g S y pc lv st σ post := by
  refine V_gen kk (fun h1 h2 h3 => ⟨okL_set h1 (inR_wr _), h2, h3⟩) ?_
  intro p e s m args below meth c Q A H locs ls C X hW
  obtain ⟨hP, hD, hS, hl, okl, oks, oksg⟩ := id X
  have hm : (k, cv g (vi x)) ∈ lvl g lv := lvl_mem.mpr ⟨vi x, hx, rfl⟩
  obtain ⟨j, hj⟩ := List.getElem?_of_mem hm
  exact lv_iinc (v := Int32.ofInt (wr (x + d))) C.1 C.2.1 hd hl (k := j) hj (of_add (okl k _ hx) (by unfold inR; omega)) hk rfl (fun ls' hl' => hW H locs ls' hP hD hS (lvl_st1 (v := vi (wr (x + d))) C.2.2.2.2.2.2.2.1.2.2.2.2.2.1 ho hl'))
end VR
