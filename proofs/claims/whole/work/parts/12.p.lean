/-! one step of the small machine, an equivalence each -/
section PR
variable {S : Scr} {y pc n : Nat} {lv : Lcs} {st : List AV} {σ : Sto} {post : Pst} {cc : ByteArray}
theorem P_of {i : Instr} (hc : cdo y = cc) (hd : decode cc pc = .ok (i, n)) : WP S y pc lv st σ post ↔ stp (WP S) y lv σ post (exI S y pc n lv st σ i) := by rw [WP_iff, ex1, hc, hd]
theorem P_iadd {a b : Int} (hc : cdo y = cc) (hd : decode cc pc = .ok (.iadd, 1)) : WP S y pc lv (vi b :: vi a :: st) σ post ↔ WP S y (pc + 1) lv (vi (wr (a + b)) :: st) σ post := P_of hc hd
theorem P_isub {a b : Int} (hc : cdo y = cc) (hd : decode cc pc = .ok (.isub, 1)) : WP S y pc lv (vi b :: vi a :: st) σ post ↔ WP S y (pc + 1) lv (vi (wr (a - b)) :: st) σ post := P_of hc hd
theorem P_imul {a b : Int} (hc : cdo y = cc) (hd : decode cc pc = .ok (.imul, 1)) : WP S y pc lv (vi b :: vi a :: st) σ post ↔ WP S y (pc + 1) lv (vi (wr (a * b)) :: st) σ post := P_of hc hd
theorem P_iand {a b : Int} (hc : cdo y = cc) (hd : decode cc pc = .ok (.iand, 1)) : WP S y pc lv (vi b :: vi a :: st) σ post ↔ WP S y (pc + 1) lv (vi (i2 (· &&& ·) a b) :: st) σ post := P_of hc hd
theorem P_ior {a b : Int} (hc : cdo y = cc) (hd : decode cc pc = .ok (.ior, 1)) : WP S y pc lv (vi b :: vi a :: st) σ post ↔ WP S y (pc + 1) lv (vi (i2 (· ||| ·) a b) :: st) σ post := P_of hc hd
theorem P_ixor {a b : Int} (hc : cdo y = cc) (hd : decode cc pc = .ok (.ixor, 1)) : WP S y pc lv (vi b :: vi a :: st) σ post ↔ WP S y (pc + 1) lv (vi (i2 (· ^^^ ·) a b) :: st) σ post := P_of hc hd
theorem P_ishl {a b : Int} (hc : cdo y = cc) (hd : decode cc pc = .ok (.ishl, 1)) : WP S y pc lv (vi b :: vi a :: st) σ post ↔ WP S y (pc + 1) lv (vi (i2 ishlF a b) :: st) σ post := P_of hc hd
theorem P_ishr {a b : Int} (hc : cdo y = cc) (hd : decode cc pc = .ok (.ishr, 1)) : WP S y pc lv (vi b :: vi a :: st) σ post ↔ WP S y (pc + 1) lv (vi (i2 ishrF a b) :: st) σ post := P_of hc hd
theorem P_iushr {a b : Int} (hc : cdo y = cc) (hd : decode cc pc = .ok (.iushr, 1)) : WP S y pc lv (vi b :: vi a :: st) σ post ↔ WP S y (pc + 1) lv (vi (i2 iushrF a b) :: st) σ post := P_of hc hd
theorem P_ladd {a b : Int} (hc : cdo y = cc) (hd : decode cc pc = .ok (.ladd, 1)) : WP S y pc lv (vl b :: vl a :: st) σ post ↔ WP S y (pc + 1) lv (vl (wl (a + b)) :: st) σ post := P_of hc hd
theorem P_lsub {a b : Int} (hc : cdo y = cc) (hd : decode cc pc = .ok (.lsub, 1)) : WP S y pc lv (vl b :: vl a :: st) σ post ↔ WP S y (pc + 1) lv (vl (wl (a - b)) :: st) σ post := P_of hc hd
theorem P_lmul {a b : Int} (hc : cdo y = cc) (hd : decode cc pc = .ok (.lmul, 1)) : WP S y pc lv (vl b :: vl a :: st) σ post ↔ WP S y (pc + 1) lv (vl (wl (a * b)) :: st) σ post := P_of hc hd
theorem P_lor {a b : Int} (hc : cdo y = cc) (hd : decode cc pc = .ok (.lor, 1)) : WP S y pc lv (vl b :: vl a :: st) σ post ↔ WP S y (pc + 1) lv (vl (lorF a b) :: st) σ post := P_of hc hd
theorem P_lshl {a b : Int} (hc : cdo y = cc) (hd : decode cc pc = .ok (.lshl, 1)) : WP S y pc lv (vi b :: vl a :: st) σ post ↔ WP S y (pc + 1) lv (vl (lshlF a b) :: st) σ post := P_of hc hd
theorem P_lcmp {a b : Int} (hc : cdo y = cc) (hd : decode cc pc = .ok (.lcmp, 1)) : WP S y pc lv (vl b :: vl a :: st) σ post ↔ WP S y (pc + 1) lv (vi (lcmpF a b) :: st) σ post := P_of hc hd
theorem P_ineg {a : Int} (hc : cdo y = cc) (hd : decode cc pc = .ok (.ineg, 1)) : WP S y pc lv (vi a :: st) σ post ↔ WP S y (pc + 1) lv (vi (wr (-a)) :: st) σ post := P_of hc hd
theorem P_i2l {a : Int} (hc : cdo y = cc) (hd : decode cc pc = .ok (.i2l, 1)) : WP S y pc lv (vi a :: st) σ post ↔ WP S y (pc + 1) lv (vl a :: st) σ post := P_of hc hd
theorem P_i2b {a : Int} (hc : cdo y = cc) (hd : decode cc pc = .ok (.i2b, 1)) : WP S y pc lv (vi a :: st) σ post ↔ WP S y (pc + 1) lv (vi (Int32.ofInt a).toInt8.toInt :: st) σ post := P_of hc hd
theorem P_i2c {a : Int} (hc : cdo y = cc) (hd : decode cc pc = .ok (.i2c, 1)) : WP S y pc lv (vi a :: st) σ post ↔ WP S y (pc + 1) lv (vi ((Int32.ofInt a).toUInt32 % 65536).toInt32.toInt :: st) σ post := P_of hc hd
theorem P_idiv {a b : Int} (hc : cdo y = cc) (hd : decode cc pc = .ok (.idiv, 1)) : WP S y pc lv (vi b :: vi a :: st) σ post ↔ (¬ b = 0 ∧ WP S y (pc + 1) lv (vi (wr (a.tdiv b)) :: st) σ post) := by
  rw [P_of hc hd]
  show stp (WP S) y lv σ post (if b = 0 then none else nx (pc + 1) lv (vi (wr (a.tdiv b)) :: st) σ) ↔ _
  by_cases h : b = 0
  · rw [if_pos h]; exact ⟨fun q => q.elim, fun q => absurd h q.1⟩
  · rw [if_neg h]; exact ⟨fun q => ⟨h, q⟩, fun q => q.2⟩
theorem P_irem {a b : Int} (hc : cdo y = cc) (hd : decode cc pc = .ok (.irem, 1)) : WP S y pc lv (vi b :: vi a :: st) σ post ↔ (¬ b = 0 ∧ WP S y (pc + 1) lv (vi (wr (a.tmod b)) :: st) σ post) := by
  rw [P_of hc hd]
  show stp (WP S) y lv σ post (if b = 0 then none else nx (pc + 1) lv (vi (wr (a.tmod b)) :: st) σ) ↔ _
  by_cases h : b = 0
  · rw [if_pos h]; exact ⟨fun q => q.elim, fun q => absurd h q.1⟩
  · rw [if_neg h]; exact ⟨fun q => ⟨h, q⟩, fun q => q.2⟩
theorem P_iconst {v : Int} (h : -128 ≤ v ∧ v < 128) (hc : cdo y = cc) (hd : decode cc pc = .ok (.iconst v, 1)) : WP S y pc lv st σ post ↔ WP S y (pc + 1) lv (vi v :: st) σ post := by
  rw [P_of hc hd]
  show stp (WP S) y lv σ post (if -128 ≤ v ∧ v < 128 then nx (pc + 1) lv (vi v :: st) σ else none) ↔ _
  rw [if_pos h]
  exact Iff.rfl
theorem P_bipush {v : Int} (h : -128 ≤ v ∧ v < 128) (hc : cdo y = cc) (hd : decode cc pc = .ok (.bipush v, 2)) : WP S y pc lv st σ post ↔ WP S y (pc + 2) lv (vi v :: st) σ post := by
  rw [P_of hc hd]
  show stp (WP S) y lv σ post (if -128 ≤ v ∧ v < 128 then nx (pc + 2) lv (vi v :: st) σ else none) ↔ _
  rw [if_pos h]
  exact Iff.rfl
theorem P_sipush {v : Int} (h : -32768 ≤ v ∧ v < 32768) (hc : cdo y = cc) (hd : decode cc pc = .ok (.sipush v, 3)) : WP S y pc lv st σ post ↔ WP S y (pc + 3) lv (vi v :: st) σ post := by
  rw [P_of hc hd]
  show stp (WP S) y lv σ post (if -32768 ≤ v ∧ v < 32768 then nx (pc + 3) lv (vi v :: st) σ else none) ↔ _
  rw [if_pos h]
  exact Iff.rfl
theorem P_lconst {k : Fin 2} (hc : cdo y = cc) (hd : decode cc pc = .ok (.lconst k, 1)) : WP S y pc lv st σ post ↔ WP S y (pc + 1) lv (vl k.val :: st) σ post := P_of hc hd
theorem P_dup {v : AV} (hv : catV v = 1) (hc : cdo y = cc) (hd : decode cc pc = .ok (.dup, 1)) : WP S y pc lv (v :: st) σ post ↔ WP S y (pc + 1) lv (v :: v :: st) σ post := by
  rw [P_of hc hd]
  show stp (WP S) y lv σ post (if catV v = 1 then nx (pc + 1) lv (v :: v :: st) σ else none) ↔ _
  rw [if_pos hv]
  exact Iff.rfl
theorem P_dup2 {v w : AV} (hv : catV v = 1 ∧ catV w = 1) (hc : cdo y = cc) (hd : decode cc pc = .ok (.dup2, 1)) : WP S y pc lv (v :: w :: st) σ post ↔ WP S y (pc + 1) lv (v :: w :: v :: w :: st) σ post := by
  rw [P_of hc hd]
  show stp (WP S) y lv σ post (if catV v = 1 ∧ catV w = 1 then nx (pc + 1) lv (v :: w :: v :: w :: st) σ else none) ↔ _
  rw [if_pos hv]
  exact Iff.rfl
theorem P_pop {v : AV} (hv : catV v = 1) (hc : cdo y = cc) (hd : decode cc pc = .ok (.pop, 1)) : WP S y pc lv (v :: st) σ post ↔ WP S y (pc + 1) lv st σ post := by
  rw [P_of hc hd]
  show stp (WP S) y lv σ post (if catV v = 1 then nx (pc + 1) lv st σ else none) ↔ _
  rw [if_pos hv]
  exact Iff.rfl
theorem P_iload {k : Nat} {x : Int} (hk : lv[k]? = some (some (vi x))) (hc : cdo y = cc) (hd : decode cc pc = .ok (.iload k, 2)) : WP S y pc lv st σ post ↔ WP S y (pc + 2) lv (vi x :: st) σ post := by
  rw [P_of hc hd]
  show stp (WP S) y lv σ post (xldI k (pc + 2) lv st σ) ↔ _
  unfold xldI
  rw [hk]
  exact Iff.rfl
theorem P_iload_n {k : Fin 4} {x : Int} (hk : lv[k.val]? = some (some (vi x))) (hc : cdo y = cc) (hd : decode cc pc = .ok (.iload_n k, 1)) : WP S y pc lv st σ post ↔ WP S y (pc + 1) lv (vi x :: st) σ post := by
  rw [P_of hc hd]
  show stp (WP S) y lv σ post (xldI k.val (pc + 1) lv st σ) ↔ _
  unfold xldI
  rw [hk]
  exact Iff.rfl
theorem P_lload {k : Nat} {x : Int} (hk : lv[k]? = some (some (vl x))) (hc : cdo y = cc) (hd : decode cc pc = .ok (.lload k, 2)) : WP S y pc lv st σ post ↔ WP S y (pc + 2) lv (vl x :: st) σ post := by
  rw [P_of hc hd]
  show stp (WP S) y lv σ post (xldL k (pc + 2) lv st σ) ↔ _
  unfold xldL
  rw [hk]
  exact Iff.rfl
theorem P_lload_n {k : Fin 4} {x : Int} (hk : lv[k.val]? = some (some (vl x))) (hc : cdo y = cc) (hd : decode cc pc = .ok (.lload_n k, 1)) : WP S y pc lv st σ post ↔ WP S y (pc + 1) lv (vl x :: st) σ post := by
  rw [P_of hc hd]
  show stp (WP S) y lv σ post (xldL k.val (pc + 1) lv st σ) ↔ _
  unfold xldL
  rw [hk]
  exact Iff.rfl
theorem P_aload {k : Nat} {x : Nat} (hk : lv[k]? = some (some (vr x))) (hc : cdo y = cc) (hd : decode cc pc = .ok (.aload k, 2)) : WP S y pc lv st σ post ↔ (¬ x = 4000 ∧ WP S y (pc + 2) lv (vr x :: st) σ post) := by
  rw [P_of hc hd]
  show stp (WP S) y lv σ post (xldR k (pc + 2) lv st σ) ↔ _
  unfold xldR
  rw [hk]
  show stp (WP S) y lv σ post (if x = 4000 then none else nx (pc + 2) lv (vr x :: st) σ) ↔ _
  by_cases h : x = 4000
  · rw [if_pos h]; exact ⟨fun q => q.elim, fun q => absurd h q.1⟩
  · rw [if_neg h]; exact ⟨fun q => ⟨h, q⟩, fun q => q.2⟩
theorem P_istore {k : Nat} {x : Int} {lv' : Lcs} {q : Bool} (hk : k < mxl y) (ho : okst lv k = q) (hl : lv.set k (some (vi x)) = lv') (hc : cdo y = cc) (hd : decode cc pc = .ok (.istore k, 2)) : WP S y pc lv (vi x :: st) σ post ↔ (q = true ∧ WP S y (pc + 2) lv' st σ post) := by
  rw [P_of hc hd]
  show stp (WP S) y lv σ post (if k < mxl y ∧ okst lv k = true then nx (pc + 2) (lv.set k (some (vi x))) st σ else none) ↔ _
  rw [ho, hl]
  cases q with
  | false => rw [if_neg (fun q => by cases q.2)]; exact ⟨fun q => q.elim, fun q => by cases q.1⟩
  | true => rw [if_pos ⟨hk, rfl⟩]; exact ⟨fun q => ⟨rfl, q⟩, fun q => q.2⟩
theorem P_lstore {k : Nat} {x : Int} {lv' : Lcs} {q : Bool} (hk : k + 1 < mxl y) (ho : okst lv k = q) (hl : (lv.set k (some (vl x))).set (k + 1) none = lv') (hc : cdo y = cc) (hd : decode cc pc = .ok (.lstore k, 2)) : WP S y pc lv (vl x :: st) σ post ↔ (q = true ∧ WP S y (pc + 2) lv' st σ post) := by
  rw [P_of hc hd]
  show stp (WP S) y lv σ post (if k + 1 < mxl y ∧ okst lv k = true then nx (pc + 2) ((lv.set k (some (vl x))).set (k + 1) none) st σ else none) ↔ _
  rw [ho, hl]
  cases q with
  | false => rw [if_neg (fun q => by cases q.2)]; exact ⟨fun q => q.elim, fun q => by cases q.1⟩
  | true => rw [if_pos ⟨hk, rfl⟩]; exact ⟨fun q => ⟨rfl, q⟩, fun q => q.2⟩
theorem P_aload_n {k : Fin 4} {x : Nat} (hk : lv[k.val]? = some (some (vr x))) (hc : cdo y = cc) (hd : decode cc pc = .ok (.aload_n k, 1)) : WP S y pc lv st σ post ↔ (¬ x = 4000 ∧ WP S y (pc + 1) lv (vr x :: st) σ post) := by
  rw [P_of hc hd]
  show stp (WP S) y lv σ post (xldR k.val (pc + 1) lv st σ) ↔ _
  unfold xldR
  rw [hk]
  show stp (WP S) y lv σ post (if x = 4000 then none else nx (pc + 1) lv (vr x :: st) σ) ↔ _
  by_cases h : x = 4000
  · rw [if_pos h]; exact ⟨fun q => q.elim, fun q => absurd h q.1⟩
  · rw [if_neg h]; exact ⟨fun q => ⟨h, q⟩, fun q => q.2⟩
theorem P_istore_n {k : Fin 4} {x : Int} {lv' : Lcs} {q : Bool} (hk : k.val < mxl y) (ho : okst lv k.val = q) (hl : lv.set k.val (some (vi x)) = lv') (hc : cdo y = cc) (hd : decode cc pc = .ok (.istore_n k, 1)) : WP S y pc lv (vi x :: st) σ post ↔ (q = true ∧ WP S y (pc + 1) lv' st σ post) := by
  rw [P_of hc hd]
  show stp (WP S) y lv σ post (if k.val < mxl y ∧ okst lv k.val = true then nx (pc + 1) (lv.set k.val (some (vi x))) st σ else none) ↔ _
  rw [ho, hl]
  cases q with
  | false => rw [if_neg (fun q => by cases q.2)]; exact ⟨fun q => q.elim, fun q => by cases q.1⟩
  | true => rw [if_pos ⟨hk, rfl⟩]; exact ⟨fun q => ⟨rfl, q⟩, fun q => q.2⟩
theorem P_lstore_n {k : Fin 4} {x : Int} {lv' : Lcs} {q : Bool} (hk : k.val + 1 < mxl y) (ho : okst lv k.val = q) (hl : (lv.set k.val (some (vl x))).set (k.val + 1) none = lv') (hc : cdo y = cc) (hd : decode cc pc = .ok (.lstore_n k, 1)) : WP S y pc lv (vl x :: st) σ post ↔ (q = true ∧ WP S y (pc + 1) lv' st σ post) := by
  rw [P_of hc hd]
  show stp (WP S) y lv σ post (if k.val + 1 < mxl y ∧ okst lv k.val = true then nx (pc + 1) ((lv.set k.val (some (vl x))).set (k.val + 1) none) st σ else none) ↔ _
  rw [ho, hl]
  cases q with
  | false => rw [if_neg (fun q => by cases q.2)]; exact ⟨fun q => q.elim, fun q => by cases q.1⟩
  | true => rw [if_pos ⟨hk, rfl⟩]; exact ⟨fun q => ⟨rfl, q⟩, fun q => q.2⟩
theorem P_iinc {k : Nat} {x d : Int} {lv' : Lcs} {q : Bool} (hk : lv[k]? = some (some (vi x))) (hm : k < mxl y) (hdr : -128 ≤ d ∧ d < 128) (ho : okst lv k = q) (hl : lv.set k (some (vi (wr (x + d)))) = lv') (hc : cdo y = cc) (hd : decode cc pc = .ok (.iinc k d, 3)) : WP S y pc lv st σ post ↔ (q = true ∧ WP S y (pc + 3) lv' st σ post) := by
  rw [P_of hc hd]
  show stp (WP S) y lv σ post (xinc y k d (pc + 3) lv st σ) ↔ _
  unfold xinc
  rw [hk]
  show stp (WP S) y lv σ post (if k < mxl y ∧ okst lv k = true ∧ -128 ≤ d ∧ d < 128 then nx (pc + 3) (lv.set k (some (vi (wr (x + d))))) st σ else none) ↔ _
  rw [ho, hl]
  cases q with
  | false => rw [if_neg (fun q => by cases q.2.1)]; exact ⟨fun q => q.elim, fun q => by cases q.1⟩
  | true => rw [if_pos ⟨hm, rfl, hdr⟩]; exact ⟨fun q => ⟨rfl, q⟩, fun q => q.2⟩
theorem P_goto {off : Int} {t : Nat} (ht : (pc : Int) + off = (t : Int)) (hc : cdo y = cc) (hd : decode cc pc = .ok (.goto off, 3)) : WP S y pc lv st σ post ↔ WP S y t lv st σ post := by
  rw [P_of hc hd]
  show stp (WP S) y lv σ post (if 0 ≤ (pc : Int) + off then nx ((pc : Int) + off).toNat lv st σ else none) ↔ _
  rw [ht, if_pos (by omega), Int.toNat_natCast]
  exact Iff.rfl
theorem P_if1_eq {off a : Int} {t : Nat} (ht : (pc : Int) + off = (t : Int)) (hc : cdo y = cc) (hd : decode cc pc = .ok (.ifCond .eq off, 3)) : WP S y pc lv (vi a :: st) σ post ↔ (if a = 0 then WP S y t lv st σ post else WP S y (pc + 3) lv st σ post) := by
  rw [P_of hc hd]
  show stp (WP S) y lv σ post (if 0 ≤ (pc : Int) + off then (if decide (a = 0) = true then nx ((pc : Int) + off).toNat lv st σ else nx (pc + 3) lv st σ) else none) ↔ _
  rw [ht, if_pos (by omega), Int.toNat_natCast]
  by_cases h : a = 0
  · rw [if_pos (decide_eq_true h), if_pos h]; exact Iff.rfl
  · rw [if_neg (fun q => h (of_decide_eq_true q)), if_neg h]; exact Iff.rfl
theorem P_if2_eq {off a b : Int} {t : Nat} (ht : (pc : Int) + off = (t : Int)) (hc : cdo y = cc) (hd : decode cc pc = .ok (.if_icmp .eq off, 3)) : WP S y pc lv (vi b :: vi a :: st) σ post ↔ (if a = b then WP S y t lv st σ post else WP S y (pc + 3) lv st σ post) := by
  rw [P_of hc hd]
  show stp (WP S) y lv σ post (if 0 ≤ (pc : Int) + off then (if decide (a = b) = true then nx ((pc : Int) + off).toNat lv st σ else nx (pc + 3) lv st σ) else none) ↔ _
  rw [ht, if_pos (by omega), Int.toNat_natCast]
  by_cases h : a = b
  · rw [if_pos (decide_eq_true h), if_pos h]; exact Iff.rfl
  · rw [if_neg (fun q => h (of_decide_eq_true q)), if_neg h]; exact Iff.rfl
theorem P_if1_ne {off a : Int} {t : Nat} (ht : (pc : Int) + off = (t : Int)) (hc : cdo y = cc) (hd : decode cc pc = .ok (.ifCond .ne off, 3)) : WP S y pc lv (vi a :: st) σ post ↔ (if ¬ a = 0 then WP S y t lv st σ post else WP S y (pc + 3) lv st σ post) := by
  rw [P_of hc hd]
  show stp (WP S) y lv σ post (if 0 ≤ (pc : Int) + off then (if decide (¬ a = 0) = true then nx ((pc : Int) + off).toNat lv st σ else nx (pc + 3) lv st σ) else none) ↔ _
  rw [ht, if_pos (by omega), Int.toNat_natCast]
  by_cases h : ¬ a = 0
  · rw [if_pos (decide_eq_true h), if_pos h]; exact Iff.rfl
  · rw [if_neg (fun q => h (of_decide_eq_true q)), if_neg h]; exact Iff.rfl
theorem P_if2_ne {off a b : Int} {t : Nat} (ht : (pc : Int) + off = (t : Int)) (hc : cdo y = cc) (hd : decode cc pc = .ok (.if_icmp .ne off, 3)) : WP S y pc lv (vi b :: vi a :: st) σ post ↔ (if ¬ a = b then WP S y t lv st σ post else WP S y (pc + 3) lv st σ post) := by
  rw [P_of hc hd]
  show stp (WP S) y lv σ post (if 0 ≤ (pc : Int) + off then (if decide (¬ a = b) = true then nx ((pc : Int) + off).toNat lv st σ else nx (pc + 3) lv st σ) else none) ↔ _
  rw [ht, if_pos (by omega), Int.toNat_natCast]
  by_cases h : ¬ a = b
  · rw [if_pos (decide_eq_true h), if_pos h]; exact Iff.rfl
  · rw [if_neg (fun q => h (of_decide_eq_true q)), if_neg h]; exact Iff.rfl
theorem P_if1_lt {off a : Int} {t : Nat} (ht : (pc : Int) + off = (t : Int)) (hc : cdo y = cc) (hd : decode cc pc = .ok (.ifCond .lt off, 3)) : WP S y pc lv (vi a :: st) σ post ↔ (if a < 0 then WP S y t lv st σ post else WP S y (pc + 3) lv st σ post) := by
  rw [P_of hc hd]
  show stp (WP S) y lv σ post (if 0 ≤ (pc : Int) + off then (if decide (a < 0) = true then nx ((pc : Int) + off).toNat lv st σ else nx (pc + 3) lv st σ) else none) ↔ _
  rw [ht, if_pos (by omega), Int.toNat_natCast]
  by_cases h : a < 0
  · rw [if_pos (decide_eq_true h), if_pos h]; exact Iff.rfl
  · rw [if_neg (fun q => h (of_decide_eq_true q)), if_neg h]; exact Iff.rfl
theorem P_if2_lt {off a b : Int} {t : Nat} (ht : (pc : Int) + off = (t : Int)) (hc : cdo y = cc) (hd : decode cc pc = .ok (.if_icmp .lt off, 3)) : WP S y pc lv (vi b :: vi a :: st) σ post ↔ (if a < b then WP S y t lv st σ post else WP S y (pc + 3) lv st σ post) := by
  rw [P_of hc hd]
  show stp (WP S) y lv σ post (if 0 ≤ (pc : Int) + off then (if decide (a < b) = true then nx ((pc : Int) + off).toNat lv st σ else nx (pc + 3) lv st σ) else none) ↔ _
  rw [ht, if_pos (by omega), Int.toNat_natCast]
  by_cases h : a < b
  · rw [if_pos (decide_eq_true h), if_pos h]; exact Iff.rfl
  · rw [if_neg (fun q => h (of_decide_eq_true q)), if_neg h]; exact Iff.rfl
theorem P_if1_ge {off a : Int} {t : Nat} (ht : (pc : Int) + off = (t : Int)) (hc : cdo y = cc) (hd : decode cc pc = .ok (.ifCond .ge off, 3)) : WP S y pc lv (vi a :: st) σ post ↔ (if 0 ≤ a then WP S y t lv st σ post else WP S y (pc + 3) lv st σ post) := by
  rw [P_of hc hd]
  show stp (WP S) y lv σ post (if 0 ≤ (pc : Int) + off then (if decide (0 ≤ a) = true then nx ((pc : Int) + off).toNat lv st σ else nx (pc + 3) lv st σ) else none) ↔ _
  rw [ht, if_pos (by omega), Int.toNat_natCast]
  by_cases h : 0 ≤ a
  · rw [if_pos (decide_eq_true h), if_pos h]; exact Iff.rfl
  · rw [if_neg (fun q => h (of_decide_eq_true q)), if_neg h]; exact Iff.rfl
theorem P_if2_ge {off a b : Int} {t : Nat} (ht : (pc : Int) + off = (t : Int)) (hc : cdo y = cc) (hd : decode cc pc = .ok (.if_icmp .ge off, 3)) : WP S y pc lv (vi b :: vi a :: st) σ post ↔ (if b ≤ a then WP S y t lv st σ post else WP S y (pc + 3) lv st σ post) := by
  rw [P_of hc hd]
  show stp (WP S) y lv σ post (if 0 ≤ (pc : Int) + off then (if decide (b ≤ a) = true then nx ((pc : Int) + off).toNat lv st σ else nx (pc + 3) lv st σ) else none) ↔ _
  rw [ht, if_pos (by omega), Int.toNat_natCast]
  by_cases h : b ≤ a
  · rw [if_pos (decide_eq_true h), if_pos h]; exact Iff.rfl
  · rw [if_neg (fun q => h (of_decide_eq_true q)), if_neg h]; exact Iff.rfl
theorem P_if1_gt {off a : Int} {t : Nat} (ht : (pc : Int) + off = (t : Int)) (hc : cdo y = cc) (hd : decode cc pc = .ok (.ifCond .gt off, 3)) : WP S y pc lv (vi a :: st) σ post ↔ (if 0 < a then WP S y t lv st σ post else WP S y (pc + 3) lv st σ post) := by
  rw [P_of hc hd]
  show stp (WP S) y lv σ post (if 0 ≤ (pc : Int) + off then (if decide (0 < a) = true then nx ((pc : Int) + off).toNat lv st σ else nx (pc + 3) lv st σ) else none) ↔ _
  rw [ht, if_pos (by omega), Int.toNat_natCast]
  by_cases h : 0 < a
  · rw [if_pos (decide_eq_true h), if_pos h]; exact Iff.rfl
  · rw [if_neg (fun q => h (of_decide_eq_true q)), if_neg h]; exact Iff.rfl
theorem P_if2_gt {off a b : Int} {t : Nat} (ht : (pc : Int) + off = (t : Int)) (hc : cdo y = cc) (hd : decode cc pc = .ok (.if_icmp .gt off, 3)) : WP S y pc lv (vi b :: vi a :: st) σ post ↔ (if b < a then WP S y t lv st σ post else WP S y (pc + 3) lv st σ post) := by
  rw [P_of hc hd]
  show stp (WP S) y lv σ post (if 0 ≤ (pc : Int) + off then (if decide (b < a) = true then nx ((pc : Int) + off).toNat lv st σ else nx (pc + 3) lv st σ) else none) ↔ _
  rw [ht, if_pos (by omega), Int.toNat_natCast]
  by_cases h : b < a
  · rw [if_pos (decide_eq_true h), if_pos h]; exact Iff.rfl
  · rw [if_neg (fun q => h (of_decide_eq_true q)), if_neg h]; exact Iff.rfl
theorem P_if1_le {off a : Int} {t : Nat} (ht : (pc : Int) + off = (t : Int)) (hc : cdo y = cc) (hd : decode cc pc = .ok (.ifCond .le off, 3)) : WP S y pc lv (vi a :: st) σ post ↔ (if a ≤ 0 then WP S y t lv st σ post else WP S y (pc + 3) lv st σ post) := by
  rw [P_of hc hd]
  show stp (WP S) y lv σ post (if 0 ≤ (pc : Int) + off then (if decide (a ≤ 0) = true then nx ((pc : Int) + off).toNat lv st σ else nx (pc + 3) lv st σ) else none) ↔ _
  rw [ht, if_pos (by omega), Int.toNat_natCast]
  by_cases h : a ≤ 0
  · rw [if_pos (decide_eq_true h), if_pos h]; exact Iff.rfl
  · rw [if_neg (fun q => h (of_decide_eq_true q)), if_neg h]; exact Iff.rfl
theorem P_if2_le {off a b : Int} {t : Nat} (ht : (pc : Int) + off = (t : Int)) (hc : cdo y = cc) (hd : decode cc pc = .ok (.if_icmp .le off, 3)) : WP S y pc lv (vi b :: vi a :: st) σ post ↔ (if a ≤ b then WP S y t lv st σ post else WP S y (pc + 3) lv st σ post) := by
  rw [P_of hc hd]
  show stp (WP S) y lv σ post (if 0 ≤ (pc : Int) + off then (if decide (a ≤ b) = true then nx ((pc : Int) + off).toNat lv st σ else nx (pc + 3) lv st σ) else none) ↔ _
  rw [ht, if_pos (by omega), Int.toNat_natCast]
  by_cases h : a ≤ b
  · rw [if_pos (decide_eq_true h), if_pos h]; exact Iff.rfl
  · rw [if_neg (fun q => h (of_decide_eq_true q)), if_neg h]; exact Iff.rfl
theorem P_tabIn {d lo hi a off : Int} {offs : Array Int} {t : Nat} (h : ¬ (a < lo ∨ hi < a)) (ho : offs[(a - lo).toNat]? = some off) (ht : (pc : Int) + off = (t : Int)) (hc : cdo y = cc) (hd : decode cc pc = .ok (.tableswitch d lo hi offs, n)) : WP S y pc lv (vi a :: st) σ post ↔ WP S y t lv st σ post := by
  rw [P_of hc hd]
  show stp (WP S) y lv σ post (xtab d lo hi offs pc lv (vi a :: st) σ) ↔ _
  simp only [xtab]
  rw [if_neg h, ho]
  simp only [xjmp]
  rw [ht, if_pos (by omega), Int.toNat_natCast]
  exact Iff.rfl
theorem P_tabOut {d lo hi a : Int} {offs : Array Int} {t : Nat} (h : a < lo ∨ hi < a) (ht : (pc : Int) + d = (t : Int)) (hc : cdo y = cc) (hd : decode cc pc = .ok (.tableswitch d lo hi offs, n)) : WP S y pc lv (vi a :: st) σ post ↔ WP S y t lv st σ post := by
  rw [P_of hc hd]
  show stp (WP S) y lv σ post (xtab d lo hi offs pc lv (vi a :: st) σ) ↔ _
  simp only [xtab]
  rw [if_pos h]
  simp only [xjmp]
  rw [ht, if_pos (by omega), Int.toNat_natCast]
  exact Iff.rfl
theorem P_lku {d a off : Int} {ps : Array (Int × Int)} {t : Nat} (hp : (ps.toList.zip (ps.toList.drop 1)).all (fun (x, next) => x.1 < next.1) = true) (ho : Op.lookupswitch.offset ps.toList d a = off) (ht : (pc : Int) + off = (t : Int)) (hc : cdo y = cc) (hd : decode cc pc = .ok (.lookupswitch d ps, n)) : WP S y pc lv (vi a :: st) σ post ↔ WP S y t lv st σ post := by
  rw [P_of hc hd]
  show stp (WP S) y lv σ post (xlku d ps pc lv (vi a :: st) σ) ↔ _
  simp only [xlku]
  rw [if_pos hp, ho]
  simp only [xjmp]
  rw [ht, if_pos (by omega), Int.toNat_natCast]
  exact Iff.rfl
/-- the index lies in the array -/
def inb (t a : Nat) (i : Int) : Prop := ∃ n, ashp a = some (t, n) ∧ 0 ≤ i ∧ i < (n : Int)
theorem inb_of {t a n : Nat} (h : ashp a = some (t, n)) {i : Int} : inb t a i ↔ (0 ≤ i ∧ i < (n : Int)) := by
  constructor
  · rintro ⟨m, h1, h2⟩
    rw [h] at h1
    cases h1
    exact h2
  · intro h2
    exact ⟨n, h, h2⟩
theorem ash_lt {a t k : Nat} (h : ashp a = some (t, k)) : a < 82 := by
  have h1 := (List.getElem?_eq_some_iff.mp (ashp_at h)).1
  have h2 : shp.length = 82 := by decide +kernel
  omega
theorem P_iald {i : Int} {a : Nat} (hc : cdo y = cc) (hd : decode cc pc = .ok (.iaload, 1)) : WP S y pc lv (vi i :: vr a :: st) σ post ↔ ((inb 0 a i ∧ WP S y (pc + 1) lv (vi (ga σ a i.toNat) :: st) σ post) ∨ (a = 3000 ∧ y = lawN ∧ 0 ≤ i ∧ i < (S.2 : Int) ∧ WP S y (pc + 1) lv (vi (S.1 i.toNat) :: st) σ post)) := by
  rw [P_of hc hd]
  show stp (WP S) y lv σ post (xiald S y (pc + 1) lv (vi i :: vr a :: st) σ) ↔ _
  simp only [xiald]
  by_cases ha : a = 3000
  · subst ha
    have hn : ¬ inb 0 3000 i := fun ⟨n, h, _⟩ => by have := ash_lt h; omega
    rw [if_pos rfl]
    constructor
    · intro h
      split at h
      · next e => exact Or.inr ⟨rfl, e.1, e.2.1, e.2.2, h⟩
      · exact h.elim
    · rintro (h | ⟨-, h1, h2, h3, h4⟩)
      · exact absurd h.1 hn
      · rw [if_pos ⟨h1, h2, h3⟩]; exact h4
  · rw [if_neg ha]
    cases hs : ashp a with
    | none =>
      constructor
      · intro h; exact h.elim
      · rintro (⟨⟨n, h, _⟩, _⟩ | ⟨h, _⟩)
        · rw [hs] at h; cases h
        · exact absurd h ha
    | some q =>
      obtain ⟨t, n⟩ := q
      constructor
      · intro h
        dsimp only at h
        split at h
        · next e =>
          obtain ⟨rfl, h1, h2⟩ := e
          exact Or.inl ⟨⟨n, hs, h1, h2⟩, h⟩
        · exact h.elim
      · rintro (⟨⟨m, h, h1, h2⟩, h3⟩ | ⟨h, _⟩)
        · rw [hs] at h
          cases h
          dsimp only
          rw [if_pos ⟨rfl, h1, h2⟩]
          exact h3
        · exact absurd h ha
theorem P_ialdA {i : Int} {a : Nat} (ha : ¬ a = 3000) (hc : cdo y = cc) (hd : decode cc pc = .ok (.iaload, 1)) : WP S y pc lv (vi i :: vr a :: st) σ post ↔ (inb 0 a i ∧ WP S y (pc + 1) lv (vi (ga σ a i.toNat) :: st) σ post) := by
  rw [P_iald hc hd]
  constructor
  · rintro (h | h)
    · exact h
    · exact absurd h.1 ha
  · exact Or.inl
theorem P_iaNL {i : Int} {a : Nat} (hy : ¬ y = lawN) (hc : cdo y = cc) (hd : decode cc pc = .ok (.iaload, 1)) : WP S y pc lv (vi i :: vr a :: st) σ post ↔ (inb 0 a i ∧ WP S y (pc + 1) lv (vi (ga σ a i.toNat) :: st) σ post) := by
  rw [P_iald hc hd]
  constructor
  · rintro (h | h)
    · exact h
    · exact absurd h.2.1 hy
  · exact Or.inl
theorem P_ialdS {i : Int} (hy : y = lawN) (hc : cdo y = cc) (hd : decode cc pc = .ok (.iaload, 1)) : WP S y pc lv (vi i :: vr 3000 :: st) σ post ↔ (0 ≤ i ∧ i < (S.2 : Int) ∧ WP S y (pc + 1) lv (vi (S.1 i.toNat) :: st) σ post) := by
  rw [P_iald hc hd]
  constructor
  · rintro (⟨⟨n, h, _⟩, _⟩ | h)
    · have := ash_lt h; omega
    · exact h.2.2
  · intro h; exact Or.inr ⟨rfl, hy, h⟩
theorem P_iast {x i : Int} {a : Nat} (hc : cdo y = cc) (hd : decode cc pc = .ok (.iastore, 1)) : WP S y pc lv (vi x :: vi i :: vr a :: st) σ post ↔ (inb 0 a i ∧ WP S y (pc + 1) lv st (sa σ a i.toNat x) post) := by
  rw [P_of hc hd]
  show stp (WP S) y lv σ post (xiast (pc + 1) lv (vi x :: vi i :: vr a :: st) σ) ↔ _
  simp only [xiast]
  cases hs : ashp a with
  | none =>
    constructor
    · intro h; exact h.elim
    · rintro ⟨⟨n, h, _⟩, _⟩
      rw [hs] at h; cases h
  | some q =>
    obtain ⟨t, n⟩ := q
    constructor
    · intro h
      dsimp only at h
      split at h
      · next e =>
        obtain ⟨rfl, h1, h2⟩ := e
        exact ⟨⟨n, hs, h1, h2⟩, h⟩
      · exact h.elim
    · rintro ⟨⟨m, h, h1, h2⟩, h3⟩
      rw [hs] at h
      cases h
      dsimp only
      rw [if_pos ⟨rfl, h1, h2⟩]
      exact h3
theorem P_baldA {t : Nat} {i : Int} {a k : Nat} (ha : ashp a = some (t, k)) (ht : t = 1 ∨ t = 2) (hc : cdo y = cc) (hd : decode cc pc = .ok (.baload, 1)) : WP S y pc lv (vi i :: vr a :: st) σ post ↔ ((0 ≤ i ∧ i < (k : Int)) ∧ WP S y (pc + 1) lv (vi (ga σ a i.toNat) :: st) σ post) := by
  rw [P_of hc hd]
  show stp (WP S) y lv σ post (xbald (pc + 1) lv (vi i :: vr a :: st) σ) ↔ _
  have h82 := ash_lt ha
  simp only [xbald]
  rw [if_neg (by omega), ha]
  try dsimp only
  by_cases h : 0 ≤ i ∧ i < (k : Int)
  · rw [if_pos ⟨ht, h.1, h.2⟩]; exact ⟨fun q => ⟨h, q⟩, fun q => q.2⟩
  · rw [if_neg (fun q => h q.2)]; exact ⟨fun q => q.elim, fun q => absurd q.1 h⟩
theorem P_baldS {i : Int} {a : Nat} (ha : 2000 ≤ a ∧ a < 2011) (hc : cdo y = cc) (hd : decode cc pc = .ok (.baload, 1)) : WP S y pc lv (vi i :: vr a :: st) σ post ↔ ((0 ≤ i ∧ i < (sLen.getD (a - 2000) 0 : Int)) ∧ WP S y (pc + 1) lv (vi ((sByt.getD (a - 2000) []).getD i.toNat 0).toInt :: st) σ post) := by
  rw [P_of hc hd]
  show stp (WP S) y lv σ post (xbald (pc + 1) lv (vi i :: vr a :: st) σ) ↔ _
  simp only [xbald]
  rw [if_pos ha]
  by_cases h : 0 ≤ i ∧ i < (sLen.getD (a - 2000) 0 : Int)
  · rw [if_pos h]; exact ⟨fun q => ⟨h, q⟩, fun q => q.2⟩
  · rw [if_neg h]; exact ⟨fun q => q.elim, fun q => absurd q.1 h⟩
theorem P_bastA {t : Nat} {x i : Int} {a k : Nat} (ha : ashp a = some (t, k)) (ht : t = 1 ∨ t = 2) (hc : cdo y = cc) (hd : decode cc pc = .ok (.bastore, 1)) : WP S y pc lv (vi x :: vi i :: vr a :: st) σ post ↔ ((0 ≤ i ∧ i < (k : Int)) ∧ WP S y (pc + 1) lv st (sa σ a i.toNat (if t = 1 then narZ x else narB x)) post) := by
  rw [P_of hc hd]
  show stp (WP S) y lv σ post (xbast (pc + 1) lv (vi x :: vi i :: vr a :: st) σ) ↔ _
  simp only [xbast]
  rw [ha]
  try dsimp only
  by_cases h : 0 ≤ i ∧ i < (k : Int)
  · rw [if_pos h]
    rcases ht with rfl | rfl
    · rw [if_pos rfl]; exact ⟨fun q => ⟨h, q⟩, fun q => q.2⟩
    · rw [if_neg (by decide), if_pos rfl]; exact ⟨fun q => ⟨h, q⟩, fun q => q.2⟩
  · rw [if_neg h]; exact ⟨fun q => q.elim, fun q => absurd q.1 h⟩
theorem P_alenA {a k t : Nat} (ha : ashp a = some (t, k)) (hc : cdo y = cc) (hd : decode cc pc = .ok (.arraylength, 1)) : WP S y pc lv (vr a :: st) σ post ↔ WP S y (pc + 1) lv (vi k :: st) σ post := by
  rw [P_of hc hd]
  show stp (WP S) y lv σ post (xalen S y (pc + 1) lv (vr a :: st) σ) ↔ _
  have h82 := ash_lt ha
  simp only [xalen]
  rw [if_neg (by omega), if_neg (by omega), ha]
  exact Iff.rfl
theorem P_alenT {a : Nat} (ha : 2000 ≤ a ∧ a < 2011) (hc : cdo y = cc) (hd : decode cc pc = .ok (.arraylength, 1)) : WP S y pc lv (vr a :: st) σ post ↔ WP S y (pc + 1) lv (vi (sLen.getD (a - 2000) 0 : Nat) :: st) σ post := by
  rw [P_of hc hd]
  show stp (WP S) y lv σ post (xalen S y (pc + 1) lv (vr a :: st) σ) ↔ _
  simp only [xalen]
  rw [if_neg (by omega), if_pos ha]
  exact Iff.rfl
theorem P_alenS (hy : y = lawN) (hc : cdo y = cc) (hd : decode cc pc = .ok (.arraylength, 1)) : WP S y pc lv (vr 3000 :: st) σ post ↔ WP S y (pc + 1) lv (vi S.2 :: st) σ post := by
  rw [P_of hc hd]
  show stp (WP S) y lv σ post (xalen S y (pc + 1) lv (vr 3000 :: st) σ) ↔ _
  simp only [xalen]
  rw [if_pos trivial, if_pos hy]
  exact Iff.rfl
theorem P_getI {o idx c ci j : Nat} {ks : List Nat} (hy : clo y = c) (hcn : ¬ c = 11) (hl : lkp flkL c idx = some (ci, j)) (ho : oshp o = some (ci, ks)) (ht : ks[j]? = some 0) (hc : cdo y = cc) (hd : decode cc pc = .ok (.getfield idx, 3)) : WP S y pc lv (vr o :: st) σ post ↔ WP S y (pc + 3) lv (vi (gi σ (64 * o + j)) :: st) σ post := by
  rw [P_of hc hd]
  show stp (WP S) y lv σ post (xgetf y idx (pc + 3) lv (vr o :: st) σ) ↔ _
  simp only [xgetf]
  rw [hy, if_neg hcn, hl]
  try dsimp only
  rw [ho]
  try dsimp only
  rw [if_pos rfl, ht]
  exact Iff.rfl
theorem P_getL {o idx c ci j : Nat} {ks : List Nat} (hy : clo y = c) (hcn : ¬ c = 11) (hl : lkp flkL c idx = some (ci, j)) (ho : oshp o = some (ci, ks)) (ht : ks[j]? = some 1) (hc : cdo y = cc) (hd : decode cc pc = .ok (.getfield idx, 3)) : WP S y pc lv (vr o :: st) σ post ↔ WP S y (pc + 3) lv (vl (gl σ (64 * o + j)) :: st) σ post := by
  rw [P_of hc hd]
  show stp (WP S) y lv σ post (xgetf y idx (pc + 3) lv (vr o :: st) σ) ↔ _
  simp only [xgetf]
  rw [hy, if_neg hcn, hl]
  try dsimp only
  rw [ho]
  try dsimp only
  rw [if_pos rfl, ht]
  exact Iff.rfl
theorem P_getR {o idx c ci j r : Nat} {ks : List Nat} (hy : clo y = c) (hcn : ¬ c = 11) (hl : lkp flkL c idx = some (ci, j)) (ho : oshp o = some (ci, ks)) (ht : ks[j]? = some (r + 2)) (hr : r < 1000) (hc : cdo y = cc) (hd : decode cc pc = .ok (.getfield idx, 3)) : WP S y pc lv (vr o :: st) σ post ↔ WP S y (pc + 3) lv (vr r :: st) σ post := by
  rw [P_of hc hd]
  show stp (WP S) y lv σ post (xgetf y idx (pc + 3) lv (vr o :: st) σ) ↔ _
  simp only [xgetf]
  rw [hy, if_neg hcn, hl]
  try dsimp only
  rw [ho]
  try dsimp only
  rw [if_pos rfl, ht]
  try dsimp only
  rw [if_pos hr]
  exact Iff.rfl
theorem P_getSV {o : Nat} (hy : clo y = 11) (ho : 1000 ≤ o ∧ o < 1011) (hc : cdo y = cc) (hd : decode cc pc = .ok (.getfield 9, 3)) : WP S y pc lv (vr o :: st) σ post ↔ WP S y (pc + 3) lv (vr (o + 1000) :: st) σ post := by
  rw [P_of hc hd]
  show stp (WP S) y lv σ post (xgetf y 9 (pc + 3) lv (vr o :: st) σ) ↔ _
  simp only [xgetf]
  rw [if_pos hy, if_pos ho]
  exact Iff.rfl
theorem P_getSC {o : Nat} (hy : clo y = 11) (ho : 1000 ≤ o ∧ o < 1011) (hc : cdo y = cc) (hd : decode cc pc = .ok (.getfield 15, 3)) : WP S y pc lv (vr o :: st) σ post ↔ WP S y (pc + 3) lv (vi 0 :: st) σ post := by
  rw [P_of hc hd]
  show stp (WP S) y lv σ post (xgetf y 15 (pc + 3) lv (vr o :: st) σ) ↔ _
  simp only [xgetf]
  rw [if_pos hy, if_pos ho]
  exact Iff.rfl
theorem P_putI {o idx c ci j : Nat} {ks : List Nat} {x : Int} (hy : clo y = c) (hl : lkp flkL c idx = some (ci, j)) (ho : oshp o = some (ci, ks)) (ht : ks[j]? = some 0) (hf : finf ci j = false) (hty : tyf ci j = .int) (hc : cdo y = cc) (hd : decode cc pc = .ok (.putfield idx, 3)) : WP S y pc lv (vi x :: vr o :: st) σ post ↔ WP S y (pc + 3) lv st (si σ (64 * o + j) x) post := by
  rw [P_of hc hd]
  show stp (WP S) y lv σ post (xputf y idx (pc + 3) lv (vi x :: vr o :: st) σ) ↔ _
  simp only [xputf]
  rw [hy, hl]
  try dsimp only
  rw [ho]
  try dsimp only
  rw [if_pos ⟨rfl, hf⟩, ht]
  show stp (WP S) y lv σ post (if tyf ci j = .int ∨ (tyf ci j = .boolean ∧ (x = 0 ∨ x = 1)) then nx (pc + 3) lv st (si σ (64 * o + j) x) else none) ↔ _
  rw [if_pos (Or.inl hty)]
  exact Iff.rfl
theorem P_putZ {o idx c ci j : Nat} {ks : List Nat} {x : Int} (hy : clo y = c) (hl : lkp flkL c idx = some (ci, j)) (ho : oshp o = some (ci, ks)) (ht : ks[j]? = some 0) (hf : finf ci j = false) (hty : tyf ci j = .boolean) (hc : cdo y = cc) (hd : decode cc pc = .ok (.putfield idx, 3)) : WP S y pc lv (vi x :: vr o :: st) σ post ↔ ((x = 0 ∨ x = 1) ∧ WP S y (pc + 3) lv st (si σ (64 * o + j) x) post) := by
  rw [P_of hc hd]
  show stp (WP S) y lv σ post (xputf y idx (pc + 3) lv (vi x :: vr o :: st) σ) ↔ _
  simp only [xputf]
  rw [hy, hl]
  try dsimp only
  rw [ho]
  try dsimp only
  rw [if_pos ⟨rfl, hf⟩, ht]
  show stp (WP S) y lv σ post (if tyf ci j = .int ∨ (tyf ci j = .boolean ∧ (x = 0 ∨ x = 1)) then nx (pc + 3) lv st (si σ (64 * o + j) x) else none) ↔ _
  have hne : ¬ tyf ci j = .int := by rw [hty]; decide
  by_cases h : x = 0 ∨ x = 1
  · rw [if_pos (Or.inr ⟨hty, h⟩)]; exact ⟨fun q => ⟨h, q⟩, fun q => q.2⟩
  · rw [if_neg (fun q => q.elim hne (fun q => h q.2))]; exact ⟨fun q => q.elim, fun q => absurd q.1 h⟩
theorem P_putL {o idx c ci j : Nat} {ks : List Nat} {x : Int} (hy : clo y = c) (hl : lkp flkL c idx = some (ci, j)) (ho : oshp o = some (ci, ks)) (ht : ks[j]? = some 1) (hf : finf ci j = false) (hty : tyf ci j = .long) (hc : cdo y = cc) (hd : decode cc pc = .ok (.putfield idx, 3)) : WP S y pc lv (vl x :: vr o :: st) σ post ↔ WP S y (pc + 3) lv st (sl σ (64 * o + j) x) post := by
  rw [P_of hc hd]
  show stp (WP S) y lv σ post (xputf y idx (pc + 3) lv (vl x :: vr o :: st) σ) ↔ _
  simp only [xputf]
  rw [hy, hl]
  try dsimp only
  rw [ho]
  try dsimp only
  rw [if_pos ⟨rfl, hf⟩, ht]
  show stp (WP S) y lv σ post (if tyf ci j = .long then nx (pc + 3) lv st (sl σ (64 * o + j) x) else none) ↔ _
  rw [if_pos hty]
  exact Iff.rfl
theorem P_gsC (hy : clo y = 11) (hc : cdo y = cc) (hd : decode cc pc = .ok (.getstatic 38, 3)) : WP S y pc lv st σ post ↔ WP S y (pc + 3) lv (vi 1 :: st) σ post := by
  rw [P_of hc hd]
  show stp (WP S) y lv σ post (xgets y 38 (pc + 3) lv st σ) ↔ _
  simp only [xgets]
  rw [if_pos hy]
  exact Iff.rfl
theorem P_gsF (hy : clo y = 11) (hc : cdo y = cc) (hd : decode cc pc = .ok (.getstatic 1053, 3)) : WP S y pc lv st σ post ↔ WP S y (pc + 3) lv (vr 4000 :: st) σ post := by
  rw [P_of hc hd]
  show stp (WP S) y lv σ post (xgets y 1053 (pc + 3) lv st σ) ↔ _
  simp only [xgets]
  rw [if_pos hy]
  exact Iff.rfl
theorem P_ldc {idx c : Nat} {v : Int} (hy : clo y = c) (hcn : ¬ c = 2) (hl : lkp conL c idx = some v) (hc : cdo y = cc) (hd : decode cc pc = .ok (.ldc idx, 2)) : WP S y pc lv st σ post ↔ WP S y (pc + 2) lv (vi v :: st) σ post := by
  rw [P_of hc hd]
  show stp (WP S) y lv σ post (xldc y idx pc 2 lv st σ) ↔ _
  simp only [xldc]
  rw [hy, if_neg hcn, hl]
  exact Iff.rfl
theorem P_ldcw {idx c : Nat} {v : Int} (hy : clo y = c) (hcn : ¬ c = 2) (hl : lkp conL c idx = some v) (hc : cdo y = cc) (hd : decode cc pc = .ok (.ldc_w idx, 3)) : WP S y pc lv st σ post ↔ WP S y (pc + 3) lv (vi v :: st) σ post := by
  rw [P_of hc hd]
  show stp (WP S) y lv σ post (xldc y idx pc 3 lv st σ) ↔ _
  simp only [xldc]
  rw [hy, if_neg hcn, hl]
  exact Iff.rfl
theorem P_ldcS {idx j : Nat} (hy : clo y = 2) (hj : sIdx.findIdx? (fun k => k == idx) = some j) (hc : cdo y = cc) (hd : decode cc pc = .ok (.ldc idx, 2)) : WP S y pc lv st σ post ↔ WP S y (pc + 2) lv (vr (1000 + j) :: st) σ post := by
  rw [P_of hc hd]
  show stp (WP S) y lv σ post (xldc y idx pc 2 lv st σ) ↔ _
  simp only [xldc]
  rw [if_pos hy, hj]
  exact Iff.rfl
theorem P_ldc2 {idx c : Nat} {v : Int} (hy : clo y = c) (hl : lkp colL c idx = some v) (hc : cdo y = cc) (hd : decode cc pc = .ok (.ldc2_w idx, 3)) : WP S y pc lv st σ post ↔ WP S y (pc + 3) lv (vl v :: st) σ post := by
  rw [P_of hc hd]
  show stp (WP S) y lv σ post (xldc2 y idx pc lv st σ) ↔ _
  simp only [xldc2]
  rw [hy, hl]
  exact Iff.rfl
theorem P_min {idx c : Nat} {a b : Int} (hy : clo y = c) (hl : lkp mlkL c idx = some 900) (hr : 1 ≤ fro y ∧ 21 ≤ loo y) (hc : cdo y = cc) (hd : decode cc pc = .ok (.invokestatic idx, 3)) : WP S y pc lv (vi b :: vi a :: st) σ post ↔ (catS st + 13 ≤ loo y ∧ WP S y (pc + 3) lv (vi (minF a b) :: st) σ post) := by
  rw [P_of hc hd]
  show stp (WP S) y lv σ post (xinvS y idx pc lv (vi b :: vi a :: st) σ) ↔ _
  simp only [xinvS]
  rw [hy, hl]
  try dsimp only
  rw [if_pos rfl]
  simp only [xmm]
  by_cases h : catS st + 13 ≤ loo y
  · rw [if_pos ⟨hr.1, h⟩]; exact ⟨fun q => ⟨h, q⟩, fun q => q.2⟩
  · rw [if_neg (fun q => h q.2)]; exact ⟨fun q => q.elim, fun q => absurd q.1 h⟩
theorem P_max {idx c : Nat} {a b : Int} (hy : clo y = c) (hl : lkp mlkL c idx = some 901) (hr : 1 ≤ fro y ∧ 21 ≤ loo y) (hc : cdo y = cc) (hd : decode cc pc = .ok (.invokestatic idx, 3)) : WP S y pc lv (vi b :: vi a :: st) σ post ↔ (catS st + 13 ≤ loo y ∧ WP S y (pc + 3) lv (vi (maxF a b) :: st) σ post) := by
  rw [P_of hc hd]
  show stp (WP S) y lv σ post (xinvS y idx pc lv (vi b :: vi a :: st) σ) ↔ _
  simp only [xinvS]
  rw [hy, hl]
  try dsimp only
  rw [if_neg (by decide), if_pos rfl]
  simp only [xmm]
  by_cases h : catS st + 13 ≤ loo y
  · rw [if_pos ⟨hr.1, h⟩]; exact ⟨fun q => ⟨h, q⟩, fun q => q.2⟩
  · rw [if_neg (fun q => h q.2)]; exact ⟨fun q => q.elim, fun q => absurd q.1 h⟩
theorem P_copy {idx c a b n0 n1 : Nat} {n dp sp : Int} (hy : clo y = c) (hl : lkp mlkL c idx = some 902) (ha : ashp a = some (0, n1)) (hb : ashp b = some (0, n0)) (hr : 1 ≤ fro y ∧ 60 ≤ loo y) (hc : cdo y = cc) (hd : decode cc pc = .ok (.invokestatic idx, 3)) (hcond : 0 ≤ sp ∧ 0 ≤ dp ∧ 0 ≤ n ∧ sp + n ≤ (n0 : Int) ∧ dp + n ≤ (n1 : Int)) : WP S y pc lv [vi n, vi dp, vr a, vi sp, vr b] σ post ↔ WP S y (pc + 3) lv [] (sf σ a (va_cpy (ga σ b) (ga σ a) sp.toNat dp.toNat n.toNat)) post := by
  rw [P_of hc hd]
  show stp (WP S) y lv σ post (xinvS y idx pc lv [vi n, vi dp, vr a, vi sp, vr b] σ) ↔ _
  simp only [xinvS]
  rw [hy, hl]
  try dsimp only
  rw [if_neg (by decide), if_neg (by decide), if_pos rfl]
  simp only [xcopy]
  rw [ha, hb]
  try dsimp only
  have hw : catS [] + (nativeFrameWords "java/lang/System" "arraycopy" 5 + 11) ≤ 60 := by decide
  rw [if_pos ⟨rfl, rfl, hcond.1, hcond.2.1, hcond.2.2.1, hcond.2.2.2.1, hcond.2.2.2.2, hr.1, Nat.le_trans hw hr.2⟩]
  exact Iff.rfl
theorem call_iff {y' : Nat} {lv0 : Lcs} {pc' : Nat} {rest : List AV} : stp (WP S) y lv σ post (some (.inr (.inr (y', lv0, pc', rest)))) ↔ WP S y' 0 lv0 [] σ (fun v σ' => WP S y pc' lv (v.toList ++ rest) σ' post) := by
  constructor
  · rintro ⟨p, h1, h2⟩
    exact WP_mono h1 _ h2
  · intro h
    exact ⟨_, h, fun _ _ q => q⟩
theorem P_callV {idx c y' o k : Nat} {as st' : List AV} {lv0 : Lcs} (hy : clo y = c) (hl : lkp mlkL c idx = some y') (hlt : y' < 900) (hk : npo y' + 1 = k) (htk : (st'.take k).reverse = vr o :: as) (hdr : st'.drop k = st) (hst : sto y' = false) (hn : as.length = npo y') (hrm : roomC y y' = true) (hsl : (slA (vr o :: as)).length ≤ mxl y') (hi : initL y' (vr o :: as) = lv0) (hc : cdo y = cc) (hd : decode cc pc = .ok (.invokevirtual idx, 3)) : WP S y pc lv st' σ post ↔ (rcls o = some (clo y') ∧ catS st ≤ 8 ∧ WP S y' 0 lv0 [] σ (fun v σ' => WP S y (pc + 3) lv (v.toList ++ st) σ' post)) := by
  rw [P_of hc hd]
  show stp (WP S) y lv σ post (xinvV y idx pc st') ↔ _
  simp only [xinvV]
  rw [hy, hl]
  try dsimp only
  rw [if_pos hlt]
  unfold xcallV
  rw [hk, htk]
  try dsimp only
  rw [hdr, hi]
  by_cases h : rcls o = some (clo y') ∧ catS st ≤ 8
  · rw [if_pos ⟨hst, hn, h.1, hrm, h.2, hsl⟩, call_iff]
    exact ⟨fun q => ⟨h.1, h.2, q⟩, fun q => q.2.2⟩
  · rw [if_neg (fun q => h ⟨q.2.2.1, q.2.2.2.2.1⟩)]
    exact ⟨fun q => q.elim, fun q => absurd ⟨q.1, q.2.1⟩ h⟩
theorem P_callS {idx c y' k : Nat} {as st' : List AV} {lv0 : Lcs} (hy : clo y = c) (hl : lkp mlkL c idx = some y') (hlt : y' < 900) (hk : npo y' = k) (htk : st'.take k = as) (hdr : st'.drop k = st) (hst : sto y' = true) (hn : as.length = k) (hrm : roomC y y' = true) (hsl : (slA as.reverse).length ≤ mxl y') (hi : initL y' as.reverse = lv0) (hc : cdo y = cc) (hd : decode cc pc = .ok (.invokestatic idx, 3)) : WP S y pc lv st' σ post ↔ (catS st ≤ 8 ∧ WP S y' 0 lv0 [] σ (fun v σ' => WP S y (pc + 3) lv (v.toList ++ st) σ' post)) := by
  rw [P_of hc hd]
  show stp (WP S) y lv σ post (xinvS y idx pc lv st' σ) ↔ _
  simp only [xinvS]
  rw [hy, hl]
  try dsimp only
  rw [if_neg (by omega), if_neg (by omega), if_neg (by omega)]
  unfold xcallS
  rw [hk, htk, hdr, hi]
  by_cases h : catS st ≤ 8
  · rw [if_pos ⟨hst, hn, hrm, h, hsl⟩, call_iff]
    exact ⟨fun q => ⟨h, q⟩, fun q => q.2⟩
  · rw [if_neg (fun q => h q.2.2.2.1)]
    exact ⟨fun q => q.elim, fun q => absurd q.1 h⟩
theorem P_iret {x : Int} (hr : rto y = some .int) (hc : cdo y = cc) (hd : decode cc pc = .ok (.ireturn, 1)) : WP S y pc lv [vi x] σ post ↔ post (some (vi x)) σ := by
  rw [P_of hc hd]
  show stp (WP S) y lv σ post (xiret y [vi x]) ↔ _
  simp only [xiret]
  rw [hr]
  exact Iff.rfl
theorem P_zret {x : Int} (hr : rto y = some .boolean) (hc : cdo y = cc) (hd : decode cc pc = .ok (.ireturn, 1)) : WP S y pc lv [vi x] σ post ↔ ((x = 0 ∨ x = 1) ∧ post (some (vi x)) σ) := by
  rw [P_of hc hd]
  show stp (WP S) y lv σ post (xiret y [vi x]) ↔ _
  simp only [xiret]
  rw [hr]
  try dsimp only
  by_cases h : x = 0 ∨ x = 1
  · rw [if_pos (by simpa [retOk] using h)]; exact ⟨fun q => ⟨h, q⟩, fun q => q.2⟩
  · rw [if_neg (by simpa [retOk] using h)]; exact ⟨fun q => q.elim, fun q => absurd q.1 h⟩
theorem P_cret {x : Int} {ty : FieldType} (hr : rto y = some ty) (hc : cdo y = cc) (hd : decode cc pc = .ok (.ireturn, 1)) : WP S y pc lv [vi x] σ post ↔ (retOk ty x = true ∧ post (some (vi x)) σ) := by
  rw [P_of hc hd]
  show stp (WP S) y lv σ post (xiret y [vi x]) ↔ _
  simp only [xiret]
  rw [hr]
  try dsimp only
  by_cases h : retOk ty x = true
  · rw [if_pos h]; exact ⟨fun q => ⟨h, q⟩, fun q => q.2⟩
  · rw [if_neg h]; exact ⟨fun q => q.elim, fun q => absurd q.1 h⟩
theorem P_vret (hr : rto y = none) (hc : cdo y = cc) (hd : decode cc pc = .ok (.return_, 1)) : WP S y pc lv [] σ post ↔ post none σ := by
  rw [P_of hc hd]
  show stp (WP S) y lv σ post (xvret y []) ↔ _
  simp only [xvret]
  rw [if_pos hr]
  exact Iff.rfl
theorem P_aret {k : Nat} (hr : isObj (rto y) = true) (hk : k < 1000) (hc : cdo y = cc) (hd : decode cc pc = .ok (.areturn, 1)) : WP S y pc lv [vr k] σ post ↔ post (some (vr k)) σ := by
  rw [P_of hc hd]
  show stp (WP S) y lv σ post (xaret y [vr k]) ↔ _
  simp only [xaret]
  rw [if_pos ⟨hr, hk⟩]
  exact Iff.rfl
end PR
