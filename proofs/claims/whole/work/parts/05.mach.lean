/-! THE SMALL MACHINE: whole numbers for ints, cells by number, one store; its steps as a function; WP: the least predicate closed under its steps -/
abbrev AV : Type := Int ⊕ (Int ⊕ Nat)
abbrev vi (x : Int) : AV := Sum.inl x
abbrev vl (x : Int) : AV := Sum.inr (Sum.inl x)
abbrev vr (k : Nat) : AV := Sum.inr (Sum.inr k)
abbrev Sto : Type := (Nat → Int) × (Nat → Nat → Int) × (Nat → Int)
abbrev Lcs : Type := List (Option AV)
abbrev Scr : Type := (Nat → Int) × Nat
abbrev Res : Type := (Nat × Lcs × List AV × Sto) ⊕ (Option AV ⊕ (Nat × Lcs × Nat × List AV))
def gi (σ : Sto) (k : Nat) : Int := σ.1 k
def ga (σ : Sto) (a i : Nat) : Int := σ.2.1 a i
def gl (σ : Sto) (k : Nat) : Int := σ.2.2 k
def si (σ : Sto) (k : Nat) (x : Int) : Sto := (fun j => if j = k then x else σ.1 j, σ.2)
def sf (σ : Sto) (a : Nat) (f : Nat → Int) : Sto := (σ.1, fun b => if b = a then f else σ.2.1 b, σ.2.2)
def sl (σ : Sto) (k : Nat) (x : Int) : Sto := (σ.1, σ.2.1, fun j => if j = k then x else σ.2.2 j)
def sa (σ : Sto) (a i : Nat) (x : Int) : Sto := sf σ a (fun j => if j = i then x else ga σ a j)
def wr (x : Int) : Int := Int.bmod x 4294967296
def wl (x : Int) : Int := Int.bmod x 18446744073709551616
def inR (x : Int) : Prop := -2147483648 ≤ x ∧ x < 2147483648
def inL (x : Int) : Prop := -9223372036854775808 ≤ x ∧ x < 9223372036854775808
def okv : AV → Prop
  | .inl x => inR x
  | .inr (.inl x) => inL x
  | .inr (.inr _) => True
def catV : AV → Nat
  | .inr (.inl _) => 2
  | _ => 1
def catS (st : List AV) : Nat := (st.map catV).sum
def i2 (f : Int32 → Int32 → Int32) (a b : Int) : Int := (f (Int32.ofInt a) (Int32.ofInt b)).toInt
def ishlF (x y : Int32) : Int32 := x <<< (y &&& 31)
def ishrF (x y : Int32) : Int32 := x >>> (y &&& 31)
def iushrF (x y : Int32) : Int32 := (x.toUInt32 >>> (y.toUInt32 &&& Int32.toUInt32 31)).toInt32
def lshlF (x : Int) (y : Int) : Int := (Int64.ofInt x <<< ((Int32.ofInt y).toInt64 &&& 63)).toInt
def lorF (x y : Int) : Int := (Int64.ofInt x ||| Int64.ofInt y).toInt
def cmpF (c : Jvm.ClassFile.Cond) (a b : Int) : Bool := match c with
  | .eq => decide (a = b)
  | .ne => decide (¬ a = b)
  | .lt => decide (a < b)
  | .ge => decide (b ≤ a)
  | .gt => decide (b < a)
  | .le => decide (a ≤ b)
def lcmpF (x y : Int) : Int := if y < x then 1 else if x = y then 0 else -1
def nx (pc : Nat) (lv : Lcs) (st : List AV) (σ : Sto) : Option Res := some (.inl (pc, lv, st, σ))
def xbin (f : Int → Int → Int) (pc : Nat) (lv : Lcs) (st : List AV) (σ : Sto) : Option Res := match st with
  | .inl b :: .inl a :: r => nx pc lv (vi (f a b) :: r) σ
  | _ => none
def xbinL (f : Int → Int → Int) (pc : Nat) (lv : Lcs) (st : List AV) (σ : Sto) : Option Res := match st with
  | .inr (.inl b) :: .inr (.inl a) :: r => nx pc lv (vl (f a b) :: r) σ
  | _ => none
def xun (f : Int → AV) (pc : Nat) (lv : Lcs) (st : List AV) (σ : Sto) : Option Res := match st with
  | .inl a :: r => nx pc lv (f a :: r) σ
  | _ => none
def xldI (k pc : Nat) (lv : Lcs) (st : List AV) (σ : Sto) : Option Res := match lv[k]? with
  | some (some (.inl x)) => nx pc lv (vi x :: st) σ
  | _ => none
def xldL (k pc : Nat) (lv : Lcs) (st : List AV) (σ : Sto) : Option Res := match lv[k]? with
  | some (some (.inr (.inl x))) => nx pc lv (vl x :: st) σ
  | _ => none
def xldR (k pc : Nat) (lv : Lcs) (st : List AV) (σ : Sto) : Option Res := match lv[k]? with
  | some (some (.inr (.inr x))) => if x = 4000 then none else nx pc lv (vr x :: st) σ
  | _ => none
def okp : Option AV → Bool
  | some (.inr (.inl _)) => false
  | _ => true
def okst (lv : Lcs) (i : Nat) : Bool := match i with
  | 0 => true
  | k + 1 => match lv[k]? with
    | some v => okp v
    | none => true
def xstI (y k pc : Nat) (lv : Lcs) (st : List AV) (σ : Sto) : Option Res := match st with
  | .inl x :: r => if k < mxl y ∧ okst lv k = true then nx pc (lv.set k (some (vi x))) r σ else none
  | _ => none
def xstR (y k pc : Nat) (lv : Lcs) (st : List AV) (σ : Sto) : Option Res := match st with
  | .inr (.inr x) :: r => if k < mxl y ∧ okst lv k = true ∧ ¬ x = 4000 then nx pc (lv.set k (some (vr x))) r σ else none
  | _ => none
def xstL (y k pc : Nat) (lv : Lcs) (st : List AV) (σ : Sto) : Option Res := match st with
  | .inr (.inl x) :: r => if k + 1 < mxl y ∧ okst lv k = true then nx pc ((lv.set k (some (vl x))).set (k + 1) none) r σ else none
  | _ => none
def xinc (y k : Nat) (d : Int) (pc : Nat) (lv : Lcs) (st : List AV) (σ : Sto) : Option Res := match lv[k]? with
  | some (some (.inl x)) => if k < mxl y ∧ okst lv k = true ∧ -128 ≤ d ∧ d < 128 then nx pc (lv.set k (some (vi (wr (x + d))))) st σ else none
  | _ => none
def xjmp (pc : Nat) (off : Int) (lv : Lcs) (st : List AV) (σ : Sto) : Option Res := if 0 ≤ (pc : Int) + off then nx ((pc : Int) + off).toNat lv st σ else none
def xif2 (c : Jvm.ClassFile.Cond) (off : Int) (pc : Nat) (lv : Lcs) (st : List AV) (σ : Sto) : Option Res := match st with
  | .inl b :: .inl a :: r => if 0 ≤ (pc : Int) + off then (if cmpF c a b = true then nx ((pc : Int) + off).toNat lv r σ else nx (pc + 3) lv r σ) else none
  | _ => none
def xif1 (c : Jvm.ClassFile.Cond) (off : Int) (pc : Nat) (lv : Lcs) (st : List AV) (σ : Sto) : Option Res := match st with
  | .inl a :: r => if 0 ≤ (pc : Int) + off then (if cmpF c a 0 = true then nx ((pc : Int) + off).toNat lv r σ else nx (pc + 3) lv r σ) else none
  | _ => none
def xtab (d lo hi : Int) (offs : Array Int) (pc : Nat) (lv : Lcs) (st : List AV) (σ : Sto) : Option Res := match st with
  | .inl a :: r => if a < lo ∨ hi < a then xjmp pc d lv r σ else match offs[(a - lo).toNat]? with
    | some off => xjmp pc off lv r σ
    | none => none
  | _ => none
def xlku (d : Int) (ps : Array (Int × Int)) (pc : Nat) (lv : Lcs) (st : List AV) (σ : Sto) : Option Res := match st with
  | .inl a :: r => if (ps.toList.zip (ps.toList.drop 1)).all (fun (x, next) => x.1 < next.1) = true then xjmp pc (Op.lookupswitch.offset ps.toList d a) lv r σ else none
  | _ => none
def ashp (a : Nat) : Option (Nat × Nat) := match shp[a]? with
  | some (.inr q) => some q
  | _ => none
def oshp (a : Nat) : Option (Nat × List Nat) := match shp[a]? with
  | some (.inl q) => some q
  | _ => none
def xiald (S : Scr) (y pc : Nat) (lv : Lcs) (st : List AV) (σ : Sto) : Option Res := match st with
  | .inl i :: .inr (.inr a) :: r => if a = 3000 then (if y = lawN ∧ 0 ≤ i ∧ i < (S.2 : Int) then nx pc lv (vi (S.1 i.toNat) :: r) σ else none) else match ashp a with
    | some (t, n) => if t = 0 ∧ 0 ≤ i ∧ i < (n : Int) then nx pc lv (vi (ga σ a i.toNat) :: r) σ else none
    | none => none
  | _ => none
def xbald (pc : Nat) (lv : Lcs) (st : List AV) (σ : Sto) : Option Res := match st with
  | .inl i :: .inr (.inr a) :: r => if 2000 ≤ a ∧ a < 2011 then (if 0 ≤ i ∧ i < (sLen.getD (a - 2000) 0 : Int) then nx pc lv (vi ((sByt.getD (a - 2000) []).getD i.toNat 0).toInt :: r) σ else none) else match ashp a with
    | some (t, n) => if (t = 1 ∨ t = 2) ∧ 0 ≤ i ∧ i < (n : Int) then nx pc lv (vi (ga σ a i.toNat) :: r) σ else none
    | none => none
  | _ => none
def xiast (pc : Nat) (lv : Lcs) (st : List AV) (σ : Sto) : Option Res := match st with
  | .inl x :: .inl i :: .inr (.inr a) :: r => match ashp a with
    | some (t, n) => if t = 0 ∧ 0 ≤ i ∧ i < (n : Int) then nx pc lv r (sa σ a i.toNat x) else none
    | none => none
  | _ => none
def narB (x : Int) : Int := (vp_nar .byte (Int32.ofInt x)).toInt
def narZ (x : Int) : Int := (vp_nar .boolean (Int32.ofInt x)).toInt
def xbast (pc : Nat) (lv : Lcs) (st : List AV) (σ : Sto) : Option Res := match st with
  | .inl x :: .inl i :: .inr (.inr a) :: r => match ashp a with
    | some (t, n) => if 0 ≤ i ∧ i < (n : Int) then (if t = 1 then nx pc lv r (sa σ a i.toNat (narZ x)) else if t = 2 then nx pc lv r (sa σ a i.toNat (narB x)) else none) else none
    | none => none
  | _ => none
def xalen (S : Scr) (y pc : Nat) (lv : Lcs) (st : List AV) (σ : Sto) : Option Res := match st with
  | .inr (.inr a) :: r => if a = 3000 then (if y = lawN then nx pc lv (vi S.2 :: r) σ else none) else if 2000 ≤ a ∧ a < 2011 then nx pc lv (vi (sLen.getD (a - 2000) 0) :: r) σ else match ashp a with
    | some (_, n) => nx pc lv (vi n :: r) σ
    | none => none
  | _ => none
def xgetf (y idx pc : Nat) (lv : Lcs) (st : List AV) (σ : Sto) : Option Res := match st with
  | .inr (.inr o) :: r => if clo y = 11 then (if 1000 ≤ o ∧ o < 1011 then (if idx = 9 then nx pc lv (vr (o + 1000) :: r) σ else if idx = 15 then nx pc lv (vi 0 :: r) σ else none) else none) else match lkp flkL (clo y) idx with
    | some (ci, j) => match oshp o with
      | some (ci', ks) => if ci' = ci then (match ks[j]? with
        | some 0 => nx pc lv (vi (gi σ (64 * o + j)) :: r) σ
        | some 1 => nx pc lv (vl (gl σ (64 * o + j)) :: r) σ
        | some (q + 2) => if q < 1000 then nx pc lv (vr q :: r) σ else none
        | none => none) else none
      | none => none
    | none => none
  | _ => none
def tyf (ci j : Nat) : FieldType := (tyL.getD ci tyX0) j
def finf (ci j : Nat) : Bool := match clsL[ci]? with
  | some (_, T, _) => (T j).2.2.2
  | none => true
def xputf (y idx pc : Nat) (lv : Lcs) (st : List AV) (σ : Sto) : Option Res := match st with
  | v :: .inr (.inr o) :: r => match lkp flkL (clo y) idx with
    | some (ci, j) => match oshp o with
      | some (ci', ks) => if ci' = ci ∧ finf ci j = false then (match ks[j]?, v with
        | some 0, .inl x => if tyf ci j = .int ∨ (tyf ci j = .boolean ∧ (x = 0 ∨ x = 1)) then nx pc lv r (si σ (64 * o + j) x) else none
        | some 1, .inr (.inl x) => if tyf ci j = .long then nx pc lv r (sl σ (64 * o + j) x) else none
        | _, _ => none) else none
      | none => none
    | none => none
  | _ => none
def xgets (y idx pc : Nat) (lv : Lcs) (st : List AV) (σ : Sto) : Option Res := if clo y = 11 then (if idx = 38 then nx pc lv (vi 1 :: st) σ else if idx = 1053 then nx pc lv (vr 4000 :: st) σ else none) else none
def rcls (o : Nat) : Option Nat := if 1000 ≤ o ∧ o < 1011 then some 11 else match oshp o with
  | some (ci, _) => some ci
  | none => none
def slA (as : List AV) : Lcs := as.flatMap (fun v => if catV v = 2 then [some v, none] else [some v])
def initL (y : Nat) (as : List AV) : Lcs := slA as ++ List.replicate (mxl y - (slA as).length) none
def roomC (y y' : Nat) : Bool := decide (fro y' + 1 ≤ fro y) && decide (8 + (mxl y' + 11) + loo y' ≤ loo y) && decide (y' < lawN)
def xcallV (y y' pc : Nat) (st : List AV) : Option Res := match (st.take (npo y' + 1)).reverse with
  | .inr (.inr o) :: as => if sto y' = false ∧ as.length = npo y' ∧ rcls o = some (clo y') ∧ roomC y y' = true ∧ catS (st.drop (npo y' + 1)) ≤ 8 ∧ (slA (vr o :: as)).length ≤ mxl y' then some (.inr (.inr (y', initL y' (vr o :: as), pc + 3, st.drop (npo y' + 1)))) else none
  | _ => none
def xcallS (y y' pc : Nat) (st : List AV) : Option Res := if sto y' = true ∧ (st.take (npo y')).length = npo y' ∧ roomC y y' = true ∧ catS (st.drop (npo y')) ≤ 8 ∧ (slA (st.take (npo y')).reverse).length ≤ mxl y' then some (.inr (.inr (y', initL y' (st.take (npo y')).reverse, pc + 3, st.drop (npo y')))) else none
def xmm (f : Int → Int → Int) (y pc : Nat) (lv : Lcs) (st : List AV) (σ : Sto) : Option Res := match st with
  | .inl b :: .inl a :: r => if 1 ≤ fro y ∧ catS r + 13 ≤ loo y then nx (pc + 3) lv (vi (f a b) :: r) σ else none
  | _ => none
def minF (a b : Int) : Int := if b < a then b else a
def maxF (a b : Int) : Int := if a < b then b else a
def xcopy (y pc : Nat) (lv : Lcs) (st : List AV) (σ : Sto) : Option Res := match st with
  | .inl n :: .inl dp :: .inr (.inr a) :: .inl sp :: .inr (.inr b) :: r => match ashp a, ashp b with
    | some (t1, n1), some (t0, n0) => if t1 = 0 ∧ t0 = 0 ∧ 0 ≤ sp ∧ 0 ≤ dp ∧ 0 ≤ n ∧ sp + n ≤ (n0 : Int) ∧ dp + n ≤ (n1 : Int) ∧ 1 ≤ fro y ∧ catS r + (nativeFrameWords "java/lang/System" "arraycopy" 5 + 11) ≤ loo y then nx (pc + 3) lv r (sf σ a (va_cpy (ga σ b) (ga σ a) sp.toNat dp.toNat n.toNat)) else none
    | _, _ => none
  | _ => none
def xinvS (y idx pc : Nat) (lv : Lcs) (st : List AV) (σ : Sto) : Option Res := match lkp mlkL (clo y) idx with
  | some y' => if y' = 900 then xmm minF y pc lv st σ else if y' = 901 then xmm maxF y pc lv st σ else if y' = 902 then xcopy y pc lv st σ else xcallS y y' pc st
  | none => none
def xinvV (y idx pc : Nat) (st : List AV) : Option Res := match lkp mlkL (clo y) idx with
  | some y' => if y' < 900 then xcallV y y' pc st else none
  | none => none
def retOk (ty : FieldType) (x : Int) : Bool := match ty with
  | .int => true
  | .boolean => decide (x = 0 ∨ x = 1)
  | .char => decide (vp_nar .char (Int32.ofInt x) = Int32.ofInt x)
  | .byte => decide (vp_nar .byte (Int32.ofInt x) = Int32.ofInt x)
  | _ => false
def xiret (y : Nat) (st : List AV) : Option Res := match st with
  | [.inl x] => match rto y with
    | some ty => if retOk ty x = true then some (.inr (.inl (some (vi x)))) else none
    | none => none
  | _ => none
def isObj (ty : Option FieldType) : Bool := match ty with
  | some (.object _) => true
  | _ => false
def xaret (y : Nat) (st : List AV) : Option Res := match st with
  | [.inr (.inr k)] => if isObj (rto y) = true ∧ k < 1000 then some (.inr (.inl (some (vr k)))) else none
  | _ => none
def xvret (y : Nat) (st : List AV) : Option Res := match st with
  | [] => if rto y = none then some (.inr (.inl none)) else none
  | _ => none
def xldc (y idx pc n : Nat) (lv : Lcs) (st : List AV) (σ : Sto) : Option Res := if clo y = 2 then (match sIdx.findIdx? (fun k => k == idx) with
    | some j => if n = 2 then nx (pc + 2) lv (vr (1000 + j) :: st) σ else none
    | none => none) else match lkp conL (clo y) idx with
  | some v => nx (pc + n) lv (vi v :: st) σ
  | none => none
def xldc2 (y idx pc : Nat) (lv : Lcs) (st : List AV) (σ : Sto) : Option Res := match lkp colL (clo y) idx with
  | some v => nx (pc + 3) lv (vl v :: st) σ
  | none => none
def xdup (pc : Nat) (lv : Lcs) (st : List AV) (σ : Sto) : Option Res := match st with
  | v :: r => if catV v = 1 then nx pc lv (v :: v :: r) σ else none
  | _ => none
def xdup2 (pc : Nat) (lv : Lcs) (st : List AV) (σ : Sto) : Option Res := match st with
  | v :: w :: r => if catV v = 1 ∧ catV w = 1 then nx pc lv (v :: w :: v :: w :: r) σ else none
  | _ => none
def xpop (pc : Nat) (lv : Lcs) (st : List AV) (σ : Sto) : Option Res := match st with
  | v :: r => if catV v = 1 then nx pc lv r σ else none
  | _ => none
def xdiv (f : Int → Int → Int) (pc : Nat) (lv : Lcs) (st : List AV) (σ : Sto) : Option Res := match st with
  | .inl b :: .inl a :: r => if b = 0 then none else nx pc lv (vi (f a b) :: r) σ
  | _ => none
def xlcmp (pc : Nat) (lv : Lcs) (st : List AV) (σ : Sto) : Option Res := match st with
  | .inr (.inl b) :: .inr (.inl a) :: r => nx pc lv (vi (lcmpF a b) :: r) σ
  | _ => none
def xlshl (pc : Nat) (lv : Lcs) (st : List AV) (σ : Sto) : Option Res := match st with
  | .inl b :: .inr (.inl a) :: r => nx pc lv (vl (lshlF a b) :: r) σ
  | _ => none
def gd (n k : Nat) (r : Option Res) : Option Res := if n = k then r else none
def exI (S : Scr) (y pc n : Nat) (lv : Lcs) (st : List AV) (σ : Sto) (i : Instr) : Option Res := match i with
  | .aload_n k => gd n 1 (xldR k.val (pc + 1) lv st σ)
  | .aload k => gd n 2 (xldR k (pc + 2) lv st σ)
  | .iload_n k => gd n 1 (xldI k.val (pc + 1) lv st σ)
  | .iload k => gd n 2 (xldI k (pc + 2) lv st σ)
  | .lload_n k => gd n 1 (xldL k.val (pc + 1) lv st σ)
  | .lload k => gd n 2 (xldL k (pc + 2) lv st σ)
  | .istore_n k => gd n 1 (xstI y k.val (pc + 1) lv st σ)
  | .istore k => gd n 2 (xstI y k (pc + 2) lv st σ)
  | .lstore_n k => gd n 1 (xstL y k.val (pc + 1) lv st σ)
  | .lstore k => gd n 2 (xstL y k (pc + 2) lv st σ)
  | .astore_n k => gd n 1 (xstR y k.val (pc + 1) lv st σ)
  | .iinc k d => gd n 3 (xinc y k d (pc + 3) lv st σ)
  | .iconst v => gd n 1 (if -128 ≤ v ∧ v < 128 then nx (pc + 1) lv (vi v :: st) σ else none)
  | .bipush v => gd n 2 (if -128 ≤ v ∧ v < 128 then nx (pc + 2) lv (vi v :: st) σ else none)
  | .sipush v => gd n 3 (if -32768 ≤ v ∧ v < 32768 then nx (pc + 3) lv (vi v :: st) σ else none)
  | .lconst k => gd n 1 (nx (pc + 1) lv (vl k.val :: st) σ)
  | .ldc k => gd n 2 (xldc y k pc n lv st σ)
  | .ldc_w k => gd n 3 (xldc y k pc n lv st σ)
  | .ldc2_w k => gd n 3 (xldc2 y k pc lv st σ)
  | .iadd => gd n 1 (xbin (fun a b => wr (a + b)) (pc + 1) lv st σ)
  | .isub => gd n 1 (xbin (fun a b => wr (a - b)) (pc + 1) lv st σ)
  | .imul => gd n 1 (xbin (fun a b => wr (a * b)) (pc + 1) lv st σ)
  | .idiv => gd n 1 (xdiv (fun a b => wr (a.tdiv b)) (pc + 1) lv st σ)
  | .irem => gd n 1 (xdiv (fun a b => wr (a.tmod b)) (pc + 1) lv st σ)
  | .ineg => gd n 1 (xun (fun a => vi (wr (-a))) (pc + 1) lv st σ)
  | .iand => gd n 1 (xbin (i2 (· &&& ·)) (pc + 1) lv st σ)
  | .ior => gd n 1 (xbin (i2 (· ||| ·)) (pc + 1) lv st σ)
  | .ixor => gd n 1 (xbin (i2 (· ^^^ ·)) (pc + 1) lv st σ)
  | .ishl => gd n 1 (xbin (i2 ishlF) (pc + 1) lv st σ)
  | .ishr => gd n 1 (xbin (i2 ishrF) (pc + 1) lv st σ)
  | .iushr => gd n 1 (xbin (i2 iushrF) (pc + 1) lv st σ)
  | .ladd => gd n 1 (xbinL (fun a b => wl (a + b)) (pc + 1) lv st σ)
  | .lsub => gd n 1 (xbinL (fun a b => wl (a - b)) (pc + 1) lv st σ)
  | .lmul => gd n 1 (xbinL (fun a b => wl (a * b)) (pc + 1) lv st σ)
  | .lor => gd n 1 (xbinL lorF (pc + 1) lv st σ)
  | .lshl => gd n 1 (xlshl (pc + 1) lv st σ)
  | .lcmp => gd n 1 (xlcmp (pc + 1) lv st σ)
  | .i2l => gd n 1 (xun (fun a => vl a) (pc + 1) lv st σ)
  | .i2b => gd n 1 (xun (fun a => vi (Int32.ofInt a).toInt8.toInt) (pc + 1) lv st σ)
  | .i2c => gd n 1 (xun (fun a => vi ((Int32.ofInt a).toUInt32 % 65536).toInt32.toInt) (pc + 1) lv st σ)
  | .dup => gd n 1 (xdup (pc + 1) lv st σ)
  | .dup2 => gd n 1 (xdup2 (pc + 1) lv st σ)
  | .pop => gd n 1 (xpop (pc + 1) lv st σ)
  | .ifCond c off => gd n 3 (xif1 c off pc lv st σ)
  | .if_icmp c off => gd n 3 (xif2 c off pc lv st σ)
  | .goto off => gd n 3 (xjmp pc off lv st σ)
  | .tableswitch d lo hi offs => xtab d lo hi offs pc lv st σ
  | .lookupswitch d ps => xlku d ps pc lv st σ
  | .iaload => gd n 1 (xiald S y (pc + 1) lv st σ)
  | .iastore => gd n 1 (xiast (pc + 1) lv st σ)
  | .baload => gd n 1 (xbald (pc + 1) lv st σ)
  | .bastore => gd n 1 (xbast (pc + 1) lv st σ)
  | .arraylength => gd n 1 (xalen S y (pc + 1) lv st σ)
  | .getfield k => gd n 3 (xgetf y k (pc + 3) lv st σ)
  | .putfield k => gd n 3 (xputf y k (pc + 3) lv st σ)
  | .getstatic k => gd n 3 (xgets y k (pc + 3) lv st σ)
  | .invokevirtual k => gd n 3 (xinvV y k pc st)
  | .invokestatic k => gd n 3 (xinvS y k pc lv st σ)
  | .ireturn => gd n 1 (xiret y st)
  | .areturn => gd n 1 (xaret y st)
  | .return_ => gd n 1 (xvret y st)
  | _ => none
def ex1 (S : Scr) (y pc : Nat) (lv : Lcs) (st : List AV) (σ : Sto) : Option Res := match decode (cdo y) pc with
  | .ok (i, n) => exI S y pc n lv st σ i
  | .error _ => none
abbrev Pst : Type := Option AV → Sto → Prop
abbrev JX : Type := Nat → Nat → Lcs → List AV → Sto → Pst → Prop
/-- one step, with X for what comes behind it -/
def stp (X : JX) (y : Nat) (lv : Lcs) (σ : Sto) (post : Pst) (r : Option Res) : Prop := match r with
  | none => False
  | some (.inl (pc', lv', st', σ')) => X y pc' lv' st' σ' post
  | some (.inr (.inl v)) => post v σ
  | some (.inr (.inr (y', lv0, pc', rest))) => ∃ post', X y' 0 lv0 [] σ post' ∧ ∀ v σ', post' v σ' → X y pc' lv (v.toList ++ rest) σ' post
def clX (S : Scr) (X : JX) : Prop := ∀ y pc lv st σ post, stp X y lv σ post (ex1 S y pc lv st σ) → X y pc lv st σ post
def WP (S : Scr) : JX := fun y pc lv st σ post => ∀ X : JX, clX S X → X y pc lv st σ post
theorem stp_mono {X Y : JX} (h : ∀ y pc lv st σ post, X y pc lv st σ post → Y y pc lv st σ post) {y : Nat} {lv : Lcs} {σ : Sto} {post : Pst} {r : Option Res} (hx : stp X y lv σ post r) : stp Y y lv σ post r := by
  match r, hx with
  | some (.inl (pc', lv', st', σ')), hx => exact h _ _ _ _ _ _ hx
  | some (.inr (.inl v)), hx => exact hx
  | some (.inr (.inr (y', lv0, pc', rest))), hx =>
    obtain ⟨p, h1, h2⟩ := hx
    exact ⟨p, h _ _ _ _ _ _ h1, fun v σ' hv => h _ _ _ _ _ _ (h2 v σ' hv)⟩
theorem WP_cl (S : Scr) : clX S (WP S) := by
  intro y pc lv st σ post h X hX
  exact hX _ _ _ _ _ _ (stp_mono (fun _ _ _ _ _ _ hw => hw X hX) h)
theorem WP_iff {S : Scr} {y pc : Nat} {lv : Lcs} {st : List AV} {σ : Sto} {post : Pst} : WP S y pc lv st σ post ↔ stp (WP S) y lv σ post (ex1 S y pc lv st σ) := by
  constructor
  · intro h
    exact h (fun y pc lv st σ post => stp (WP S) y lv σ post (ex1 S y pc lv st σ)) (fun y pc lv st σ post hs => stp_mono (fun y pc lv st σ post hx => WP_cl S _ _ _ _ _ _ hx) hs)
  · exact WP_cl S _ _ _ _ _ _
theorem WP_mono {S : Scr} {y pc : Nat} {lv : Lcs} {st : List AV} {σ : Sto} {post : Pst} (h : WP S y pc lv st σ post) : ∀ post' : Pst, (∀ v σ', post v σ' → post' v σ') → WP S y pc lv st σ post' := by
  refine h (fun y pc lv st σ post => ∀ post' : Pst, (∀ v σ', post v σ' → post' v σ') → WP S y pc lv st σ post') ?_
  intro y pc lv st σ post hs post' hp
  rw [WP_iff]
  revert hs
  generalize ex1 S y pc lv st σ = r
  intro hs
  match r, hs with
  | some (.inl (pc', lv', st', σ')), hx => exact hx _ hp
  | some (.inr (.inl v)), hx => exact hp _ _ hx
  | some (.inr (.inr (y', lv0, pc', rest))), hx =>
    obtain ⟨p, h1, h2⟩ := hx
    exact ⟨p, h1 _ (fun _ _ hv => hv), fun v σ' hv => h2 v σ' hv _ hp⟩
