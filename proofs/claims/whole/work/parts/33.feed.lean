/-! the tape: bytes of ints -/
theorem bt_shr {w : Int} (hw : inR w) : i2 ishrF w 24 = w / 16777216 ∧ i2 ishrF w 16 = w / 65536 ∧ i2 ishrF w 8 = w / 256 ∧ i2 ishrF w 0 = w := by
  have key : ∀ (n : Nat) (k : Int32), ((k &&& 31).toBitVec.smod 32).toNat = n → (Int32.ofInt w >>> (k &&& 31)).toInt = w / 2 ^ n := by
    intro n k hk
    rw [← Int32.toInt_toBitVec, Int32.toBitVec_shiftRight, BitVec.sshiftRight_eq', BitVec.toInt_sshiftRight]
    have e : (Int32.ofInt w).toBitVec.toInt = w := by rw [Int32.toInt_toBitVec]; exact toI hw
    rw [e]
    rw [hk, Int.shiftRight_eq_div_pow]
    rfl
  unfold i2 ishrF
  refine ⟨key 24 (Int32.ofInt 24) (by decide), key 16 (Int32.ofInt 16) (by decide), key 8 (Int32.ofInt 8) (by decide), ?_⟩
  have := key 0 (Int32.ofInt 0) (by decide)
  rw [this]
  omega
theorem bt_ushr {w : Int} (hw : inR w) : i2 (· &&& ·) (i2 iushrF w 24) 255 = (w / 16777216) % 256 ∧ i2 (· &&& ·) (i2 iushrF w 16) 255 = (w / 65536) % 256 ∧ i2 (· &&& ·) (i2 iushrF w 8) 255 = (w / 256) % 256 ∧ i2 (· &&& ·) (i2 iushrF w 0) 255 = w % 256 := by
  have key : ∀ (n : Nat) (k : Int32), (k.toUInt32 &&& Int32.toUInt32 31).toNat % 32 = n → ((Int32.ofInt ((Int32.ofInt w).toUInt32 >>> (k.toUInt32 &&& Int32.toUInt32 31)).toInt32.toInt) &&& Int32.ofInt 255).toInt = ((Int32.ofInt w).toUInt32.toNat / 2 ^ n % 256 : Nat) := by
    intro n k hk
    rw [Int32.ofInt_toInt, ← Int32.toInt_toBitVec, Int32.toBitVec_and]
    have e1 : ((Int32.ofInt w).toUInt32 >>> (k.toUInt32 &&& Int32.toUInt32 31)).toInt32.toBitVec = ((Int32.ofInt w).toUInt32 >>> (k.toUInt32 &&& Int32.toUInt32 31)).toBitVec := rfl
    have e2 : (Int32.ofInt 255).toBitVec = 255#32 := by decide
    rw [e1, e2]
    have e3 : (((Int32.ofInt w).toUInt32 >>> (k.toUInt32 &&& Int32.toUInt32 31)).toBitVec &&& 255#32).toNat = (Int32.ofInt w).toUInt32.toNat / 2 ^ n % 256 := by
      rw [BitVec.toNat_and]
      show (((Int32.ofInt w).toUInt32 >>> (k.toUInt32 &&& Int32.toUInt32 31)).toNat &&& 255) = _
      rw [UInt32.toNat_shiftRight, hk, Nat.shiftRight_eq_div_pow, show (255 : Nat) = 2 ^ 8 - 1 from rfl, Nat.and_two_pow_sub_one_eq_mod]
    rw [BitVec.toInt_eq_toNat_of_lt (by rw [e3]; omega), e3]
  have hn : ((Int32.ofInt w).toUInt32.toNat : Int) = w % 4294967296 := by
    have h1 := toI hw
    have h2 : (Int32.ofInt w).toInt = ((Int32.ofInt w).toBitVec).toInt := (Int32.toInt_toBitVec _).symm
    have h3 : (Int32.ofInt w).toUInt32.toNat = (Int32.ofInt w).toBitVec.toNat := rfl
    rw [h1, BitVec.toInt_eq_toNat_cond] at h2
    rw [h3]
    unfold inR at hw
    split at h2 <;> omega
  have g24 := key 24 (Int32.ofInt 24) (by decide)
  have g16 := key 16 (Int32.ofInt 16) (by decide)
  have g8 := key 8 (Int32.ofInt 8) (by decide)
  have g0 := key 0 (Int32.ofInt 0) (by decide)
  unfold i2 iushrF
  rw [g24, g16, g8, g0]
  unfold inR at hw
  omega
theorem bt_i8 {x : Int} (hx : inR x) : (Int32.ofInt x).toInt8.toInt = if x % 256 < 128 then x % 256 else x % 256 - 256 := by
  have e : (Int32.ofInt x).toInt8.toInt = Int.bmod x 256 := by
    have h : (Int32.ofInt x).toInt8.toInt = (Int32.ofInt x).toInt.bmod (2 ^ 8) := Int32.toInt_toInt8 _
    rw [h, toI hx]
  rw [e, Int.bmod_def]
  split <;> split <;> omega
theorem narB_id {x : Int} (h : -128 ≤ x ∧ x < 128) : narB x = x := by
  unfold narB
  have e : vp_nar .byte (Int32.ofInt x) = (Int32.ofInt x).toInt8.toInt32 := rfl
  rw [e, Int8.toInt_toInt32, bt_i8 (by unfold inR; omega)]
  split <;> omega
theorem sa_si {σ : Sto} {k a i : Nat} {x v : Int} : sa (si σ k x) a i v = si (sa σ a i v) k x := rfl
theorem si_si {σ : Sto} {k : Nat} {x y : Int} : si (si σ k x) k y = si σ k y := by
  unfold si
  congr 1
  funext j
  by_cases h : j = k
  · rw [if_pos h, if_pos h]
  · rw [if_neg h, if_neg h]
    show (if j = k then x else σ.1 j) = σ.1 j
    rw [if_neg h]
def wlS (σ : Sto) (a p : Nat) : List Int → Sto
  | [] => σ
  | x :: xs => wlS (sa σ a p x) a (p + 1) xs
theorem ga_wl {a : Nat} : ∀ (xs : List Int) (σ : Sto) (p j : Nat), ga (wlS σ a p xs) a j = if p ≤ j ∧ j < p + xs.length then xs.getD (j - p) 0 else ga σ a j := by
  intro xs
  induction xs with
  | nil =>
    intro σ p j
    rw [if_neg (by simp only [List.length_nil]; omega)]
    rfl
  | cons x xs ih =>
    intro σ p j
    simp only [wlS]
    rw [ih, ga_sa, if_pos rfl]
    simp only [List.length_cons]
    by_cases h : j = p
    · subst h
      rw [if_neg (by omega), if_pos rfl, if_pos (by omega)]
      simp
    · by_cases h2 : p + 1 ≤ j ∧ j < p + 1 + xs.length
      · rw [if_pos h2, if_pos (by omega)]
        rw [show j - p = (j - (p + 1)) + 1 by omega]
        simp
      · rw [if_neg h2, if_neg h, if_neg (by omega)]
theorem gi_wl {a k : Nat} : ∀ (xs : List Int) (σ : Sto) (p : Nat), gi (wlS σ a p xs) k = gi σ k := by
  intro xs
  induction xs with
  | nil => intro σ p; rfl
  | cons x xs ih => intro σ p; simp only [wlS]; rw [ih]; rfl
theorem ga_wl_ne {a b : Nat} (h : ¬ b = a) : ∀ (xs : List Int) (σ : Sto) (p : Nat), ga (wlS σ a p xs) b = ga σ b := by
  intro xs
  induction xs with
  | nil => intro σ p; rfl
  | cons x xs ih => intro σ p; simp only [wlS]; rw [ih, ga_sa, if_neg h]
section FEED
variable {S : Scr} {σ : Sto} {post : Pst}
theorem wr_m8 : wr (24 + -8) = 16 ∧ wr (16 + -8) = 8 ∧ wr (8 + -8) = 0 ∧ wr (0 + -8) = -8 := ⟨by decide, by decide, by decide, by decide⟩
set_option maxRecDepth 100000 in
set_option maxHeartbeats 4000000 in
theorem S_put {w n : Int} (hw : inR w) (hn : gi σ 705 = n) (h0 : 0 ≤ n) (h1 : n + 4 ≤ 800) : WP S 81 0 [some (vr 11), some (vi w), none] [] σ post ↔ post none (si (wlS σ 12 n.toNat [(w / 16777216) % 256, (w / 65536) % 256, (w / 256) % 256, w % 256]) 705 (n + 4)) := by
  obtain ⟨m1, m2, m3, m4⟩ := wr_m8
  obtain ⟨u1, u2, u3, u4⟩ := bt_ushr hw
  have a0 : (0 ≤ n) = True := eq_true (by omega)
  have b0 : (n < 800) = True := eq_true (by omega)
  have b0' : (800 ≤ n) = False := eq_false (by omega)
  have e0 : wr (n + 1) = n + 1 := wr_id (by omega) (by omega)
  have t0 : (n + 0).toNat = n.toNat + 0 := by omega
  have a1 : (0 ≤ n + 1) = True := eq_true (by omega)
  have b1 : (n + 1 < 800) = True := eq_true (by omega)
  have b1' : (800 ≤ n + 1) = False := eq_false (by omega)
  have e1 : wr (n + 1 + 1) = n + 2 := by rw [wr_id (by omega) (by omega)]; omega
  have t1 : (n + 1).toNat = n.toNat + 1 := by omega
  have a2 : (0 ≤ n + 2) = True := eq_true (by omega)
  have b2 : (n + 2 < 800) = True := eq_true (by omega)
  have b2' : (800 ≤ n + 2) = False := eq_false (by omega)
  have e2 : wr (n + 2 + 1) = n + 3 := by rw [wr_id (by omega) (by omega)]; omega
  have t2 : (n + 2).toNat = n.toNat + 2 := by omega
  have a3 : (0 ≤ n + 3) = True := eq_true (by omega)
  have b3 : (n + 3 < 800) = True := eq_true (by omega)
  have b3' : (800 ≤ n + 3) = False := eq_false (by omega)
  have e3 : wr (n + 3 + 1) = n + 4 := by rw [wr_id (by omega) (by omega)]; omega
  have t3 : (n + 3).toNat = n.toNat + 3 := by omega
  simp only [w81_0, w81_2, w81_3, w81_4, w81_7, w81_8, w81_11, w81_14, w81_17, w81_18, w81_21, w81_22, w81_25, w81_26, w81_27, w81_28, w81_31, w81_32, w81_33, w81_34, w81_34r, w81_35, w81_38, w81_39, w81_40, w81_43, w81_46, w81_49, ↓reduceIte, okp_i, okp_r, okp_n, catS_nil, catS_cons, catV_i, catV_r, catV_l, Option.toList_some, Option.toList_none, List.cons_append, List.nil_append, gi_si, ga_si, gi_sa, ga_sa, gi_sl, ga_sl, gi_sf, ga_sf, gl_si, gl_sa, gl_sf, gl_sl, and_true, true_and, if_true, if_false, ite_true, ite_false, not_false_eq_true, not_true_eq_false, Nat.reduceEqDiff, reduceCtorEq, Nat.reduceLeDiff, Nat.reduceAdd, Nat.reduceMul, Nat.reduceLT, Int.reduceNeg, Int.reduceEq, Int.reduceLT, Int.reduceLE, eq_self, Nat.reduceSub, or_true, true_or, or_false, false_or, and_false, false_and, Int.reduceToNat, rc0, rc1, ib2, ib3, ib4, ib5, ib6, ib7, ib8, ib9, ib10, rc11, ib12, rc13, ib14, ib15, ib16, ib17, ib18, ib19, rc20, rc21, ib22, ib23, ib24, rc25, ib26, ib27, ib28, ib29, ib30, ib31, rc32, ib33, rc34, ib35, rc36, ib37, rc38, ib39, ib40, ib41, ib42, ib43, ib44, ib45, ib46, ib47, rc48, ib49, ib50, ib51, ib52, ib53, rc54, ib55, ib56, ib57, ib58, ib59, ib60, ib61, ib62, ib63, ib64, ib65, ib66, ib67, ib68, ib69, ib70, ib71, ib72, ib73, ib74, ib75, ib76, ib77, ib78, ib79, ib80, ib81, sa_si, si_si, hn, a0, b0, b0', e0, t0, a1, b1, b1', e1, t1, a2, b2, b2', e2, t2, a3, b3, b3', e3, t3, m1, m2, m3, m4, u1, u2, u3, u4]
  exact Iff.rfl

theorem wlS_si {a k : Nat} {v : Int} : ∀ (xs : List Int) (σ : Sto) (p : Nat), wlS (si σ k v) a p xs = si (wlS σ a p xs) k v := by
  intro xs
  induction xs with
  | nil => intro σ p; rfl
  | cons x xs ih => intro σ p; simp only [wlS, sa_si, ih]
theorem wlS_app {a : Nat} : ∀ (xs ys : List Int) (σ : Sto) (p : Nat), wlS (wlS σ a p xs) a (p + xs.length) ys = wlS σ a p (xs ++ ys) := by
  intro xs
  induction xs with
  | nil => intro ys σ p; rfl
  | cons x xs ih =>
    intro ys σ p
    simp only [wlS, List.length_cons, List.cons_append]
    rw [← ih, show p + 1 + xs.length = p + (xs.length + 1) by omega]
def sbF (x : Int) : Int := if x % 256 < 128 then x % 256 else x % 256 - 256
theorem nar_sb {x : Int} (hx : inR x) : narB (Int32.ofInt x).toInt8.toInt = sbF x := by
  rw [bt_i8 hx, narB_id (by split <;> omega)]
  rfl

set_option maxRecDepth 100000 in
set_option maxHeartbeats 4000000 in
theorem S_feedC {a b c d e n : Int} (ha : inR a) (hb : inR b) (hc : inR c) (hd : inR d) (he : inR e) (hn : gi σ 705 = n) (h0 : 0 ≤ n) (h1 : n + 20 ≤ 800) : WP S 115 0 [some (vr 0), some (vi a), some (vi b), some (vi c), some (vi d), some (vi e)] [] σ post ↔ post (some (vi (n + 20))) (si (wlS σ 12 n.toNat [a / 16777216 % 256, a / 65536 % 256, a / 256 % 256, a % 256, b / 16777216 % 256, b / 65536 % 256, b / 256 % 256, b % 256, c / 16777216 % 256, c / 65536 % 256, c / 256 % 256, c % 256, d / 16777216 % 256, d / 65536 % 256, d / 256 % 256, d % 256, e / 16777216 % 256, e / 65536 % 256, e / 256 % 256, e % 256]) 705 (n + 20)) := by
  have e1 : wr (n + 20) = n + 20 := wr_id (by omega) (by omega)
  have c1 : (800 < n + 20) = False := eq_false (by omega)
  simp only [w115_0, w115_1, w115_4, w115_6, w115_9, w115_12, w115_13, w115_14, w115_15, w115_18, w115_19, w115_22, w115_23, w115_26, w115_27, w115_30, w115_31, w115_34, w115_35, w115_38, w115_39, w115_42, w115_44, w115_47, w115_48, w115_51, w115_53, w115_56, w115_57, w115_60, w115_63, w80_0, w80_1, w80_4, w80_5, w80_6, w80_9, w80_12, w80_13, w80_16, w80_17, w79_0, w79_1, w79_4, ↓reduceIte, okp_i, okp_r, okp_n, catS_nil, catS_cons, catV_i, catV_r, catV_l, Option.toList_some, Option.toList_none, List.cons_append, List.nil_append, gi_si, ga_si, gi_sa, ga_sa, gi_sl, ga_sl, gi_sf, ga_sf, gl_si, gl_sa, gl_sf, gl_sl, and_true, true_and, if_true, if_false, ite_true, ite_false, not_false_eq_true, not_true_eq_false, Nat.reduceEqDiff, reduceCtorEq, Nat.reduceLeDiff, Nat.reduceAdd, Nat.reduceMul, Nat.reduceLT, Int.reduceNeg, Int.reduceEq, Int.reduceLT, Int.reduceLE, eq_self, Nat.reduceSub, or_true, true_or, or_false, false_or, and_false, false_and, Int.reduceToNat, rc0, rc1, ib2, ib3, ib4, ib5, ib6, ib7, ib8, ib9, ib10, rc11, ib12, rc13, ib14, ib15, ib16, ib17, ib18, ib19, rc20, rc21, ib22, ib23, ib24, rc25, ib26, ib27, ib28, ib29, ib30, ib31, rc32, ib33, rc34, ib35, rc36, ib37, rc38, ib39, ib40, ib41, ib42, ib43, ib44, ib45, ib46, ib47, rc48, ib49, ib50, ib51, ib52, ib53, rc54, ib55, ib56, ib57, ib58, ib59, ib60, ib61, ib62, ib63, ib64, ib65, ib66, ib67, ib68, ib69, ib70, ib71, ib72, ib73, ib74, ib75, ib76, ib77, ib78, ib79, ib80, ib81, hn, e1, c1]
  rw [S_put ha hn h0 (by omega)]
  simp only [w115_0, w115_1, w115_4, w115_6, w115_9, w115_12, w115_13, w115_14, w115_15, w115_18, w115_19, w115_22, w115_23, w115_26, w115_27, w115_30, w115_31, w115_34, w115_35, w115_38, w115_39, w115_42, w115_44, w115_47, w115_48, w115_51, w115_53, w115_56, w115_57, w115_60, w115_63, w79_0, w79_1, w79_4, ↓reduceIte, okp_i, okp_r, okp_n, catS_nil, catS_cons, catV_i, catV_r, catV_l, Option.toList_some, Option.toList_none, List.cons_append, List.nil_append, gi_si, ga_si, gi_sa, ga_sa, gi_sl, ga_sl, gi_sf, ga_sf, gl_si, gl_sa, gl_sf, gl_sl, and_true, true_and, if_true, if_false, ite_true, ite_false, not_false_eq_true, not_true_eq_false, Nat.reduceEqDiff, reduceCtorEq, Nat.reduceLeDiff, Nat.reduceAdd, Nat.reduceMul, Nat.reduceLT, Int.reduceNeg, Int.reduceEq, Int.reduceLT, Int.reduceLE, eq_self, Nat.reduceSub, or_true, true_or, or_false, false_or, and_false, false_and, Int.reduceToNat, rc0, rc1, ib2, ib3, ib4, ib5, ib6, ib7, ib8, ib9, ib10, rc11, ib12, rc13, ib14, ib15, ib16, ib17, ib18, ib19, rc20, rc21, ib22, ib23, ib24, rc25, ib26, ib27, ib28, ib29, ib30, ib31, rc32, ib33, rc34, ib35, rc36, ib37, rc38, ib39, ib40, ib41, ib42, ib43, ib44, ib45, ib46, ib47, rc48, ib49, ib50, ib51, ib52, ib53, rc54, ib55, ib56, ib57, ib58, ib59, ib60, ib61, ib62, ib63, ib64, ib65, ib66, ib67, ib68, ib69, ib70, ib71, ib72, ib73, ib74, ib75, ib76, ib77, ib78, ib79, ib80, ib81]
  rw [S_put hb (n := n + 4) (by simp only [↓reduceIte, okp_i, okp_r, okp_n, catS_nil, catS_cons, catV_i, catV_r, catV_l, Option.toList_some, Option.toList_none, List.cons_append, List.nil_append, gi_si, ga_si, gi_sa, ga_sa, gi_sl, ga_sl, gi_sf, ga_sf, gl_si, gl_sa, gl_sf, gl_sl, and_true, true_and, if_true, if_false, ite_true, ite_false, not_false_eq_true, not_true_eq_false, Nat.reduceEqDiff, reduceCtorEq, Nat.reduceLeDiff, Nat.reduceAdd, Nat.reduceMul, Nat.reduceLT, Int.reduceNeg, Int.reduceEq, Int.reduceLT, Int.reduceLE, eq_self, Nat.reduceSub, or_true, true_or, or_false, false_or, and_false, false_and, Int.reduceToNat, rc0, rc1, ib2, ib3, ib4, ib5, ib6, ib7, ib8, ib9, ib10, rc11, ib12, rc13, ib14, ib15, ib16, ib17, ib18, ib19, rc20, rc21, ib22, ib23, ib24, rc25, ib26, ib27, ib28, ib29, ib30, ib31, rc32, ib33, rc34, ib35, rc36, ib37, rc38, ib39, ib40, ib41, ib42, ib43, ib44, ib45, ib46, ib47, rc48, ib49, ib50, ib51, ib52, ib53, rc54, ib55, ib56, ib57, ib58, ib59, ib60, ib61, ib62, ib63, ib64, ib65, ib66, ib67, ib68, ib69, ib70, ib71, ib72, ib73, ib74, ib75, ib76, ib77, ib78, ib79, ib80, ib81]) (by omega) (by omega)]
  simp only [wlS_si, si_si]
  rw [show (n + 4).toNat = n.toNat + [a / 16777216 % 256, a / 65536 % 256, a / 256 % 256, a % 256].length by simp only [List.length_cons, List.length_nil]; omega, wlS_app, show n + 4 + 4 = n + 8 by omega]
  simp only [w115_0, w115_1, w115_4, w115_6, w115_9, w115_12, w115_13, w115_14, w115_15, w115_18, w115_19, w115_22, w115_23, w115_26, w115_27, w115_30, w115_31, w115_34, w115_35, w115_38, w115_39, w115_42, w115_44, w115_47, w115_48, w115_51, w115_53, w115_56, w115_57, w115_60, w115_63, w79_0, w79_1, w79_4, ↓reduceIte, okp_i, okp_r, okp_n, catS_nil, catS_cons, catV_i, catV_r, catV_l, Option.toList_some, Option.toList_none, List.cons_append, List.nil_append, gi_si, ga_si, gi_sa, ga_sa, gi_sl, ga_sl, gi_sf, ga_sf, gl_si, gl_sa, gl_sf, gl_sl, and_true, true_and, if_true, if_false, ite_true, ite_false, not_false_eq_true, not_true_eq_false, Nat.reduceEqDiff, reduceCtorEq, Nat.reduceLeDiff, Nat.reduceAdd, Nat.reduceMul, Nat.reduceLT, Int.reduceNeg, Int.reduceEq, Int.reduceLT, Int.reduceLE, eq_self, Nat.reduceSub, or_true, true_or, or_false, false_or, and_false, false_and, Int.reduceToNat, rc0, rc1, ib2, ib3, ib4, ib5, ib6, ib7, ib8, ib9, ib10, rc11, ib12, rc13, ib14, ib15, ib16, ib17, ib18, ib19, rc20, rc21, ib22, ib23, ib24, rc25, ib26, ib27, ib28, ib29, ib30, ib31, rc32, ib33, rc34, ib35, rc36, ib37, rc38, ib39, ib40, ib41, ib42, ib43, ib44, ib45, ib46, ib47, rc48, ib49, ib50, ib51, ib52, ib53, rc54, ib55, ib56, ib57, ib58, ib59, ib60, ib61, ib62, ib63, ib64, ib65, ib66, ib67, ib68, ib69, ib70, ib71, ib72, ib73, ib74, ib75, ib76, ib77, ib78, ib79, ib80, ib81]
  rw [S_put hc (n := n + 8) (by simp only [↓reduceIte, okp_i, okp_r, okp_n, catS_nil, catS_cons, catV_i, catV_r, catV_l, Option.toList_some, Option.toList_none, List.cons_append, List.nil_append, gi_si, ga_si, gi_sa, ga_sa, gi_sl, ga_sl, gi_sf, ga_sf, gl_si, gl_sa, gl_sf, gl_sl, and_true, true_and, if_true, if_false, ite_true, ite_false, not_false_eq_true, not_true_eq_false, Nat.reduceEqDiff, reduceCtorEq, Nat.reduceLeDiff, Nat.reduceAdd, Nat.reduceMul, Nat.reduceLT, Int.reduceNeg, Int.reduceEq, Int.reduceLT, Int.reduceLE, eq_self, Nat.reduceSub, or_true, true_or, or_false, false_or, and_false, false_and, Int.reduceToNat, rc0, rc1, ib2, ib3, ib4, ib5, ib6, ib7, ib8, ib9, ib10, rc11, ib12, rc13, ib14, ib15, ib16, ib17, ib18, ib19, rc20, rc21, ib22, ib23, ib24, rc25, ib26, ib27, ib28, ib29, ib30, ib31, rc32, ib33, rc34, ib35, rc36, ib37, rc38, ib39, ib40, ib41, ib42, ib43, ib44, ib45, ib46, ib47, rc48, ib49, ib50, ib51, ib52, ib53, rc54, ib55, ib56, ib57, ib58, ib59, ib60, ib61, ib62, ib63, ib64, ib65, ib66, ib67, ib68, ib69, ib70, ib71, ib72, ib73, ib74, ib75, ib76, ib77, ib78, ib79, ib80, ib81]) (by omega) (by omega)]
  simp only [wlS_si, si_si]
  rw [show (n + 8).toNat = n.toNat + [a / 16777216 % 256, a / 65536 % 256, a / 256 % 256, a % 256, b / 16777216 % 256, b / 65536 % 256, b / 256 % 256, b % 256].length by simp only [List.length_cons, List.length_nil]; omega, wlS_app, show n + 8 + 4 = n + 12 by omega]
  simp only [w115_0, w115_1, w115_4, w115_6, w115_9, w115_12, w115_13, w115_14, w115_15, w115_18, w115_19, w115_22, w115_23, w115_26, w115_27, w115_30, w115_31, w115_34, w115_35, w115_38, w115_39, w115_42, w115_44, w115_47, w115_48, w115_51, w115_53, w115_56, w115_57, w115_60, w115_63, w79_0, w79_1, w79_4, ↓reduceIte, okp_i, okp_r, okp_n, catS_nil, catS_cons, catV_i, catV_r, catV_l, Option.toList_some, Option.toList_none, List.cons_append, List.nil_append, gi_si, ga_si, gi_sa, ga_sa, gi_sl, ga_sl, gi_sf, ga_sf, gl_si, gl_sa, gl_sf, gl_sl, and_true, true_and, if_true, if_false, ite_true, ite_false, not_false_eq_true, not_true_eq_false, Nat.reduceEqDiff, reduceCtorEq, Nat.reduceLeDiff, Nat.reduceAdd, Nat.reduceMul, Nat.reduceLT, Int.reduceNeg, Int.reduceEq, Int.reduceLT, Int.reduceLE, eq_self, Nat.reduceSub, or_true, true_or, or_false, false_or, and_false, false_and, Int.reduceToNat, rc0, rc1, ib2, ib3, ib4, ib5, ib6, ib7, ib8, ib9, ib10, rc11, ib12, rc13, ib14, ib15, ib16, ib17, ib18, ib19, rc20, rc21, ib22, ib23, ib24, rc25, ib26, ib27, ib28, ib29, ib30, ib31, rc32, ib33, rc34, ib35, rc36, ib37, rc38, ib39, ib40, ib41, ib42, ib43, ib44, ib45, ib46, ib47, rc48, ib49, ib50, ib51, ib52, ib53, rc54, ib55, ib56, ib57, ib58, ib59, ib60, ib61, ib62, ib63, ib64, ib65, ib66, ib67, ib68, ib69, ib70, ib71, ib72, ib73, ib74, ib75, ib76, ib77, ib78, ib79, ib80, ib81]
  rw [S_put hd (n := n + 12) (by simp only [↓reduceIte, okp_i, okp_r, okp_n, catS_nil, catS_cons, catV_i, catV_r, catV_l, Option.toList_some, Option.toList_none, List.cons_append, List.nil_append, gi_si, ga_si, gi_sa, ga_sa, gi_sl, ga_sl, gi_sf, ga_sf, gl_si, gl_sa, gl_sf, gl_sl, and_true, true_and, if_true, if_false, ite_true, ite_false, not_false_eq_true, not_true_eq_false, Nat.reduceEqDiff, reduceCtorEq, Nat.reduceLeDiff, Nat.reduceAdd, Nat.reduceMul, Nat.reduceLT, Int.reduceNeg, Int.reduceEq, Int.reduceLT, Int.reduceLE, eq_self, Nat.reduceSub, or_true, true_or, or_false, false_or, and_false, false_and, Int.reduceToNat, rc0, rc1, ib2, ib3, ib4, ib5, ib6, ib7, ib8, ib9, ib10, rc11, ib12, rc13, ib14, ib15, ib16, ib17, ib18, ib19, rc20, rc21, ib22, ib23, ib24, rc25, ib26, ib27, ib28, ib29, ib30, ib31, rc32, ib33, rc34, ib35, rc36, ib37, rc38, ib39, ib40, ib41, ib42, ib43, ib44, ib45, ib46, ib47, rc48, ib49, ib50, ib51, ib52, ib53, rc54, ib55, ib56, ib57, ib58, ib59, ib60, ib61, ib62, ib63, ib64, ib65, ib66, ib67, ib68, ib69, ib70, ib71, ib72, ib73, ib74, ib75, ib76, ib77, ib78, ib79, ib80, ib81]) (by omega) (by omega)]
  simp only [wlS_si, si_si]
  rw [show (n + 12).toNat = n.toNat + [a / 16777216 % 256, a / 65536 % 256, a / 256 % 256, a % 256, b / 16777216 % 256, b / 65536 % 256, b / 256 % 256, b % 256, c / 16777216 % 256, c / 65536 % 256, c / 256 % 256, c % 256].length by simp only [List.length_cons, List.length_nil]; omega, wlS_app, show n + 12 + 4 = n + 16 by omega]
  simp only [w115_0, w115_1, w115_4, w115_6, w115_9, w115_12, w115_13, w115_14, w115_15, w115_18, w115_19, w115_22, w115_23, w115_26, w115_27, w115_30, w115_31, w115_34, w115_35, w115_38, w115_39, w115_42, w115_44, w115_47, w115_48, w115_51, w115_53, w115_56, w115_57, w115_60, w115_63, w79_0, w79_1, w79_4, ↓reduceIte, okp_i, okp_r, okp_n, catS_nil, catS_cons, catV_i, catV_r, catV_l, Option.toList_some, Option.toList_none, List.cons_append, List.nil_append, gi_si, ga_si, gi_sa, ga_sa, gi_sl, ga_sl, gi_sf, ga_sf, gl_si, gl_sa, gl_sf, gl_sl, and_true, true_and, if_true, if_false, ite_true, ite_false, not_false_eq_true, not_true_eq_false, Nat.reduceEqDiff, reduceCtorEq, Nat.reduceLeDiff, Nat.reduceAdd, Nat.reduceMul, Nat.reduceLT, Int.reduceNeg, Int.reduceEq, Int.reduceLT, Int.reduceLE, eq_self, Nat.reduceSub, or_true, true_or, or_false, false_or, and_false, false_and, Int.reduceToNat, rc0, rc1, ib2, ib3, ib4, ib5, ib6, ib7, ib8, ib9, ib10, rc11, ib12, rc13, ib14, ib15, ib16, ib17, ib18, ib19, rc20, rc21, ib22, ib23, ib24, rc25, ib26, ib27, ib28, ib29, ib30, ib31, rc32, ib33, rc34, ib35, rc36, ib37, rc38, ib39, ib40, ib41, ib42, ib43, ib44, ib45, ib46, ib47, rc48, ib49, ib50, ib51, ib52, ib53, rc54, ib55, ib56, ib57, ib58, ib59, ib60, ib61, ib62, ib63, ib64, ib65, ib66, ib67, ib68, ib69, ib70, ib71, ib72, ib73, ib74, ib75, ib76, ib77, ib78, ib79, ib80, ib81]
  rw [S_put he (n := n + 16) (by simp only [↓reduceIte, okp_i, okp_r, okp_n, catS_nil, catS_cons, catV_i, catV_r, catV_l, Option.toList_some, Option.toList_none, List.cons_append, List.nil_append, gi_si, ga_si, gi_sa, ga_sa, gi_sl, ga_sl, gi_sf, ga_sf, gl_si, gl_sa, gl_sf, gl_sl, and_true, true_and, if_true, if_false, ite_true, ite_false, not_false_eq_true, not_true_eq_false, Nat.reduceEqDiff, reduceCtorEq, Nat.reduceLeDiff, Nat.reduceAdd, Nat.reduceMul, Nat.reduceLT, Int.reduceNeg, Int.reduceEq, Int.reduceLT, Int.reduceLE, eq_self, Nat.reduceSub, or_true, true_or, or_false, false_or, and_false, false_and, Int.reduceToNat, rc0, rc1, ib2, ib3, ib4, ib5, ib6, ib7, ib8, ib9, ib10, rc11, ib12, rc13, ib14, ib15, ib16, ib17, ib18, ib19, rc20, rc21, ib22, ib23, ib24, rc25, ib26, ib27, ib28, ib29, ib30, ib31, rc32, ib33, rc34, ib35, rc36, ib37, rc38, ib39, ib40, ib41, ib42, ib43, ib44, ib45, ib46, ib47, rc48, ib49, ib50, ib51, ib52, ib53, rc54, ib55, ib56, ib57, ib58, ib59, ib60, ib61, ib62, ib63, ib64, ib65, ib66, ib67, ib68, ib69, ib70, ib71, ib72, ib73, ib74, ib75, ib76, ib77, ib78, ib79, ib80, ib81]) (by omega) (by omega)]
  simp only [wlS_si, si_si]
  rw [show (n + 16).toNat = n.toNat + [a / 16777216 % 256, a / 65536 % 256, a / 256 % 256, a % 256, b / 16777216 % 256, b / 65536 % 256, b / 256 % 256, b % 256, c / 16777216 % 256, c / 65536 % 256, c / 256 % 256, c % 256, d / 16777216 % 256, d / 65536 % 256, d / 256 % 256, d % 256].length by simp only [List.length_cons, List.length_nil]; omega, wlS_app, show n + 16 + 4 = n + 20 by omega]
  simp only [w115_0, w115_1, w115_4, w115_6, w115_9, w115_12, w115_13, w115_14, w115_15, w115_18, w115_19, w115_22, w115_23, w115_26, w115_27, w115_30, w115_31, w115_34, w115_35, w115_38, w115_39, w115_42, w115_44, w115_47, w115_48, w115_51, w115_53, w115_56, w115_57, w115_60, w115_63, w79_0, w79_1, w79_4, ↓reduceIte, okp_i, okp_r, okp_n, catS_nil, catS_cons, catV_i, catV_r, catV_l, Option.toList_some, Option.toList_none, List.cons_append, List.nil_append, gi_si, ga_si, gi_sa, ga_sa, gi_sl, ga_sl, gi_sf, ga_sf, gl_si, gl_sa, gl_sf, gl_sl, and_true, true_and, if_true, if_false, ite_true, ite_false, not_false_eq_true, not_true_eq_false, Nat.reduceEqDiff, reduceCtorEq, Nat.reduceLeDiff, Nat.reduceAdd, Nat.reduceMul, Nat.reduceLT, Int.reduceNeg, Int.reduceEq, Int.reduceLT, Int.reduceLE, eq_self, Nat.reduceSub, or_true, true_or, or_false, false_or, and_false, false_and, Int.reduceToNat, rc0, rc1, ib2, ib3, ib4, ib5, ib6, ib7, ib8, ib9, ib10, rc11, ib12, rc13, ib14, ib15, ib16, ib17, ib18, ib19, rc20, rc21, ib22, ib23, ib24, rc25, ib26, ib27, ib28, ib29, ib30, ib31, rc32, ib33, rc34, ib35, rc36, ib37, rc38, ib39, ib40, ib41, ib42, ib43, ib44, ib45, ib46, ib47, rc48, ib49, ib50, ib51, ib52, ib53, rc54, ib55, ib56, ib57, ib58, ib59, ib60, ib61, ib62, ib63, ib64, ib65, ib66, ib67, ib68, ib69, ib70, ib71, ib72, ib73, ib74, ib75, ib76, ib77, ib78, ib79, ib80, ib81]

theorem k3L : i2 (· &&& ·) 0 3 = 0 ∧ i2 (· &&& ·) 1 3 = 1 ∧ i2 (· &&& ·) 2 3 = 2 ∧ i2 (· &&& ·) 3 3 = 3 ∧ i2 (· &&& ·) 4 3 = 0 ∧ i2 (· &&& ·) 5 3 = 1 ∧ i2 (· &&& ·) 6 3 = 2 ∧ i2 (· &&& ·) 7 3 = 3 ∧ i2 (· &&& ·) 8 3 = 0 ∧ i2 (· &&& ·) 9 3 = 1 ∧ i2 (· &&& ·) 10 3 = 2 ∧ i2 (· &&& ·) 11 3 = 3 ∧ i2 (· &&& ·) 12 3 = 0 ∧ i2 (· &&& ·) 13 3 = 1 ∧ i2 (· &&& ·) 14 3 = 2 ∧ i2 (· &&& ·) 15 3 = 3 ∧ i2 (· &&& ·) 16 3 = 0 ∧ i2 (· &&& ·) 17 3 = 1 ∧ i2 (· &&& ·) 18 3 = 2 ∧ i2 (· &&& ·) 19 3 = 3 := by decide +kernel
theorem w1L : wr (0 + 1) = 1 ∧ wr (1 + 1) = 2 ∧ wr (2 + 1) = 3 ∧ wr (3 + 1) = 4 ∧ wr (4 + 1) = 5 ∧ wr (5 + 1) = 6 ∧ wr (6 + 1) = 7 ∧ wr (7 + 1) = 8 ∧ wr (8 + 1) = 9 ∧ wr (9 + 1) = 10 ∧ wr (10 + 1) = 11 ∧ wr (11 + 1) = 12 ∧ wr (12 + 1) = 13 ∧ wr (13 + 1) = 14 ∧ wr (14 + 1) = 15 ∧ wr (15 + 1) = 16 ∧ wr (16 + 1) = 17 ∧ wr (17 + 1) = 18 ∧ wr (18 + 1) = 19 ∧ wr (19 + 1) = 20 := by decide
theorem w8L : wr (8 * 0) = 0 ∧ wr (8 * 1) = 8 ∧ wr (8 * 2) = 16 ∧ wr (8 * 3) = 24 ∧ wr (24 - 0) = 24 ∧ wr (24 - 8) = 16 ∧ wr (24 - 16) = 8 ∧ wr (24 - 24) = 0 := by decide

theorem F_0 {a b c d e n : Int} {l7 : Option AV} (hw : inR a) (hn : gi σ 3467 = n) (h0 : 0 ≤ n) (h1 : n + 20 ≤ 800) : WP S 198 18 [some (vr 54), some (vi a), some (vi b), some (vi c), some (vi d), some (vi e), some (vi 0), l7] [] σ post ↔ WP S 198 18 [some (vr 54), some (vi a), some (vi b), some (vi c), some (vi d), some (vi e), some (vi 1), some (vi a)] [] (sa σ 59 (n.toNat + 0) (sbF (a / 16777216))) post := by
  have k3 : i2 (· &&& ·) 0 3 = 0 := by decide +kernel
  have x1 : wr (8 * 0) = 0 := by decide
  have x2 : wr (24 - 0) = 24 := by decide
  have w1 : wr (0 + 1) = 1 := by decide
  have v1 := (bt_shr hw).1
  have v2 := nar_sb (x := a / 16777216) (by unfold inR at *; omega)
  have e1 : wr (n + 0) = n + 0 := wr_id (by omega) (by omega)
  have p1 : (0 ≤ n + 0) = True := eq_true (by omega)
  have q1 : (n + 0 < 820) = True := eq_true (by omega)
  have t1 : (n + 0).toNat = n.toNat + 0 := by omega
  rw [w198_18]
  simp only [w198_0, w198_1, w198_4, w198_6, w198_7, w198_10, w198_13, w198_14, w198_15, w198_16, w198_20, w198_22, w198_25, w198_27, w198_28, w198_31, w198_32, w198_35, w198_37, w198_39, w198_42, w198_43, w198_46, w198_48, w198_50, w198_53, w198_54, w198_57, w198_59, w198_61, w198_64, w198_66, w198_69, w198_71, w198_73, w198_74, w198_77, w198_78, w198_81, w198_83, w198_84, w198_86, w198_88, w198_90, w198_92, w198_93, w198_94, w198_95, w198_96, w198_97, w198_98_58, w198_98_59, w198_98_60, w198_99, w198_102, w198_105, w198_106, w198_106r, w198_107, w198_110, w198_112, w198_113, w198_116, w198_117, w198_120, ↓reduceIte, okp_i, okp_r, okp_n, catS_nil, catS_cons, catV_i, catV_r, catV_l, Option.toList_some, Option.toList_none, List.cons_append, List.nil_append, gi_si, ga_si, gi_sa, ga_sa, gi_sl, ga_sl, gi_sf, ga_sf, gl_si, gl_sa, gl_sf, gl_sl, and_true, true_and, if_true, if_false, ite_true, ite_false, not_false_eq_true, not_true_eq_false, Nat.reduceEqDiff, reduceCtorEq, Nat.reduceLeDiff, Nat.reduceAdd, Nat.reduceMul, Nat.reduceLT, Int.reduceNeg, Int.reduceEq, Int.reduceLT, Int.reduceLE, eq_self, Nat.reduceSub, or_true, true_or, or_false, false_or, and_false, false_and, Int.reduceToNat, rc0, rc1, ib2, ib3, ib4, ib5, ib6, ib7, ib8, ib9, ib10, rc11, ib12, rc13, ib14, ib15, ib16, ib17, ib18, ib19, rc20, rc21, ib22, ib23, ib24, rc25, ib26, ib27, ib28, ib29, ib30, ib31, rc32, ib33, rc34, ib35, rc36, ib37, rc38, ib39, ib40, ib41, ib42, ib43, ib44, ib45, ib46, ib47, rc48, ib49, ib50, ib51, ib52, ib53, rc54, ib55, ib56, ib57, ib58, ib59, ib60, ib61, ib62, ib63, ib64, ib65, ib66, ib67, ib68, ib69, ib70, ib71, ib72, ib73, ib74, ib75, ib76, ib77, ib78, ib79, ib80, ib81, hn, k3, x1, x2, w1, v1, v2, e1, p1, q1, t1]
theorem F_1 {a b c d e n : Int} {l7 : Option AV} (hw : inR a) (hn : gi σ 3467 = n) (h0 : 0 ≤ n) (h1 : n + 20 ≤ 800) : WP S 198 18 [some (vr 54), some (vi a), some (vi b), some (vi c), some (vi d), some (vi e), some (vi 1), l7] [] σ post ↔ WP S 198 18 [some (vr 54), some (vi a), some (vi b), some (vi c), some (vi d), some (vi e), some (vi 2), some (vi a)] [] (sa σ 59 (n.toNat + 1) (sbF (a / 65536))) post := by
  have k3 : i2 (· &&& ·) 1 3 = 1 := by decide +kernel
  have x1 : wr (8 * 1) = 8 := by decide
  have x2 : wr (24 - 8) = 16 := by decide
  have w1 : wr (1 + 1) = 2 := by decide
  have v1 := (bt_shr hw).2.1
  have v2 := nar_sb (x := a / 65536) (by unfold inR at *; omega)
  have e1 : wr (n + 1) = n + 1 := wr_id (by omega) (by omega)
  have p1 : (0 ≤ n + 1) = True := eq_true (by omega)
  have q1 : (n + 1 < 820) = True := eq_true (by omega)
  have t1 : (n + 1).toNat = n.toNat + 1 := by omega
  rw [w198_18]
  simp only [w198_0, w198_1, w198_4, w198_6, w198_7, w198_10, w198_13, w198_14, w198_15, w198_16, w198_20, w198_22, w198_25, w198_27, w198_28, w198_31, w198_32, w198_35, w198_37, w198_39, w198_42, w198_43, w198_46, w198_48, w198_50, w198_53, w198_54, w198_57, w198_59, w198_61, w198_64, w198_66, w198_69, w198_71, w198_73, w198_74, w198_77, w198_78, w198_81, w198_83, w198_84, w198_86, w198_88, w198_90, w198_92, w198_93, w198_94, w198_95, w198_96, w198_97, w198_98_58, w198_98_59, w198_98_60, w198_99, w198_102, w198_105, w198_106, w198_106r, w198_107, w198_110, w198_112, w198_113, w198_116, w198_117, w198_120, ↓reduceIte, okp_i, okp_r, okp_n, catS_nil, catS_cons, catV_i, catV_r, catV_l, Option.toList_some, Option.toList_none, List.cons_append, List.nil_append, gi_si, ga_si, gi_sa, ga_sa, gi_sl, ga_sl, gi_sf, ga_sf, gl_si, gl_sa, gl_sf, gl_sl, and_true, true_and, if_true, if_false, ite_true, ite_false, not_false_eq_true, not_true_eq_false, Nat.reduceEqDiff, reduceCtorEq, Nat.reduceLeDiff, Nat.reduceAdd, Nat.reduceMul, Nat.reduceLT, Int.reduceNeg, Int.reduceEq, Int.reduceLT, Int.reduceLE, eq_self, Nat.reduceSub, or_true, true_or, or_false, false_or, and_false, false_and, Int.reduceToNat, rc0, rc1, ib2, ib3, ib4, ib5, ib6, ib7, ib8, ib9, ib10, rc11, ib12, rc13, ib14, ib15, ib16, ib17, ib18, ib19, rc20, rc21, ib22, ib23, ib24, rc25, ib26, ib27, ib28, ib29, ib30, ib31, rc32, ib33, rc34, ib35, rc36, ib37, rc38, ib39, ib40, ib41, ib42, ib43, ib44, ib45, ib46, ib47, rc48, ib49, ib50, ib51, ib52, ib53, rc54, ib55, ib56, ib57, ib58, ib59, ib60, ib61, ib62, ib63, ib64, ib65, ib66, ib67, ib68, ib69, ib70, ib71, ib72, ib73, ib74, ib75, ib76, ib77, ib78, ib79, ib80, ib81, hn, k3, x1, x2, w1, v1, v2, e1, p1, q1, t1]
theorem F_2 {a b c d e n : Int} {l7 : Option AV} (hw : inR a) (hn : gi σ 3467 = n) (h0 : 0 ≤ n) (h1 : n + 20 ≤ 800) : WP S 198 18 [some (vr 54), some (vi a), some (vi b), some (vi c), some (vi d), some (vi e), some (vi 2), l7] [] σ post ↔ WP S 198 18 [some (vr 54), some (vi a), some (vi b), some (vi c), some (vi d), some (vi e), some (vi 3), some (vi a)] [] (sa σ 59 (n.toNat + 2) (sbF (a / 256))) post := by
  have k3 : i2 (· &&& ·) 2 3 = 2 := by decide +kernel
  have x1 : wr (8 * 2) = 16 := by decide
  have x2 : wr (24 - 16) = 8 := by decide
  have w1 : wr (2 + 1) = 3 := by decide
  have v1 := (bt_shr hw).2.2.1
  have v2 := nar_sb (x := a / 256) (by unfold inR at *; omega)
  have e1 : wr (n + 2) = n + 2 := wr_id (by omega) (by omega)
  have p1 : (0 ≤ n + 2) = True := eq_true (by omega)
  have q1 : (n + 2 < 820) = True := eq_true (by omega)
  have t1 : (n + 2).toNat = n.toNat + 2 := by omega
  rw [w198_18]
  simp only [w198_0, w198_1, w198_4, w198_6, w198_7, w198_10, w198_13, w198_14, w198_15, w198_16, w198_20, w198_22, w198_25, w198_27, w198_28, w198_31, w198_32, w198_35, w198_37, w198_39, w198_42, w198_43, w198_46, w198_48, w198_50, w198_53, w198_54, w198_57, w198_59, w198_61, w198_64, w198_66, w198_69, w198_71, w198_73, w198_74, w198_77, w198_78, w198_81, w198_83, w198_84, w198_86, w198_88, w198_90, w198_92, w198_93, w198_94, w198_95, w198_96, w198_97, w198_98_58, w198_98_59, w198_98_60, w198_99, w198_102, w198_105, w198_106, w198_106r, w198_107, w198_110, w198_112, w198_113, w198_116, w198_117, w198_120, ↓reduceIte, okp_i, okp_r, okp_n, catS_nil, catS_cons, catV_i, catV_r, catV_l, Option.toList_some, Option.toList_none, List.cons_append, List.nil_append, gi_si, ga_si, gi_sa, ga_sa, gi_sl, ga_sl, gi_sf, ga_sf, gl_si, gl_sa, gl_sf, gl_sl, and_true, true_and, if_true, if_false, ite_true, ite_false, not_false_eq_true, not_true_eq_false, Nat.reduceEqDiff, reduceCtorEq, Nat.reduceLeDiff, Nat.reduceAdd, Nat.reduceMul, Nat.reduceLT, Int.reduceNeg, Int.reduceEq, Int.reduceLT, Int.reduceLE, eq_self, Nat.reduceSub, or_true, true_or, or_false, false_or, and_false, false_and, Int.reduceToNat, rc0, rc1, ib2, ib3, ib4, ib5, ib6, ib7, ib8, ib9, ib10, rc11, ib12, rc13, ib14, ib15, ib16, ib17, ib18, ib19, rc20, rc21, ib22, ib23, ib24, rc25, ib26, ib27, ib28, ib29, ib30, ib31, rc32, ib33, rc34, ib35, rc36, ib37, rc38, ib39, ib40, ib41, ib42, ib43, ib44, ib45, ib46, ib47, rc48, ib49, ib50, ib51, ib52, ib53, rc54, ib55, ib56, ib57, ib58, ib59, ib60, ib61, ib62, ib63, ib64, ib65, ib66, ib67, ib68, ib69, ib70, ib71, ib72, ib73, ib74, ib75, ib76, ib77, ib78, ib79, ib80, ib81, hn, k3, x1, x2, w1, v1, v2, e1, p1, q1, t1]
theorem F_3 {a b c d e n : Int} {l7 : Option AV} (hw : inR a) (hn : gi σ 3467 = n) (h0 : 0 ≤ n) (h1 : n + 20 ≤ 800) : WP S 198 18 [some (vr 54), some (vi a), some (vi b), some (vi c), some (vi d), some (vi e), some (vi 3), l7] [] σ post ↔ WP S 198 18 [some (vr 54), some (vi a), some (vi b), some (vi c), some (vi d), some (vi e), some (vi 4), some (vi a)] [] (sa σ 59 (n.toNat + 3) (sbF a)) post := by
  have k3 : i2 (· &&& ·) 3 3 = 3 := by decide +kernel
  have x1 : wr (8 * 3) = 24 := by decide
  have x2 : wr (24 - 24) = 0 := by decide
  have w1 : wr (3 + 1) = 4 := by decide
  have v1 := (bt_shr hw).2.2.2
  have v2 := nar_sb (x := a) (by unfold inR at *; omega)
  have e1 : wr (n + 3) = n + 3 := wr_id (by omega) (by omega)
  have p1 : (0 ≤ n + 3) = True := eq_true (by omega)
  have q1 : (n + 3 < 820) = True := eq_true (by omega)
  have t1 : (n + 3).toNat = n.toNat + 3 := by omega
  rw [w198_18]
  simp only [w198_0, w198_1, w198_4, w198_6, w198_7, w198_10, w198_13, w198_14, w198_15, w198_16, w198_20, w198_22, w198_25, w198_27, w198_28, w198_31, w198_32, w198_35, w198_37, w198_39, w198_42, w198_43, w198_46, w198_48, w198_50, w198_53, w198_54, w198_57, w198_59, w198_61, w198_64, w198_66, w198_69, w198_71, w198_73, w198_74, w198_77, w198_78, w198_81, w198_83, w198_84, w198_86, w198_88, w198_90, w198_92, w198_93, w198_94, w198_95, w198_96, w198_97, w198_98_58, w198_98_59, w198_98_60, w198_99, w198_102, w198_105, w198_106, w198_106r, w198_107, w198_110, w198_112, w198_113, w198_116, w198_117, w198_120, ↓reduceIte, okp_i, okp_r, okp_n, catS_nil, catS_cons, catV_i, catV_r, catV_l, Option.toList_some, Option.toList_none, List.cons_append, List.nil_append, gi_si, ga_si, gi_sa, ga_sa, gi_sl, ga_sl, gi_sf, ga_sf, gl_si, gl_sa, gl_sf, gl_sl, and_true, true_and, if_true, if_false, ite_true, ite_false, not_false_eq_true, not_true_eq_false, Nat.reduceEqDiff, reduceCtorEq, Nat.reduceLeDiff, Nat.reduceAdd, Nat.reduceMul, Nat.reduceLT, Int.reduceNeg, Int.reduceEq, Int.reduceLT, Int.reduceLE, eq_self, Nat.reduceSub, or_true, true_or, or_false, false_or, and_false, false_and, Int.reduceToNat, rc0, rc1, ib2, ib3, ib4, ib5, ib6, ib7, ib8, ib9, ib10, rc11, ib12, rc13, ib14, ib15, ib16, ib17, ib18, ib19, rc20, rc21, ib22, ib23, ib24, rc25, ib26, ib27, ib28, ib29, ib30, ib31, rc32, ib33, rc34, ib35, rc36, ib37, rc38, ib39, ib40, ib41, ib42, ib43, ib44, ib45, ib46, ib47, rc48, ib49, ib50, ib51, ib52, ib53, rc54, ib55, ib56, ib57, ib58, ib59, ib60, ib61, ib62, ib63, ib64, ib65, ib66, ib67, ib68, ib69, ib70, ib71, ib72, ib73, ib74, ib75, ib76, ib77, ib78, ib79, ib80, ib81, hn, k3, x1, x2, w1, v1, v2, e1, p1, q1, t1]
theorem F_4 {a b c d e n : Int} {l7 : Option AV} (hw : inR b) (hn : gi σ 3467 = n) (h0 : 0 ≤ n) (h1 : n + 20 ≤ 800) : WP S 198 18 [some (vr 54), some (vi a), some (vi b), some (vi c), some (vi d), some (vi e), some (vi 4), l7] [] σ post ↔ WP S 198 18 [some (vr 54), some (vi a), some (vi b), some (vi c), some (vi d), some (vi e), some (vi 5), some (vi b)] [] (sa σ 59 (n.toNat + 4) (sbF (b / 16777216))) post := by
  have k3 : i2 (· &&& ·) 4 3 = 0 := by decide +kernel
  have x1 : wr (8 * 0) = 0 := by decide
  have x2 : wr (24 - 0) = 24 := by decide
  have w1 : wr (4 + 1) = 5 := by decide
  have v1 := (bt_shr hw).1
  have v2 := nar_sb (x := b / 16777216) (by unfold inR at *; omega)
  have e1 : wr (n + 4) = n + 4 := wr_id (by omega) (by omega)
  have p1 : (0 ≤ n + 4) = True := eq_true (by omega)
  have q1 : (n + 4 < 820) = True := eq_true (by omega)
  have t1 : (n + 4).toNat = n.toNat + 4 := by omega
  rw [w198_18]
  simp only [w198_0, w198_1, w198_4, w198_6, w198_7, w198_10, w198_13, w198_14, w198_15, w198_16, w198_20, w198_22, w198_25, w198_27, w198_28, w198_31, w198_32, w198_35, w198_37, w198_39, w198_42, w198_43, w198_46, w198_48, w198_50, w198_53, w198_54, w198_57, w198_59, w198_61, w198_64, w198_66, w198_69, w198_71, w198_73, w198_74, w198_77, w198_78, w198_81, w198_83, w198_84, w198_86, w198_88, w198_90, w198_92, w198_93, w198_94, w198_95, w198_96, w198_97, w198_98_58, w198_98_59, w198_98_60, w198_99, w198_102, w198_105, w198_106, w198_106r, w198_107, w198_110, w198_112, w198_113, w198_116, w198_117, w198_120, ↓reduceIte, okp_i, okp_r, okp_n, catS_nil, catS_cons, catV_i, catV_r, catV_l, Option.toList_some, Option.toList_none, List.cons_append, List.nil_append, gi_si, ga_si, gi_sa, ga_sa, gi_sl, ga_sl, gi_sf, ga_sf, gl_si, gl_sa, gl_sf, gl_sl, and_true, true_and, if_true, if_false, ite_true, ite_false, not_false_eq_true, not_true_eq_false, Nat.reduceEqDiff, reduceCtorEq, Nat.reduceLeDiff, Nat.reduceAdd, Nat.reduceMul, Nat.reduceLT, Int.reduceNeg, Int.reduceEq, Int.reduceLT, Int.reduceLE, eq_self, Nat.reduceSub, or_true, true_or, or_false, false_or, and_false, false_and, Int.reduceToNat, rc0, rc1, ib2, ib3, ib4, ib5, ib6, ib7, ib8, ib9, ib10, rc11, ib12, rc13, ib14, ib15, ib16, ib17, ib18, ib19, rc20, rc21, ib22, ib23, ib24, rc25, ib26, ib27, ib28, ib29, ib30, ib31, rc32, ib33, rc34, ib35, rc36, ib37, rc38, ib39, ib40, ib41, ib42, ib43, ib44, ib45, ib46, ib47, rc48, ib49, ib50, ib51, ib52, ib53, rc54, ib55, ib56, ib57, ib58, ib59, ib60, ib61, ib62, ib63, ib64, ib65, ib66, ib67, ib68, ib69, ib70, ib71, ib72, ib73, ib74, ib75, ib76, ib77, ib78, ib79, ib80, ib81, hn, k3, x1, x2, w1, v1, v2, e1, p1, q1, t1]
theorem F_5 {a b c d e n : Int} {l7 : Option AV} (hw : inR b) (hn : gi σ 3467 = n) (h0 : 0 ≤ n) (h1 : n + 20 ≤ 800) : WP S 198 18 [some (vr 54), some (vi a), some (vi b), some (vi c), some (vi d), some (vi e), some (vi 5), l7] [] σ post ↔ WP S 198 18 [some (vr 54), some (vi a), some (vi b), some (vi c), some (vi d), some (vi e), some (vi 6), some (vi b)] [] (sa σ 59 (n.toNat + 5) (sbF (b / 65536))) post := by
  have k3 : i2 (· &&& ·) 5 3 = 1 := by decide +kernel
  have x1 : wr (8 * 1) = 8 := by decide
  have x2 : wr (24 - 8) = 16 := by decide
  have w1 : wr (5 + 1) = 6 := by decide
  have v1 := (bt_shr hw).2.1
  have v2 := nar_sb (x := b / 65536) (by unfold inR at *; omega)
  have e1 : wr (n + 5) = n + 5 := wr_id (by omega) (by omega)
  have p1 : (0 ≤ n + 5) = True := eq_true (by omega)
  have q1 : (n + 5 < 820) = True := eq_true (by omega)
  have t1 : (n + 5).toNat = n.toNat + 5 := by omega
  rw [w198_18]
  simp only [w198_0, w198_1, w198_4, w198_6, w198_7, w198_10, w198_13, w198_14, w198_15, w198_16, w198_20, w198_22, w198_25, w198_27, w198_28, w198_31, w198_32, w198_35, w198_37, w198_39, w198_42, w198_43, w198_46, w198_48, w198_50, w198_53, w198_54, w198_57, w198_59, w198_61, w198_64, w198_66, w198_69, w198_71, w198_73, w198_74, w198_77, w198_78, w198_81, w198_83, w198_84, w198_86, w198_88, w198_90, w198_92, w198_93, w198_94, w198_95, w198_96, w198_97, w198_98_58, w198_98_59, w198_98_60, w198_99, w198_102, w198_105, w198_106, w198_106r, w198_107, w198_110, w198_112, w198_113, w198_116, w198_117, w198_120, ↓reduceIte, okp_i, okp_r, okp_n, catS_nil, catS_cons, catV_i, catV_r, catV_l, Option.toList_some, Option.toList_none, List.cons_append, List.nil_append, gi_si, ga_si, gi_sa, ga_sa, gi_sl, ga_sl, gi_sf, ga_sf, gl_si, gl_sa, gl_sf, gl_sl, and_true, true_and, if_true, if_false, ite_true, ite_false, not_false_eq_true, not_true_eq_false, Nat.reduceEqDiff, reduceCtorEq, Nat.reduceLeDiff, Nat.reduceAdd, Nat.reduceMul, Nat.reduceLT, Int.reduceNeg, Int.reduceEq, Int.reduceLT, Int.reduceLE, eq_self, Nat.reduceSub, or_true, true_or, or_false, false_or, and_false, false_and, Int.reduceToNat, rc0, rc1, ib2, ib3, ib4, ib5, ib6, ib7, ib8, ib9, ib10, rc11, ib12, rc13, ib14, ib15, ib16, ib17, ib18, ib19, rc20, rc21, ib22, ib23, ib24, rc25, ib26, ib27, ib28, ib29, ib30, ib31, rc32, ib33, rc34, ib35, rc36, ib37, rc38, ib39, ib40, ib41, ib42, ib43, ib44, ib45, ib46, ib47, rc48, ib49, ib50, ib51, ib52, ib53, rc54, ib55, ib56, ib57, ib58, ib59, ib60, ib61, ib62, ib63, ib64, ib65, ib66, ib67, ib68, ib69, ib70, ib71, ib72, ib73, ib74, ib75, ib76, ib77, ib78, ib79, ib80, ib81, hn, k3, x1, x2, w1, v1, v2, e1, p1, q1, t1]
theorem F_6 {a b c d e n : Int} {l7 : Option AV} (hw : inR b) (hn : gi σ 3467 = n) (h0 : 0 ≤ n) (h1 : n + 20 ≤ 800) : WP S 198 18 [some (vr 54), some (vi a), some (vi b), some (vi c), some (vi d), some (vi e), some (vi 6), l7] [] σ post ↔ WP S 198 18 [some (vr 54), some (vi a), some (vi b), some (vi c), some (vi d), some (vi e), some (vi 7), some (vi b)] [] (sa σ 59 (n.toNat + 6) (sbF (b / 256))) post := by
  have k3 : i2 (· &&& ·) 6 3 = 2 := by decide +kernel
  have x1 : wr (8 * 2) = 16 := by decide
  have x2 : wr (24 - 16) = 8 := by decide
  have w1 : wr (6 + 1) = 7 := by decide
  have v1 := (bt_shr hw).2.2.1
  have v2 := nar_sb (x := b / 256) (by unfold inR at *; omega)
  have e1 : wr (n + 6) = n + 6 := wr_id (by omega) (by omega)
  have p1 : (0 ≤ n + 6) = True := eq_true (by omega)
  have q1 : (n + 6 < 820) = True := eq_true (by omega)
  have t1 : (n + 6).toNat = n.toNat + 6 := by omega
  rw [w198_18]
  simp only [w198_0, w198_1, w198_4, w198_6, w198_7, w198_10, w198_13, w198_14, w198_15, w198_16, w198_20, w198_22, w198_25, w198_27, w198_28, w198_31, w198_32, w198_35, w198_37, w198_39, w198_42, w198_43, w198_46, w198_48, w198_50, w198_53, w198_54, w198_57, w198_59, w198_61, w198_64, w198_66, w198_69, w198_71, w198_73, w198_74, w198_77, w198_78, w198_81, w198_83, w198_84, w198_86, w198_88, w198_90, w198_92, w198_93, w198_94, w198_95, w198_96, w198_97, w198_98_58, w198_98_59, w198_98_60, w198_99, w198_102, w198_105, w198_106, w198_106r, w198_107, w198_110, w198_112, w198_113, w198_116, w198_117, w198_120, ↓reduceIte, okp_i, okp_r, okp_n, catS_nil, catS_cons, catV_i, catV_r, catV_l, Option.toList_some, Option.toList_none, List.cons_append, List.nil_append, gi_si, ga_si, gi_sa, ga_sa, gi_sl, ga_sl, gi_sf, ga_sf, gl_si, gl_sa, gl_sf, gl_sl, and_true, true_and, if_true, if_false, ite_true, ite_false, not_false_eq_true, not_true_eq_false, Nat.reduceEqDiff, reduceCtorEq, Nat.reduceLeDiff, Nat.reduceAdd, Nat.reduceMul, Nat.reduceLT, Int.reduceNeg, Int.reduceEq, Int.reduceLT, Int.reduceLE, eq_self, Nat.reduceSub, or_true, true_or, or_false, false_or, and_false, false_and, Int.reduceToNat, rc0, rc1, ib2, ib3, ib4, ib5, ib6, ib7, ib8, ib9, ib10, rc11, ib12, rc13, ib14, ib15, ib16, ib17, ib18, ib19, rc20, rc21, ib22, ib23, ib24, rc25, ib26, ib27, ib28, ib29, ib30, ib31, rc32, ib33, rc34, ib35, rc36, ib37, rc38, ib39, ib40, ib41, ib42, ib43, ib44, ib45, ib46, ib47, rc48, ib49, ib50, ib51, ib52, ib53, rc54, ib55, ib56, ib57, ib58, ib59, ib60, ib61, ib62, ib63, ib64, ib65, ib66, ib67, ib68, ib69, ib70, ib71, ib72, ib73, ib74, ib75, ib76, ib77, ib78, ib79, ib80, ib81, hn, k3, x1, x2, w1, v1, v2, e1, p1, q1, t1]
theorem F_7 {a b c d e n : Int} {l7 : Option AV} (hw : inR b) (hn : gi σ 3467 = n) (h0 : 0 ≤ n) (h1 : n + 20 ≤ 800) : WP S 198 18 [some (vr 54), some (vi a), some (vi b), some (vi c), some (vi d), some (vi e), some (vi 7), l7] [] σ post ↔ WP S 198 18 [some (vr 54), some (vi a), some (vi b), some (vi c), some (vi d), some (vi e), some (vi 8), some (vi b)] [] (sa σ 59 (n.toNat + 7) (sbF b)) post := by
  have k3 : i2 (· &&& ·) 7 3 = 3 := by decide +kernel
  have x1 : wr (8 * 3) = 24 := by decide
  have x2 : wr (24 - 24) = 0 := by decide
  have w1 : wr (7 + 1) = 8 := by decide
  have v1 := (bt_shr hw).2.2.2
  have v2 := nar_sb (x := b) (by unfold inR at *; omega)
  have e1 : wr (n + 7) = n + 7 := wr_id (by omega) (by omega)
  have p1 : (0 ≤ n + 7) = True := eq_true (by omega)
  have q1 : (n + 7 < 820) = True := eq_true (by omega)
  have t1 : (n + 7).toNat = n.toNat + 7 := by omega
  rw [w198_18]
  simp only [w198_0, w198_1, w198_4, w198_6, w198_7, w198_10, w198_13, w198_14, w198_15, w198_16, w198_20, w198_22, w198_25, w198_27, w198_28, w198_31, w198_32, w198_35, w198_37, w198_39, w198_42, w198_43, w198_46, w198_48, w198_50, w198_53, w198_54, w198_57, w198_59, w198_61, w198_64, w198_66, w198_69, w198_71, w198_73, w198_74, w198_77, w198_78, w198_81, w198_83, w198_84, w198_86, w198_88, w198_90, w198_92, w198_93, w198_94, w198_95, w198_96, w198_97, w198_98_58, w198_98_59, w198_98_60, w198_99, w198_102, w198_105, w198_106, w198_106r, w198_107, w198_110, w198_112, w198_113, w198_116, w198_117, w198_120, ↓reduceIte, okp_i, okp_r, okp_n, catS_nil, catS_cons, catV_i, catV_r, catV_l, Option.toList_some, Option.toList_none, List.cons_append, List.nil_append, gi_si, ga_si, gi_sa, ga_sa, gi_sl, ga_sl, gi_sf, ga_sf, gl_si, gl_sa, gl_sf, gl_sl, and_true, true_and, if_true, if_false, ite_true, ite_false, not_false_eq_true, not_true_eq_false, Nat.reduceEqDiff, reduceCtorEq, Nat.reduceLeDiff, Nat.reduceAdd, Nat.reduceMul, Nat.reduceLT, Int.reduceNeg, Int.reduceEq, Int.reduceLT, Int.reduceLE, eq_self, Nat.reduceSub, or_true, true_or, or_false, false_or, and_false, false_and, Int.reduceToNat, rc0, rc1, ib2, ib3, ib4, ib5, ib6, ib7, ib8, ib9, ib10, rc11, ib12, rc13, ib14, ib15, ib16, ib17, ib18, ib19, rc20, rc21, ib22, ib23, ib24, rc25, ib26, ib27, ib28, ib29, ib30, ib31, rc32, ib33, rc34, ib35, rc36, ib37, rc38, ib39, ib40, ib41, ib42, ib43, ib44, ib45, ib46, ib47, rc48, ib49, ib50, ib51, ib52, ib53, rc54, ib55, ib56, ib57, ib58, ib59, ib60, ib61, ib62, ib63, ib64, ib65, ib66, ib67, ib68, ib69, ib70, ib71, ib72, ib73, ib74, ib75, ib76, ib77, ib78, ib79, ib80, ib81, hn, k3, x1, x2, w1, v1, v2, e1, p1, q1, t1]
theorem F_8 {a b c d e n : Int} {l7 : Option AV} (hw : inR c) (hn : gi σ 3467 = n) (h0 : 0 ≤ n) (h1 : n + 20 ≤ 800) : WP S 198 18 [some (vr 54), some (vi a), some (vi b), some (vi c), some (vi d), some (vi e), some (vi 8), l7] [] σ post ↔ WP S 198 18 [some (vr 54), some (vi a), some (vi b), some (vi c), some (vi d), some (vi e), some (vi 9), some (vi c)] [] (sa σ 59 (n.toNat + 8) (sbF (c / 16777216))) post := by
  have k3 : i2 (· &&& ·) 8 3 = 0 := by decide +kernel
  have x1 : wr (8 * 0) = 0 := by decide
  have x2 : wr (24 - 0) = 24 := by decide
  have w1 : wr (8 + 1) = 9 := by decide
  have v1 := (bt_shr hw).1
  have v2 := nar_sb (x := c / 16777216) (by unfold inR at *; omega)
  have e1 : wr (n + 8) = n + 8 := wr_id (by omega) (by omega)
  have p1 : (0 ≤ n + 8) = True := eq_true (by omega)
  have q1 : (n + 8 < 820) = True := eq_true (by omega)
  have t1 : (n + 8).toNat = n.toNat + 8 := by omega
  rw [w198_18]
  simp only [w198_0, w198_1, w198_4, w198_6, w198_7, w198_10, w198_13, w198_14, w198_15, w198_16, w198_20, w198_22, w198_25, w198_27, w198_28, w198_31, w198_32, w198_35, w198_37, w198_39, w198_42, w198_43, w198_46, w198_48, w198_50, w198_53, w198_54, w198_57, w198_59, w198_61, w198_64, w198_66, w198_69, w198_71, w198_73, w198_74, w198_77, w198_78, w198_81, w198_83, w198_84, w198_86, w198_88, w198_90, w198_92, w198_93, w198_94, w198_95, w198_96, w198_97, w198_98_58, w198_98_59, w198_98_60, w198_99, w198_102, w198_105, w198_106, w198_106r, w198_107, w198_110, w198_112, w198_113, w198_116, w198_117, w198_120, ↓reduceIte, okp_i, okp_r, okp_n, catS_nil, catS_cons, catV_i, catV_r, catV_l, Option.toList_some, Option.toList_none, List.cons_append, List.nil_append, gi_si, ga_si, gi_sa, ga_sa, gi_sl, ga_sl, gi_sf, ga_sf, gl_si, gl_sa, gl_sf, gl_sl, and_true, true_and, if_true, if_false, ite_true, ite_false, not_false_eq_true, not_true_eq_false, Nat.reduceEqDiff, reduceCtorEq, Nat.reduceLeDiff, Nat.reduceAdd, Nat.reduceMul, Nat.reduceLT, Int.reduceNeg, Int.reduceEq, Int.reduceLT, Int.reduceLE, eq_self, Nat.reduceSub, or_true, true_or, or_false, false_or, and_false, false_and, Int.reduceToNat, rc0, rc1, ib2, ib3, ib4, ib5, ib6, ib7, ib8, ib9, ib10, rc11, ib12, rc13, ib14, ib15, ib16, ib17, ib18, ib19, rc20, rc21, ib22, ib23, ib24, rc25, ib26, ib27, ib28, ib29, ib30, ib31, rc32, ib33, rc34, ib35, rc36, ib37, rc38, ib39, ib40, ib41, ib42, ib43, ib44, ib45, ib46, ib47, rc48, ib49, ib50, ib51, ib52, ib53, rc54, ib55, ib56, ib57, ib58, ib59, ib60, ib61, ib62, ib63, ib64, ib65, ib66, ib67, ib68, ib69, ib70, ib71, ib72, ib73, ib74, ib75, ib76, ib77, ib78, ib79, ib80, ib81, hn, k3, x1, x2, w1, v1, v2, e1, p1, q1, t1]
theorem F_9 {a b c d e n : Int} {l7 : Option AV} (hw : inR c) (hn : gi σ 3467 = n) (h0 : 0 ≤ n) (h1 : n + 20 ≤ 800) : WP S 198 18 [some (vr 54), some (vi a), some (vi b), some (vi c), some (vi d), some (vi e), some (vi 9), l7] [] σ post ↔ WP S 198 18 [some (vr 54), some (vi a), some (vi b), some (vi c), some (vi d), some (vi e), some (vi 10), some (vi c)] [] (sa σ 59 (n.toNat + 9) (sbF (c / 65536))) post := by
  have k3 : i2 (· &&& ·) 9 3 = 1 := by decide +kernel
  have x1 : wr (8 * 1) = 8 := by decide
  have x2 : wr (24 - 8) = 16 := by decide
  have w1 : wr (9 + 1) = 10 := by decide
  have v1 := (bt_shr hw).2.1
  have v2 := nar_sb (x := c / 65536) (by unfold inR at *; omega)
  have e1 : wr (n + 9) = n + 9 := wr_id (by omega) (by omega)
  have p1 : (0 ≤ n + 9) = True := eq_true (by omega)
  have q1 : (n + 9 < 820) = True := eq_true (by omega)
  have t1 : (n + 9).toNat = n.toNat + 9 := by omega
  rw [w198_18]
  simp only [w198_0, w198_1, w198_4, w198_6, w198_7, w198_10, w198_13, w198_14, w198_15, w198_16, w198_20, w198_22, w198_25, w198_27, w198_28, w198_31, w198_32, w198_35, w198_37, w198_39, w198_42, w198_43, w198_46, w198_48, w198_50, w198_53, w198_54, w198_57, w198_59, w198_61, w198_64, w198_66, w198_69, w198_71, w198_73, w198_74, w198_77, w198_78, w198_81, w198_83, w198_84, w198_86, w198_88, w198_90, w198_92, w198_93, w198_94, w198_95, w198_96, w198_97, w198_98_58, w198_98_59, w198_98_60, w198_99, w198_102, w198_105, w198_106, w198_106r, w198_107, w198_110, w198_112, w198_113, w198_116, w198_117, w198_120, ↓reduceIte, okp_i, okp_r, okp_n, catS_nil, catS_cons, catV_i, catV_r, catV_l, Option.toList_some, Option.toList_none, List.cons_append, List.nil_append, gi_si, ga_si, gi_sa, ga_sa, gi_sl, ga_sl, gi_sf, ga_sf, gl_si, gl_sa, gl_sf, gl_sl, and_true, true_and, if_true, if_false, ite_true, ite_false, not_false_eq_true, not_true_eq_false, Nat.reduceEqDiff, reduceCtorEq, Nat.reduceLeDiff, Nat.reduceAdd, Nat.reduceMul, Nat.reduceLT, Int.reduceNeg, Int.reduceEq, Int.reduceLT, Int.reduceLE, eq_self, Nat.reduceSub, or_true, true_or, or_false, false_or, and_false, false_and, Int.reduceToNat, rc0, rc1, ib2, ib3, ib4, ib5, ib6, ib7, ib8, ib9, ib10, rc11, ib12, rc13, ib14, ib15, ib16, ib17, ib18, ib19, rc20, rc21, ib22, ib23, ib24, rc25, ib26, ib27, ib28, ib29, ib30, ib31, rc32, ib33, rc34, ib35, rc36, ib37, rc38, ib39, ib40, ib41, ib42, ib43, ib44, ib45, ib46, ib47, rc48, ib49, ib50, ib51, ib52, ib53, rc54, ib55, ib56, ib57, ib58, ib59, ib60, ib61, ib62, ib63, ib64, ib65, ib66, ib67, ib68, ib69, ib70, ib71, ib72, ib73, ib74, ib75, ib76, ib77, ib78, ib79, ib80, ib81, hn, k3, x1, x2, w1, v1, v2, e1, p1, q1, t1]
theorem F_10 {a b c d e n : Int} {l7 : Option AV} (hw : inR c) (hn : gi σ 3467 = n) (h0 : 0 ≤ n) (h1 : n + 20 ≤ 800) : WP S 198 18 [some (vr 54), some (vi a), some (vi b), some (vi c), some (vi d), some (vi e), some (vi 10), l7] [] σ post ↔ WP S 198 18 [some (vr 54), some (vi a), some (vi b), some (vi c), some (vi d), some (vi e), some (vi 11), some (vi c)] [] (sa σ 59 (n.toNat + 10) (sbF (c / 256))) post := by
  have k3 : i2 (· &&& ·) 10 3 = 2 := by decide +kernel
  have x1 : wr (8 * 2) = 16 := by decide
  have x2 : wr (24 - 16) = 8 := by decide
  have w1 : wr (10 + 1) = 11 := by decide
  have v1 := (bt_shr hw).2.2.1
  have v2 := nar_sb (x := c / 256) (by unfold inR at *; omega)
  have e1 : wr (n + 10) = n + 10 := wr_id (by omega) (by omega)
  have p1 : (0 ≤ n + 10) = True := eq_true (by omega)
  have q1 : (n + 10 < 820) = True := eq_true (by omega)
  have t1 : (n + 10).toNat = n.toNat + 10 := by omega
  rw [w198_18]
  simp only [w198_0, w198_1, w198_4, w198_6, w198_7, w198_10, w198_13, w198_14, w198_15, w198_16, w198_20, w198_22, w198_25, w198_27, w198_28, w198_31, w198_32, w198_35, w198_37, w198_39, w198_42, w198_43, w198_46, w198_48, w198_50, w198_53, w198_54, w198_57, w198_59, w198_61, w198_64, w198_66, w198_69, w198_71, w198_73, w198_74, w198_77, w198_78, w198_81, w198_83, w198_84, w198_86, w198_88, w198_90, w198_92, w198_93, w198_94, w198_95, w198_96, w198_97, w198_98_58, w198_98_59, w198_98_60, w198_99, w198_102, w198_105, w198_106, w198_106r, w198_107, w198_110, w198_112, w198_113, w198_116, w198_117, w198_120, ↓reduceIte, okp_i, okp_r, okp_n, catS_nil, catS_cons, catV_i, catV_r, catV_l, Option.toList_some, Option.toList_none, List.cons_append, List.nil_append, gi_si, ga_si, gi_sa, ga_sa, gi_sl, ga_sl, gi_sf, ga_sf, gl_si, gl_sa, gl_sf, gl_sl, and_true, true_and, if_true, if_false, ite_true, ite_false, not_false_eq_true, not_true_eq_false, Nat.reduceEqDiff, reduceCtorEq, Nat.reduceLeDiff, Nat.reduceAdd, Nat.reduceMul, Nat.reduceLT, Int.reduceNeg, Int.reduceEq, Int.reduceLT, Int.reduceLE, eq_self, Nat.reduceSub, or_true, true_or, or_false, false_or, and_false, false_and, Int.reduceToNat, rc0, rc1, ib2, ib3, ib4, ib5, ib6, ib7, ib8, ib9, ib10, rc11, ib12, rc13, ib14, ib15, ib16, ib17, ib18, ib19, rc20, rc21, ib22, ib23, ib24, rc25, ib26, ib27, ib28, ib29, ib30, ib31, rc32, ib33, rc34, ib35, rc36, ib37, rc38, ib39, ib40, ib41, ib42, ib43, ib44, ib45, ib46, ib47, rc48, ib49, ib50, ib51, ib52, ib53, rc54, ib55, ib56, ib57, ib58, ib59, ib60, ib61, ib62, ib63, ib64, ib65, ib66, ib67, ib68, ib69, ib70, ib71, ib72, ib73, ib74, ib75, ib76, ib77, ib78, ib79, ib80, ib81, hn, k3, x1, x2, w1, v1, v2, e1, p1, q1, t1]
theorem F_11 {a b c d e n : Int} {l7 : Option AV} (hw : inR c) (hn : gi σ 3467 = n) (h0 : 0 ≤ n) (h1 : n + 20 ≤ 800) : WP S 198 18 [some (vr 54), some (vi a), some (vi b), some (vi c), some (vi d), some (vi e), some (vi 11), l7] [] σ post ↔ WP S 198 18 [some (vr 54), some (vi a), some (vi b), some (vi c), some (vi d), some (vi e), some (vi 12), some (vi c)] [] (sa σ 59 (n.toNat + 11) (sbF c)) post := by
  have k3 : i2 (· &&& ·) 11 3 = 3 := by decide +kernel
  have x1 : wr (8 * 3) = 24 := by decide
  have x2 : wr (24 - 24) = 0 := by decide
  have w1 : wr (11 + 1) = 12 := by decide
  have v1 := (bt_shr hw).2.2.2
  have v2 := nar_sb (x := c) (by unfold inR at *; omega)
  have e1 : wr (n + 11) = n + 11 := wr_id (by omega) (by omega)
  have p1 : (0 ≤ n + 11) = True := eq_true (by omega)
  have q1 : (n + 11 < 820) = True := eq_true (by omega)
  have t1 : (n + 11).toNat = n.toNat + 11 := by omega
  rw [w198_18]
  simp only [w198_0, w198_1, w198_4, w198_6, w198_7, w198_10, w198_13, w198_14, w198_15, w198_16, w198_20, w198_22, w198_25, w198_27, w198_28, w198_31, w198_32, w198_35, w198_37, w198_39, w198_42, w198_43, w198_46, w198_48, w198_50, w198_53, w198_54, w198_57, w198_59, w198_61, w198_64, w198_66, w198_69, w198_71, w198_73, w198_74, w198_77, w198_78, w198_81, w198_83, w198_84, w198_86, w198_88, w198_90, w198_92, w198_93, w198_94, w198_95, w198_96, w198_97, w198_98_58, w198_98_59, w198_98_60, w198_99, w198_102, w198_105, w198_106, w198_106r, w198_107, w198_110, w198_112, w198_113, w198_116, w198_117, w198_120, ↓reduceIte, okp_i, okp_r, okp_n, catS_nil, catS_cons, catV_i, catV_r, catV_l, Option.toList_some, Option.toList_none, List.cons_append, List.nil_append, gi_si, ga_si, gi_sa, ga_sa, gi_sl, ga_sl, gi_sf, ga_sf, gl_si, gl_sa, gl_sf, gl_sl, and_true, true_and, if_true, if_false, ite_true, ite_false, not_false_eq_true, not_true_eq_false, Nat.reduceEqDiff, reduceCtorEq, Nat.reduceLeDiff, Nat.reduceAdd, Nat.reduceMul, Nat.reduceLT, Int.reduceNeg, Int.reduceEq, Int.reduceLT, Int.reduceLE, eq_self, Nat.reduceSub, or_true, true_or, or_false, false_or, and_false, false_and, Int.reduceToNat, rc0, rc1, ib2, ib3, ib4, ib5, ib6, ib7, ib8, ib9, ib10, rc11, ib12, rc13, ib14, ib15, ib16, ib17, ib18, ib19, rc20, rc21, ib22, ib23, ib24, rc25, ib26, ib27, ib28, ib29, ib30, ib31, rc32, ib33, rc34, ib35, rc36, ib37, rc38, ib39, ib40, ib41, ib42, ib43, ib44, ib45, ib46, ib47, rc48, ib49, ib50, ib51, ib52, ib53, rc54, ib55, ib56, ib57, ib58, ib59, ib60, ib61, ib62, ib63, ib64, ib65, ib66, ib67, ib68, ib69, ib70, ib71, ib72, ib73, ib74, ib75, ib76, ib77, ib78, ib79, ib80, ib81, hn, k3, x1, x2, w1, v1, v2, e1, p1, q1, t1]
theorem F_12 {a b c d e n : Int} {l7 : Option AV} (hw : inR d) (hn : gi σ 3467 = n) (h0 : 0 ≤ n) (h1 : n + 20 ≤ 800) : WP S 198 18 [some (vr 54), some (vi a), some (vi b), some (vi c), some (vi d), some (vi e), some (vi 12), l7] [] σ post ↔ WP S 198 18 [some (vr 54), some (vi a), some (vi b), some (vi c), some (vi d), some (vi e), some (vi 13), some (vi d)] [] (sa σ 59 (n.toNat + 12) (sbF (d / 16777216))) post := by
  have k3 : i2 (· &&& ·) 12 3 = 0 := by decide +kernel
  have x1 : wr (8 * 0) = 0 := by decide
  have x2 : wr (24 - 0) = 24 := by decide
  have w1 : wr (12 + 1) = 13 := by decide
  have v1 := (bt_shr hw).1
  have v2 := nar_sb (x := d / 16777216) (by unfold inR at *; omega)
  have e1 : wr (n + 12) = n + 12 := wr_id (by omega) (by omega)
  have p1 : (0 ≤ n + 12) = True := eq_true (by omega)
  have q1 : (n + 12 < 820) = True := eq_true (by omega)
  have t1 : (n + 12).toNat = n.toNat + 12 := by omega
  rw [w198_18]
  simp only [w198_0, w198_1, w198_4, w198_6, w198_7, w198_10, w198_13, w198_14, w198_15, w198_16, w198_20, w198_22, w198_25, w198_27, w198_28, w198_31, w198_32, w198_35, w198_37, w198_39, w198_42, w198_43, w198_46, w198_48, w198_50, w198_53, w198_54, w198_57, w198_59, w198_61, w198_64, w198_66, w198_69, w198_71, w198_73, w198_74, w198_77, w198_78, w198_81, w198_83, w198_84, w198_86, w198_88, w198_90, w198_92, w198_93, w198_94, w198_95, w198_96, w198_97, w198_98_58, w198_98_59, w198_98_60, w198_99, w198_102, w198_105, w198_106, w198_106r, w198_107, w198_110, w198_112, w198_113, w198_116, w198_117, w198_120, ↓reduceIte, okp_i, okp_r, okp_n, catS_nil, catS_cons, catV_i, catV_r, catV_l, Option.toList_some, Option.toList_none, List.cons_append, List.nil_append, gi_si, ga_si, gi_sa, ga_sa, gi_sl, ga_sl, gi_sf, ga_sf, gl_si, gl_sa, gl_sf, gl_sl, and_true, true_and, if_true, if_false, ite_true, ite_false, not_false_eq_true, not_true_eq_false, Nat.reduceEqDiff, reduceCtorEq, Nat.reduceLeDiff, Nat.reduceAdd, Nat.reduceMul, Nat.reduceLT, Int.reduceNeg, Int.reduceEq, Int.reduceLT, Int.reduceLE, eq_self, Nat.reduceSub, or_true, true_or, or_false, false_or, and_false, false_and, Int.reduceToNat, rc0, rc1, ib2, ib3, ib4, ib5, ib6, ib7, ib8, ib9, ib10, rc11, ib12, rc13, ib14, ib15, ib16, ib17, ib18, ib19, rc20, rc21, ib22, ib23, ib24, rc25, ib26, ib27, ib28, ib29, ib30, ib31, rc32, ib33, rc34, ib35, rc36, ib37, rc38, ib39, ib40, ib41, ib42, ib43, ib44, ib45, ib46, ib47, rc48, ib49, ib50, ib51, ib52, ib53, rc54, ib55, ib56, ib57, ib58, ib59, ib60, ib61, ib62, ib63, ib64, ib65, ib66, ib67, ib68, ib69, ib70, ib71, ib72, ib73, ib74, ib75, ib76, ib77, ib78, ib79, ib80, ib81, hn, k3, x1, x2, w1, v1, v2, e1, p1, q1, t1]
theorem F_13 {a b c d e n : Int} {l7 : Option AV} (hw : inR d) (hn : gi σ 3467 = n) (h0 : 0 ≤ n) (h1 : n + 20 ≤ 800) : WP S 198 18 [some (vr 54), some (vi a), some (vi b), some (vi c), some (vi d), some (vi e), some (vi 13), l7] [] σ post ↔ WP S 198 18 [some (vr 54), some (vi a), some (vi b), some (vi c), some (vi d), some (vi e), some (vi 14), some (vi d)] [] (sa σ 59 (n.toNat + 13) (sbF (d / 65536))) post := by
  have k3 : i2 (· &&& ·) 13 3 = 1 := by decide +kernel
  have x1 : wr (8 * 1) = 8 := by decide
  have x2 : wr (24 - 8) = 16 := by decide
  have w1 : wr (13 + 1) = 14 := by decide
  have v1 := (bt_shr hw).2.1
  have v2 := nar_sb (x := d / 65536) (by unfold inR at *; omega)
  have e1 : wr (n + 13) = n + 13 := wr_id (by omega) (by omega)
  have p1 : (0 ≤ n + 13) = True := eq_true (by omega)
  have q1 : (n + 13 < 820) = True := eq_true (by omega)
  have t1 : (n + 13).toNat = n.toNat + 13 := by omega
  rw [w198_18]
  simp only [w198_0, w198_1, w198_4, w198_6, w198_7, w198_10, w198_13, w198_14, w198_15, w198_16, w198_20, w198_22, w198_25, w198_27, w198_28, w198_31, w198_32, w198_35, w198_37, w198_39, w198_42, w198_43, w198_46, w198_48, w198_50, w198_53, w198_54, w198_57, w198_59, w198_61, w198_64, w198_66, w198_69, w198_71, w198_73, w198_74, w198_77, w198_78, w198_81, w198_83, w198_84, w198_86, w198_88, w198_90, w198_92, w198_93, w198_94, w198_95, w198_96, w198_97, w198_98_58, w198_98_59, w198_98_60, w198_99, w198_102, w198_105, w198_106, w198_106r, w198_107, w198_110, w198_112, w198_113, w198_116, w198_117, w198_120, ↓reduceIte, okp_i, okp_r, okp_n, catS_nil, catS_cons, catV_i, catV_r, catV_l, Option.toList_some, Option.toList_none, List.cons_append, List.nil_append, gi_si, ga_si, gi_sa, ga_sa, gi_sl, ga_sl, gi_sf, ga_sf, gl_si, gl_sa, gl_sf, gl_sl, and_true, true_and, if_true, if_false, ite_true, ite_false, not_false_eq_true, not_true_eq_false, Nat.reduceEqDiff, reduceCtorEq, Nat.reduceLeDiff, Nat.reduceAdd, Nat.reduceMul, Nat.reduceLT, Int.reduceNeg, Int.reduceEq, Int.reduceLT, Int.reduceLE, eq_self, Nat.reduceSub, or_true, true_or, or_false, false_or, and_false, false_and, Int.reduceToNat, rc0, rc1, ib2, ib3, ib4, ib5, ib6, ib7, ib8, ib9, ib10, rc11, ib12, rc13, ib14, ib15, ib16, ib17, ib18, ib19, rc20, rc21, ib22, ib23, ib24, rc25, ib26, ib27, ib28, ib29, ib30, ib31, rc32, ib33, rc34, ib35, rc36, ib37, rc38, ib39, ib40, ib41, ib42, ib43, ib44, ib45, ib46, ib47, rc48, ib49, ib50, ib51, ib52, ib53, rc54, ib55, ib56, ib57, ib58, ib59, ib60, ib61, ib62, ib63, ib64, ib65, ib66, ib67, ib68, ib69, ib70, ib71, ib72, ib73, ib74, ib75, ib76, ib77, ib78, ib79, ib80, ib81, hn, k3, x1, x2, w1, v1, v2, e1, p1, q1, t1]
theorem F_14 {a b c d e n : Int} {l7 : Option AV} (hw : inR d) (hn : gi σ 3467 = n) (h0 : 0 ≤ n) (h1 : n + 20 ≤ 800) : WP S 198 18 [some (vr 54), some (vi a), some (vi b), some (vi c), some (vi d), some (vi e), some (vi 14), l7] [] σ post ↔ WP S 198 18 [some (vr 54), some (vi a), some (vi b), some (vi c), some (vi d), some (vi e), some (vi 15), some (vi d)] [] (sa σ 59 (n.toNat + 14) (sbF (d / 256))) post := by
  have k3 : i2 (· &&& ·) 14 3 = 2 := by decide +kernel
  have x1 : wr (8 * 2) = 16 := by decide
  have x2 : wr (24 - 16) = 8 := by decide
  have w1 : wr (14 + 1) = 15 := by decide
  have v1 := (bt_shr hw).2.2.1
  have v2 := nar_sb (x := d / 256) (by unfold inR at *; omega)
  have e1 : wr (n + 14) = n + 14 := wr_id (by omega) (by omega)
  have p1 : (0 ≤ n + 14) = True := eq_true (by omega)
  have q1 : (n + 14 < 820) = True := eq_true (by omega)
  have t1 : (n + 14).toNat = n.toNat + 14 := by omega
  rw [w198_18]
  simp only [w198_0, w198_1, w198_4, w198_6, w198_7, w198_10, w198_13, w198_14, w198_15, w198_16, w198_20, w198_22, w198_25, w198_27, w198_28, w198_31, w198_32, w198_35, w198_37, w198_39, w198_42, w198_43, w198_46, w198_48, w198_50, w198_53, w198_54, w198_57, w198_59, w198_61, w198_64, w198_66, w198_69, w198_71, w198_73, w198_74, w198_77, w198_78, w198_81, w198_83, w198_84, w198_86, w198_88, w198_90, w198_92, w198_93, w198_94, w198_95, w198_96, w198_97, w198_98_58, w198_98_59, w198_98_60, w198_99, w198_102, w198_105, w198_106, w198_106r, w198_107, w198_110, w198_112, w198_113, w198_116, w198_117, w198_120, ↓reduceIte, okp_i, okp_r, okp_n, catS_nil, catS_cons, catV_i, catV_r, catV_l, Option.toList_some, Option.toList_none, List.cons_append, List.nil_append, gi_si, ga_si, gi_sa, ga_sa, gi_sl, ga_sl, gi_sf, ga_sf, gl_si, gl_sa, gl_sf, gl_sl, and_true, true_and, if_true, if_false, ite_true, ite_false, not_false_eq_true, not_true_eq_false, Nat.reduceEqDiff, reduceCtorEq, Nat.reduceLeDiff, Nat.reduceAdd, Nat.reduceMul, Nat.reduceLT, Int.reduceNeg, Int.reduceEq, Int.reduceLT, Int.reduceLE, eq_self, Nat.reduceSub, or_true, true_or, or_false, false_or, and_false, false_and, Int.reduceToNat, rc0, rc1, ib2, ib3, ib4, ib5, ib6, ib7, ib8, ib9, ib10, rc11, ib12, rc13, ib14, ib15, ib16, ib17, ib18, ib19, rc20, rc21, ib22, ib23, ib24, rc25, ib26, ib27, ib28, ib29, ib30, ib31, rc32, ib33, rc34, ib35, rc36, ib37, rc38, ib39, ib40, ib41, ib42, ib43, ib44, ib45, ib46, ib47, rc48, ib49, ib50, ib51, ib52, ib53, rc54, ib55, ib56, ib57, ib58, ib59, ib60, ib61, ib62, ib63, ib64, ib65, ib66, ib67, ib68, ib69, ib70, ib71, ib72, ib73, ib74, ib75, ib76, ib77, ib78, ib79, ib80, ib81, hn, k3, x1, x2, w1, v1, v2, e1, p1, q1, t1]
theorem F_15 {a b c d e n : Int} {l7 : Option AV} (hw : inR d) (hn : gi σ 3467 = n) (h0 : 0 ≤ n) (h1 : n + 20 ≤ 800) : WP S 198 18 [some (vr 54), some (vi a), some (vi b), some (vi c), some (vi d), some (vi e), some (vi 15), l7] [] σ post ↔ WP S 198 18 [some (vr 54), some (vi a), some (vi b), some (vi c), some (vi d), some (vi e), some (vi 16), some (vi d)] [] (sa σ 59 (n.toNat + 15) (sbF d)) post := by
  have k3 : i2 (· &&& ·) 15 3 = 3 := by decide +kernel
  have x1 : wr (8 * 3) = 24 := by decide
  have x2 : wr (24 - 24) = 0 := by decide
  have w1 : wr (15 + 1) = 16 := by decide
  have v1 := (bt_shr hw).2.2.2
  have v2 := nar_sb (x := d) (by unfold inR at *; omega)
  have e1 : wr (n + 15) = n + 15 := wr_id (by omega) (by omega)
  have p1 : (0 ≤ n + 15) = True := eq_true (by omega)
  have q1 : (n + 15 < 820) = True := eq_true (by omega)
  have t1 : (n + 15).toNat = n.toNat + 15 := by omega
  rw [w198_18]
  simp only [w198_0, w198_1, w198_4, w198_6, w198_7, w198_10, w198_13, w198_14, w198_15, w198_16, w198_20, w198_22, w198_25, w198_27, w198_28, w198_31, w198_32, w198_35, w198_37, w198_39, w198_42, w198_43, w198_46, w198_48, w198_50, w198_53, w198_54, w198_57, w198_59, w198_61, w198_64, w198_66, w198_69, w198_71, w198_73, w198_74, w198_77, w198_78, w198_81, w198_83, w198_84, w198_86, w198_88, w198_90, w198_92, w198_93, w198_94, w198_95, w198_96, w198_97, w198_98_58, w198_98_59, w198_98_60, w198_99, w198_102, w198_105, w198_106, w198_106r, w198_107, w198_110, w198_112, w198_113, w198_116, w198_117, w198_120, ↓reduceIte, okp_i, okp_r, okp_n, catS_nil, catS_cons, catV_i, catV_r, catV_l, Option.toList_some, Option.toList_none, List.cons_append, List.nil_append, gi_si, ga_si, gi_sa, ga_sa, gi_sl, ga_sl, gi_sf, ga_sf, gl_si, gl_sa, gl_sf, gl_sl, and_true, true_and, if_true, if_false, ite_true, ite_false, not_false_eq_true, not_true_eq_false, Nat.reduceEqDiff, reduceCtorEq, Nat.reduceLeDiff, Nat.reduceAdd, Nat.reduceMul, Nat.reduceLT, Int.reduceNeg, Int.reduceEq, Int.reduceLT, Int.reduceLE, eq_self, Nat.reduceSub, or_true, true_or, or_false, false_or, and_false, false_and, Int.reduceToNat, rc0, rc1, ib2, ib3, ib4, ib5, ib6, ib7, ib8, ib9, ib10, rc11, ib12, rc13, ib14, ib15, ib16, ib17, ib18, ib19, rc20, rc21, ib22, ib23, ib24, rc25, ib26, ib27, ib28, ib29, ib30, ib31, rc32, ib33, rc34, ib35, rc36, ib37, rc38, ib39, ib40, ib41, ib42, ib43, ib44, ib45, ib46, ib47, rc48, ib49, ib50, ib51, ib52, ib53, rc54, ib55, ib56, ib57, ib58, ib59, ib60, ib61, ib62, ib63, ib64, ib65, ib66, ib67, ib68, ib69, ib70, ib71, ib72, ib73, ib74, ib75, ib76, ib77, ib78, ib79, ib80, ib81, hn, k3, x1, x2, w1, v1, v2, e1, p1, q1, t1]
theorem F_16 {a b c d e n : Int} {l7 : Option AV} (hw : inR e) (hn : gi σ 3467 = n) (h0 : 0 ≤ n) (h1 : n + 20 ≤ 800) : WP S 198 18 [some (vr 54), some (vi a), some (vi b), some (vi c), some (vi d), some (vi e), some (vi 16), l7] [] σ post ↔ WP S 198 18 [some (vr 54), some (vi a), some (vi b), some (vi c), some (vi d), some (vi e), some (vi 17), some (vi e)] [] (sa σ 59 (n.toNat + 16) (sbF (e / 16777216))) post := by
  have k3 : i2 (· &&& ·) 16 3 = 0 := by decide +kernel
  have x1 : wr (8 * 0) = 0 := by decide
  have x2 : wr (24 - 0) = 24 := by decide
  have w1 : wr (16 + 1) = 17 := by decide
  have v1 := (bt_shr hw).1
  have v2 := nar_sb (x := e / 16777216) (by unfold inR at *; omega)
  have e1 : wr (n + 16) = n + 16 := wr_id (by omega) (by omega)
  have p1 : (0 ≤ n + 16) = True := eq_true (by omega)
  have q1 : (n + 16 < 820) = True := eq_true (by omega)
  have t1 : (n + 16).toNat = n.toNat + 16 := by omega
  rw [w198_18]
  simp only [w198_0, w198_1, w198_4, w198_6, w198_7, w198_10, w198_13, w198_14, w198_15, w198_16, w198_20, w198_22, w198_25, w198_27, w198_28, w198_31, w198_32, w198_35, w198_37, w198_39, w198_42, w198_43, w198_46, w198_48, w198_50, w198_53, w198_54, w198_57, w198_59, w198_61, w198_64, w198_66, w198_69, w198_71, w198_73, w198_74, w198_77, w198_78, w198_81, w198_83, w198_84, w198_86, w198_88, w198_90, w198_92, w198_93, w198_94, w198_95, w198_96, w198_97, w198_98_58, w198_98_59, w198_98_60, w198_99, w198_102, w198_105, w198_106, w198_106r, w198_107, w198_110, w198_112, w198_113, w198_116, w198_117, w198_120, ↓reduceIte, okp_i, okp_r, okp_n, catS_nil, catS_cons, catV_i, catV_r, catV_l, Option.toList_some, Option.toList_none, List.cons_append, List.nil_append, gi_si, ga_si, gi_sa, ga_sa, gi_sl, ga_sl, gi_sf, ga_sf, gl_si, gl_sa, gl_sf, gl_sl, and_true, true_and, if_true, if_false, ite_true, ite_false, not_false_eq_true, not_true_eq_false, Nat.reduceEqDiff, reduceCtorEq, Nat.reduceLeDiff, Nat.reduceAdd, Nat.reduceMul, Nat.reduceLT, Int.reduceNeg, Int.reduceEq, Int.reduceLT, Int.reduceLE, eq_self, Nat.reduceSub, or_true, true_or, or_false, false_or, and_false, false_and, Int.reduceToNat, rc0, rc1, ib2, ib3, ib4, ib5, ib6, ib7, ib8, ib9, ib10, rc11, ib12, rc13, ib14, ib15, ib16, ib17, ib18, ib19, rc20, rc21, ib22, ib23, ib24, rc25, ib26, ib27, ib28, ib29, ib30, ib31, rc32, ib33, rc34, ib35, rc36, ib37, rc38, ib39, ib40, ib41, ib42, ib43, ib44, ib45, ib46, ib47, rc48, ib49, ib50, ib51, ib52, ib53, rc54, ib55, ib56, ib57, ib58, ib59, ib60, ib61, ib62, ib63, ib64, ib65, ib66, ib67, ib68, ib69, ib70, ib71, ib72, ib73, ib74, ib75, ib76, ib77, ib78, ib79, ib80, ib81, hn, k3, x1, x2, w1, v1, v2, e1, p1, q1, t1]
theorem F_17 {a b c d e n : Int} {l7 : Option AV} (hw : inR e) (hn : gi σ 3467 = n) (h0 : 0 ≤ n) (h1 : n + 20 ≤ 800) : WP S 198 18 [some (vr 54), some (vi a), some (vi b), some (vi c), some (vi d), some (vi e), some (vi 17), l7] [] σ post ↔ WP S 198 18 [some (vr 54), some (vi a), some (vi b), some (vi c), some (vi d), some (vi e), some (vi 18), some (vi e)] [] (sa σ 59 (n.toNat + 17) (sbF (e / 65536))) post := by
  have k3 : i2 (· &&& ·) 17 3 = 1 := by decide +kernel
  have x1 : wr (8 * 1) = 8 := by decide
  have x2 : wr (24 - 8) = 16 := by decide
  have w1 : wr (17 + 1) = 18 := by decide
  have v1 := (bt_shr hw).2.1
  have v2 := nar_sb (x := e / 65536) (by unfold inR at *; omega)
  have e1 : wr (n + 17) = n + 17 := wr_id (by omega) (by omega)
  have p1 : (0 ≤ n + 17) = True := eq_true (by omega)
  have q1 : (n + 17 < 820) = True := eq_true (by omega)
  have t1 : (n + 17).toNat = n.toNat + 17 := by omega
  rw [w198_18]
  simp only [w198_0, w198_1, w198_4, w198_6, w198_7, w198_10, w198_13, w198_14, w198_15, w198_16, w198_20, w198_22, w198_25, w198_27, w198_28, w198_31, w198_32, w198_35, w198_37, w198_39, w198_42, w198_43, w198_46, w198_48, w198_50, w198_53, w198_54, w198_57, w198_59, w198_61, w198_64, w198_66, w198_69, w198_71, w198_73, w198_74, w198_77, w198_78, w198_81, w198_83, w198_84, w198_86, w198_88, w198_90, w198_92, w198_93, w198_94, w198_95, w198_96, w198_97, w198_98_58, w198_98_59, w198_98_60, w198_99, w198_102, w198_105, w198_106, w198_106r, w198_107, w198_110, w198_112, w198_113, w198_116, w198_117, w198_120, ↓reduceIte, okp_i, okp_r, okp_n, catS_nil, catS_cons, catV_i, catV_r, catV_l, Option.toList_some, Option.toList_none, List.cons_append, List.nil_append, gi_si, ga_si, gi_sa, ga_sa, gi_sl, ga_sl, gi_sf, ga_sf, gl_si, gl_sa, gl_sf, gl_sl, and_true, true_and, if_true, if_false, ite_true, ite_false, not_false_eq_true, not_true_eq_false, Nat.reduceEqDiff, reduceCtorEq, Nat.reduceLeDiff, Nat.reduceAdd, Nat.reduceMul, Nat.reduceLT, Int.reduceNeg, Int.reduceEq, Int.reduceLT, Int.reduceLE, eq_self, Nat.reduceSub, or_true, true_or, or_false, false_or, and_false, false_and, Int.reduceToNat, rc0, rc1, ib2, ib3, ib4, ib5, ib6, ib7, ib8, ib9, ib10, rc11, ib12, rc13, ib14, ib15, ib16, ib17, ib18, ib19, rc20, rc21, ib22, ib23, ib24, rc25, ib26, ib27, ib28, ib29, ib30, ib31, rc32, ib33, rc34, ib35, rc36, ib37, rc38, ib39, ib40, ib41, ib42, ib43, ib44, ib45, ib46, ib47, rc48, ib49, ib50, ib51, ib52, ib53, rc54, ib55, ib56, ib57, ib58, ib59, ib60, ib61, ib62, ib63, ib64, ib65, ib66, ib67, ib68, ib69, ib70, ib71, ib72, ib73, ib74, ib75, ib76, ib77, ib78, ib79, ib80, ib81, hn, k3, x1, x2, w1, v1, v2, e1, p1, q1, t1]
theorem F_18 {a b c d e n : Int} {l7 : Option AV} (hw : inR e) (hn : gi σ 3467 = n) (h0 : 0 ≤ n) (h1 : n + 20 ≤ 800) : WP S 198 18 [some (vr 54), some (vi a), some (vi b), some (vi c), some (vi d), some (vi e), some (vi 18), l7] [] σ post ↔ WP S 198 18 [some (vr 54), some (vi a), some (vi b), some (vi c), some (vi d), some (vi e), some (vi 19), some (vi e)] [] (sa σ 59 (n.toNat + 18) (sbF (e / 256))) post := by
  have k3 : i2 (· &&& ·) 18 3 = 2 := by decide +kernel
  have x1 : wr (8 * 2) = 16 := by decide
  have x2 : wr (24 - 16) = 8 := by decide
  have w1 : wr (18 + 1) = 19 := by decide
  have v1 := (bt_shr hw).2.2.1
  have v2 := nar_sb (x := e / 256) (by unfold inR at *; omega)
  have e1 : wr (n + 18) = n + 18 := wr_id (by omega) (by omega)
  have p1 : (0 ≤ n + 18) = True := eq_true (by omega)
  have q1 : (n + 18 < 820) = True := eq_true (by omega)
  have t1 : (n + 18).toNat = n.toNat + 18 := by omega
  rw [w198_18]
  simp only [w198_0, w198_1, w198_4, w198_6, w198_7, w198_10, w198_13, w198_14, w198_15, w198_16, w198_20, w198_22, w198_25, w198_27, w198_28, w198_31, w198_32, w198_35, w198_37, w198_39, w198_42, w198_43, w198_46, w198_48, w198_50, w198_53, w198_54, w198_57, w198_59, w198_61, w198_64, w198_66, w198_69, w198_71, w198_73, w198_74, w198_77, w198_78, w198_81, w198_83, w198_84, w198_86, w198_88, w198_90, w198_92, w198_93, w198_94, w198_95, w198_96, w198_97, w198_98_58, w198_98_59, w198_98_60, w198_99, w198_102, w198_105, w198_106, w198_106r, w198_107, w198_110, w198_112, w198_113, w198_116, w198_117, w198_120, ↓reduceIte, okp_i, okp_r, okp_n, catS_nil, catS_cons, catV_i, catV_r, catV_l, Option.toList_some, Option.toList_none, List.cons_append, List.nil_append, gi_si, ga_si, gi_sa, ga_sa, gi_sl, ga_sl, gi_sf, ga_sf, gl_si, gl_sa, gl_sf, gl_sl, and_true, true_and, if_true, if_false, ite_true, ite_false, not_false_eq_true, not_true_eq_false, Nat.reduceEqDiff, reduceCtorEq, Nat.reduceLeDiff, Nat.reduceAdd, Nat.reduceMul, Nat.reduceLT, Int.reduceNeg, Int.reduceEq, Int.reduceLT, Int.reduceLE, eq_self, Nat.reduceSub, or_true, true_or, or_false, false_or, and_false, false_and, Int.reduceToNat, rc0, rc1, ib2, ib3, ib4, ib5, ib6, ib7, ib8, ib9, ib10, rc11, ib12, rc13, ib14, ib15, ib16, ib17, ib18, ib19, rc20, rc21, ib22, ib23, ib24, rc25, ib26, ib27, ib28, ib29, ib30, ib31, rc32, ib33, rc34, ib35, rc36, ib37, rc38, ib39, ib40, ib41, ib42, ib43, ib44, ib45, ib46, ib47, rc48, ib49, ib50, ib51, ib52, ib53, rc54, ib55, ib56, ib57, ib58, ib59, ib60, ib61, ib62, ib63, ib64, ib65, ib66, ib67, ib68, ib69, ib70, ib71, ib72, ib73, ib74, ib75, ib76, ib77, ib78, ib79, ib80, ib81, hn, k3, x1, x2, w1, v1, v2, e1, p1, q1, t1]
theorem F_19 {a b c d e n : Int} {l7 : Option AV} (hw : inR e) (hn : gi σ 3467 = n) (h0 : 0 ≤ n) (h1 : n + 20 ≤ 800) : WP S 198 18 [some (vr 54), some (vi a), some (vi b), some (vi c), some (vi d), some (vi e), some (vi 19), l7] [] σ post ↔ WP S 198 18 [some (vr 54), some (vi a), some (vi b), some (vi c), some (vi d), some (vi e), some (vi 20), some (vi e)] [] (sa σ 59 (n.toNat + 19) (sbF e)) post := by
  have k3 : i2 (· &&& ·) 19 3 = 3 := by decide +kernel
  have x1 : wr (8 * 3) = 24 := by decide
  have x2 : wr (24 - 24) = 0 := by decide
  have w1 : wr (19 + 1) = 20 := by decide
  have v1 := (bt_shr hw).2.2.2
  have v2 := nar_sb (x := e) (by unfold inR at *; omega)
  have e1 : wr (n + 19) = n + 19 := wr_id (by omega) (by omega)
  have p1 : (0 ≤ n + 19) = True := eq_true (by omega)
  have q1 : (n + 19 < 820) = True := eq_true (by omega)
  have t1 : (n + 19).toNat = n.toNat + 19 := by omega
  rw [w198_18]
  simp only [w198_0, w198_1, w198_4, w198_6, w198_7, w198_10, w198_13, w198_14, w198_15, w198_16, w198_20, w198_22, w198_25, w198_27, w198_28, w198_31, w198_32, w198_35, w198_37, w198_39, w198_42, w198_43, w198_46, w198_48, w198_50, w198_53, w198_54, w198_57, w198_59, w198_61, w198_64, w198_66, w198_69, w198_71, w198_73, w198_74, w198_77, w198_78, w198_81, w198_83, w198_84, w198_86, w198_88, w198_90, w198_92, w198_93, w198_94, w198_95, w198_96, w198_97, w198_98_58, w198_98_59, w198_98_60, w198_99, w198_102, w198_105, w198_106, w198_106r, w198_107, w198_110, w198_112, w198_113, w198_116, w198_117, w198_120, ↓reduceIte, okp_i, okp_r, okp_n, catS_nil, catS_cons, catV_i, catV_r, catV_l, Option.toList_some, Option.toList_none, List.cons_append, List.nil_append, gi_si, ga_si, gi_sa, ga_sa, gi_sl, ga_sl, gi_sf, ga_sf, gl_si, gl_sa, gl_sf, gl_sl, and_true, true_and, if_true, if_false, ite_true, ite_false, not_false_eq_true, not_true_eq_false, Nat.reduceEqDiff, reduceCtorEq, Nat.reduceLeDiff, Nat.reduceAdd, Nat.reduceMul, Nat.reduceLT, Int.reduceNeg, Int.reduceEq, Int.reduceLT, Int.reduceLE, eq_self, Nat.reduceSub, or_true, true_or, or_false, false_or, and_false, false_and, Int.reduceToNat, rc0, rc1, ib2, ib3, ib4, ib5, ib6, ib7, ib8, ib9, ib10, rc11, ib12, rc13, ib14, ib15, ib16, ib17, ib18, ib19, rc20, rc21, ib22, ib23, ib24, rc25, ib26, ib27, ib28, ib29, ib30, ib31, rc32, ib33, rc34, ib35, rc36, ib37, rc38, ib39, ib40, ib41, ib42, ib43, ib44, ib45, ib46, ib47, rc48, ib49, ib50, ib51, ib52, ib53, rc54, ib55, ib56, ib57, ib58, ib59, ib60, ib61, ib62, ib63, ib64, ib65, ib66, ib67, ib68, ib69, ib70, ib71, ib72, ib73, ib74, ib75, ib76, ib77, ib78, ib79, ib80, ib81, hn, k3, x1, x2, w1, v1, v2, e1, p1, q1, t1]
theorem S_feedM {a b c d e n : Int} (ha : inR a) (hb : inR b) (hc : inR c) (hd : inR d) (he : inR e) (hn : gi σ 3467 = n) (h0 : 0 ≤ n) (h1 : n + 20 ≤ 800) : WP S 198 0 [some (vr 54), some (vi a), some (vi b), some (vi c), some (vi d), some (vi e), none, none] [] σ post ↔ post (some (vi (n + 20))) (si (wlS σ 59 n.toNat [sbF (a / 16777216), sbF (a / 65536), sbF (a / 256), sbF a, sbF (b / 16777216), sbF (b / 65536), sbF (b / 256), sbF b, sbF (c / 16777216), sbF (c / 65536), sbF (c / 256), sbF c, sbF (d / 16777216), sbF (d / 65536), sbF (d / 256), sbF d, sbF (e / 16777216), sbF (e / 65536), sbF (e / 256), sbF e]) 3467 (n + 20)) := by
  have c1 : (800 < n + 20) = False := eq_false (by omega)
  have e1 : wr (n + 20) = n + 20 := wr_id (by omega) (by omega)
  have c2 : (n + 20 ≤ 800) = True := eq_true h1
  simp only [w198_0, w198_1, w198_4, w198_6, w198_7, w198_10, w198_13, w198_14, w198_15, w198_16, w198_20, w198_22, w198_25, w198_27, w198_28, w198_31, w198_32, w198_35, w198_37, w198_39, w198_42, w198_43, w198_46, w198_48, w198_50, w198_53, w198_54, w198_57, w198_59, w198_61, w198_64, w198_66, w198_69, w198_71, w198_73, w198_74, w198_77, w198_78, w198_81, w198_83, w198_84, w198_86, w198_88, w198_90, w198_92, w198_93, w198_94, w198_95, w198_96, w198_97, w198_98_58, w198_98_59, w198_98_60, w198_99, w198_102, w198_105, w198_106, w198_106r, w198_107, w198_110, w198_112, w198_113, w198_116, w198_117, w198_120, ↓reduceIte, okp_i, okp_r, okp_n, catS_nil, catS_cons, catV_i, catV_r, catV_l, Option.toList_some, Option.toList_none, List.cons_append, List.nil_append, gi_si, ga_si, gi_sa, ga_sa, gi_sl, ga_sl, gi_sf, ga_sf, gl_si, gl_sa, gl_sf, gl_sl, and_true, true_and, if_true, if_false, ite_true, ite_false, not_false_eq_true, not_true_eq_false, Nat.reduceEqDiff, reduceCtorEq, Nat.reduceLeDiff, Nat.reduceAdd, Nat.reduceMul, Nat.reduceLT, Int.reduceNeg, Int.reduceEq, Int.reduceLT, Int.reduceLE, eq_self, Nat.reduceSub, or_true, true_or, or_false, false_or, and_false, false_and, Int.reduceToNat, rc0, rc1, ib2, ib3, ib4, ib5, ib6, ib7, ib8, ib9, ib10, rc11, ib12, rc13, ib14, ib15, ib16, ib17, ib18, ib19, rc20, rc21, ib22, ib23, ib24, rc25, ib26, ib27, ib28, ib29, ib30, ib31, rc32, ib33, rc34, ib35, rc36, ib37, rc38, ib39, ib40, ib41, ib42, ib43, ib44, ib45, ib46, ib47, rc48, ib49, ib50, ib51, ib52, ib53, rc54, ib55, ib56, ib57, ib58, ib59, ib60, ib61, ib62, ib63, ib64, ib65, ib66, ib67, ib68, ib69, ib70, ib71, ib72, ib73, ib74, ib75, ib76, ib77, ib78, ib79, ib80, ib81, hn, c1, c2, e1]
  refine Iff.trans (F_0 ha (n := n) hn h0 h1) ?_
  have hn1 : gi (sa σ 59 (n.toNat + 0) (sbF (a / 16777216))) 3467 = n := hn
  generalize hs1 : sa σ 59 (n.toNat + 0) (sbF (a / 16777216)) = σ1 at hn1 ⊢
  refine Iff.trans (F_1 ha (n := n) hn1 h0 h1) ?_
  have hn2 : gi (sa σ1 59 (n.toNat + 1) (sbF (a / 65536))) 3467 = n := hn1
  generalize hs2 : sa σ1 59 (n.toNat + 1) (sbF (a / 65536)) = σ2 at hn2 ⊢
  refine Iff.trans (F_2 ha (n := n) hn2 h0 h1) ?_
  have hn3 : gi (sa σ2 59 (n.toNat + 2) (sbF (a / 256))) 3467 = n := hn2
  generalize hs3 : sa σ2 59 (n.toNat + 2) (sbF (a / 256)) = σ3 at hn3 ⊢
  refine Iff.trans (F_3 ha (n := n) hn3 h0 h1) ?_
  have hn4 : gi (sa σ3 59 (n.toNat + 3) (sbF a)) 3467 = n := hn3
  generalize hs4 : sa σ3 59 (n.toNat + 3) (sbF a) = σ4 at hn4 ⊢
  refine Iff.trans (F_4 hb (n := n) hn4 h0 h1) ?_
  have hn5 : gi (sa σ4 59 (n.toNat + 4) (sbF (b / 16777216))) 3467 = n := hn4
  generalize hs5 : sa σ4 59 (n.toNat + 4) (sbF (b / 16777216)) = σ5 at hn5 ⊢
  refine Iff.trans (F_5 hb (n := n) hn5 h0 h1) ?_
  have hn6 : gi (sa σ5 59 (n.toNat + 5) (sbF (b / 65536))) 3467 = n := hn5
  generalize hs6 : sa σ5 59 (n.toNat + 5) (sbF (b / 65536)) = σ6 at hn6 ⊢
  refine Iff.trans (F_6 hb (n := n) hn6 h0 h1) ?_
  have hn7 : gi (sa σ6 59 (n.toNat + 6) (sbF (b / 256))) 3467 = n := hn6
  generalize hs7 : sa σ6 59 (n.toNat + 6) (sbF (b / 256)) = σ7 at hn7 ⊢
  refine Iff.trans (F_7 hb (n := n) hn7 h0 h1) ?_
  have hn8 : gi (sa σ7 59 (n.toNat + 7) (sbF b)) 3467 = n := hn7
  generalize hs8 : sa σ7 59 (n.toNat + 7) (sbF b) = σ8 at hn8 ⊢
  refine Iff.trans (F_8 hc (n := n) hn8 h0 h1) ?_
  have hn9 : gi (sa σ8 59 (n.toNat + 8) (sbF (c / 16777216))) 3467 = n := hn8
  generalize hs9 : sa σ8 59 (n.toNat + 8) (sbF (c / 16777216)) = σ9 at hn9 ⊢
  refine Iff.trans (F_9 hc (n := n) hn9 h0 h1) ?_
  have hn10 : gi (sa σ9 59 (n.toNat + 9) (sbF (c / 65536))) 3467 = n := hn9
  generalize hs10 : sa σ9 59 (n.toNat + 9) (sbF (c / 65536)) = σ10 at hn10 ⊢
  refine Iff.trans (F_10 hc (n := n) hn10 h0 h1) ?_
  have hn11 : gi (sa σ10 59 (n.toNat + 10) (sbF (c / 256))) 3467 = n := hn10
  generalize hs11 : sa σ10 59 (n.toNat + 10) (sbF (c / 256)) = σ11 at hn11 ⊢
  refine Iff.trans (F_11 hc (n := n) hn11 h0 h1) ?_
  have hn12 : gi (sa σ11 59 (n.toNat + 11) (sbF c)) 3467 = n := hn11
  generalize hs12 : sa σ11 59 (n.toNat + 11) (sbF c) = σ12 at hn12 ⊢
  refine Iff.trans (F_12 hd (n := n) hn12 h0 h1) ?_
  have hn13 : gi (sa σ12 59 (n.toNat + 12) (sbF (d / 16777216))) 3467 = n := hn12
  generalize hs13 : sa σ12 59 (n.toNat + 12) (sbF (d / 16777216)) = σ13 at hn13 ⊢
  refine Iff.trans (F_13 hd (n := n) hn13 h0 h1) ?_
  have hn14 : gi (sa σ13 59 (n.toNat + 13) (sbF (d / 65536))) 3467 = n := hn13
  generalize hs14 : sa σ13 59 (n.toNat + 13) (sbF (d / 65536)) = σ14 at hn14 ⊢
  refine Iff.trans (F_14 hd (n := n) hn14 h0 h1) ?_
  have hn15 : gi (sa σ14 59 (n.toNat + 14) (sbF (d / 256))) 3467 = n := hn14
  generalize hs15 : sa σ14 59 (n.toNat + 14) (sbF (d / 256)) = σ15 at hn15 ⊢
  refine Iff.trans (F_15 hd (n := n) hn15 h0 h1) ?_
  have hn16 : gi (sa σ15 59 (n.toNat + 15) (sbF d)) 3467 = n := hn15
  generalize hs16 : sa σ15 59 (n.toNat + 15) (sbF d) = σ16 at hn16 ⊢
  refine Iff.trans (F_16 he (n := n) hn16 h0 h1) ?_
  have hn17 : gi (sa σ16 59 (n.toNat + 16) (sbF (e / 16777216))) 3467 = n := hn16
  generalize hs17 : sa σ16 59 (n.toNat + 16) (sbF (e / 16777216)) = σ17 at hn17 ⊢
  refine Iff.trans (F_17 he (n := n) hn17 h0 h1) ?_
  have hn18 : gi (sa σ17 59 (n.toNat + 17) (sbF (e / 65536))) 3467 = n := hn17
  generalize hs18 : sa σ17 59 (n.toNat + 17) (sbF (e / 65536)) = σ18 at hn18 ⊢
  refine Iff.trans (F_18 he (n := n) hn18 h0 h1) ?_
  have hn19 : gi (sa σ18 59 (n.toNat + 18) (sbF (e / 256))) 3467 = n := hn18
  generalize hs19 : sa σ18 59 (n.toNat + 18) (sbF (e / 256)) = σ19 at hn19 ⊢
  refine Iff.trans (F_19 he (n := n) hn19 h0 h1) ?_
  have hn20 : gi (sa σ19 59 (n.toNat + 19) (sbF e)) 3467 = n := hn19
  generalize hs20 : sa σ19 59 (n.toNat + 19) (sbF e) = σ20 at hn20 ⊢
  rw [w198_18]
  simp only [w198_0, w198_1, w198_4, w198_6, w198_7, w198_10, w198_13, w198_14, w198_15, w198_16, w198_20, w198_22, w198_25, w198_27, w198_28, w198_31, w198_32, w198_35, w198_37, w198_39, w198_42, w198_43, w198_46, w198_48, w198_50, w198_53, w198_54, w198_57, w198_59, w198_61, w198_64, w198_66, w198_69, w198_71, w198_73, w198_74, w198_77, w198_78, w198_81, w198_83, w198_84, w198_86, w198_88, w198_90, w198_92, w198_93, w198_94, w198_95, w198_96, w198_97, w198_98_58, w198_98_59, w198_98_60, w198_99, w198_102, w198_105, w198_106, w198_106r, w198_107, w198_110, w198_112, w198_113, w198_116, w198_117, w198_120, ↓reduceIte, okp_i, okp_r, okp_n, catS_nil, catS_cons, catV_i, catV_r, catV_l, Option.toList_some, Option.toList_none, List.cons_append, List.nil_append, gi_si, ga_si, gi_sa, ga_sa, gi_sl, ga_sl, gi_sf, ga_sf, gl_si, gl_sa, gl_sf, gl_sl, and_true, true_and, if_true, if_false, ite_true, ite_false, not_false_eq_true, not_true_eq_false, Nat.reduceEqDiff, reduceCtorEq, Nat.reduceLeDiff, Nat.reduceAdd, Nat.reduceMul, Nat.reduceLT, Int.reduceNeg, Int.reduceEq, Int.reduceLT, Int.reduceLE, eq_self, Nat.reduceSub, or_true, true_or, or_false, false_or, and_false, false_and, Int.reduceToNat, rc0, rc1, ib2, ib3, ib4, ib5, ib6, ib7, ib8, ib9, ib10, rc11, ib12, rc13, ib14, ib15, ib16, ib17, ib18, ib19, rc20, rc21, ib22, ib23, ib24, rc25, ib26, ib27, ib28, ib29, ib30, ib31, rc32, ib33, rc34, ib35, rc36, ib37, rc38, ib39, ib40, ib41, ib42, ib43, ib44, ib45, ib46, ib47, rc48, ib49, ib50, ib51, ib52, ib53, rc54, ib55, ib56, ib57, ib58, ib59, ib60, ib61, ib62, ib63, ib64, ib65, ib66, ib67, ib68, ib69, ib70, ib71, ib72, ib73, ib74, ib75, ib76, ib77, ib78, ib79, ib80, ib81, hn20, e1]
  rw [← hs20, ← hs19, ← hs18, ← hs17, ← hs16, ← hs15, ← hs14, ← hs13, ← hs12, ← hs11, ← hs10, ← hs9, ← hs8, ← hs7, ← hs6, ← hs5, ← hs4, ← hs3, ← hs2, ← hs1]
  exact Iff.rfl
theorem feed_inv {xs ys : List Int} (hP : InvP σ) (hx : xs.length = 20) (hy : ys.length = 20) (hv : gi σ 3467 + 20 ≤ 800) (hxy : ∀ i, i < 20 → (0 ≤ xs.getD i 0 ∧ xs.getD i 0 < 256) ∧ ys.getD i 0 = if xs.getD i 0 < 128 then xs.getD i 0 else xs.getD i 0 - 256) : InvP (si (si (wlS (wlS σ 12 (gi σ 3467).toNat xs) 59 (gi σ 3467).toNat ys) 705 (gi σ 3467 + 20)) 3467 (gi σ 3467 + 20)) := by
  obtain ⟨p1, p2, p3⟩ := id hP
  have e12 : ∀ k, ga (wlS (wlS σ 12 (gi σ 3467).toNat xs) 59 (gi σ 3467).toNat ys) 12 k = if (gi σ 3467).toNat ≤ k ∧ k < (gi σ 3467).toNat + 20 then xs.getD (k - (gi σ 3467).toNat) 0 else ga σ 12 k := fun k => by
    rw [ga_wl_ne (by decide), ga_wl, hx]
  have e59 : ∀ k, ga (wlS (wlS σ 12 (gi σ 3467).toNat xs) 59 (gi σ 3467).toNat ys) 59 k = if (gi σ 3467).toNat ≤ k ∧ k < (gi σ 3467).toNat + 20 then ys.getD (k - (gi σ 3467).toNat) 0 else ga σ 59 k := fun k => by
    rw [ga_wl, ga_wl_ne (by decide), hy]
  simp only [InvP, ↓reduceIte, okp_i, okp_r, okp_n, catS_nil, catS_cons, catV_i, catV_r, catV_l, Option.toList_some, Option.toList_none, List.cons_append, List.nil_append, gi_si, ga_si, gi_sa, ga_sa, gi_sl, ga_sl, gi_sf, ga_sf, gl_si, gl_sa, gl_sf, gl_sl, and_true, true_and, if_true, if_false, ite_true, ite_false, not_false_eq_true, not_true_eq_false, Nat.reduceEqDiff, reduceCtorEq, Nat.reduceLeDiff, Nat.reduceAdd, Nat.reduceMul, Nat.reduceLT, Int.reduceNeg, Int.reduceEq, Int.reduceLT, Int.reduceLE, eq_self, Nat.reduceSub, or_true, true_or, or_false, false_or, and_false, false_and, Int.reduceToNat, rc0, rc1, ib2, ib3, ib4, ib5, ib6, ib7, ib8, ib9, ib10, rc11, ib12, rc13, ib14, ib15, ib16, ib17, ib18, ib19, rc20, rc21, ib22, ib23, ib24, rc25, ib26, ib27, ib28, ib29, ib30, ib31, rc32, ib33, rc34, ib35, rc36, ib37, rc38, ib39, ib40, ib41, ib42, ib43, ib44, ib45, ib46, ib47, rc48, ib49, ib50, ib51, ib52, ib53, rc54, ib55, ib56, ib57, ib58, ib59, ib60, ib61, ib62, ib63, ib64, ib65, ib66, ib67, ib68, ib69, ib70, ib71, ib72, ib73, ib74, ib75, ib76, ib77, ib78, ib79, ib80, ib81, e12, e59]
  refine ⟨by omega, fun k hk => ?_⟩
  by_cases q : k < (gi σ 3467).toNat
  · have q1 : ¬ ((gi σ 3467).toNat ≤ k ∧ k < (gi σ 3467).toNat + 20) := by omega
    simp only [if_neg q1]
    exact p3 k (by omega)
  · have q1 : (gi σ 3467).toNat ≤ k ∧ k < (gi σ 3467).toNat + 20 := by omega
    simp only [if_pos q1]
    exact hxy (k - (gi σ 3467).toNat) (by omega)
theorem op_feed {a b c d e : Int} (h : Inv σ) (ha : inR a) (hb : inR b) (hc : inR c) (hd : inR d) (he : inR e) : OpI Inv S 115 198 [some (vr 0), some (vi a), some (vi b), some (vi c), some (vi d), some (vi e)] [some (vr 54), some (vi a), some (vi b), some (vi c), some (vi d), some (vi e), none, none] σ := by
  obtain ⟨hT, hA, hF, hP, hB, hE, hL, hS, hR, hO⟩ := id h
  obtain ⟨p1, p2, p3⟩ := id hP
  unfold OpI
  by_cases hv : gi σ 3467 + 20 ≤ 800
  · rw [S_feedC ha hb hc hd he p1 (by omega) hv]
    refine ⟨_, rfl, ?_⟩
    rw [S_feedM ha hb hc hd he (by simp only [↓reduceIte, okp_i, okp_r, okp_n, catS_nil, catS_cons, catV_i, catV_r, catV_l, Option.toList_some, Option.toList_none, List.cons_append, List.nil_append, gi_si, ga_si, gi_sa, ga_sa, gi_sl, ga_sl, gi_sf, ga_sf, gl_si, gl_sa, gl_sf, gl_sl, and_true, true_and, if_true, if_false, ite_true, ite_false, not_false_eq_true, not_true_eq_false, Nat.reduceEqDiff, reduceCtorEq, Nat.reduceLeDiff, Nat.reduceAdd, Nat.reduceMul, Nat.reduceLT, Int.reduceNeg, Int.reduceEq, Int.reduceLT, Int.reduceLE, eq_self, Nat.reduceSub, or_true, true_or, or_false, false_or, and_false, false_and, Int.reduceToNat, rc0, rc1, ib2, ib3, ib4, ib5, ib6, ib7, ib8, ib9, ib10, rc11, ib12, rc13, ib14, ib15, ib16, ib17, ib18, ib19, rc20, rc21, ib22, ib23, ib24, rc25, ib26, ib27, ib28, ib29, ib30, ib31, rc32, ib33, rc34, ib35, rc36, ib37, rc38, ib39, ib40, ib41, ib42, ib43, ib44, ib45, ib46, ib47, rc48, ib49, ib50, ib51, ib52, ib53, rc54, ib55, ib56, ib57, ib58, ib59, ib60, ib61, ib62, ib63, ib64, ib65, ib66, ib67, ib68, ib69, ib70, ib71, ib72, ib73, ib74, ib75, ib76, ib77, ib78, ib79, ib80, ib81, gi_wl]) (by omega) hv]
    refine ⟨rfl, ?_⟩
    simp only [wlS_si]
    have hxy : ∀ i, i < 20 → (0 ≤ [a / 16777216 % 256, a / 65536 % 256, a / 256 % 256, a % 256, b / 16777216 % 256, b / 65536 % 256, b / 256 % 256, b % 256, c / 16777216 % 256, c / 65536 % 256, c / 256 % 256, c % 256, d / 16777216 % 256, d / 65536 % 256, d / 256 % 256, d % 256, e / 16777216 % 256, e / 65536 % 256, e / 256 % 256, e % 256].getD i 0 ∧ [a / 16777216 % 256, a / 65536 % 256, a / 256 % 256, a % 256, b / 16777216 % 256, b / 65536 % 256, b / 256 % 256, b % 256, c / 16777216 % 256, c / 65536 % 256, c / 256 % 256, c % 256, d / 16777216 % 256, d / 65536 % 256, d / 256 % 256, d % 256, e / 16777216 % 256, e / 65536 % 256, e / 256 % 256, e % 256].getD i 0 < 256) ∧ [sbF (a / 16777216), sbF (a / 65536), sbF (a / 256), sbF a, sbF (b / 16777216), sbF (b / 65536), sbF (b / 256), sbF b, sbF (c / 16777216), sbF (c / 65536), sbF (c / 256), sbF c, sbF (d / 16777216), sbF (d / 65536), sbF (d / 256), sbF d, sbF (e / 16777216), sbF (e / 65536), sbF (e / 256), sbF e].getD i 0 = if [a / 16777216 % 256, a / 65536 % 256, a / 256 % 256, a % 256, b / 16777216 % 256, b / 65536 % 256, b / 256 % 256, b % 256, c / 16777216 % 256, c / 65536 % 256, c / 256 % 256, c % 256, d / 16777216 % 256, d / 65536 % 256, d / 256 % 256, d % 256, e / 16777216 % 256, e / 65536 % 256, e / 256 % 256, e % 256].getD i 0 < 128 then [a / 16777216 % 256, a / 65536 % 256, a / 256 % 256, a % 256, b / 16777216 % 256, b / 65536 % 256, b / 256 % 256, b % 256, c / 16777216 % 256, c / 65536 % 256, c / 256 % 256, c % 256, d / 16777216 % 256, d / 65536 % 256, d / 256 % 256, d % 256, e / 16777216 % 256, e / 65536 % 256, e / 256 % 256, e % 256].getD i 0 else [a / 16777216 % 256, a / 65536 % 256, a / 256 % 256, a % 256, b / 16777216 % 256, b / 65536 % 256, b / 256 % 256, b % 256, c / 16777216 % 256, c / 65536 % 256, c / 256 % 256, c % 256, d / 16777216 % 256, d / 65536 % 256, d / 256 % 256, d % 256, e / 16777216 % 256, e / 65536 % 256, e / 256 % 256, e % 256].getD i 0 - 256 := by
      intro i hi
      have hi2 : i = 0 ∨ i = 1 ∨ i = 2 ∨ i = 3 ∨ i = 4 ∨ i = 5 ∨ i = 6 ∨ i = 7 ∨ i = 8 ∨ i = 9 ∨ i = 10 ∨ i = 11 ∨ i = 12 ∨ i = 13 ∨ i = 14 ∨ i = 15 ∨ i = 16 ∨ i = 17 ∨ i = 18 ∨ i = 19 := by omega
      rcases hi2 with rfl | rfl | rfl | rfl | rfl | rfl | rfl | rfl | rfl | rfl | rfl | rfl | rfl | rfl | rfl | rfl | rfl | rfl | rfl | rfl
      · exact ⟨by show 0 ≤ a / 16777216 % 256 ∧ a / 16777216 % 256 < 256; omega, rfl⟩
      · exact ⟨by show 0 ≤ a / 65536 % 256 ∧ a / 65536 % 256 < 256; omega, rfl⟩
      · exact ⟨by show 0 ≤ a / 256 % 256 ∧ a / 256 % 256 < 256; omega, rfl⟩
      · exact ⟨by show 0 ≤ a % 256 ∧ a % 256 < 256; omega, rfl⟩
      · exact ⟨by show 0 ≤ b / 16777216 % 256 ∧ b / 16777216 % 256 < 256; omega, rfl⟩
      · exact ⟨by show 0 ≤ b / 65536 % 256 ∧ b / 65536 % 256 < 256; omega, rfl⟩
      · exact ⟨by show 0 ≤ b / 256 % 256 ∧ b / 256 % 256 < 256; omega, rfl⟩
      · exact ⟨by show 0 ≤ b % 256 ∧ b % 256 < 256; omega, rfl⟩
      · exact ⟨by show 0 ≤ c / 16777216 % 256 ∧ c / 16777216 % 256 < 256; omega, rfl⟩
      · exact ⟨by show 0 ≤ c / 65536 % 256 ∧ c / 65536 % 256 < 256; omega, rfl⟩
      · exact ⟨by show 0 ≤ c / 256 % 256 ∧ c / 256 % 256 < 256; omega, rfl⟩
      · exact ⟨by show 0 ≤ c % 256 ∧ c % 256 < 256; omega, rfl⟩
      · exact ⟨by show 0 ≤ d / 16777216 % 256 ∧ d / 16777216 % 256 < 256; omega, rfl⟩
      · exact ⟨by show 0 ≤ d / 65536 % 256 ∧ d / 65536 % 256 < 256; omega, rfl⟩
      · exact ⟨by show 0 ≤ d / 256 % 256 ∧ d / 256 % 256 < 256; omega, rfl⟩
      · exact ⟨by show 0 ≤ d % 256 ∧ d % 256 < 256; omega, rfl⟩
      · exact ⟨by show 0 ≤ e / 16777216 % 256 ∧ e / 16777216 % 256 < 256; omega, rfl⟩
      · exact ⟨by show 0 ≤ e / 65536 % 256 ∧ e / 65536 % 256 < 256; omega, rfl⟩
      · exact ⟨by show 0 ≤ e / 256 % 256 ∧ e / 256 % 256 < 256; omega, rfl⟩
      · exact ⟨by show 0 ≤ e % 256 ∧ e % 256 < 256; omega, rfl⟩
    have hPn := feed_inv hP (xs := [a / 16777216 % 256, a / 65536 % 256, a / 256 % 256, a % 256, b / 16777216 % 256, b / 65536 % 256, b / 256 % 256, b % 256, c / 16777216 % 256, c / 65536 % 256, c / 256 % 256, c % 256, d / 16777216 % 256, d / 65536 % 256, d / 256 % 256, d % 256, e / 16777216 % 256, e / 65536 % 256, e / 256 % 256, e % 256]) (ys := [sbF (a / 16777216), sbF (a / 65536), sbF (a / 256), sbF a, sbF (b / 16777216), sbF (b / 65536), sbF (b / 256), sbF b, sbF (c / 16777216), sbF (c / 65536), sbF (c / 256), sbF c, sbF (d / 16777216), sbF (d / 65536), sbF (d / 256), sbF d, sbF (e / 16777216), sbF (e / 65536), sbF (e / 256), sbF e]) rfl rfl hv hxy
    generalize [a / 16777216 % 256, a / 65536 % 256, a / 256 % 256, a % 256, b / 16777216 % 256, b / 65536 % 256, b / 256 % 256, b % 256, c / 16777216 % 256, c / 65536 % 256, c / 256 % 256, c % 256, d / 16777216 % 256, d / 65536 % 256, d / 256 % 256, d % 256, e / 16777216 % 256, e / 65536 % 256, e / 256 % 256, e % 256] = xs at hPn ⊢
    generalize [sbF (a / 16777216), sbF (a / 65536), sbF (a / 256), sbF a, sbF (b / 16777216), sbF (b / 65536), sbF (b / 256), sbF b, sbF (c / 16777216), sbF (c / 65536), sbF (c / 256), sbF c, sbF (d / 16777216), sbF (d / 65536), sbF (d / 256), sbF d, sbF (e / 16777216), sbF (e / 65536), sbF (e / 256), sbF e] = ys at hPn ⊢
    have gA : ∀ a, ¬ a = 12 → ¬ a = 59 → ga (si (si (wlS (wlS σ 12 (gi σ 3467).toNat xs) 59 (gi σ 3467).toNat ys) 705 (gi σ 3467 + 20)) 3467 (gi σ 3467 + 20)) a = ga σ a := fun a h1 h2 => by
      simp only [ga_si]
      rw [ga_wl_ne h2, ga_wl_ne h1]
    have gI : ∀ k, ¬ k = 705 → ¬ k = 3467 → gi (si (si (wlS (wlS σ 12 (gi σ 3467).toNat xs) 59 (gi σ 3467).toNat ys) 705 (gi σ 3467 + 20)) 3467 (gi σ 3467 + 20)) k = gi σ k := fun k h1 h2 => by
      rw [gi_si, if_neg h2, gi_si, if_neg h1, gi_wl, gi_wl]
    have qI : ∀ K : List Nat, (K.all (fun k => decide (¬ k = 705 ∧ ¬ k = 3467)) = true) → eqI K σ (si (si (wlS (wlS σ 12 (gi σ 3467).toNat xs) 59 (gi σ 3467).toNat ys) 705 (gi σ 3467 + 20)) 3467 (gi σ 3467 + 20)) := fun K hK k hk => by
      have := List.all_eq_true.mp hK k hk
      simp only [decide_eq_true_eq] at this
      exact gI k this.1 this.2
    have qA : ∀ K : List Nat, (K.all (fun k => decide (¬ k = 12 ∧ ¬ k = 59)) = true) → eqA K σ (si (si (wlS (wlS σ 12 (gi σ 3467).toNat xs) 59 (gi σ 3467).toNat ys) 705 (gi σ 3467 + 20)) 3467 (gi σ 3467 + 20)) := fun K hK k hk => by
      have := List.all_eq_true.mp hK k hk
      simp only [decide_eq_true_eq] at this
      exact gA k this.1 this.2
    exact ⟨InvT_fr hT (qI _ rfl) (qA _ rfl), InvA_fr hA (qI _ rfl) (qA _ rfl), InvF_fr hF (qI _ rfl) (qA _ rfl), hPn, InvB_fr hB (qI _ rfl) (qA _ rfl), InvE_fr hE (qI _ rfl), InvL_fr hL (qI _ rfl) (qA _ rfl), InvS_fr hS (qI _ rfl) (qA _ rfl), InvR_fr hR (qI _ rfl) (qI _ rfl) (qA _ rfl), InvO_fr hO (qI _ rfl) (qA _ rfl)⟩
  · have c1 : (800 < gi σ 3467 + 20) = True := eq_true (by omega)
    have c2 : (gi σ 3467 + 20 ≤ 800) = False := eq_false hv
    have e1 : wr (gi σ 3467 + 20) = gi σ 3467 + 20 := wr_id (by omega) (by omega)
    simp only [w115_0, w115_1, w115_4, w115_6, w115_9, w115_12, w115_13, w115_14, w115_15, w115_18, w115_19, w115_22, w115_23, w115_26, w115_27, w115_30, w115_31, w115_34, w115_35, w115_38, w115_39, w115_42, w115_44, w115_47, w115_48, w115_51, w115_53, w115_56, w115_57, w115_60, w115_63, w80_0, w80_1, w80_4, w80_5, w80_6, w80_9, w80_12, w80_13, w80_16, w80_17, ↓reduceIte, okp_i, okp_r, okp_n, catS_nil, catS_cons, catV_i, catV_r, catV_l, Option.toList_some, Option.toList_none, List.cons_append, List.nil_append, gi_si, ga_si, gi_sa, ga_sa, gi_sl, ga_sl, gi_sf, ga_sf, gl_si, gl_sa, gl_sf, gl_sl, and_true, true_and, if_true, if_false, ite_true, ite_false, not_false_eq_true, not_true_eq_false, Nat.reduceEqDiff, reduceCtorEq, Nat.reduceLeDiff, Nat.reduceAdd, Nat.reduceMul, Nat.reduceLT, Int.reduceNeg, Int.reduceEq, Int.reduceLT, Int.reduceLE, eq_self, Nat.reduceSub, or_true, true_or, or_false, false_or, and_false, false_and, Int.reduceToNat, rc0, rc1, ib2, ib3, ib4, ib5, ib6, ib7, ib8, ib9, ib10, rc11, ib12, rc13, ib14, ib15, ib16, ib17, ib18, ib19, rc20, rc21, ib22, ib23, ib24, rc25, ib26, ib27, ib28, ib29, ib30, ib31, rc32, ib33, rc34, ib35, rc36, ib37, rc38, ib39, ib40, ib41, ib42, ib43, ib44, ib45, ib46, ib47, rc48, ib49, ib50, ib51, ib52, ib53, rc54, ib55, ib56, ib57, ib58, ib59, ib60, ib61, ib62, ib63, ib64, ib65, ib66, ib67, ib68, ib69, ib70, ib71, ib72, ib73, ib74, ib75, ib76, ib77, ib78, ib79, ib80, ib81, p1, e1, c1, c2]
    refine ⟨_, rfl, ?_⟩
    simp only [w198_0, w198_1, w198_4, w198_6, w198_7, w198_10, w198_13, w198_14, w198_15, w198_16, w198_20, w198_22, w198_25, w198_27, w198_28, w198_31, w198_32, w198_35, w198_37, w198_39, w198_42, w198_43, w198_46, w198_48, w198_50, w198_53, w198_54, w198_57, w198_59, w198_61, w198_64, w198_66, w198_69, w198_71, w198_73, w198_74, w198_77, w198_78, w198_81, w198_83, w198_84, w198_86, w198_88, w198_90, w198_92, w198_93, w198_94, w198_95, w198_96, w198_97, w198_98_58, w198_98_59, w198_98_60, w198_99, w198_102, w198_105, w198_106, w198_106r, w198_107, w198_110, w198_112, w198_113, w198_116, w198_117, w198_120, ↓reduceIte, okp_i, okp_r, okp_n, catS_nil, catS_cons, catV_i, catV_r, catV_l, Option.toList_some, Option.toList_none, List.cons_append, List.nil_append, gi_si, ga_si, gi_sa, ga_sa, gi_sl, ga_sl, gi_sf, ga_sf, gl_si, gl_sa, gl_sf, gl_sl, and_true, true_and, if_true, if_false, ite_true, ite_false, not_false_eq_true, not_true_eq_false, Nat.reduceEqDiff, reduceCtorEq, Nat.reduceLeDiff, Nat.reduceAdd, Nat.reduceMul, Nat.reduceLT, Int.reduceNeg, Int.reduceEq, Int.reduceLT, Int.reduceLE, eq_self, Nat.reduceSub, or_true, true_or, or_false, false_or, and_false, false_and, Int.reduceToNat, rc0, rc1, ib2, ib3, ib4, ib5, ib6, ib7, ib8, ib9, ib10, rc11, ib12, rc13, ib14, ib15, ib16, ib17, ib18, ib19, rc20, rc21, ib22, ib23, ib24, rc25, ib26, ib27, ib28, ib29, ib30, ib31, rc32, ib33, rc34, ib35, rc36, ib37, rc38, ib39, ib40, ib41, ib42, ib43, ib44, ib45, ib46, ib47, rc48, ib49, ib50, ib51, ib52, ib53, rc54, ib55, ib56, ib57, ib58, ib59, ib60, ib61, ib62, ib63, ib64, ib65, ib66, ib67, ib68, ib69, ib70, ib71, ib72, ib73, ib74, ib75, ib76, ib77, ib78, ib79, ib80, ib81, e1, c1, c2]
    exact h
end FEED
