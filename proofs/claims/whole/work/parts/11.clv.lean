section INV
variable {X : JX} {y pc n : Nat} {lv : Lcs} {st : List AV} {σ : Sto} {post : Pst}
theorem inv_gd {k : Nat} {r : Option Res} (h : stp X y lv σ post (gd n k r)) : n = k ∧ stp X y lv σ post r := by
  unfold gd at h
  split at h
  · next e => exact ⟨e, h⟩
  · exact h.elim
theorem inv_bin {f : Int → Int → Int} (h : stp X y lv σ post (xbin f pc lv st σ)) : ∃ a b r, st = vi b :: vi a :: r ∧ X y pc lv (vi (f a b) :: r) σ post := by
  unfold xbin at h
  split at h
  · exact ⟨_, _, _, rfl, h⟩
  · exact h.elim
theorem inv_binL {f : Int → Int → Int} (h : stp X y lv σ post (xbinL f pc lv st σ)) : ∃ a b r, st = vl b :: vl a :: r ∧ X y pc lv (vl (f a b) :: r) σ post := by
  unfold xbinL at h
  split at h
  · exact ⟨_, _, _, rfl, h⟩
  · exact h.elim
theorem inv_un {f : Int → AV} (h : stp X y lv σ post (xun f pc lv st σ)) : ∃ a r, st = vi a :: r ∧ X y pc lv (f a :: r) σ post := by
  unfold xun at h
  split at h
  · exact ⟨_, _, rfl, h⟩
  · exact h.elim
theorem inv_ldI {k : Nat} (h : stp X y lv σ post (xldI k pc lv st σ)) : ∃ x, lv[k]? = some (some (vi x)) ∧ X y pc lv (vi x :: st) σ post := by
  unfold xldI at h
  split at h
  · next e => exact ⟨_, e, h⟩
  · exact h.elim
theorem inv_ldL {k : Nat} (h : stp X y lv σ post (xldL k pc lv st σ)) : ∃ x, lv[k]? = some (some (vl x)) ∧ X y pc lv (vl x :: st) σ post := by
  unfold xldL at h
  split at h
  · next e => exact ⟨_, e, h⟩
  · exact h.elim
theorem inv_ldR {k : Nat} (h : stp X y lv σ post (xldR k pc lv st σ)) : ∃ x, ¬ x = 4000 ∧ lv[k]? = some (some (vr x)) ∧ X y pc lv (vr x :: st) σ post := by
  unfold xldR at h
  split at h
  · next e =>
    split at h
    · exact h.elim
    · next hx => exact ⟨_, hx, e, h⟩
  · exact h.elim
theorem inv_stI {k : Nat} (h : stp X y lv σ post (xstI y k pc lv st σ)) : ∃ x r, st = vi x :: r ∧ k < mxl y ∧ okst lv k = true ∧ X y pc (lv.set k (some (vi x))) r σ post := by
  unfold xstI at h
  split at h
  · split at h
    · next e => exact ⟨_, _, rfl, e.1, e.2, h⟩
    · exact h.elim
  · exact h.elim
theorem inv_stR {k : Nat} (h : stp X y lv σ post (xstR y k pc lv st σ)) : ∃ x r, st = vr x :: r ∧ k < mxl y ∧ okst lv k = true ∧ ¬ x = 4000 ∧ X y pc (lv.set k (some (vr x))) r σ post := by
  unfold xstR at h
  split at h
  · split at h
    · next e => exact ⟨_, _, rfl, e.1, e.2.1, e.2.2, h⟩
    · exact h.elim
  · exact h.elim
theorem inv_stL {k : Nat} (h : stp X y lv σ post (xstL y k pc lv st σ)) : ∃ x r, st = vl x :: r ∧ k + 1 < mxl y ∧ okst lv k = true ∧ X y pc ((lv.set k (some (vl x))).set (k + 1) none) r σ post := by
  unfold xstL at h
  split at h
  · split at h
    · next e => exact ⟨_, _, rfl, e.1, e.2, h⟩
    · exact h.elim
  · exact h.elim
theorem inv_inc {k : Nat} {d : Int} (h : stp X y lv σ post (xinc y k d pc lv st σ)) : ∃ x, lv[k]? = some (some (vi x)) ∧ (k < mxl y ∧ okst lv k = true ∧ -128 ≤ d ∧ d < 128) ∧ X y pc (lv.set k (some (vi (wr (x + d))))) st σ post := by
  unfold xinc at h
  split at h
  · next e =>
    split at h
    · next e2 => exact ⟨_, e, e2, h⟩
    · exact h.elim
  · exact h.elim
theorem inv_jmp {off : Int} (h : stp X y lv σ post (xjmp pc off lv st σ)) : 0 ≤ (pc : Int) + off ∧ X y ((pc : Int) + off).toNat lv st σ post := by
  unfold xjmp at h
  split at h
  · next e => exact ⟨e, h⟩
  · exact h.elim
theorem inv_if2 {c : Jvm.ClassFile.Cond} {off : Int} (h : stp X y lv σ post (xif2 c off pc lv st σ)) : ∃ a b r, st = vi b :: vi a :: r ∧ 0 ≤ (pc : Int) + off ∧ (cmpF c a b = true → X y ((pc : Int) + off).toNat lv r σ post) ∧ (¬ cmpF c a b = true → X y (pc + 3) lv r σ post) := by
  unfold xif2 at h
  split at h
  · split at h
    · next e0 =>
      split at h
      · next e => exact ⟨_, _, _, rfl, e0, fun _ => h, fun q => absurd e q⟩
      · next e => exact ⟨_, _, _, rfl, e0, fun q => absurd q e, fun _ => h⟩
    · exact h.elim
  · exact h.elim
theorem inv_if1 {c : Jvm.ClassFile.Cond} {off : Int} (h : stp X y lv σ post (xif1 c off pc lv st σ)) : ∃ a r, st = vi a :: r ∧ 0 ≤ (pc : Int) + off ∧ (cmpF c a 0 = true → X y ((pc : Int) + off).toNat lv r σ post) ∧ (¬ cmpF c a 0 = true → X y (pc + 3) lv r σ post) := by
  unfold xif1 at h
  split at h
  · split at h
    · next e0 =>
      split at h
      · next e => exact ⟨_, _, rfl, e0, fun _ => h, fun q => absurd e q⟩
      · next e => exact ⟨_, _, rfl, e0, fun q => absurd q e, fun _ => h⟩
    · exact h.elim
  · exact h.elim
end INV
section CLV
variable {l : Launch} {g : GG} {S : Scr} {y pc n : Nat} {lv : Lcs} {st : List AV} {σ : Sto} {post : Pst}
theorem st_take {st as : List AV} {k o : Nat} (h : (st.take k).reverse = vr o :: as) : st = as.reverse ++ vr o :: st.drop k := by
  have h1 : st.take k = as.reverse ++ [vr o] := by
    have := congrArg List.reverse h
    simpa using this
  have h2 := List.take_append_drop k st
  rw [h1, List.append_assoc] at h2
  exact h2.symm
theorem clV : clX S (Vj l g S) := by
  intro y pc lv st σ post h
  unfold ex1 at h
  cases hd : decode (cdo y) pc with
  | error e => rw [hd] at h; exact h.elim
  | ok q =>
    obtain ⟨i, n⟩ := q
    rw [hd] at h
    dsimp only at h
    cases i with
    | iadd =>
      have hq := inv_gd h
      clear h
      obtain ⟨rfl, h⟩ := hq
      obtain ⟨a, b, r, rfl, h⟩ := inv_bin h
      exact V_iadd hd h
    | isub =>
      have hq := inv_gd h
      clear h
      obtain ⟨rfl, h⟩ := hq
      obtain ⟨a, b, r, rfl, h⟩ := inv_bin h
      exact V_isub hd h
    | imul =>
      have hq := inv_gd h
      clear h
      obtain ⟨rfl, h⟩ := hq
      obtain ⟨a, b, r, rfl, h⟩ := inv_bin h
      exact V_imul hd h
    | iand =>
      have hq := inv_gd h
      clear h
      obtain ⟨rfl, h⟩ := hq
      obtain ⟨a, b, r, rfl, h⟩ := inv_bin h
      exact V_iand hd h
    | ior =>
      have hq := inv_gd h
      clear h
      obtain ⟨rfl, h⟩ := hq
      obtain ⟨a, b, r, rfl, h⟩ := inv_bin h
      exact V_ior hd h
    | ixor =>
      have hq := inv_gd h
      clear h
      obtain ⟨rfl, h⟩ := hq
      obtain ⟨a, b, r, rfl, h⟩ := inv_bin h
      exact V_ixor hd h
    | ishl =>
      have hq := inv_gd h
      clear h
      obtain ⟨rfl, h⟩ := hq
      obtain ⟨a, b, r, rfl, h⟩ := inv_bin h
      exact V_ishl hd h
    | ishr =>
      have hq := inv_gd h
      clear h
      obtain ⟨rfl, h⟩ := hq
      obtain ⟨a, b, r, rfl, h⟩ := inv_bin h
      exact V_ishr hd h
    | iushr =>
      have hq := inv_gd h
      clear h
      obtain ⟨rfl, h⟩ := hq
      obtain ⟨a, b, r, rfl, h⟩ := inv_bin h
      exact V_iushr hd h
    | ladd =>
      have hq := inv_gd h
      clear h
      obtain ⟨rfl, h⟩ := hq
      obtain ⟨a, b, r, rfl, h⟩ := inv_binL h
      exact V_ladd hd h
    | lsub =>
      have hq := inv_gd h
      clear h
      obtain ⟨rfl, h⟩ := hq
      obtain ⟨a, b, r, rfl, h⟩ := inv_binL h
      exact V_lsub hd h
    | lmul =>
      have hq := inv_gd h
      clear h
      obtain ⟨rfl, h⟩ := hq
      obtain ⟨a, b, r, rfl, h⟩ := inv_binL h
      exact V_lmul hd h
    | lor =>
      have hq := inv_gd h
      clear h
      obtain ⟨rfl, h⟩ := hq
      obtain ⟨a, b, r, rfl, h⟩ := inv_binL h
      exact V_lor hd h
    | ineg =>
      have hq := inv_gd h
      clear h
      obtain ⟨rfl, h⟩ := hq
      obtain ⟨a, r, rfl, h⟩ := inv_un h
      exact V_ineg hd h
    | i2l =>
      have hq := inv_gd h
      clear h
      obtain ⟨rfl, h⟩ := hq
      obtain ⟨a, r, rfl, h⟩ := inv_un h
      exact V_i2l hd h
    | i2b =>
      have hq := inv_gd h
      clear h
      obtain ⟨rfl, h⟩ := hq
      obtain ⟨a, r, rfl, h⟩ := inv_un h
      exact V_i2b hd h
    | i2c =>
      have hq := inv_gd h
      clear h
      obtain ⟨rfl, h⟩ := hq
      obtain ⟨a, r, rfl, h⟩ := inv_un h
      exact V_i2c hd h
    | idiv =>
      have hq := inv_gd h
      clear h
      obtain ⟨rfl, h⟩ := hq
      unfold xdiv at h
      split at h
      · split at h
        · exact h.elim
        · next hne => exact V_idiv hne hd h
      · exact h.elim
    | irem =>
      have hq := inv_gd h
      clear h
      obtain ⟨rfl, h⟩ := hq
      unfold xdiv at h
      split at h
      · split at h
        · exact h.elim
        · next hne => exact V_irem hne hd h
      · exact h.elim
    | lshl =>
      have hq := inv_gd h
      clear h
      obtain ⟨rfl, h⟩ := hq
      unfold xlshl at h
      split at h
      · exact V_lshl hd h
      · exact h.elim
    | lcmp =>
      have hq := inv_gd h
      clear h
      obtain ⟨rfl, h⟩ := hq
      unfold xlcmp at h
      split at h
      · exact V_lcmp hd h
      · exact h.elim
    | iconst v =>
      have hq := inv_gd h
      clear h
      obtain ⟨rfl, h⟩ := hq
      split at h
      · next e => exact V_iconst e hd h
      · exact h.elim
    | bipush v =>
      have hq := inv_gd h
      clear h
      obtain ⟨rfl, h⟩ := hq
      split at h
      · next e => exact V_bipush e hd h
      · exact h.elim
    | sipush v =>
      have hq := inv_gd h
      clear h
      obtain ⟨rfl, h⟩ := hq
      split at h
      · next e => exact V_sipush e hd h
      · exact h.elim
    | lconst k =>
      have hq := inv_gd h
      clear h
      obtain ⟨rfl, h⟩ := hq
      exact V_lconst hd h
    | iload k =>
      have hq := inv_gd h
      clear h
      obtain ⟨rfl, h⟩ := hq
      obtain ⟨x, hk, h⟩ := inv_ldI h
      exact V_iload hk hd h
    | iload_n k =>
      have hq := inv_gd h
      clear h
      obtain ⟨rfl, h⟩ := hq
      obtain ⟨x, hk, h⟩ := inv_ldI h
      exact V_iload_n hk hd h
    | lload k =>
      have hq := inv_gd h
      clear h
      obtain ⟨rfl, h⟩ := hq
      obtain ⟨x, hk, h⟩ := inv_ldL h
      exact V_lload hk hd h
    | lload_n k =>
      have hq := inv_gd h
      clear h
      obtain ⟨rfl, h⟩ := hq
      obtain ⟨x, hk, h⟩ := inv_ldL h
      exact V_lload_n hk hd h
    | aload k =>
      have hq := inv_gd h
      clear h
      obtain ⟨rfl, h⟩ := hq
      obtain ⟨x, hx, hk, h⟩ := inv_ldR h
      exact V_aload hx hk hd h
    | aload_n k =>
      have hq := inv_gd h
      clear h
      obtain ⟨rfl, h⟩ := hq
      obtain ⟨x, hx, hk, h⟩ := inv_ldR h
      exact V_aload_n hx hk hd h
    | istore k =>
      have hq := inv_gd h
      clear h
      obtain ⟨rfl, h⟩ := hq
      obtain ⟨x, r, rfl, hk, ho, h⟩ := inv_stI h
      exact V_istore hk ho hd h
    | istore_n k =>
      have hq := inv_gd h
      clear h
      obtain ⟨rfl, h⟩ := hq
      obtain ⟨x, r, rfl, hk, ho, h⟩ := inv_stI h
      exact V_istore_n hk ho hd h
    | lstore k =>
      have hq := inv_gd h
      clear h
      obtain ⟨rfl, h⟩ := hq
      obtain ⟨x, r, rfl, hk, ho, h⟩ := inv_stL h
      exact V_lstore hk ho hd h
    | lstore_n k =>
      have hq := inv_gd h
      clear h
      obtain ⟨rfl, h⟩ := hq
      obtain ⟨x, r, rfl, hk, ho, h⟩ := inv_stL h
      exact V_lstore_n hk ho hd h
    | astore_n k =>
      have hq := inv_gd h
      clear h
      obtain ⟨rfl, h⟩ := hq
      obtain ⟨x, r, rfl, hk, ho, hx, h⟩ := inv_stR h
      exact V_astore_n hx hk ho hd h
    | iinc k d =>
      have hq := inv_gd h
      clear h
      obtain ⟨rfl, h⟩ := hq
      obtain ⟨x, hk, e, h⟩ := inv_inc h
      exact V_iinc hk e.2.2 e.1 e.2.1 hd h
    | dup =>
      have hq := inv_gd h
      clear h
      obtain ⟨rfl, h⟩ := hq
      unfold xdup at h
      split at h
      · split at h
        · next e => exact V_dup e hd h
        · exact h.elim
      · exact h.elim
    | dup2 =>
      have hq := inv_gd h
      clear h
      obtain ⟨rfl, h⟩ := hq
      unfold xdup2 at h
      split at h
      · split at h
        · next e => exact V_dup2 e.1 e.2 hd h
        · exact h.elim
      · exact h.elim
    | pop =>
      have hq := inv_gd h
      clear h
      obtain ⟨rfl, h⟩ := hq
      unfold xpop at h
      split at h
      · split at h
        · next e => exact V_pop e hd h
        · exact h.elim
      · exact h.elim
    | ifCond c off =>
      have hq := inv_gd h
      clear h
      obtain ⟨rfl, h⟩ := hq
      obtain ⟨a, r, rfl, h0, h1, h2⟩ := inv_if1 h
      exact V_if1 h0 hd h1 h2
    | if_icmp c off =>
      have hq := inv_gd h
      clear h
      obtain ⟨rfl, h⟩ := hq
      obtain ⟨a, b, r, rfl, h0, h1, h2⟩ := inv_if2 h
      exact V_if2 h0 hd h1 h2
    | goto off =>
      have hq := inv_gd h
      clear h
      obtain ⟨rfl, h⟩ := hq
      obtain ⟨h0, h⟩ := inv_jmp h
      exact V_goto h0 hd h
    | tableswitch d lo hi offs =>
      have h : stp (Vj l g S) y lv σ post (xtab d lo hi offs pc lv st σ) := h
      unfold xtab at h
      split at h
      · split at h
        · next e =>
          obtain ⟨h0, h⟩ := inv_jmp h
          exact V_tabOut e h0 hd h
        · next e =>
          split at h
          · next eo =>
            obtain ⟨h0, h⟩ := inv_jmp h
            exact V_tabIn e eo h0 hd h
          · exact h.elim
      · exact h.elim
    | lookupswitch d ps =>
      have h : stp (Vj l g S) y lv σ post (xlku d ps pc lv st σ) := h
      unfold xlku at h
      split at h
      · split at h
        · next e =>
          obtain ⟨h0, h⟩ := inv_jmp h
          exact V_lku e h0 hd h
        · exact h.elim
      · exact h.elim
    | iaload =>
      have hq := inv_gd h
      clear h
      obtain ⟨rfl, h⟩ := hq
      unfold xiald at h
      split at h
      · split at h
        · next e =>
          subst e
          split at h
          · next e => exact V_ialdS e.1 e.2.1 e.2.2 hd h
          · exact h.elim
        · split at h
          · next t k ha =>
            split at h
            · next e =>
              obtain ⟨rfl, h1, h2⟩ := e
              exact V_iald ha h1 h2 hd h
            · exact h.elim
          · exact h.elim
      · exact h.elim
    | baload =>
      have hq := inv_gd h
      clear h
      obtain ⟨rfl, h⟩ := hq
      unfold xbald at h
      split at h
      · split at h
        · next e0 =>
          split at h
          · next e => exact V_balS e0 e.1 e.2 hd h
          · exact h.elim
        · split at h
          · next t k ha =>
            split at h
            · next e => exact V_bald ha e.1 e.2.1 e.2.2 hd h
            · exact h.elim
          · exact h.elim
      · exact h.elim
    | iastore =>
      have hq := inv_gd h
      clear h
      obtain ⟨rfl, h⟩ := hq
      unfold xiast at h
      split at h
      · split at h
        · next t k ha =>
          split at h
          · next e =>
            obtain ⟨rfl, h1, h2⟩ := e
            exact V_iast ha h1 h2 hd h
          · exact h.elim
        · exact h.elim
      · exact h.elim
    | bastore =>
      have hq := inv_gd h
      clear h
      obtain ⟨rfl, h⟩ := hq
      unfold xbast at h
      split at h
      · split at h
        · next t k ha =>
          split at h
          · next e =>
            split at h
            · next e1 =>
              subst e1
              exact V_bastZ ha e.1 e.2 hd h
            · split at h
              · next e1 =>
                subst e1
                exact V_bastB ha e.1 e.2 hd h
              · exact h.elim
          · exact h.elim
        · exact h.elim
      · exact h.elim
    | arraylength =>
      have hq := inv_gd h
      clear h
      obtain ⟨rfl, h⟩ := hq
      unfold xalen at h
      split at h
      · split at h
        · next e =>
          subst e
          split at h
          · next e => exact V_alenS e hd h
          · exact h.elim
        · split at h
          · next e => exact V_alenT e hd h
          · split at h
            · next t k ha => exact V_alen ha hd h
            · exact h.elim
      · exact h.elim
    | getfield k =>
      have hq := inv_gd h
      clear h
      obtain ⟨rfl, h⟩ := hq
      unfold xgetf at h
      split at h
      · split at h
        · next hy =>
          split at h
          · next ho =>
            split at h
            · next e => exact V_getS hy ho (Or.inl ⟨e, rfl⟩) hd h
            · split at h
              · next e => exact V_getS hy ho (Or.inr ⟨e, rfl⟩) hd h
              · exact h.elim
          · exact h.elim
        · split at h
          · next ci j hl0 =>
            split at h
            · next ci2 ks ho =>
              split at h
              · next e =>
                subst e
                split at h
                · next ht =>
                  refine V_getf hl0 ho ht ?_ ?_ hd h
                  · rfl
                  · exact fun hs => hs.1 _
                · next ht =>
                  refine V_getf hl0 ho ht ?_ ?_ hd h
                  · rfl
                  · exact fun hs => hs.2.2 _
                · next q ht =>
                  split at h
                  · next hq =>
                    refine V_getf hl0 ho ht ?_ ?_ hd h
                    · rw [cv_r (by omega)]; rfl
                    · exact fun _ => trivial
                  · exact h.elim
                · exact h.elim
              · exact h.elim
            · exact h.elim
          · exact h.elim
      · exact h.elim
    | putfield k =>
      have hq := inv_gd h
      clear h
      obtain ⟨rfl, h⟩ := hq
      unfold xputf at h
      split at h
      · split at h
        · next ci j hl0 =>
          split at h
          · next ci2 ks ho =>
            split at h
            · next e =>
              obtain ⟨rfl, hf⟩ := e
              split at h
              · next ht =>
                split at h
                · next hty => exact V_putI hl0 ho ht hf hty hd h
                · exact h.elim
              · next ht =>
                split at h
                · next hty => exact V_putL hl0 ho ht hf hty hd h
                · exact h.elim
              · exact h.elim
            · exact h.elim
          · exact h.elim
        · exact h.elim
      · exact h.elim
    | getstatic k =>
      have hq := inv_gd h
      clear h
      obtain ⟨rfl, h⟩ := hq
      unfold xgets at h
      split at h
      · next hy =>
        split at h
        · next e => exact V_gets hy (Or.inl ⟨e, rfl⟩) hd h
        · split at h
          · next e => exact V_gets hy (Or.inr ⟨e, rfl⟩) hd h
          · exact h.elim
      · exact h.elim
    | ldc k =>
      have hq := inv_gd h
      clear h
      obtain ⟨rfl, h⟩ := hq
      unfold xldc at h
      split at h
      · next hy =>
        split at h
        · next j hj =>
          rw [if_pos rfl] at h
          obtain ⟨hj1, hj2, -⟩ := List.findIdx?_eq_some_iff_getElem.mp hj
          refine V_ldcS hy (show j < 11 from hj1) ?_ hd h
          rw [List.getD_eq_getElem?_getD, List.getElem?_eq_getElem hj1]
          simpa using hj2
        · exact h.elim
      · split at h
        · next v hc => exact V_ldcI hc hd h
        · exact h.elim
    | ldc_w k =>
      have hq := inv_gd h
      clear h
      obtain ⟨rfl, h⟩ := hq
      unfold xldc at h
      split at h
      · split at h
        · rw [if_neg (by decide)] at h
          exact h.elim
        · exact h.elim
      · split at h
        · next v hc => exact V_ldcw hc hd h
        · exact h.elim
    | ldc2_w k =>
      have hq := inv_gd h
      clear h
      obtain ⟨rfl, h⟩ := hq
      unfold xldc2 at h
      split at h
      · next v hc => exact V_ldc2 hc hd h
      · exact h.elim
    | invokevirtual k =>
      have hq := inv_gd h
      clear h
      obtain ⟨rfl, h⟩ := hq
      unfold xinvV at h
      split at h
      · next y2 hm =>
        split at h
        · unfold xcallV at h
          split at h
          · next o as hs =>
            split at h
            · next e =>
              obtain ⟨p2, h1, h2⟩ := h
              rw [st_take hs]
              exact V_callV hm e.1 e.2.1 e.2.2.1 e.2.2.2.1 e.2.2.2.2.1 e.2.2.2.2.2 hd h1 h2
            · exact h.elim
          · exact h.elim
        · exact h.elim
      · exact h.elim
    | invokestatic k =>
      have hq := inv_gd h
      clear h
      obtain ⟨rfl, h⟩ := hq
      unfold xinvS at h
      split at h
      · next y2 hm =>
        split at h
        · next e =>
          subst e
          unfold xmm at h
          split at h
          · split at h
            · next e => exact V_mmin hm e hd h
            · exact h.elim
          · exact h.elim
        · split at h
          · next e =>
            subst e
            unfold xmm at h
            split at h
            · split at h
              · next e => exact V_mmax hm e hd h
              · exact h.elim
            · exact h.elim
          · split at h
            · next e =>
              subst e
              unfold xcopy at h
              split at h
              · split at h
                · next n1 t1 n0 t0 ha hb =>
                  split at h
                  · next e =>
                    obtain ⟨rfl, rfl, e1, e2, e3, e4, e5, e6⟩ := e
                    exact V_copy hm ha hb e1 e2 e3 e4 e5 e6 hd h
                  · exact h.elim
                · exact h.elim
              · exact h.elim
            · unfold xcallS at h
              split at h
              · next e =>
                obtain ⟨p2, h1, h2⟩ := h
                have hs : st = (st.take (npo y2)).reverse.reverse ++ st.drop (npo y2) := by rw [List.reverse_reverse, List.take_append_drop]
                rw [hs]
                exact V_callS hm e.1 (by rw [List.length_reverse]; exact e.2.1) e.2.2.1 e.2.2.2.1 e.2.2.2.2 hd h1 h2
              · exact h.elim
      · exact h.elim
    | ireturn =>
      have hq := inv_gd h
      clear h
      obtain ⟨rfl, h⟩ := hq
      unfold xiret at h
      split at h
      · split at h
        · next ty hr =>
          split at h
          · next e => exact V_iret hr e hd h
          · exact h.elim
        · exact h.elim
      · exact h.elim
    | areturn =>
      have hq := inv_gd h
      clear h
      obtain ⟨rfl, h⟩ := hq
      unfold xaret at h
      split at h
      · split at h
        · next e =>
          have e1 := e.1
          unfold isObj at e1
          split at e1
          · next nm hr => exact V_aret hr e.2 hd h
          · cases e1
        · exact h.elim
      · exact h.elim
    | return_ =>
      have hq := inv_gd h
      clear h
      obtain ⟨rfl, h⟩ := hq
      unfold xvret at h
      split at h
      · split at h
        · next e => exact V_vret e hd h
        · exact h.elim
      · exact h.elim
    | _ => exact h.elim
theorem WP_V (h : WP S y pc lv st σ post) : Vj l g S y pc lv st σ post := h _ clV
end CLV
