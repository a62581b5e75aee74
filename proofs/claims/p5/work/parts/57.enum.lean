/-! ===== the energies of all configurations: the lab's side ===== -/
section
theorem xi0 {k : Nat} (h : 0 < k) (h2 : k < 2147483648) : xIn 0 k = True := by
  have := nI_inP h h2
  rwa [nI_0] at this
def fill (f : Nat → Int32) (v : Int32) (i : Nat) : Nat → Int32 := fun j => if j < i then v else f j
theorem fill_at (f : Nat → Int32) (v : Int32) (i j : Nat) : fill f v i j = if j < i then v else f j := rfl
theorem fill_up (f : Nat → Int32) (v : Int32) (i : Nat) : up (fill f v i) i v = fill f v (i + 1) := by
  funext j
  simp only [up_at, fill_at]
  by_cases h : j = i
  · rw [if_pos h, if_pos (by omega)]
  · rw [if_neg h]
    by_cases h2 : j < i
    · rw [if_pos h2, if_pos (by omega)]
    · rw [if_neg h2, if_neg (by omega)]
theorem fill_0 (f : Nat → Int32) (v : Int32) : fill f v 0 = f := by
  funext j
  rw [fill_at, if_neg (Nat.not_lt_zero j)]
variable {S : xS} {I : xI} {J : xJ} {D : xDb} {R : xR} {b : Nat × Nat} {Q : xQ} {n m : Nat} {fi se dg : Nat → Nat} {sb : Nat → Nat → Nat}
theorem Y6_5 {o L : Nat} {v : Int32} {f : Nat → Int32} (hS : S o = (100, L)) (hL : L < 2147483648) : ∀ (j i : Nat), i + j = L → xRun xT 6 5 [(0, .ref o), (1, .int v), (2, .int (nI i)), (3, .int (nI L))] [] (S, rI I o (fill f v i), J, D, R) b Q = Q (.ok none) (S, rI I o (fill f v L), J, D, R) b
  | 0, i, hi => by
    have e : i = L := by omega
    subst e
    rw [e6_5]
    simp only [B6_5, xSeq, i_push, i_load, i_iload, i_lload, i_dload, i_aload, i_istore, i_astore, i_lstore, i_dstore, i_iinc, i_ii, i_iiz, i_ll, i_llz, i_lli, i_li, i_i, i_l, i_i2l, i_l2i, i_dup, i_dup2, i_dup2w, i_dupx1, i_pop, i_pop2, i_goto, i_ifc, i_icmp, i_getI, i_getL, i_getR, i_putI, i_putZ, i_putL, i_putR, i_aldI, i_aldB, i_aldL, i_aldD, i_astI, i_astL, i_astD, i_alen, i_ret, i_iret, i_zret, i_lret, i_fret, i_dret, i_aret, i_invS0, i_invV0, i_m2, i_m1, i_ml, i_obj, lk, lkp, stf1, stf2, Value.category, rV, xTo, lv_args, xCk, xCat, xRc, xAk, hg_S, hg_I, hg_J, hg_D, hg_R, hs_I, hs_J, hs_D, hs_R, uI_at, uJ_at, uD_at, uR_at, List.take_succ_cons, List.take_zero, List.drop_succ_cons, List.drop_zero, List.reverse_cons, List.reverse_nil, List.nil_append, List.cons_append, List.map_cons, List.map_nil, List.sum_cons, List.sum_nil, List.length_cons, List.length_nil, Option.toList_some, Option.toList_none, true_and, and_true, false_and, and_false, true_implies, false_implies, implies_true, not_true_eq_false, not_false_eq_true, ne_eq, if_true, if_false, Bool.and_true, Bool.true_and, decide_true, decide_false, reduceIte, reduceCtorEq, Bool.and_self, Bool.and_eq_true, decide_eq_true_eq, and_self, true_or, or_true, false_or, or_false, Nat.zero_add, Nat.add_zero, eq_self, Nat.reduceEqDiff, Nat.reduceLeDiff, Nat.reduceLT, Nat.reduceAdd, Nat.reduceSub, Nat.reduceMul, nI_leP hL hL, Nat.le_refl, e6_20, B6_20]
  | j + 1, i, hi => by
    rw [e6_5]
    simp only [B6_5, xSeq, i_push, i_load, i_iload, i_lload, i_dload, i_aload, i_istore, i_astore, i_lstore, i_dstore, i_iinc, i_ii, i_iiz, i_ll, i_llz, i_lli, i_li, i_i, i_l, i_i2l, i_l2i, i_dup, i_dup2, i_dup2w, i_dupx1, i_pop, i_pop2, i_goto, i_ifc, i_icmp, i_getI, i_getL, i_getR, i_putI, i_putZ, i_putL, i_putR, i_aldI, i_aldB, i_aldL, i_aldD, i_astI, i_astL, i_astD, i_alen, i_ret, i_iret, i_zret, i_lret, i_fret, i_dret, i_aret, i_invS0, i_invV0, i_m2, i_m1, i_ml, i_obj, lk, lkp, stf1, stf2, Value.category, rV, xTo, lv_args, xCk, xCat, xRc, xAk, hg_S, hg_I, hg_J, hg_D, hg_R, hs_I, hs_J, hs_D, hs_R, uI_at, uJ_at, uD_at, uR_at, List.take_succ_cons, List.take_zero, List.drop_succ_cons, List.drop_zero, List.reverse_cons, List.reverse_nil, List.nil_append, List.cons_append, List.map_cons, List.map_nil, List.sum_cons, List.sum_nil, List.length_cons, List.length_nil, Option.toList_some, Option.toList_none, true_and, and_true, false_and, and_false, true_implies, false_implies, implies_true, not_true_eq_false, not_false_eq_true, ne_eq, if_true, if_false, Bool.and_true, Bool.true_and, decide_true, decide_false, reduceIte, reduceCtorEq, Bool.and_self, Bool.and_eq_true, decide_eq_true_eq, and_self, true_or, or_true, false_or, or_false, Nat.zero_add, Nat.add_zero, eq_self, Nat.reduceEqDiff, Nat.reduceLeDiff, Nat.reduceLT, Nat.reduceAdd, Nat.reduceSub, Nat.reduceMul, hS, nI_leP hL (show i < 2147483648 by omega), show (L ≤ i) = False from eq_false (by omega), nI_inP (show i < L by omega) hL, nI_ix (show i < 2147483648 by omega), uI_rI, fill_up, nI_1]
    exact Y6_5 hS hL j (i + 1) (by omega)
theorem Y6 {o L : Nat} {v : Int32} (hS : S o = (100, L)) (hL : L < 2147483648) : xRun xT 6 0 [(0, .ref o), (1, .int v)] [] (S, I, J, D, R) b Q = Q (.ok none) (S, rI I o (fill (I o) v L), J, D, R) b := by
  rw [e6_0]
  simp only [B6_0, xSeq, i_push, i_load, i_iload, i_lload, i_dload, i_aload, i_istore, i_astore, i_lstore, i_dstore, i_iinc, i_ii, i_iiz, i_ll, i_llz, i_lli, i_li, i_i, i_l, i_i2l, i_l2i, i_dup, i_dup2, i_dup2w, i_dupx1, i_pop, i_pop2, i_goto, i_ifc, i_icmp, i_getI, i_getL, i_getR, i_putI, i_putZ, i_putL, i_putR, i_aldI, i_aldB, i_aldL, i_aldD, i_astI, i_astL, i_astD, i_alen, i_ret, i_iret, i_zret, i_lret, i_fret, i_dret, i_aret, i_invS0, i_invV0, i_m2, i_m1, i_ml, i_obj, lk, lkp, stf1, stf2, Value.category, rV, xTo, lv_args, xCk, xCat, xRc, xAk, hg_S, hg_I, hg_J, hg_D, hg_R, hs_I, hs_J, hs_D, hs_R, uI_at, uJ_at, uD_at, uR_at, List.take_succ_cons, List.take_zero, List.drop_succ_cons, List.drop_zero, List.reverse_cons, List.reverse_nil, List.nil_append, List.cons_append, List.map_cons, List.map_nil, List.sum_cons, List.sum_nil, List.length_cons, List.length_nil, Option.toList_some, Option.toList_none, true_and, and_true, false_and, and_false, true_implies, false_implies, implies_true, not_true_eq_false, not_false_eq_true, ne_eq, if_true, if_false, Bool.and_true, Bool.true_and, decide_true, decide_false, reduceIte, reduceCtorEq, Bool.and_self, Bool.and_eq_true, decide_eq_true_eq, and_self, true_or, or_true, false_or, or_false, Nat.zero_add, Nat.add_zero, eq_self, Nat.reduceEqDiff, Nat.reduceLeDiff, Nat.reduceLT, Nat.reduceAdd, Nat.reduceSub, Nat.reduceMul, hS]
  have h := Y6_5 (S := S) (I := I) (J := J) (D := D) (R := R) (b := b) (Q := Q) (f := I o) (v := v) hS hL L 0 (by omega)
  rw [fill_0, rI_self] at h
  simp only [nI_0] at h
  simp [xAk, h]
/-- the rows that the enumeration makes -/
def LE (S : xS) (R : xR) : Prop := R 130 6 = some 151 ∧ R 130 7 = some 152 ∧ R 130 8 = some 153 ∧ R 130 9 = some 154 ∧ R 130 10 = some 155 ∧ R 130 11 = some 156 ∧ S 151 = (104, 65536) ∧ S 152 = (100, 65536) ∧ S 153 = (100, 4913) ∧ S 154 = (100, 4913) ∧ S 155 = (100, 4913) ∧ S 156 = (100, 4913)
theorem LE_out {S : xS} {R : xR} (h : LE S R) : R 130 6 = some 151 ∧ R 130 7 = some 152 ∧ R 130 8 = some 153 ∧ R 130 9 = some 154 ∧ R 130 10 = some 155 ∧ R 130 11 = some 156 ∧ S 151 = (104, 65536) ∧ S 152 = (100, 65536) ∧ S 153 = (100, 4913) ∧ S 154 = (100, 4913) ∧ S 155 = (100, 4913) ∧ S 156 = (100, 4913) := h
theorem pw_lt {o t : Nat} (h : o < t) : 2 ^ o * 2 ≤ 2 ^ t := by
  rw [← Nat.pow_succ]
  exact Nat.pow_le_pow_right (by decide) h
theorem xor_hi {j t : Nat} (h : j < 2 ^ t) : j ^^^ 2 ^ t = 2 ^ t + j := by
  apply Nat.eq_of_testBit_eq
  intro i
  rw [bit_x]
  rcases Nat.lt_trichotomy i t with h1 | h1 | h1
  · rw [Nat.testBit_two_pow_add_gt h1, decide_eq_false (by omega), Bool.xor_false]
  · subst h1
    rw [Nat.testBit_two_pow_add_eq]
    simp
  · rw [decide_eq_false (by omega), Bool.xor_false]
    have h2 : j < 2 ^ i := Nat.lt_trans h (Nat.pow_lt_pow_right (by decide) h1)
    have h3 : 2 ^ t + j < 2 ^ i := by
      have := pw_lt h1
      omega
    rw [Nat.testBit_lt_two_pow h2, Nat.testBit_lt_two_pow h3]
theorem q_1shl {t : Nat} (h : t < 31) : jShl 1 (nI t) = nI (2 ^ t) := by
  have : ∀ t, t < 31 → jShl 1 (nI t) = nI (2 ^ t) := by decide +kernel
  exact this t h
/-- what the flip of t upwards changes, when the spin of o comes up beside it -/
theorem dl_up (hG : GR n m fi se dg sb) (hN : GN n m fi se dg sb) (F : Int32) (st : Nat → Int32) {j t o : Nat} (ht : t < n) (ho : o < t) (h1 : j.testBit t = false) (h2 : j.testBit o = false) (hinc : ∀ i, i < dg t → fi (sb t i) = t ∨ se (sb t i) = t) : dl F st fi se dg sb (j ^^^ 2 ^ o) t = dl F st fi se dg sb j t + -4 * sp st fi se dg sb t o := by
  have e : sm (fun i => pr (st (sb t i)) ((j ^^^ 2 ^ o).testBit (fi (sb t i))) ((j ^^^ 2 ^ o).testBit (se (sb t i)))) (dg t) = sm (fun i => pr (st (sb t i)) (j.testBit (fi (sb t i))) (j.testBit (se (sb t i))) + -2 * (if (if fi (sb t i) = t then se (sb t i) else fi (sb t i)) = o then st (sb t i) else 0)) (dg t) := sm_congr (fun i hi => by
    have hb := hG.2.2.2.2.2.2 t i ht hi
    have hne := hN.1 _ hb
    rw [bit_x, bit_x]
    rcases hinc i hi with h | h
    · rw [if_pos h, h, h1, decide_eq_false (show ¬ o = t by omega), Bool.xor_false]
      by_cases hs : se (sb t i) = o
      · rw [if_pos hs, hs, h2]
        simp [pr]
        grind
      · rw [if_neg hs, decide_eq_false (fun e => hs e.symm), Bool.xor_false]
        grind
    · have hf : ¬ fi (sb t i) = t := fun e => hne (e.trans h.symm)
      rw [if_neg hf, h, h1, decide_eq_false (show ¬ o = t by omega), Bool.xor_false]
      by_cases hs : fi (sb t i) = o
      · rw [if_pos hs, hs, h2]
        simp [pr]
        grind
      · rw [if_neg hs, decide_eq_false (fun e => hs e.symm), Bool.xor_false]
        grind)
  unfold dl sp
  rw [e, sm_add, sm_mul, bit_x, h1, decide_eq_false (show ¬ o = t by omega), Bool.xor_false]
  grind
theorem L99_43 {t o : Nat} {g : Nat → Int32} (hL : LC S R) (hE : LE S R) (ho : o < t) (ht : t < 16) {c : Int32} (hg : ∀ j, j < 2 ^ o → g (2 ^ o + j) = g j + c)
    (kk : ∀ f, (∀ j, j < 2 ^ (o + 1) → f j = g j) → xRun xT 99 17 [(0, .ref 130), (1, .int (nI t)), (2, .int (nI (o + 1)))] [] (S, rI I 152 f, J, D, R) b Q) :
    ∀ (jj i : Nat) (f : Nat → Int32), i + jj = 2 ^ o → (∀ j, j < 2 ^ o + i → f j = g j) → xRun xT 99 43 [(0, .ref 130), (1, .int (nI t)), (2, .int (nI o)), (3, .int c), (4, .int (nI (2 ^ o))), (5, .int (nI i))] [] (S, rI I 152 f, J, D, R) b Q
  | 0, i, f, hi, hf => by
    have e : i = 2 ^ o := by omega
    have h16 : 2 ^ o * 2 ≤ 2 ^ 16 := pw_lt (by omega)
    subst e
    rw [e99_43]
    simp only [B99_43, xSeq, i_push, i_load, i_iload, i_lload, i_dload, i_aload, i_istore, i_astore, i_lstore, i_dstore, i_iinc, i_ii, i_iiz, i_ll, i_llz, i_lli, i_li, i_i, i_l, i_i2l, i_l2i, i_dup, i_dup2, i_dup2w, i_dupx1, i_pop, i_pop2, i_goto, i_ifc, i_icmp, i_getI, i_getL, i_getR, i_putI, i_putZ, i_putL, i_putR, i_aldI, i_aldB, i_aldL, i_aldD, i_astI, i_astL, i_astD, i_alen, i_ret, i_iret, i_zret, i_lret, i_fret, i_dret, i_aret, i_invS0, i_invV0, i_m2, i_m1, i_ml, i_obj, lk, lkp, stf1, stf2, Value.category, rV, xTo, lv_args, xCk, xCat, xRc, xAk, hg_S, hg_I, hg_J, hg_D, hg_R, hs_I, hs_J, hs_D, hs_R, uI_at, uJ_at, uD_at, uR_at, List.take_succ_cons, List.take_zero, List.drop_succ_cons, List.drop_zero, List.reverse_cons, List.reverse_nil, List.nil_append, List.cons_append, List.map_cons, List.map_nil, List.sum_cons, List.sum_nil, List.length_cons, List.length_nil, Option.toList_some, Option.toList_none, true_and, and_true, false_and, and_false, true_implies, false_implies, implies_true, not_true_eq_false, not_false_eq_true, ne_eq, if_true, if_false, Bool.and_true, Bool.true_and, decide_true, decide_false, reduceIte, reduceCtorEq, Bool.and_self, Bool.and_eq_true, decide_eq_true_eq, and_self, true_or, or_true, false_or, or_false, Nat.zero_add, Nat.add_zero, eq_self, Nat.reduceEqDiff, Nat.reduceLeDiff, Nat.reduceLT, Nat.reduceAdd, Nat.reduceSub, Nat.reduceMul, nI_leP (show 2 ^ o < 2147483648 by omega) (show 2 ^ o < 2147483648 by omega), Nat.le_refl, e99_75, B99_75, nI_1]
    exact kk f (fun j hj => hf j (by rw [Nat.pow_succ] at hj; omega))
  | jj + 1, i, f, hi, hf => by
    have h16 : 2 ^ o * 2 ≤ 2 ^ 16 := pw_lt (by omega)
    rw [e99_43]
    simp only [B99_43, xSeq, i_push, i_load, i_iload, i_lload, i_dload, i_aload, i_istore, i_astore, i_lstore, i_dstore, i_iinc, i_ii, i_iiz, i_ll, i_llz, i_lli, i_li, i_i, i_l, i_i2l, i_l2i, i_dup, i_dup2, i_dup2w, i_dupx1, i_pop, i_pop2, i_goto, i_ifc, i_icmp, i_getI, i_getL, i_getR, i_putI, i_putZ, i_putL, i_putR, i_aldI, i_aldB, i_aldL, i_aldD, i_astI, i_astL, i_astD, i_alen, i_ret, i_iret, i_zret, i_lret, i_fret, i_dret, i_aret, i_invS0, i_invV0, i_m2, i_m1, i_ml, i_obj, lk, lkp, stf1, stf2, Value.category, rV, xTo, lv_args, xCk, xCat, xRc, xAk, hg_S, hg_I, hg_J, hg_D, hg_R, hs_I, hs_J, hs_D, hs_R, uI_at, uJ_at, uD_at, uR_at, List.take_succ_cons, List.take_zero, List.drop_succ_cons, List.drop_zero, List.reverse_cons, List.reverse_nil, List.nil_append, List.cons_append, List.map_cons, List.map_nil, List.sum_cons, List.sum_nil, List.length_cons, List.length_nil, Option.toList_some, Option.toList_none, true_and, and_true, false_and, and_false, true_implies, false_implies, implies_true, not_true_eq_false, not_false_eq_true, ne_eq, if_true, if_false, Bool.and_true, Bool.true_and, decide_true, decide_false, reduceIte, reduceCtorEq, Bool.and_self, Bool.and_eq_true, decide_eq_true_eq, and_self, true_or, or_true, false_or, or_false, Nat.zero_add, Nat.add_zero, eq_self, Nat.reduceEqDiff, Nat.reduceLeDiff, Nat.reduceLT, Nat.reduceAdd, Nat.reduceSub, Nat.reduceMul, LC_out hL, LE_out hE, nI_leP (show 2 ^ o < 2147483648 by omega) (show i < 2147483648 by omega), show (2 ^ o ≤ i) = False from eq_false (by omega), nI_add, nI_inP (show 2 ^ o + i < 65536 by omega) (by decide), nI_ix (show 2 ^ o + i < 2147483648 by omega), nI_inP (show i < 65536 by omega) (by decide), nI_ix (show i < 2147483648 by omega), rI_at, uI_rI, nI_1]
    refine L99_43 hL hE ho ht hg kk jj (i + 1) _ (by omega) (fun j hj => ?_)
    rw [up_at]
    by_cases e : j = 2 ^ o + i
    · rw [if_pos e, e, hg i (by omega), hf i (by omega)]
    · rw [if_neg e]
      exact hf j (by omega)
/-- each bond of a site is joined to it -/
def GI (n : Nat) (fi se dg : Nat → Nat) (sb : Nat → Nat → Nat) : Prop := ∀ t, t < n → ∀ i, i < dg t → fi (sb t i) = t ∨ se (sb t i) = t
theorem L99_17 {t : Nat} (hL : LC S R) (hE : LE S R) (hG : GR n m fi se dg sb) (hN : GN n m fi se dg sb) (hI : GI n fi se dg sb) (hC : CL I n m fi se dg sb) (ht : t < n) (hn : n ≤ 16)
    (kk : ∀ f, (∀ j, j < 2 ^ t → f j = dl (I 110 6) (I 111) fi se dg sb j t) → Q (.ok none) (S, rI I 152 f, J, D, R) b) :
    ∀ (oo o : Nat) (f : Nat → Int32), o + oo = t → (∀ j, j < 2 ^ o → f j = dl (I 110 6) (I 111) fi se dg sb j t) → xRun xT 99 17 [(0, .ref 130), (1, .int (nI t)), (2, .int (nI o))] [] (S, rI I 152 f, J, D, R) b Q
  | 0, o, f, ho, hf => by
    have e : o = t := by omega
    subst e
    rw [e99_17]
    simp only [B99_17, xSeq, i_push, i_load, i_iload, i_lload, i_dload, i_aload, i_istore, i_astore, i_lstore, i_dstore, i_iinc, i_ii, i_iiz, i_ll, i_llz, i_lli, i_li, i_i, i_l, i_i2l, i_l2i, i_dup, i_dup2, i_dup2w, i_dupx1, i_pop, i_pop2, i_goto, i_ifc, i_icmp, i_getI, i_getL, i_getR, i_putI, i_putZ, i_putL, i_putR, i_aldI, i_aldB, i_aldL, i_aldD, i_astI, i_astL, i_astD, i_alen, i_ret, i_iret, i_zret, i_lret, i_fret, i_dret, i_aret, i_invS0, i_invV0, i_m2, i_m1, i_ml, i_obj, lk, lkp, stf1, stf2, Value.category, rV, xTo, lv_args, xCk, xCat, xRc, xAk, hg_S, hg_I, hg_J, hg_D, hg_R, hs_I, hs_J, hs_D, hs_R, uI_at, uJ_at, uD_at, uR_at, List.take_succ_cons, List.take_zero, List.drop_succ_cons, List.drop_zero, List.reverse_cons, List.reverse_nil, List.nil_append, List.cons_append, List.map_cons, List.map_nil, List.sum_cons, List.sum_nil, List.length_cons, List.length_nil, Option.toList_some, Option.toList_none, true_and, and_true, false_and, and_false, true_implies, false_implies, implies_true, not_true_eq_false, not_false_eq_true, ne_eq, if_true, if_false, Bool.and_true, Bool.true_and, decide_true, decide_false, reduceIte, reduceCtorEq, Bool.and_self, Bool.and_eq_true, decide_eq_true_eq, and_self, true_or, or_true, false_or, or_false, Nat.zero_add, Nat.add_zero, eq_self, Nat.reduceEqDiff, Nat.reduceLeDiff, Nat.reduceLT, Nat.reduceAdd, Nat.reduceSub, Nat.reduceMul, nI_leP (show o < 2147483648 by omega) (show o < 2147483648 by omega), Nat.le_refl, e99_81, B99_81]
    exact kk f hf
  | oo + 1, o, f, ho, hf => by
    have e2 : (rI I 152 f) 111 = I 111 := rfl
    have h92 := fun (Q : xQ) => R92 (J := J) (D := D) (b := (0, 0)) (Q := Q) (I := rI I 152 f) hL hG (CL_r hC (by decide)) ht (show o < n by omega)
    have ih := fun f' hf' => L99_17 hL hE hG hN hI hC ht hn kk oo (o + 1) f' (by omega) hf'
    rw [e99_17]
    simp only [B99_17, xSeq, i_push, i_load, i_iload, i_lload, i_dload, i_aload, i_istore, i_astore, i_lstore, i_dstore, i_iinc, i_ii, i_iiz, i_ll, i_llz, i_lli, i_li, i_i, i_l, i_i2l, i_l2i, i_dup, i_dup2, i_dup2w, i_dupx1, i_pop, i_pop2, i_goto, i_ifc, i_icmp, i_getI, i_getL, i_getR, i_putI, i_putZ, i_putL, i_putR, i_aldI, i_aldB, i_aldL, i_aldD, i_astI, i_astL, i_astD, i_alen, i_ret, i_iret, i_zret, i_lret, i_fret, i_dret, i_aret, i_invS0, i_invV0, i_m2, i_m1, i_ml, i_obj, lk, lkp, stf1, stf2, Value.category, rV, xTo, lv_args, xCk, xCat, xRc, xAk, hg_S, hg_I, hg_J, hg_D, hg_R, hs_I, hs_J, hs_D, hs_R, uI_at, uJ_at, uD_at, uR_at, List.take_succ_cons, List.take_zero, List.drop_succ_cons, List.drop_zero, List.reverse_cons, List.reverse_nil, List.nil_append, List.cons_append, List.map_cons, List.map_nil, List.sum_cons, List.sum_nil, List.length_cons, List.length_nil, Option.toList_some, Option.toList_none, true_and, and_true, false_and, and_false, true_implies, false_implies, implies_true, not_true_eq_false, not_false_eq_true, ne_eq, if_true, if_false, Bool.and_true, Bool.true_and, decide_true, decide_false, reduceIte, reduceCtorEq, Bool.and_self, Bool.and_eq_true, decide_eq_true_eq, and_self, true_or, or_true, false_or, or_false, Nat.zero_add, Nat.add_zero, eq_self, Nat.reduceEqDiff, Nat.reduceLeDiff, Nat.reduceLT, Nat.reduceAdd, Nat.reduceSub, Nat.reduceMul, LC_out hL, nI_leP (show t < 2147483648 by omega) (show o < 2147483648 by omega), show (t ≤ o) = False from eq_false (by omega), h92, e2, q_1shl (show o < 31 by omega)]
    refine L99_43 hL hE (show o < t by omega) (by omega) (g := fun j => dl (I 110 6) (I 111) fi se dg sb j t) (fun j hj => ?_) ih (2 ^ o) 0 f (by omega) (fun j hj => hf j (by omega))
    have e3 := xor_hi hj
    have e4 : j.testBit o = false := Nat.testBit_lt_two_pow hj
    have e5 : j.testBit t = false := Nat.testBit_lt_two_pow (Nat.lt_trans hj (Nat.pow_lt_pow_right (by decide) (by omega)))
    rw [← e3]
    exact dl_up hG hN (I 110 6) (I 111) ht (by omega) e5 e4 (hI t ht)
theorem L99 {t : Nat} (hL : LC S R) (hE : LE S R) (hG : GR n m fi se dg sb) (hN : GN n m fi se dg sb) (hI : GI n fi se dg sb) (hC : CL I n m fi se dg sb) (ht : t < n) (hn : n ≤ 16)
    (kk : ∀ f, (∀ j, j < 2 ^ t → f j = dl (I 110 6) (I 111) fi se dg sb j t) → Q (.ok none) (S, rI I 152 f, J, D, R) b) :
    xRun xT 99 0 [(0, .ref 130), (1, .int (nI t))] [] (S, I, J, D, R) b Q := by
  have h76 : ∀ Q : xQ, xRun xT 76 0 [(0, .ref 110), (1, .long 0), (3, .int (nI t))] [] (S, I, J, D, R) (0, 0) Q = Q (.ok (some (.int (dl (I 110 6) (I 111) fi se dg sb 0 t)))) (S, I, J, D, R) (0, 0) := fun Q => R76 (s := 0) hL hG hC (by decide) ht
  have h := L99_17 (b := b) hL hE hG hN hI hC ht hn kk t 0 (up (I 152) 0 (dl (I 110 6) (I 111) fi se dg sb 0 t)) (by omega) (fun j hj => by
    have e : j = 0 := by omega
    subst e
    rw [up_at, if_pos rfl])
  rw [e99_0]
  simp only [B99_0, xSeq, i_push, i_load, i_iload, i_lload, i_dload, i_aload, i_istore, i_astore, i_lstore, i_dstore, i_iinc, i_ii, i_iiz, i_ll, i_llz, i_lli, i_li, i_i, i_l, i_i2l, i_l2i, i_dup, i_dup2, i_dup2w, i_dupx1, i_pop, i_pop2, i_goto, i_ifc, i_icmp, i_getI, i_getL, i_getR, i_putI, i_putZ, i_putL, i_putR, i_aldI, i_aldB, i_aldL, i_aldD, i_astI, i_astL, i_astD, i_alen, i_ret, i_iret, i_zret, i_lret, i_fret, i_dret, i_aret, i_invS0, i_invV0, i_m2, i_m1, i_ml, i_obj, lk, lkp, stf1, stf2, Value.category, rV, xTo, lv_args, xCk, xCat, xRc, xAk, hg_S, hg_I, hg_J, hg_D, hg_R, hs_I, hs_J, hs_D, hs_R, uI_at, uJ_at, uD_at, uR_at, List.take_succ_cons, List.take_zero, List.drop_succ_cons, List.drop_zero, List.reverse_cons, List.reverse_nil, List.nil_append, List.cons_append, List.map_cons, List.map_nil, List.sum_cons, List.sum_nil, List.length_cons, List.length_nil, Option.toList_some, Option.toList_none, true_and, and_true, false_and, and_false, true_implies, false_implies, implies_true, not_true_eq_false, not_false_eq_true, ne_eq, if_true, if_false, Bool.and_true, Bool.true_and, decide_true, decide_false, reduceIte, reduceCtorEq, Bool.and_self, Bool.and_eq_true, decide_eq_true_eq, and_self, true_or, or_true, false_or, or_false, Nat.zero_add, Nat.add_zero, eq_self, Nat.reduceEqDiff, Nat.reduceLeDiff, Nat.reduceLT, Nat.reduceAdd, Nat.reduceSub, Nat.reduceMul, LC_out hL, LE_out hE, h76, xi0 (show 0 < 65536 by decide) (by decide), ix_0]
  rw [← uI_rI, rI_self] at h
  simp only [nI_0] at h
  exact h
/-- a small number keeps its value as a short -/
theorem q_short {v : Int32} (h1 : -32768 ≤ v.toInt) (h2 : v.toInt ≤ 32767) : jI2s v = v ∧ vp_nar .short v = v := by
  have e : v.toInt16.toInt32 = v := by
    apply Int32.toInt_inj.mp
    rw [Int16.toInt_toInt32, Int32.toInt_toInt16]
    exact Int.bmod_eq_of_le (by omega) (by omega)
  exact ⟨e, by rw [vp_nar_short]; exact e⟩
theorem L98_36 {t : Nat} {E g : Nat → Int32} (hL : LC S R) (hE : LE S R) (ht : t < 16) (hg : ∀ j, j < 2 ^ t → E (2 ^ t + j) = E j + g j) (hb : ∀ j, -32768 ≤ (E j).toInt ∧ (E j).toInt ≤ 32767) {f : Nat → Int32} (hf : ∀ j, j < 2 ^ t → f j = g j)
    (kk : ∀ w, (∀ j, j < 2 ^ (t + 1) → w j = E j) → xRun xT 98 17 [(0, .ref 130), (1, .int (nI (t + 1)))] [] (S, rI (rI I 152 f) 151 w, J, D, R) b Q) :
    ∀ (jj i : Nat) (w : Nat → Int32), i + jj = 2 ^ t → (∀ j, j < 2 ^ t + i → w j = E j) → xRun xT 98 36 [(0, .ref 130), (1, .int (nI t)), (2, .int (nI (2 ^ t))), (3, .int (nI i))] [] (S, rI (rI I 152 f) 151 w, J, D, R) b Q
  | 0, i, w, hi, hw => by
    have e : i = 2 ^ t := by omega
    have h16 : 2 ^ t * 2 ≤ 2 ^ 16 := pw_lt (by omega)
    subst e
    rw [e98_36]
    simp only [B98_36, xSeq, i_push, i_load, i_iload, i_lload, i_dload, i_aload, i_istore, i_astore, i_lstore, i_dstore, i_iinc, i_ii, i_iiz, i_ll, i_llz, i_lli, i_li, i_i, i_l, i_i2l, i_l2i, i_dup, i_dup2, i_dup2w, i_dupx1, i_pop, i_pop2, i_goto, i_ifc, i_icmp, i_getI, i_getL, i_getR, i_putI, i_putZ, i_putL, i_putR, i_aldI, i_aldB, i_aldL, i_aldD, i_astI, i_astL, i_astD, i_alen, i_ret, i_iret, i_zret, i_lret, i_fret, i_dret, i_aret, i_invS0, i_invV0, i_m2, i_m1, i_ml, i_obj, lk, lkp, stf1, stf2, Value.category, rV, xTo, lv_args, xCk, xCat, xRc, xAk, hg_S, hg_I, hg_J, hg_D, hg_R, hs_I, hs_J, hs_D, hs_R, uI_at, uJ_at, uD_at, uR_at, List.take_succ_cons, List.take_zero, List.drop_succ_cons, List.drop_zero, List.reverse_cons, List.reverse_nil, List.nil_append, List.cons_append, List.map_cons, List.map_nil, List.sum_cons, List.sum_nil, List.length_cons, List.length_nil, Option.toList_some, Option.toList_none, true_and, and_true, false_and, and_false, true_implies, false_implies, implies_true, not_true_eq_false, not_false_eq_true, ne_eq, if_true, if_false, Bool.and_true, Bool.true_and, decide_true, decide_false, reduceIte, reduceCtorEq, Bool.and_self, Bool.and_eq_true, decide_eq_true_eq, and_self, true_or, or_true, false_or, or_false, Nat.zero_add, Nat.add_zero, eq_self, Nat.reduceEqDiff, Nat.reduceLeDiff, Nat.reduceLT, Nat.reduceAdd, Nat.reduceSub, Nat.reduceMul, nI_leP (show 2 ^ t < 2147483648 by omega) (show 2 ^ t < 2147483648 by omega), Nat.le_refl, e98_69, B98_69, nI_1]
    exact kk w (fun j hj => hw j (by rw [Nat.pow_succ] at hj; omega))
  | jj + 1, i, w, hi, hw => by
    have h16 : 2 ^ t * 2 ≤ 2 ^ 16 := pw_lt (by omega)
    have e1 := hw i (by omega)
    have e2 := hf i (by omega)
    have e3 := hg i (by omega)
    have e4 := hb (2 ^ t + i)
    rw [e3] at e4
    have e5 := q_short e4.1 e4.2
    rw [e98_36]
    simp only [B98_36, xSeq, i_push, i_load, i_iload, i_lload, i_dload, i_aload, i_istore, i_astore, i_lstore, i_dstore, i_iinc, i_ii, i_iiz, i_ll, i_llz, i_lli, i_li, i_i, i_l, i_i2l, i_l2i, i_dup, i_dup2, i_dup2w, i_dupx1, i_pop, i_pop2, i_goto, i_ifc, i_icmp, i_getI, i_getL, i_getR, i_putI, i_putZ, i_putL, i_putR, i_aldI, i_aldB, i_aldL, i_aldD, i_astI, i_astL, i_astD, i_alen, i_ret, i_iret, i_zret, i_lret, i_fret, i_dret, i_aret, i_invS0, i_invV0, i_m2, i_m1, i_ml, i_obj, lk, lkp, stf1, stf2, Value.category, rV, xTo, lv_args, xCk, xCat, xRc, xAk, hg_S, hg_I, hg_J, hg_D, hg_R, hs_I, hs_J, hs_D, hs_R, uI_at, uJ_at, uD_at, uR_at, List.take_succ_cons, List.take_zero, List.drop_succ_cons, List.drop_zero, List.reverse_cons, List.reverse_nil, List.nil_append, List.cons_append, List.map_cons, List.map_nil, List.sum_cons, List.sum_nil, List.length_cons, List.length_nil, Option.toList_some, Option.toList_none, true_and, and_true, false_and, and_false, true_implies, false_implies, implies_true, not_true_eq_false, not_false_eq_true, ne_eq, if_true, if_false, Bool.and_true, Bool.true_and, decide_true, decide_false, reduceIte, reduceCtorEq, Bool.and_self, Bool.and_eq_true, decide_eq_true_eq, and_self, true_or, or_true, false_or, or_false, Nat.zero_add, Nat.add_zero, eq_self, Nat.reduceEqDiff, Nat.reduceLeDiff, Nat.reduceLT, Nat.reduceAdd, Nat.reduceSub, Nat.reduceMul, LC_out hL, LE_out hE, nI_leP (show 2 ^ t < 2147483648 by omega) (show i < 2147483648 by omega), show (2 ^ t ≤ i) = False from eq_false (by omega), nI_add, nI_inP (show 2 ^ t + i < 65536 by omega) (by decide), nI_ix (show 2 ^ t + i < 2147483648 by omega), nI_inP (show i < 65536 by omega) (by decide), nI_ix (show i < 2147483648 by omega), rI_at, e1, e2, e5.1, e5.2, uI_rI, nI_1]
    refine L98_36 hL hE ht hg hb hf kk jj (i + 1) _ (by omega) (fun j hj => ?_)
    rw [up_at]
    by_cases e : j = 2 ^ t + i
    · rw [if_pos e, e, e3]
    · rw [if_neg e]
      exact hw j (by omega)
theorem L98_17 (hL : LC S R) (hE : LE S R) (hG : GR n m fi se dg sb) (hN : GN n m fi se dg sb) (hI : GI n fi se dg sb) (hC : CL I n m fi se dg sb) (hn : n ≤ 16) (h2 : I 130 2 = nI n) (hb : ∀ j, -32768 ≤ (en (I 110 6) (I 111) n m fi se j).toInt ∧ (en (I 110 6) (I 111) n m fi se j).toInt ≤ 32767)
    (kk : ∀ f w, (∀ j, j < 2 ^ n → w j = en (I 110 6) (I 111) n m fi se j) → Q (.ok none) (S, rI (rI I 152 f) 151 w, J, D, R) b) :
    ∀ (tt t : Nat) (f w : Nat → Int32), t + tt = n → (∀ j, j < 2 ^ t → w j = en (I 110 6) (I 111) n m fi se j) → xRun xT 98 17 [(0, .ref 130), (1, .int (nI t))] [] (S, rI (rI I 152 f) 151 w, J, D, R) b Q
  | 0, t, f, w, ht, hw => by
    have e : t = n := by omega
    subst e
    rw [e98_17]
    simp only [B98_17, xSeq, i_push, i_load, i_iload, i_lload, i_dload, i_aload, i_istore, i_astore, i_lstore, i_dstore, i_iinc, i_ii, i_iiz, i_ll, i_llz, i_lli, i_li, i_i, i_l, i_i2l, i_l2i, i_dup, i_dup2, i_dup2w, i_dupx1, i_pop, i_pop2, i_goto, i_ifc, i_icmp, i_getI, i_getL, i_getR, i_putI, i_putZ, i_putL, i_putR, i_aldI, i_aldB, i_aldL, i_aldD, i_astI, i_astL, i_astD, i_alen, i_ret, i_iret, i_zret, i_lret, i_fret, i_dret, i_aret, i_invS0, i_invV0, i_m2, i_m1, i_ml, i_obj, lk, lkp, stf1, stf2, Value.category, rV, xTo, lv_args, xCk, xCat, xRc, xAk, hg_S, hg_I, hg_J, hg_D, hg_R, hs_I, hs_J, hs_D, hs_R, uI_at, uJ_at, uD_at, uR_at, List.take_succ_cons, List.take_zero, List.drop_succ_cons, List.drop_zero, List.reverse_cons, List.reverse_nil, List.nil_append, List.cons_append, List.map_cons, List.map_nil, List.sum_cons, List.sum_nil, List.length_cons, List.length_nil, Option.toList_some, Option.toList_none, true_and, and_true, false_and, and_false, true_implies, false_implies, implies_true, not_true_eq_false, not_false_eq_true, ne_eq, if_true, if_false, Bool.and_true, Bool.true_and, decide_true, decide_false, reduceIte, reduceCtorEq, Bool.and_self, Bool.and_eq_true, decide_eq_true_eq, and_self, true_or, or_true, false_or, or_false, Nat.zero_add, Nat.add_zero, eq_self, Nat.reduceEqDiff, Nat.reduceLeDiff, Nat.reduceLT, Nat.reduceAdd, Nat.reduceSub, Nat.reduceMul, LC_out hL, rI_at, h2, nI_leP (show t < 2147483648 by omega) (show t < 2147483648 by omega), Nat.le_refl, e98_75, B98_75]
    exact kk f w hw
  | tt + 1, t, f, w, ht, hw => by
    have ih := fun f' w' hw' => L98_17 hL hE hG hN hI hC hn h2 hb kk tt (t + 1) f' w' (by omega) hw'
    rw [e98_17]
    simp only [B98_17, xSeq, i_push, i_load, i_iload, i_lload, i_dload, i_aload, i_istore, i_astore, i_lstore, i_dstore, i_iinc, i_ii, i_iiz, i_ll, i_llz, i_lli, i_li, i_i, i_l, i_i2l, i_l2i, i_dup, i_dup2, i_dup2w, i_dupx1, i_pop, i_pop2, i_goto, i_ifc, i_icmp, i_getI, i_getL, i_getR, i_putI, i_putZ, i_putL, i_putR, i_aldI, i_aldB, i_aldL, i_aldD, i_astI, i_astL, i_astD, i_alen, i_ret, i_iret, i_zret, i_lret, i_fret, i_dret, i_aret, i_invS0, i_invV0, i_m2, i_m1, i_ml, i_obj, lk, lkp, stf1, stf2, Value.category, rV, xTo, lv_args, xCk, xCat, xRc, xAk, hg_S, hg_I, hg_J, hg_D, hg_R, hs_I, hs_J, hs_D, hs_R, uI_at, uJ_at, uD_at, uR_at, List.take_succ_cons, List.take_zero, List.drop_succ_cons, List.drop_zero, List.reverse_cons, List.reverse_nil, List.nil_append, List.cons_append, List.map_cons, List.map_nil, List.sum_cons, List.sum_nil, List.length_cons, List.length_nil, Option.toList_some, Option.toList_none, true_and, and_true, false_and, and_false, true_implies, false_implies, implies_true, not_true_eq_false, not_false_eq_true, ne_eq, if_true, if_false, Bool.and_true, Bool.true_and, decide_true, decide_false, reduceIte, reduceCtorEq, Bool.and_self, Bool.and_eq_true, decide_eq_true_eq, and_self, true_or, or_true, false_or, or_false, Nat.zero_add, Nat.add_zero, eq_self, Nat.reduceEqDiff, Nat.reduceLeDiff, Nat.reduceLT, Nat.reduceAdd, Nat.reduceSub, Nat.reduceMul, LC_out hL, rI_at, h2, nI_leP (show n < 2147483648 by omega) (show t < 2147483648 by omega), show (n ≤ t) = False from eq_false (by omega)]
    refine L99 (I := rI (rI I 152 f) 151 w) hL hE hG hN hI (CL_r (CL_r hC (by decide)) (by decide)) (show t < n by omega) hn (fun f' hf' => ?_)
    simp only [xSeq, i_push, i_load, i_iload, i_lload, i_dload, i_aload, i_istore, i_astore, i_lstore, i_dstore, i_iinc, i_ii, i_iiz, i_ll, i_llz, i_lli, i_li, i_i, i_l, i_i2l, i_l2i, i_dup, i_dup2, i_dup2w, i_dupx1, i_pop, i_pop2, i_goto, i_ifc, i_icmp, i_getI, i_getL, i_getR, i_putI, i_putZ, i_putL, i_putR, i_aldI, i_aldB, i_aldL, i_aldD, i_astI, i_astL, i_astD, i_alen, i_ret, i_iret, i_zret, i_lret, i_fret, i_dret, i_aret, i_invS0, i_invV0, i_m2, i_m1, i_ml, i_obj, lk, lkp, stf1, stf2, Value.category, rV, xTo, lv_args, xCk, xCat, xRc, xAk, hg_S, hg_I, hg_J, hg_D, hg_R, hs_I, hs_J, hs_D, hs_R, uI_at, uJ_at, uD_at, uR_at, List.take_succ_cons, List.take_zero, List.drop_succ_cons, List.drop_zero, List.reverse_cons, List.reverse_nil, List.nil_append, List.cons_append, List.map_cons, List.map_nil, List.sum_cons, List.sum_nil, List.length_cons, List.length_nil, Option.toList_some, Option.toList_none, true_and, and_true, false_and, and_false, true_implies, false_implies, implies_true, not_true_eq_false, not_false_eq_true, ne_eq, if_true, if_false, Bool.and_true, Bool.true_and, decide_true, decide_false, reduceIte, reduceCtorEq, Bool.and_self, Bool.and_eq_true, decide_eq_true_eq, and_self, true_or, or_true, false_or, or_false, Nat.zero_add, Nat.add_zero, eq_self, Nat.reduceEqDiff, Nat.reduceLeDiff, Nat.reduceLT, Nat.reduceAdd, Nat.reduceSub, Nat.reduceMul, q_1shl (show t < 31 by omega)]
    rw [rI_swap _ (by decide), rI_rI]
    have hf2 : ∀ j, j < 2 ^ t → f' j = dl (I 110 6) (I 111) fi se dg sb j t := hf'
    have h := L98_36 (I := I) (b := b) hL hE (show t < 16 by omega) (E := en (I 110 6) (I 111) n m fi se) (g := fun j => dl (I 110 6) (I 111) fi se dg sb j t) (fun j hj => by
      rw [← xor_hi hj]
      exact en_x hN _ _ j t (by omega)) hb hf2 (fun w' hw' => ih f' w' hw') (2 ^ t) 0 w (by omega) (fun j hj => hw j (by omega))
    exact h
theorem L98 (hL : LC S R) (hE : LE S R) (hG : GR n m fi se dg sb) (hN : GN n m fi se dg sb) (hI : GI n fi se dg sb) (hC : CL I n m fi se dg sb) (hn : n ≤ 16) (h2 : I 130 2 = nI n) (hb : ∀ j, -32768 ≤ (en (I 110 6) (I 111) n m fi se j).toInt ∧ (en (I 110 6) (I 111) n m fi se j).toInt ≤ 32767)
    (kk : ∀ f w, (∀ j, j < 2 ^ n → w j = en (I 110 6) (I 111) n m fi se j) → Q (.ok none) (S, rI (rI I 152 f) 151 w, J, D, R) b) :
    xRun xT 98 0 [(0, .ref 130)] [] (S, I, J, D, R) b Q := by
  have h74 : ∀ Q : xQ, xRun xT 74 0 [(0, .ref 110), (1, .long 0)] [] (S, I, J, D, R) (0, 0) Q = Q (.ok (some (.int (en (I 110 6) (I 111) n m fi se 0)))) (S, I, J, D, R) (0, 0) := fun Q => R74 (s := 0) hL hG hC (by decide) (Nat.two_pow_pos n)
  have e5 := q_short (hb 0).1 (hb 0).2
  have h := L98_17 (b := b) hL hE hG hN hI hC hn h2 hb kk n 0 (I 152) (up (I 151) 0 (en (I 110 6) (I 111) n m fi se 0)) (by omega) (fun j hj => by
    have e : j = 0 := by omega
    subst e
    rw [up_at, if_pos rfl])
  rw [e98_0]
  simp only [B98_0, xSeq, i_push, i_load, i_iload, i_lload, i_dload, i_aload, i_istore, i_astore, i_lstore, i_dstore, i_iinc, i_ii, i_iiz, i_ll, i_llz, i_lli, i_li, i_i, i_l, i_i2l, i_l2i, i_dup, i_dup2, i_dup2w, i_dupx1, i_pop, i_pop2, i_goto, i_ifc, i_icmp, i_getI, i_getL, i_getR, i_putI, i_putZ, i_putL, i_putR, i_aldI, i_aldB, i_aldL, i_aldD, i_astI, i_astL, i_astD, i_alen, i_ret, i_iret, i_zret, i_lret, i_fret, i_dret, i_aret, i_invS0, i_invV0, i_m2, i_m1, i_ml, i_obj, lk, lkp, stf1, stf2, Value.category, rV, xTo, lv_args, xCk, xCat, xRc, xAk, hg_S, hg_I, hg_J, hg_D, hg_R, hs_I, hs_J, hs_D, hs_R, uI_at, uJ_at, uD_at, uR_at, List.take_succ_cons, List.take_zero, List.drop_succ_cons, List.drop_zero, List.reverse_cons, List.reverse_nil, List.nil_append, List.cons_append, List.map_cons, List.map_nil, List.sum_cons, List.sum_nil, List.length_cons, List.length_nil, Option.toList_some, Option.toList_none, true_and, and_true, false_and, and_false, true_implies, false_implies, implies_true, not_true_eq_false, not_false_eq_true, ne_eq, if_true, if_false, Bool.and_true, Bool.true_and, decide_true, decide_false, reduceIte, reduceCtorEq, Bool.and_self, Bool.and_eq_true, decide_eq_true_eq, and_self, true_or, or_true, false_or, or_false, Nat.zero_add, Nat.add_zero, eq_self, Nat.reduceEqDiff, Nat.reduceLeDiff, Nat.reduceLT, Nat.reduceAdd, Nat.reduceSub, Nat.reduceMul, LC_out hL, LE_out hE, h74, xi0 (show 0 < 65536 by decide) (by decide), ix_0, e5.1, e5.2]
  rw [← uI_rI, rI_self, rI_self] at h
  simp only [nI_0] at h
  exact h
end
