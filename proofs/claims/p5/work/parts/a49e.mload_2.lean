/-! ===== loadLab of the model ===== -/
section
variable {k w r c e n m : Nat} {g : xGd} {x : xSt} {sv : Option xSt} {by' : Nat → Nat} {e1 e2 : Int32} {N : Nat} {z : xA} {f : Nat → Nat} {T : pSt} {S : xS} {I I' I2 : xI} {J J' : xJ} {D : xDb} {R : xR} {b : Nat × Nat} {Q : xQ}
/-- the told strengths, in the model's row -/
def oM (r c e : Nat) (a : Nat → Nat) (d : Nat → Bool) (v : Nat → Int32) (g : Nat → Int32) : Nat → Nat → Int32
  | 0 => g
  | i + 1 => up (oM r c e a d v g i) (16 + bnN r c e (a i) (d i)) (v i)
theorem oM_hi {a : Nat → Nat} {d : Nat → Bool} {v : Nat → Int32} {g h : Nat → Int32} {m : Nat} (e0 : ∀ j, j < m → g (16 + j) = h j) : ∀ i j, j < m → oM r c e a d v g i (16 + j) = oS r c e a d v h i j
  | 0, j, hj => e0 j hj
  | i + 1, j, hj => by
    rw [oM, oS, up_at, up_at]
    by_cases q : j = bnN r c e (a i) (d i)
    · rw [if_pos q, if_pos (by omega)]
    · rw [if_neg q, if_neg (by omega)]
      exact oM_hi e0 i j hj
theorem oM_lo {a : Nat → Nat} {d : Nat → Bool} {v : Nat → Int32} {g : Nat → Int32} : ∀ i j, j < 16 → oM r c e a d v g i j = g j
  | 0, j, _ => rfl
  | i + 1, j, hj => by
    rw [oM, up_at, if_neg (by omega)]
    exact oM_lo i j hj
theorem R198_34 (hL : LM S R) (hm : m ≤ 128) (h36 : I 200 36 = nI (qB T)) (hb : qB T ≤ 12) (ht : ∀ j, j < qB T → I 334 j = nI (bnN r c e (qA T j) (qD T j)) ∧ I 335 j = qV T j) (hl : ∀ j, j < qB T → bnN r c e (qA T j) (qD T j) < m) {g : Nat → Int32} :
    ∀ (j i : Nat), i + j = qB T → xRun xT 198 34 [(0, .ref 200), (1, .int (nI i))] [] (S, rI I 300 (oM r c e (qA T) (qD T) (qV T) g i), J, D, R) b Q = xRun xT 198 68 [(0, .ref 200)] [] (S, rI I 300 (oM r c e (qA T) (qD T) (qV T) g (qB T)), J, D, R) b Q
  | 0, i, hi => by
    have ei : i = qB T := by omega
    subst ei
    rw [e198_34]
    simp only [B198_34, xSeq, i_push, i_load, i_iload, i_lload, i_dload, i_aload, i_istore, i_astore, i_lstore, i_dstore, i_iinc, i_ii, i_iiz, i_ll, i_llz, i_lli, i_li, i_i, i_l, i_i2l, i_l2i, i_dup, i_dup2, i_dup2w, i_dupx1, i_pop, i_pop2, i_goto, i_ifc, i_icmp, i_getI, i_getL, i_getR, i_putI, i_putZ, i_putL, i_putR, i_aldI, i_aldB, i_aldL, i_aldD, i_astI, i_astL, i_astD, i_alen, i_ret, i_iret, i_zret, i_lret, i_fret, i_dret, i_aret, i_invS0, i_invV0, i_m2, i_m1, i_ml, i_obj, lk, lkp, stf1, stf2, Value.category, rV, xTo, lv_args, xCk, xCat, xRc, xAk, hg_S, hg_I, hg_J, hg_D, hg_R, hs_I, hs_J, hs_D, hs_R, uI_at, uJ_at, uD_at, uR_at, List.take_succ_cons, List.take_zero, List.drop_succ_cons, List.drop_zero, List.reverse_cons, List.reverse_nil, List.nil_append, List.cons_append, List.map_cons, List.map_nil, List.sum_cons, List.sum_nil, List.length_cons, List.length_nil, Option.toList_some, Option.toList_none, true_and, and_true, false_and, and_false, true_implies, false_implies, implies_true, not_true_eq_false, not_false_eq_true, ne_eq, if_true, if_false, Bool.and_true, Bool.true_and, decide_true, decide_false, reduceIte, reduceCtorEq, Bool.and_self, Bool.and_eq_true, decide_eq_true_eq, and_self, true_or, or_true, false_or, or_false, Nat.zero_add, Nat.add_zero, eq_self, Nat.reduceEqDiff, Nat.reduceLeDiff, Nat.reduceLT, Nat.reduceAdd, Nat.reduceSub, Nat.reduceMul, LM_out hL, rI_at, h36, nI_leP (show qB T < 2147483648 by omega) (show qB T < 2147483648 by omega), Nat.le_refl]
  | j + 1, i, hi => by
    have ih := R198_34 hL hm h36 hb ht hl (g := g) j (i + 1) (by omega)
    obtain ⟨a1, a2⟩ := ht i (by omega)
    have a3 := hl i (by omega)
    rw [oM] at ih
    obtain ⟨v, hv⟩ : ∃ v, v = bnN r c e (qA T i) (qD T i) := ⟨_, rfl⟩
    rw [← hv] at ih a1 a3
    rw [e198_34]
    simp only [B198_34, xSeq, i_push, i_load, i_iload, i_lload, i_dload, i_aload, i_istore, i_astore, i_lstore, i_dstore, i_iinc, i_ii, i_iiz, i_ll, i_llz, i_lli, i_li, i_i, i_l, i_i2l, i_l2i, i_dup, i_dup2, i_dup2w, i_dupx1, i_pop, i_pop2, i_goto, i_ifc, i_icmp, i_getI, i_getL, i_getR, i_putI, i_putZ, i_putL, i_putR, i_aldI, i_aldB, i_aldL, i_aldD, i_astI, i_astL, i_astD, i_alen, i_ret, i_iret, i_zret, i_lret, i_fret, i_dret, i_aret, i_invS0, i_invV0, i_m2, i_m1, i_ml, i_obj, lk, lkp, stf1, stf2, Value.category, rV, xTo, lv_args, xCk, xCat, xRc, xAk, hg_S, hg_I, hg_J, hg_D, hg_R, hs_I, hs_J, hs_D, hs_R, uI_at, uJ_at, uD_at, uR_at, List.take_succ_cons, List.take_zero, List.drop_succ_cons, List.drop_zero, List.reverse_cons, List.reverse_nil, List.nil_append, List.cons_append, List.map_cons, List.map_nil, List.sum_cons, List.sum_nil, List.length_cons, List.length_nil, Option.toList_some, Option.toList_none, true_and, and_true, false_and, and_false, true_implies, false_implies, implies_true, not_true_eq_false, not_false_eq_true, ne_eq, if_true, if_false, Bool.and_true, Bool.true_and, decide_true, decide_false, reduceIte, reduceCtorEq, Bool.and_self, Bool.and_eq_true, decide_eq_true_eq, and_self, true_or, or_true, false_or, or_false, Nat.zero_add, Nat.add_zero, eq_self, Nat.reduceEqDiff, Nat.reduceLeDiff, Nat.reduceLT, Nat.reduceAdd, Nat.reduceSub, Nat.reduceMul, LM_out hL, rI_at, h36, nI_leP (show qB T < 2147483648 by omega) (show i < 2147483648 by omega), show (qB T ≤ i) = False from eq_false (by omega), nI_inP (show i < 12 by omega) (by decide), nI_ix (show i < 2147483648 by omega), a1, a2, nI_c16, nI_inP (show 16 + v < 144 by omega) (by decide), nI_ix (show 16 + v < 2147483648 by omega), uI_rI, nI_1]
    exact ih
theorem R198g (hL : LM S R) (hC : I 300 8 = nI m) (hm : m ≤ 128) (h36 : I 200 36 = nI (qB T)) (hb : qB T ≤ 12) (ht : ∀ j, j < qB T → I 334 j = nI (bnN r c e (qA T j) (qD T j)) ∧ I 335 j = qV T j) (hl : ∀ j, j < qB T → bnN r c e (qA T j) (qD T j) < m) : xRun xT 198 0 [(0, .ref 200)] [] (S, I, J, D, R) b Q = Q (.ok none) (S, uI (rI I 300 (oM r c e (qA T) (qD T) (qV T) (sF (I 300) (I 200 31) m) (qB T))) 200 51 0, J, D, R) b := by
  have h := L198_2 (J := J) (D := D) (b := b) (Q := Q) hL hC hm rfl m 0 (by omega)
  have h2 := R198_34 (J := J) (D := D) (b := b) (Q := Q) hL hm h36 hb ht hl (g := sF (I 300) (I 200 31) m) (qB T) 0 (by omega)
  rw [sF_0, rI_self, nI_0] at h
  rw [oM, nI_0] at h2
  rw [e198_0]
  simp only [B198_0, xSeq, i_push, i_load, i_iload, i_lload, i_dload, i_aload, i_istore, i_astore, i_lstore, i_dstore, i_iinc, i_ii, i_iiz, i_ll, i_llz, i_lli, i_li, i_i, i_l, i_i2l, i_l2i, i_dup, i_dup2, i_dup2w, i_dupx1, i_pop, i_pop2, i_goto, i_ifc, i_icmp, i_getI, i_getL, i_getR, i_putI, i_putZ, i_putL, i_putR, i_aldI, i_aldB, i_aldL, i_aldD, i_astI, i_astL, i_astD, i_alen, i_ret, i_iret, i_zret, i_lret, i_fret, i_dret, i_aret, i_invS0, i_invV0, i_m2, i_m1, i_ml, i_obj, lk, lkp, stf1, stf2, Value.category, rV, xTo, lv_args, xCk, xCat, xRc, xAk, hg_S, hg_I, hg_J, hg_D, hg_R, hs_I, hs_J, hs_D, hs_R, uI_at, uJ_at, uD_at, uR_at, List.take_succ_cons, List.take_zero, List.drop_succ_cons, List.drop_zero, List.reverse_cons, List.reverse_nil, List.nil_append, List.cons_append, List.map_cons, List.map_nil, List.sum_cons, List.sum_nil, List.length_cons, List.length_nil, Option.toList_some, Option.toList_none, true_and, and_true, false_and, and_false, true_implies, false_implies, implies_true, not_true_eq_false, not_false_eq_true, ne_eq, if_true, if_false, Bool.and_true, Bool.true_and, decide_true, decide_false, reduceIte, reduceCtorEq, Bool.and_self, Bool.and_eq_true, decide_eq_true_eq, and_self, true_or, or_true, false_or, or_false, Nat.zero_add, Nat.add_zero, eq_self, Nat.reduceEqDiff, Nat.reduceLeDiff, Nat.reduceLT, Nat.reduceAdd, Nat.reduceSub, Nat.reduceMul, h]
  rw [e198_32]
  simp only [B198_32, xSeq, i_push, i_load, i_iload, i_lload, i_dload, i_aload, i_istore, i_astore, i_lstore, i_dstore, i_iinc, i_ii, i_iiz, i_ll, i_llz, i_lli, i_li, i_i, i_l, i_i2l, i_l2i, i_dup, i_dup2, i_dup2w, i_dupx1, i_pop, i_pop2, i_goto, i_ifc, i_icmp, i_getI, i_getL, i_getR, i_putI, i_putZ, i_putL, i_putR, i_aldI, i_aldB, i_aldL, i_aldD, i_astI, i_astL, i_astD, i_alen, i_ret, i_iret, i_zret, i_lret, i_fret, i_dret, i_aret, i_invS0, i_invV0, i_m2, i_m1, i_ml, i_obj, lk, lkp, stf1, stf2, Value.category, rV, xTo, lv_args, xCk, xCat, xRc, xAk, hg_S, hg_I, hg_J, hg_D, hg_R, hs_I, hs_J, hs_D, hs_R, uI_at, uJ_at, uD_at, uR_at, List.take_succ_cons, List.take_zero, List.drop_succ_cons, List.drop_zero, List.reverse_cons, List.reverse_nil, List.nil_append, List.cons_append, List.map_cons, List.map_nil, List.sum_cons, List.sum_nil, List.length_cons, List.length_nil, Option.toList_some, Option.toList_none, true_and, and_true, false_and, and_false, true_implies, false_implies, implies_true, not_true_eq_false, not_false_eq_true, ne_eq, if_true, if_false, Bool.and_true, Bool.true_and, decide_true, decide_false, reduceIte, reduceCtorEq, Bool.and_self, Bool.and_eq_true, decide_eq_true_eq, and_self, true_or, or_true, false_or, or_false, Nat.zero_add, Nat.add_zero, eq_self, Nat.reduceEqDiff, Nat.reduceLeDiff, Nat.reduceLT, Nat.reduceAdd, Nat.reduceSub, Nat.reduceMul]
  rw [h2, e198_68]
  simp only [B198_68, xSeq, i_push, i_load, i_iload, i_lload, i_dload, i_aload, i_istore, i_astore, i_lstore, i_dstore, i_iinc, i_ii, i_iiz, i_ll, i_llz, i_lli, i_li, i_i, i_l, i_i2l, i_l2i, i_dup, i_dup2, i_dup2w, i_dupx1, i_pop, i_pop2, i_goto, i_ifc, i_icmp, i_getI, i_getL, i_getR, i_putI, i_putZ, i_putL, i_putR, i_aldI, i_aldB, i_aldL, i_aldD, i_astI, i_astL, i_astD, i_alen, i_ret, i_iret, i_zret, i_lret, i_fret, i_dret, i_aret, i_invS0, i_invV0, i_m2, i_m1, i_ml, i_obj, lk, lkp, stf1, stf2, Value.category, rV, xTo, lv_args, xCk, xCat, xRc, xAk, hg_S, hg_I, hg_J, hg_D, hg_R, hs_I, hs_J, hs_D, hs_R, uI_at, uJ_at, uD_at, uR_at, List.take_succ_cons, List.take_zero, List.drop_succ_cons, List.drop_zero, List.reverse_cons, List.reverse_nil, List.nil_append, List.cons_append, List.map_cons, List.map_nil, List.sum_cons, List.sum_nil, List.length_cons, List.length_nil, Option.toList_some, Option.toList_none, true_and, and_true, false_and, and_false, true_implies, false_implies, implies_true, not_true_eq_false, not_false_eq_true, ne_eq, if_true, if_false, Bool.and_true, Bool.true_and, decide_true, decide_false, reduceIte, reduceCtorEq, Bool.and_self, Bool.and_eq_true, decide_eq_true_eq, and_self, true_or, or_true, false_or, or_false, Nat.zero_add, Nat.add_zero, eq_self, Nat.reduceEqDiff, Nat.reduceLeDiff, Nat.reduceLT, Nat.reduceAdd, Nat.reduceSub, Nat.reduceMul, LM_out hL]
theorem R199_45 (hL : LM S R) (h10 : I 300 10 = nI n) (h1 : I 300 1 = nI c) (hn : n ≤ 64) (hc0 : 0 < c) (hc : c ≤ 8) : ∀ (j s : Nat), s + j = n → xRun xT 199 45 [(0, .ref 200), (1, .int (nI s))] [] (S, I, uJ J 200 3 (lN (chs c s)), D, R) b Q = Q (.ok none) (S, I, uJ J 200 3 (lN (chs c n)), D, R) b
  | 0, s, hs => by
    have es : s = n := by omega
    subst es
    rw [e199_45]
    simp only [B199_45, xSeq, i_push, i_load, i_iload, i_lload, i_dload, i_aload, i_istore, i_astore, i_lstore, i_dstore, i_iinc, i_ii, i_iiz, i_ll, i_llz, i_lli, i_li, i_i, i_l, i_i2l, i_l2i, i_dup, i_dup2, i_dup2w, i_dupx1, i_pop, i_pop2, i_goto, i_ifc, i_icmp, i_getI, i_getL, i_getR, i_putI, i_putZ, i_putL, i_putR, i_aldI, i_aldB, i_aldL, i_aldD, i_astI, i_astL, i_astD, i_alen, i_ret, i_iret, i_zret, i_lret, i_fret, i_dret, i_aret, i_invS0, i_invV0, i_m2, i_m1, i_ml, i_obj, lk, lkp, stf1, stf2, Value.category, rV, xTo, lv_args, xCk, xCat, xRc, xAk, hg_S, hg_I, hg_J, hg_D, hg_R, hs_I, hs_J, hs_D, hs_R, uI_at, uJ_at, uD_at, uR_at, List.take_succ_cons, List.take_zero, List.drop_succ_cons, List.drop_zero, List.reverse_cons, List.reverse_nil, List.nil_append, List.cons_append, List.map_cons, List.map_nil, List.sum_cons, List.sum_nil, List.length_cons, List.length_nil, Option.toList_some, Option.toList_none, true_and, and_true, false_and, and_false, true_implies, false_implies, implies_true, not_true_eq_false, not_false_eq_true, ne_eq, if_true, if_false, Bool.and_true, Bool.true_and, decide_true, decide_false, reduceIte, reduceCtorEq, Bool.and_self, Bool.and_eq_true, decide_eq_true_eq, and_self, true_or, or_true, false_or, or_false, Nat.zero_add, Nat.add_zero, eq_self, Nat.reduceEqDiff, Nat.reduceLeDiff, Nat.reduceLT, Nat.reduceAdd, Nat.reduceSub, Nat.reduceMul, xi144_0, ix_0, xi144_1, ix_1, xi144_2, ix_2, xi144_3, ix_3, xi144_4, ix_4, xi144_5, ix_5, xi144_6, ix_6, xi144_7, ix_7, xi144_8, ix_8, xi144_9, ix_9, xi144_10, ix_10, LM_out hL, h10, nI_leP (show s < 2147483648 by omega) (show s < 2147483648 by omega), Nat.le_refl, e199_96, B199_96]
  | j + 1, s, hs => by
    have ih := R199_45 hL h10 h1 hn hc0 hc j (s + 1) (by omega)
    have e0 : (nI c = 0) = False := eq_false (nI_ne0 hc0 (by omega))
    have e20 : ((2 : Int32) = 0) = False := eq_false (by decide)
    have eD : nI s / nI c = nI (s / c) := pk_div (by omega) (by omega) (by omega)
    have eM : jRem (nI s) (nI c) = nI (s % c) := q_rem (by omega) hc0 (by omega)
    have hd := Nat.div_le_self s c
    have hmd := Nat.mod_lt s hc0
    have e2 : jRem (nI (s / c + s % c)) 2 = nI ((s / c + s % c) % 2) := q_rem (n := 2) (by omega) (by decide) (by decide)
    have l1 := chs_lt c s
    have l2 : chs c s < 2 ^ 64 := Nat.lt_of_lt_of_le l1 (Nat.pow_le_pow_right (by decide) (by omega))
    have l3 : 2 ^ s < 2 ^ 64 := Nat.pow_lt_pow_right (by decide) (by omega)
    have n2 := q_1shlL (show s < 64 by omega)
    have n3 := q_or l2 l3
    rw [chs] at ih
    obtain ⟨v, hv⟩ : ∃ v, v = chs c s := ⟨_, rfl⟩
    rw [← hv] at ih n3 ⊢
    obtain ⟨t, hT⟩ : ∃ t, t = 2 ^ s := ⟨_, rfl⟩
    rw [← hT] at ih n3 n2
    rw [e199_45]
    by_cases q : (s / c + s % c) % 2 = 0
    · rw [if_pos q] at ih
      simp only [B199_45, xSeq, i_push, i_load, i_iload, i_lload, i_dload, i_aload, i_istore, i_astore, i_lstore, i_dstore, i_iinc, i_ii, i_iiz, i_ll, i_llz, i_lli, i_li, i_i, i_l, i_i2l, i_l2i, i_dup, i_dup2, i_dup2w, i_dupx1, i_pop, i_pop2, i_goto, i_ifc, i_icmp, i_getI, i_getL, i_getR, i_putI, i_putZ, i_putL, i_putR, i_aldI, i_aldB, i_aldL, i_aldD, i_astI, i_astL, i_astD, i_alen, i_ret, i_iret, i_zret, i_lret, i_fret, i_dret, i_aret, i_invS0, i_invV0, i_m2, i_m1, i_ml, i_obj, lk, lkp, stf1, stf2, Value.category, rV, xTo, lv_args, xCk, xCat, xRc, xAk, hg_S, hg_I, hg_J, hg_D, hg_R, hs_I, hs_J, hs_D, hs_R, uI_at, uJ_at, uD_at, uR_at, List.take_succ_cons, List.take_zero, List.drop_succ_cons, List.drop_zero, List.reverse_cons, List.reverse_nil, List.nil_append, List.cons_append, List.map_cons, List.map_nil, List.sum_cons, List.sum_nil, List.length_cons, List.length_nil, Option.toList_some, Option.toList_none, true_and, and_true, false_and, and_false, true_implies, false_implies, implies_true, not_true_eq_false, not_false_eq_true, ne_eq, if_true, if_false, Bool.and_true, Bool.true_and, decide_true, decide_false, reduceIte, reduceCtorEq, Bool.and_self, Bool.and_eq_true, decide_eq_true_eq, and_self, true_or, or_true, false_or, or_false, Nat.zero_add, Nat.add_zero, eq_self, Nat.reduceEqDiff, Nat.reduceLeDiff, Nat.reduceLT, Nat.reduceAdd, Nat.reduceSub, Nat.reduceMul, xi144_0, ix_0, xi144_1, ix_1, xi144_2, ix_2, xi144_3, ix_3, xi144_4, ix_4, xi144_5, ix_5, xi144_6, ix_6, xi144_7, ix_7, xi144_8, ix_8, xi144_9, ix_9, xi144_10, ix_10, LM_out hL, h10, h1, nI_leP (show n < 2147483648 by omega) (show s < 2147483648 by omega), show (n ≤ s) = False from eq_false (by omega), e0, e20, eD, eM, nI_add, e2, q, nI_0, n2, n3, uJ_uJ]
      rw [e199_90]
      simp only [B199_90, xSeq, i_push, i_load, i_iload, i_lload, i_dload, i_aload, i_istore, i_astore, i_lstore, i_dstore, i_iinc, i_ii, i_iiz, i_ll, i_llz, i_lli, i_li, i_i, i_l, i_i2l, i_l2i, i_dup, i_dup2, i_dup2w, i_dupx1, i_pop, i_pop2, i_goto, i_ifc, i_icmp, i_getI, i_getL, i_getR, i_putI, i_putZ, i_putL, i_putR, i_aldI, i_aldB, i_aldL, i_aldD, i_astI, i_astL, i_astD, i_alen, i_ret, i_iret, i_zret, i_lret, i_fret, i_dret, i_aret, i_invS0, i_invV0, i_m2, i_m1, i_ml, i_obj, lk, lkp, stf1, stf2, Value.category, rV, xTo, lv_args, xCk, xCat, xRc, xAk, hg_S, hg_I, hg_J, hg_D, hg_R, hs_I, hs_J, hs_D, hs_R, uI_at, uJ_at, uD_at, uR_at, List.take_succ_cons, List.take_zero, List.drop_succ_cons, List.drop_zero, List.reverse_cons, List.reverse_nil, List.nil_append, List.cons_append, List.map_cons, List.map_nil, List.sum_cons, List.sum_nil, List.length_cons, List.length_nil, Option.toList_some, Option.toList_none, true_and, and_true, false_and, and_false, true_implies, false_implies, implies_true, not_true_eq_false, not_false_eq_true, ne_eq, if_true, if_false, Bool.and_true, Bool.true_and, decide_true, decide_false, reduceIte, reduceCtorEq, Bool.and_self, Bool.and_eq_true, decide_eq_true_eq, and_self, true_or, or_true, false_or, or_false, Nat.zero_add, Nat.add_zero, eq_self, Nat.reduceEqDiff, Nat.reduceLeDiff, Nat.reduceLT, Nat.reduceAdd, Nat.reduceSub, Nat.reduceMul, nI_1]
      exact ih
    · have q1 : (s / c + s % c) % 2 = 1 := by omega
      have n1 : (nI 1 = 0) = False := eq_false (by decide)
      rw [if_neg q] at ih
      simp only [B199_45, xSeq, i_push, i_load, i_iload, i_lload, i_dload, i_aload, i_istore, i_astore, i_lstore, i_dstore, i_iinc, i_ii, i_iiz, i_ll, i_llz, i_lli, i_li, i_i, i_l, i_i2l, i_l2i, i_dup, i_dup2, i_dup2w, i_dupx1, i_pop, i_pop2, i_goto, i_ifc, i_icmp, i_getI, i_getL, i_getR, i_putI, i_putZ, i_putL, i_putR, i_aldI, i_aldB, i_aldL, i_aldD, i_astI, i_astL, i_astD, i_alen, i_ret, i_iret, i_zret, i_lret, i_fret, i_dret, i_aret, i_invS0, i_invV0, i_m2, i_m1, i_ml, i_obj, lk, lkp, stf1, stf2, Value.category, rV, xTo, lv_args, xCk, xCat, xRc, xAk, hg_S, hg_I, hg_J, hg_D, hg_R, hs_I, hs_J, hs_D, hs_R, uI_at, uJ_at, uD_at, uR_at, List.take_succ_cons, List.take_zero, List.drop_succ_cons, List.drop_zero, List.reverse_cons, List.reverse_nil, List.nil_append, List.cons_append, List.map_cons, List.map_nil, List.sum_cons, List.sum_nil, List.length_cons, List.length_nil, Option.toList_some, Option.toList_none, true_and, and_true, false_and, and_false, true_implies, false_implies, implies_true, not_true_eq_false, not_false_eq_true, ne_eq, if_true, if_false, Bool.and_true, Bool.true_and, decide_true, decide_false, reduceIte, reduceCtorEq, Bool.and_self, Bool.and_eq_true, decide_eq_true_eq, and_self, true_or, or_true, false_or, or_false, Nat.zero_add, Nat.add_zero, eq_self, Nat.reduceEqDiff, Nat.reduceLeDiff, Nat.reduceLT, Nat.reduceAdd, Nat.reduceSub, Nat.reduceMul, xi144_0, ix_0, xi144_1, ix_1, xi144_2, ix_2, xi144_3, ix_3, xi144_4, ix_4, xi144_5, ix_5, xi144_6, ix_6, xi144_7, ix_7, xi144_8, ix_8, xi144_9, ix_9, xi144_10, ix_10, LM_out hL, h10, h1, nI_leP (show n < 2147483648 by omega) (show s < 2147483648 by omega), show (n ≤ s) = False from eq_false (by omega), e0, e20, eD, eM, nI_add, e2, q1, n1]
      rw [e199_90]
      simp only [B199_90, xSeq, i_push, i_load, i_iload, i_lload, i_dload, i_aload, i_istore, i_astore, i_lstore, i_dstore, i_iinc, i_ii, i_iiz, i_ll, i_llz, i_lli, i_li, i_i, i_l, i_i2l, i_l2i, i_dup, i_dup2, i_dup2w, i_dupx1, i_pop, i_pop2, i_goto, i_ifc, i_icmp, i_getI, i_getL, i_getR, i_putI, i_putZ, i_putL, i_putR, i_aldI, i_aldB, i_aldL, i_aldD, i_astI, i_astL, i_astD, i_alen, i_ret, i_iret, i_zret, i_lret, i_fret, i_dret, i_aret, i_invS0, i_invV0, i_m2, i_m1, i_ml, i_obj, lk, lkp, stf1, stf2, Value.category, rV, xTo, lv_args, xCk, xCat, xRc, xAk, hg_S, hg_I, hg_J, hg_D, hg_R, hs_I, hs_J, hs_D, hs_R, uI_at, uJ_at, uD_at, uR_at, List.take_succ_cons, List.take_zero, List.drop_succ_cons, List.drop_zero, List.reverse_cons, List.reverse_nil, List.nil_append, List.cons_append, List.map_cons, List.map_nil, List.sum_cons, List.sum_nil, List.length_cons, List.length_nil, Option.toList_some, Option.toList_none, true_and, and_true, false_and, and_false, true_implies, false_implies, implies_true, not_true_eq_false, not_false_eq_true, ne_eq, if_true, if_false, Bool.and_true, Bool.true_and, decide_true, decide_false, reduceIte, reduceCtorEq, Bool.and_self, Bool.and_eq_true, decide_eq_true_eq, and_self, true_or, or_true, false_or, or_false, Nat.zero_add, Nat.add_zero, eq_self, Nat.reduceEqDiff, Nat.reduceLeDiff, Nat.reduceLT, Nat.reduceAdd, Nat.reduceSub, Nat.reduceMul, nI_1]
      exact ih
theorem R199g (hL : LM S R) (h10 : I 300 10 = nI n) (h1 : I 300 1 = nI c) (hn : n ≤ 64) (hc0 : 0 < c) (hc : c ≤ 8) {t s : Nat} (ht : t < 3) (hs : s < 2147483648) (h32 : I 200 32 = nI t) (h33 : I 200 33 = nI s) : xRun xT 199 0 [(0, .ref 200)] [] (S, I, J, D, R) b Q = Q (.ok none) (S, I, uJ (uJ J 200 4 (lN s)) 200 3 (lN (spN c n t)), D, R) b := by
  have t1 : (nI t = 1) = (t = 1) := by rw [show (1 : Int32) = nI 1 from rfl, nI_iff (by omega) (by decide)]
  have t2 : (nI t = 2) = (t = 2) := by rw [show (2 : Int32) = nI 2 from rfl, nI_iff (by omega) (by decide)]
  have l8 : (nI s).toInt64 = lN s := nI_l (by omega)
  unfold spN
  rw [e199_0]
  by_cases c1 : t = 1
  · rw [if_neg (by omega), if_pos c1]
    simp only [B199_0, xSeq, i_push, i_load, i_iload, i_lload, i_dload, i_aload, i_istore, i_astore, i_lstore, i_dstore, i_iinc, i_ii, i_iiz, i_ll, i_llz, i_lli, i_li, i_i, i_l, i_i2l, i_l2i, i_dup, i_dup2, i_dup2w, i_dupx1, i_pop, i_pop2, i_goto, i_ifc, i_icmp, i_getI, i_getL, i_getR, i_putI, i_putZ, i_putL, i_putR, i_aldI, i_aldB, i_aldL, i_aldD, i_astI, i_astL, i_astD, i_alen, i_ret, i_iret, i_zret, i_lret, i_fret, i_dret, i_aret, i_invS0, i_invV0, i_m2, i_m1, i_ml, i_obj, lk, lkp, stf1, stf2, Value.category, rV, xTo, lv_args, xCk, xCat, xRc, xAk, hg_S, hg_I, hg_J, hg_D, hg_R, hs_I, hs_J, hs_D, hs_R, uI_at, uJ_at, uD_at, uR_at, List.take_succ_cons, List.take_zero, List.drop_succ_cons, List.drop_zero, List.reverse_cons, List.reverse_nil, List.nil_append, List.cons_append, List.map_cons, List.map_nil, List.sum_cons, List.sum_nil, List.length_cons, List.length_nil, Option.toList_some, Option.toList_none, true_and, and_true, false_and, and_false, true_implies, false_implies, implies_true, not_true_eq_false, not_false_eq_true, ne_eq, if_true, if_false, Bool.and_true, Bool.true_and, decide_true, decide_false, reduceIte, reduceCtorEq, Bool.and_self, Bool.and_eq_true, decide_eq_true_eq, and_self, true_or, or_true, false_or, or_false, Nat.zero_add, Nat.add_zero, eq_self, Nat.reduceEqDiff, Nat.reduceLeDiff, Nat.reduceLT, Nat.reduceAdd, Nat.reduceSub, Nat.reduceMul, LM_out hL, h32, h33, l8, t1, eq_true c1]
    rw [e199_26]
    simp only [B199_26, xSeq, i_push, i_load, i_iload, i_lload, i_dload, i_aload, i_istore, i_astore, i_lstore, i_dstore, i_iinc, i_ii, i_iiz, i_ll, i_llz, i_lli, i_li, i_i, i_l, i_i2l, i_l2i, i_dup, i_dup2, i_dup2w, i_dupx1, i_pop, i_pop2, i_goto, i_ifc, i_icmp, i_getI, i_getL, i_getR, i_putI, i_putZ, i_putL, i_putR, i_aldI, i_aldB, i_aldL, i_aldD, i_astI, i_astL, i_astD, i_alen, i_ret, i_iret, i_zret, i_lret, i_fret, i_dret, i_aret, i_invS0, i_invV0, i_m2, i_m1, i_ml, i_obj, lk, lkp, stf1, stf2, Value.category, rV, xTo, lv_args, xCk, xCat, xRc, xAk, hg_S, hg_I, hg_J, hg_D, hg_R, hs_I, hs_J, hs_D, hs_R, uI_at, uJ_at, uD_at, uR_at, List.take_succ_cons, List.take_zero, List.drop_succ_cons, List.drop_zero, List.reverse_cons, List.reverse_nil, List.nil_append, List.cons_append, List.map_cons, List.map_nil, List.sum_cons, List.sum_nil, List.length_cons, List.length_nil, Option.toList_some, Option.toList_none, true_and, and_true, false_and, and_false, true_implies, false_implies, implies_true, not_true_eq_false, not_false_eq_true, ne_eq, if_true, if_false, Bool.and_true, Bool.true_and, decide_true, decide_false, reduceIte, reduceCtorEq, Bool.and_self, Bool.and_eq_true, decide_eq_true_eq, and_self, true_or, or_true, false_or, or_false, Nat.zero_add, Nat.add_zero, eq_self, Nat.reduceEqDiff, Nat.reduceLeDiff, Nat.reduceLT, Nat.reduceAdd, Nat.reduceSub, Nat.reduceMul, LM_out hL, h32, t2, show (t = 2) = False from eq_false (by omega)]
    rfl
  · simp only [B199_0, xSeq, i_push, i_load, i_iload, i_lload, i_dload, i_aload, i_istore, i_astore, i_lstore, i_dstore, i_iinc, i_ii, i_iiz, i_ll, i_llz, i_lli, i_li, i_i, i_l, i_i2l, i_l2i, i_dup, i_dup2, i_dup2w, i_dupx1, i_pop, i_pop2, i_goto, i_ifc, i_icmp, i_getI, i_getL, i_getR, i_putI, i_putZ, i_putL, i_putR, i_aldI, i_aldB, i_aldL, i_aldD, i_astI, i_astL, i_astD, i_alen, i_ret, i_iret, i_zret, i_lret, i_fret, i_dret, i_aret, i_invS0, i_invV0, i_m2, i_m1, i_ml, i_obj, lk, lkp, stf1, stf2, Value.category, rV, xTo, lv_args, xCk, xCat, xRc, xAk, hg_S, hg_I, hg_J, hg_D, hg_R, hs_I, hs_J, hs_D, hs_R, uI_at, uJ_at, uD_at, uR_at, List.take_succ_cons, List.take_zero, List.drop_succ_cons, List.drop_zero, List.reverse_cons, List.reverse_nil, List.nil_append, List.cons_append, List.map_cons, List.map_nil, List.sum_cons, List.sum_nil, List.length_cons, List.length_nil, Option.toList_some, Option.toList_none, true_and, and_true, false_and, and_false, true_implies, false_implies, implies_true, not_true_eq_false, not_false_eq_true, ne_eq, if_true, if_false, Bool.and_true, Bool.true_and, decide_true, decide_false, reduceIte, reduceCtorEq, Bool.and_self, Bool.and_eq_true, decide_eq_true_eq, and_self, true_or, or_true, false_or, or_false, Nat.zero_add, Nat.add_zero, eq_self, Nat.reduceEqDiff, Nat.reduceLeDiff, Nat.reduceLT, Nat.reduceAdd, Nat.reduceSub, Nat.reduceMul, LM_out hL, h32, h33, l8, t1, eq_false c1]
    rw [e199_22]
    simp only [B199_22, xSeq, i_push, i_load, i_iload, i_lload, i_dload, i_aload, i_istore, i_astore, i_lstore, i_dstore, i_iinc, i_ii, i_iiz, i_ll, i_llz, i_lli, i_li, i_i, i_l, i_i2l, i_l2i, i_dup, i_dup2, i_dup2w, i_dupx1, i_pop, i_pop2, i_goto, i_ifc, i_icmp, i_getI, i_getL, i_getR, i_putI, i_putZ, i_putL, i_putR, i_aldI, i_aldB, i_aldL, i_aldD, i_astI, i_astL, i_astD, i_alen, i_ret, i_iret, i_zret, i_lret, i_fret, i_dret, i_aret, i_invS0, i_invV0, i_m2, i_m1, i_ml, i_obj, lk, lkp, stf1, stf2, Value.category, rV, xTo, lv_args, xCk, xCat, xRc, xAk, hg_S, hg_I, hg_J, hg_D, hg_R, hs_I, hs_J, hs_D, hs_R, uI_at, uJ_at, uD_at, uR_at, List.take_succ_cons, List.take_zero, List.drop_succ_cons, List.drop_zero, List.reverse_cons, List.reverse_nil, List.nil_append, List.cons_append, List.map_cons, List.map_nil, List.sum_cons, List.sum_nil, List.length_cons, List.length_nil, Option.toList_some, Option.toList_none, true_and, and_true, false_and, and_false, true_implies, false_implies, implies_true, not_true_eq_false, not_false_eq_true, ne_eq, if_true, if_false, Bool.and_true, Bool.true_and, decide_true, decide_false, reduceIte, reduceCtorEq, Bool.and_self, Bool.and_eq_true, decide_eq_true_eq, and_self, true_or, or_true, false_or, or_false, Nat.zero_add, Nat.add_zero, eq_self, Nat.reduceEqDiff, Nat.reduceLeDiff, Nat.reduceLT, Nat.reduceAdd, Nat.reduceSub, Nat.reduceMul, LM_out hL, R200 hL h10 hn]
    rw [e199_26]
    by_cases c2 : t = 2
    · have hh := R199_45 (J := uJ J 200 4 (lN s)) (D := D) (b := b) (Q := Q) hL h10 h1 hn hc0 hc n 0 (by omega)
      rw [chs, nI_0, show lN 0 = 0 from rfl] at hh
      rw [if_neg (show ¬ t = 0 by omega)]
      simp only [B199_26, xSeq, i_push, i_load, i_iload, i_lload, i_dload, i_aload, i_istore, i_astore, i_lstore, i_dstore, i_iinc, i_ii, i_iiz, i_ll, i_llz, i_lli, i_li, i_i, i_l, i_i2l, i_l2i, i_dup, i_dup2, i_dup2w, i_dupx1, i_pop, i_pop2, i_goto, i_ifc, i_icmp, i_getI, i_getL, i_getR, i_putI, i_putZ, i_putL, i_putR, i_aldI, i_aldB, i_aldL, i_aldD, i_astI, i_astL, i_astD, i_alen, i_ret, i_iret, i_zret, i_lret, i_fret, i_dret, i_aret, i_invS0, i_invV0, i_m2, i_m1, i_ml, i_obj, lk, lkp, stf1, stf2, Value.category, rV, xTo, lv_args, xCk, xCat, xRc, xAk, hg_S, hg_I, hg_J, hg_D, hg_R, hs_I, hs_J, hs_D, hs_R, uI_at, uJ_at, uD_at, uR_at, List.take_succ_cons, List.take_zero, List.drop_succ_cons, List.drop_zero, List.reverse_cons, List.reverse_nil, List.nil_append, List.cons_append, List.map_cons, List.map_nil, List.sum_cons, List.sum_nil, List.length_cons, List.length_nil, Option.toList_some, Option.toList_none, true_and, and_true, false_and, and_false, true_implies, false_implies, implies_true, not_true_eq_false, not_false_eq_true, ne_eq, if_true, if_false, Bool.and_true, Bool.true_and, decide_true, decide_false, reduceIte, reduceCtorEq, Bool.and_self, Bool.and_eq_true, decide_eq_true_eq, and_self, true_or, or_true, false_or, or_false, Nat.zero_add, Nat.add_zero, eq_self, Nat.reduceEqDiff, Nat.reduceLeDiff, Nat.reduceLT, Nat.reduceAdd, Nat.reduceSub, Nat.reduceMul, LM_out hL, h32, t2, eq_true c2]
      rw [e199_38]
      simp only [B199_38, xSeq, i_push, i_load, i_iload, i_lload, i_dload, i_aload, i_istore, i_astore, i_lstore, i_dstore, i_iinc, i_ii, i_iiz, i_ll, i_llz, i_lli, i_li, i_i, i_l, i_i2l, i_l2i, i_dup, i_dup2, i_dup2w, i_dupx1, i_pop, i_pop2, i_goto, i_ifc, i_icmp, i_getI, i_getL, i_getR, i_putI, i_putZ, i_putL, i_putR, i_aldI, i_aldB, i_aldL, i_aldD, i_astI, i_astL, i_astD, i_alen, i_ret, i_iret, i_zret, i_lret, i_fret, i_dret, i_aret, i_invS0, i_invV0, i_m2, i_m1, i_ml, i_obj, lk, lkp, stf1, stf2, Value.category, rV, xTo, lv_args, xCk, xCat, xRc, xAk, hg_S, hg_I, hg_J, hg_D, hg_R, hs_I, hs_J, hs_D, hs_R, uI_at, uJ_at, uD_at, uR_at, List.take_succ_cons, List.take_zero, List.drop_succ_cons, List.drop_zero, List.reverse_cons, List.reverse_nil, List.nil_append, List.cons_append, List.map_cons, List.map_nil, List.sum_cons, List.sum_nil, List.length_cons, List.length_nil, Option.toList_some, Option.toList_none, true_and, and_true, false_and, and_false, true_implies, false_implies, implies_true, not_true_eq_false, not_false_eq_true, ne_eq, if_true, if_false, Bool.and_true, Bool.true_and, decide_true, decide_false, reduceIte, reduceCtorEq, Bool.and_self, Bool.and_eq_true, decide_eq_true_eq, and_self, true_or, or_true, false_or, or_false, Nat.zero_add, Nat.add_zero, eq_self, Nat.reduceEqDiff, Nat.reduceLeDiff, Nat.reduceLT, Nat.reduceAdd, Nat.reduceSub, Nat.reduceMul, LM_out hL, uJ_uJ]
      exact hh
    · rw [if_pos (show t = 0 by omega)]
      simp only [B199_26, xSeq, i_push, i_load, i_iload, i_lload, i_dload, i_aload, i_istore, i_astore, i_lstore, i_dstore, i_iinc, i_ii, i_iiz, i_ll, i_llz, i_lli, i_li, i_i, i_l, i_i2l, i_l2i, i_dup, i_dup2, i_dup2w, i_dupx1, i_pop, i_pop2, i_goto, i_ifc, i_icmp, i_getI, i_getL, i_getR, i_putI, i_putZ, i_putL, i_putR, i_aldI, i_aldB, i_aldL, i_aldD, i_astI, i_astL, i_astD, i_alen, i_ret, i_iret, i_zret, i_lret, i_fret, i_dret, i_aret, i_invS0, i_invV0, i_m2, i_m1, i_ml, i_obj, lk, lkp, stf1, stf2, Value.category, rV, xTo, lv_args, xCk, xCat, xRc, xAk, hg_S, hg_I, hg_J, hg_D, hg_R, hs_I, hs_J, hs_D, hs_R, uI_at, uJ_at, uD_at, uR_at, List.take_succ_cons, List.take_zero, List.drop_succ_cons, List.drop_zero, List.reverse_cons, List.reverse_nil, List.nil_append, List.cons_append, List.map_cons, List.map_nil, List.sum_cons, List.sum_nil, List.length_cons, List.length_nil, Option.toList_some, Option.toList_none, true_and, and_true, false_and, and_false, true_implies, false_implies, implies_true, not_true_eq_false, not_false_eq_true, ne_eq, if_true, if_false, Bool.and_true, Bool.true_and, decide_true, decide_false, reduceIte, reduceCtorEq, Bool.and_self, Bool.and_eq_true, decide_eq_true_eq, and_self, true_or, or_true, false_or, or_false, Nat.zero_add, Nat.add_zero, eq_self, Nat.reduceEqDiff, Nat.reduceLeDiff, Nat.reduceLT, Nat.reduceAdd, Nat.reduceSub, Nat.reduceMul, LM_out hL, h32, t2, eq_false c2]
/-- the model has read a text from its first byte on -/
theorem L206_r (hp : PM k f S I R) (hT : WT S I R) (m1 : I 200 24 = 0) (m2 : I 200 25 = -1) (m3 : I 200 26 = 0) (m5 : I 200 30 = 0) (m6 : MR p00 I) (kk : ∀ I', (∃ w, MO f w (pLoad f k).1 (pLoad f k).2 I') → mfr I I' → Q (.ok (some (.int (if (pLoad f k).1 = 0 then 1 else 0)))) (S, I', J, D, R) b) :
    xRun xT 208 0 [(0, .ref 200)] [] (S, I, J, D, R) (0, 0) (fun o h _ => match o with | .ok none => xRun xT 210 0 [(0, .ref 200)] [] h b Q | _ => False) := by
  have ad := TK_adv (f := f) (T := p00) (k := k) (Nat.zero_le _)
  refine L208w (T := p00) (w := 0) hp m1 m2 m3 m5 m6 (Nat.zero_le _) (fun I1 q1 q2 _ => ?_)
  exact L210 (k + 1) (pAdv f k p00) I1 (PM_c hp q2) q1 ad.1 (TF_e (T := p00) rfl TF_00) (WT_m hT q2) (fun _ => by omega) (fun I' q3 q4 => kk I' q3 (fM_t q2 q4))
theorem AM_load (h : AM g x sv k by' e1 e2 S I J R) (hF : TF T) (hi : ∀ p j, p ≠ 300 → p ≠ 301 → p ≠ 334 → p ≠ 335 → ¬ bM p j → (p = 200 → j = 59) → I' p j = I p j) (hj : J' = uJ (uJ J 200 4 (lN (qU T 8))) 200 3 (lN (spN (qU T 1) (gn (pgd T)) (qU T 9))))
    (hB : HM I' (gn (pgd T)) (gll (pgd T))) (c0 : I' 300 0 = nI (qU T 0)) (c1 : I' 300 1 = nI (qU T 1)) (c10 : I' 300 10 = nI (gn (pgd T))) (c18 : I' 200 18 = nI (qU T 2)) (d2 : I' 300 2 = nI (qU T 3)) (d3 : I' 300 3 = nI (qU T 4)) (d4 : I' 300 4 = qG T) (d5 : I' 300 5 = nI (qU T 7)) (d6 : I' 300 6 = 0) (d7 : I' 300 7 = 0) (d9 : I' 300 9 = 0)
    (ds : ∀ j, j < gm (pgd T) → I' 300 (16 + j) = stS (pst T) j) (f7 : I' 200 7 = 0) (f21 : I' 200 21 = 0) (f22 : I' 200 22 = 0) (f23 : I' 200 23 = -1) (f51 : I' 200 51 = 0) : AM (pgd T) (pst T) none 0 by' 0 (-1) S I' J' R := by
  obtain ⟨a1, ⟨a2, a3, a4, a5⟩, a6, ⟨a7, a8⟩, ⟨a9, a10, a11, a12⟩, a13, u, a14, a15⟩ := h
  refine ⟨a1, ⟨⟨c10, hB⟩, c0, c1, c18⟩, ⟨⟨d2, d3, d4, d5, d6, d7, ?_, ?_⟩, ds, ⟨d9, Nat.zero_le _⟩, fun i hi => absurd hi (Nat.not_lt_zero i)⟩, ⟨f7, fun y hy => by cases hy⟩, ⟨f21, fun j hj => absurd hj (Nat.not_lt_zero j), f22, f23⟩, Or.inl f51, u, ?_, a15⟩
  · rw [hj, uJ_at, if_pos ⟨rfl, rfl⟩]; rfl
  · rw [hj, uJ_at, if_neg (by omega), uJ_at, if_pos ⟨rfl, rfl⟩]; rfl
  · rw [hi 200 59 (by decide) (by decide) (by decide) (by decide) (by decide) (fun _ => rfl)]; exact a14
end
/-! ===== loadLab of the model, whole ===== -/
section
variable {k w r c e n m : Nat} {g : xGd} {x : xSt} {sv : Option xSt} {by' : Nat → Nat} {e1 e2 : Int32} {N : Nat} {z : xA} {f : Nat → Nat} {T : pSt} {S : xS} {I I' I2 : xI} {J J' : xJ} {D : xDb} {R : xR} {b : Nat × Nat} {Q : xQ}
/-- before the first token -/
def mB (I : xI) : xI := uI (uI (uI (uI (mC (cpr (uI I 200 19 0) 300 301 144)) 200 24 0) 200 25 (-1)) 200 26 0) 200 30 0
theorem mB_fr {p j : Nat} (h1 : p ≠ 200) (h2 : p ≠ 300) (h3 : p ≠ 301) : mB I p j = I p j := by
  unfold mB mC
  simp only [uI_at, rI_at, cpr_at]
  repeat rw [if_neg (by omega)]
theorem mB_200 {j : Nat} (h : j ≠ 18 ∧ j ≠ 19 ∧ j ≠ 24 ∧ j ≠ 25 ∧ j ≠ 26 ∧ j ≠ 30 ∧ j ≠ 31 ∧ j ≠ 32 ∧ j ≠ 33 ∧ j ≠ 36) : mB I 200 j = I 200 j := by
  unfold mB mC
  simp only [uI_at, rI_at, cpr_at]
  repeat rw [if_neg (by omega)]
theorem mB_19 : mB I 200 19 = 0 := by
  unfold mB mC
  simp only [uI_at, rI_at, cpr_at, true_and, and_true, false_and, and_false, true_implies, false_implies, implies_true, not_true_eq_false, not_false_eq_true, ne_eq, if_true, if_false, Bool.and_true, Bool.true_and, decide_true, decide_false, reduceIte, reduceCtorEq, Bool.and_self, Bool.and_eq_true, decide_eq_true_eq, and_self, true_or, or_true, false_or, or_false, Nat.zero_add, Nat.add_zero, eq_self, Nat.reduceEqDiff, Nat.reduceLeDiff, Nat.reduceLT, Nat.reduceAdd, Nat.reduceSub, Nat.reduceMul]
theorem mB_301 {j : Nat} (h : j < 144) : mB I 301 j = I 300 j := by
  unfold mB mC
  simp only [uI_at, rI_at, cpr_at, true_and, and_true, false_and, and_false, true_implies, false_implies, implies_true, not_true_eq_false, not_false_eq_true, ne_eq, if_true, if_false, Bool.and_true, Bool.true_and, decide_true, decide_false, reduceIte, reduceCtorEq, Bool.and_self, Bool.and_eq_true, decide_eq_true_eq, and_self, true_or, or_true, false_or, or_false, Nat.zero_add, Nat.add_zero, eq_self, Nat.reduceEqDiff, Nat.reduceLeDiff, Nat.reduceLT, Nat.reduceAdd, Nat.reduceSub, Nat.reduceMul, h]
theorem mB_hi {j : Nat} (h : 144 ≤ j) : mB I 300 j = I 300 j := by
  unfold mB mC
  simp only [uI_at, rI_at, fill_at, cpr_at]
  rw [if_neg (by omega), if_neg (by omega), if_neg (by omega), if_neg (by omega), if_neg (by omega), if_neg (by omega), if_neg (by omega), if_neg (by omega), if_neg (by omega), if_neg (by omega), if_neg (by omega), if_neg (by omega), if_neg (by omega), if_pos trivial, if_neg (by omega), if_neg (by omega), if_neg (by omega)]
theorem mB_lo {j : Nat} (h : 4 ≤ j) (h2 : j < 144) : mB I 300 j = 0 := by
  unfold mB mC
  simp only [uI_at, rI_at, fill_at, cpr_at]
  rw [if_neg (by omega), if_neg (by omega), if_neg (by omega), if_neg (by omega), if_neg (by omega), if_neg (by omega), if_neg (by omega), if_neg (by omega), if_neg (by omega), if_neg (by omega), if_neg (by omega), if_neg (by omega), if_neg (by omega), if_pos trivial, if_pos h2]
theorem mB_R : (mB I 200 24 = 0 ∧ mB I 200 25 = -1 ∧ mB I 200 26 = 0 ∧ mB I 200 30 = 0) ∧ MR p00 (mB I) := by
  refine ⟨⟨?_, ?_, ?_, ?_⟩, ⟨?_, ?_, ?_, ?_, ?_, ?_, ?_, ?_, ?_, ?_, ?_⟩, fun j hj => absurd (show j < 0 from hj) (Nat.not_lt_zero j)⟩
  · unfold mB; simp only [uI_at, true_and, and_true, false_and, and_false, true_implies, false_implies, implies_true, not_true_eq_false, not_false_eq_true, ne_eq, if_true, if_false, Bool.and_true, Bool.true_and, decide_true, decide_false, reduceIte, reduceCtorEq, Bool.and_self, Bool.and_eq_true, decide_eq_true_eq, and_self, true_or, or_true, false_or, or_false, Nat.zero_add, Nat.add_zero, eq_self, Nat.reduceEqDiff, Nat.reduceLeDiff, Nat.reduceLT, Nat.reduceAdd, Nat.reduceSub, Nat.reduceMul]
  · unfold mB; simp only [uI_at, true_and, and_true, false_and, and_false, true_implies, false_implies, implies_true, not_true_eq_false, not_false_eq_true, ne_eq, if_true, if_false, Bool.and_true, Bool.true_and, decide_true, decide_false, reduceIte, reduceCtorEq, Bool.and_self, Bool.and_eq_true, decide_eq_true_eq, and_self, true_or, or_true, false_or, or_false, Nat.zero_add, Nat.add_zero, eq_self, Nat.reduceEqDiff, Nat.reduceLeDiff, Nat.reduceLT, Nat.reduceAdd, Nat.reduceSub, Nat.reduceMul]
  · unfold mB; simp only [uI_at, true_and, and_true, false_and, and_false, true_implies, false_implies, implies_true, not_true_eq_false, not_false_eq_true, ne_eq, if_true, if_false, Bool.and_true, Bool.true_and, decide_true, decide_false, reduceIte, reduceCtorEq, Bool.and_self, Bool.and_eq_true, decide_eq_true_eq, and_self, true_or, or_true, false_or, or_false, Nat.zero_add, Nat.add_zero, eq_self, Nat.reduceEqDiff, Nat.reduceLeDiff, Nat.reduceLT, Nat.reduceAdd, Nat.reduceSub, Nat.reduceMul]
  · unfold mB; simp only [uI_at, true_and, and_true, false_and, and_false, true_implies, false_implies, implies_true, not_true_eq_false, not_false_eq_true, ne_eq, if_true, if_false, Bool.and_true, Bool.true_and, decide_true, decide_false, reduceIte, reduceCtorEq, Bool.and_self, Bool.and_eq_true, decide_eq_true_eq, and_self, true_or, or_true, false_or, or_false, Nat.zero_add, Nat.add_zero, eq_self, Nat.reduceEqDiff, Nat.reduceLeDiff, Nat.reduceLT, Nat.reduceAdd, Nat.reduceSub, Nat.reduceMul]
  · unfold mB mC; simp only [uI_at, rI_at, true_and, and_true, false_and, and_false, true_implies, false_implies, implies_true, not_true_eq_false, not_false_eq_true, ne_eq, if_true, if_false, Bool.and_true, Bool.true_and, decide_true, decide_false, reduceIte, reduceCtorEq, Bool.and_self, Bool.and_eq_true, decide_eq_true_eq, and_self, true_or, or_true, false_or, or_false, Nat.zero_add, Nat.add_zero, eq_self, Nat.reduceEqDiff, Nat.reduceLeDiff, Nat.reduceLT, Nat.reduceAdd, Nat.reduceSub, Nat.reduceMul]; rfl
  · unfold mB mC; simp only [uI_at, rI_at, true_and, and_true, false_and, and_false, true_implies, false_implies, implies_true, not_true_eq_false, not_false_eq_true, ne_eq, if_true, if_false, Bool.and_true, Bool.true_and, decide_true, decide_false, reduceIte, reduceCtorEq, Bool.and_self, Bool.and_eq_true, decide_eq_true_eq, and_self, true_or, or_true, false_or, or_false, Nat.zero_add, Nat.add_zero, eq_self, Nat.reduceEqDiff, Nat.reduceLeDiff, Nat.reduceLT, Nat.reduceAdd, Nat.reduceSub, Nat.reduceMul]; rfl
  · unfold mB mC; simp only [uI_at, rI_at, true_and, and_true, false_and, and_false, true_implies, false_implies, implies_true, not_true_eq_false, not_false_eq_true, ne_eq, if_true, if_false, Bool.and_true, Bool.true_and, decide_true, decide_false, reduceIte, reduceCtorEq, Bool.and_self, Bool.and_eq_true, decide_eq_true_eq, and_self, true_or, or_true, false_or, or_false, Nat.zero_add, Nat.add_zero, eq_self, Nat.reduceEqDiff, Nat.reduceLeDiff, Nat.reduceLT, Nat.reduceAdd, Nat.reduceSub, Nat.reduceMul]; rfl
  · unfold mB mC; simp only [uI_at, rI_at, true_and, and_true, false_and, and_false, true_implies, false_implies, implies_true, not_true_eq_false, not_false_eq_true, ne_eq, if_true, if_false, Bool.and_true, Bool.true_and, decide_true, decide_false, reduceIte, reduceCtorEq, Bool.and_self, Bool.and_eq_true, decide_eq_true_eq, and_self, true_or, or_true, false_or, or_false, Nat.zero_add, Nat.add_zero, eq_self, Nat.reduceEqDiff, Nat.reduceLeDiff, Nat.reduceLT, Nat.reduceAdd, Nat.reduceSub, Nat.reduceMul]; rfl
  · unfold mB mC; simp only [uI_at, rI_at, true_and, and_true, false_and, and_false, true_implies, false_implies, implies_true, not_true_eq_false, not_false_eq_true, ne_eq, if_true, if_false, Bool.and_true, Bool.true_and, decide_true, decide_false, reduceIte, reduceCtorEq, Bool.and_self, Bool.and_eq_true, decide_eq_true_eq, and_self, true_or, or_true, false_or, or_false, Nat.zero_add, Nat.add_zero, eq_self, Nat.reduceEqDiff, Nat.reduceLeDiff, Nat.reduceLT, Nat.reduceAdd, Nat.reduceSub, Nat.reduceMul]; rfl
  · unfold mB mC; simp only [uI_at, rI_at, true_and, and_true, false_and, and_false, true_implies, false_implies, implies_true, not_true_eq_false, not_false_eq_true, ne_eq, if_true, if_false, Bool.and_true, Bool.true_and, decide_true, decide_false, reduceIte, reduceCtorEq, Bool.and_self, Bool.and_eq_true, decide_eq_true_eq, and_self, true_or, or_true, false_or, or_false, Nat.zero_add, Nat.add_zero, eq_self, Nat.reduceEqDiff, Nat.reduceLeDiff, Nat.reduceLT, Nat.reduceAdd, Nat.reduceSub, Nat.reduceMul]; rfl
  · exact mB_lo (by decide) (by decide)
  · exact mB_lo (by decide) (by decide)
  · unfold mB mC; simp only [uI_at, rI_at, true_and, and_true, false_and, and_false, true_implies, false_implies, implies_true, not_true_eq_false, not_false_eq_true, ne_eq, if_true, if_false, Bool.and_true, Bool.true_and, decide_true, decide_false, reduceIte, reduceCtorEq, Bool.and_self, Bool.and_eq_true, decide_eq_true_eq, and_self, true_or, or_true, false_or, or_false, Nat.zero_add, Nat.add_zero, eq_self, Nat.reduceEqDiff, Nat.reduceLeDiff, Nat.reduceLT, Nat.reduceAdd, Nat.reduceSub, Nat.reduceMul]; rfl
  · unfold mB mC; simp only [uI_at, rI_at, true_and, and_true, false_and, and_false, true_implies, false_implies, implies_true, not_true_eq_false, not_false_eq_true, ne_eq, if_true, if_false, Bool.and_true, Bool.true_and, decide_true, decide_false, reduceIte, reduceCtorEq, Bool.and_self, Bool.and_eq_true, decide_eq_true_eq, and_self, true_or, or_true, false_or, or_false, Nat.zero_add, Nat.add_zero, eq_self, Nat.reduceEqDiff, Nat.reduceLeDiff, Nat.reduceLT, Nat.reduceAdd, Nat.reduceSub, Nat.reduceMul]; rfl
  · unfold mB mC; simp only [uI_at, rI_at, true_and, and_true, false_and, and_false, true_implies, false_implies, implies_true, not_true_eq_false, not_false_eq_true, ne_eq, if_true, if_false, Bool.and_true, Bool.true_and, decide_true, decide_false, reduceIte, reduceCtorEq, Bool.and_self, Bool.and_eq_true, decide_eq_true_eq, and_self, true_or, or_true, false_or, or_false, Nat.zero_add, Nat.add_zero, eq_self, Nat.reduceEqDiff, Nat.reduceLeDiff, Nat.reduceLT, Nat.reduceAdd, Nat.reduceSub, Nat.reduceMul]; rfl
/-- the told strengths and the start, over laid bonds -/
theorem L206_103 (hL : LM S R) (hc : MR T I) (hF : TF T) (hl : I 300 6 = 0 ∧ I 300 7 = 0 ∧ I 300 9 = 0) (kk : ∀ I' J', I' 300 10 = nI (gn (pgd T)) → HM I' (gn (pgd T)) (gll (pgd T)) → I' 300 0 = nI (qU T 0) → I' 300 1 = nI (qU T 1) → I' 300 2 = nI (qU T 3) → I' 300 3 = nI (qU T 4) → I' 300 4 = qG T → I' 300 5 = nI (qU T 7) → I' 300 6 = 0 → I' 300 7 = 0 → I' 300 9 = 0 → (∀ j, j < gm (pgd T) → I' 300 (16 + j) = stS (pst T) j) → I' 200 7 = 0 → I' 200 51 = 0 → (∀ p j, p ≠ 300 → ¬ bM p j → (p = 200 → j ≠ 7 ∧ j ≠ 51) → I' p j = I p j) →
      J' = uJ (uJ J 200 4 (lN (qU T 8))) 200 3 (lN (spN (qU T 1) (gn (pgd T)) (qU T 9))) → Q (.ok (some (.int (nI (gn (pgd T)))))) (S, I', J', D, R) b) : xRun xT 206 103 [(0, .ref 200)] [] (S, I, J, D, R) b Q := by
  obtain ⟨⟨r0, r1, r2, r3, r4, r5, r6, r7, r8, r9, r10⟩, r11⟩ := hc
  obtain ⟨⟨t1, t2, t3, t4, t5, t6, t7⟩, ⟨b1, b2, b3⟩, f1, f2, f3, f4, f5, f6⟩ := id hF
  have hgk : gk (gn (pgd T)) (gll (pgd T)) = true := (GOK_gk (pgd_ok hF)).1
  have bd := gn_bd (pgd_ok hF)
  rw [e206_103]
  simp only [B206_103, xSeq, i_push, i_load, i_iload, i_lload, i_dload, i_aload, i_istore, i_astore, i_lstore, i_dstore, i_iinc, i_ii, i_iiz, i_ll, i_llz, i_lli, i_li, i_i, i_l, i_i2l, i_l2i, i_dup, i_dup2, i_dup2w, i_dupx1, i_pop, i_pop2, i_goto, i_ifc, i_icmp, i_getI, i_getL, i_getR, i_putI, i_putZ, i_putL, i_putR, i_aldI, i_aldB, i_aldL, i_aldD, i_astI, i_astL, i_astD, i_alen, i_ret, i_iret, i_zret, i_lret, i_fret, i_dret, i_aret, i_invS0, i_invV0, i_m2, i_m1, i_ml, i_obj, lk, lkp, stf1, stf2, Value.category, rV, xTo, lv_args, xCk, xCat, xRc, xAk, hg_S, hg_I, hg_J, hg_D, hg_R, hs_I, hs_J, hs_D, hs_R, uI_at, uJ_at, uD_at, uR_at, List.take_succ_cons, List.take_zero, List.drop_succ_cons, List.drop_zero, List.reverse_cons, List.reverse_nil, List.nil_append, List.cons_append, List.map_cons, List.map_nil, List.sum_cons, List.sum_nil, List.length_cons, List.length_nil, Option.toList_some, Option.toList_none, true_and, and_true, false_and, and_false, true_implies, false_implies, implies_true, not_true_eq_false, not_false_eq_true, ne_eq, if_true, if_false, Bool.and_true, Bool.true_and, decide_true, decide_false, reduceIte, reduceCtorEq, Bool.and_self, Bool.and_eq_true, decide_eq_true_eq, and_self, true_or, or_true, false_or, or_false, Nat.zero_add, Nat.add_zero, eq_self, Nat.reduceEqDiff, Nat.reduceLeDiff, Nat.reduceLT, Nat.reduceAdd, Nat.reduceSub, Nat.reduceMul, LM_out hL]
  refine L194 (r := qU T 0) (c := qU T 1) (e := qU T 2) (n := gn (pgd T)) hL r0 r1 r2 rfl (by omega) (by omega) (by omega) t7 hgk (fun I6 u1 u2 u3 => ?_)
  have v : ∀ p j, p ≠ 300 → ¬ bM p j → I6 p j = I p j := fun p j h1 h2 => u3 p j h2 (Or.inl h1)
  have v3 : ∀ j, j ≠ 8 → j ≠ 10 → I6 300 j = I 300 j := fun j h1 h2 => u3 300 j (by unfold bM; omega) (Or.inr h2)
  have e8 : I6 300 8 = nI (gm (pgd T)) := u1.1
  have h31 : I6 200 31 = qF T := (v _ _ (by decide) (by decide)).trans r5
  have h198 := fun (Q : xQ) => R198g (I := I6) (J := J) (D := D) (b := (0, 0)) (Q := Q) (T := T) (r := qU T 0) (c := qU T 1) (e := qU T 2) (m := gm (pgd T)) hL e8 bd.2.2.1 ((v _ _ (by decide) (by decide)).trans r10) t2 (fun j hj => ⟨(v _ _ (by decide) (by unfold bM; omega)).trans (r11 j hj).1, (v _ _ (by decide) (by unfold bM; omega)).trans (r11 j hj).2⟩) (fun j hj => by
    obtain ⟨⟨g1, g2⟩, -⟩ := f6 j hj
    exact bnN_lt g1 g2)
  rw [h31] at h198
  obtain ⟨I7, hI7⟩ : ∃ I7, I7 = uI (rI I6 300 (oM (qU T 0) (qU T 1) (qU T 2) (qA T) (qD T) (qV T) (sF (I6 300) (qF T) (gm (pgd T))) (qB T))) 200 51 0 := ⟨_, rfl⟩
  have w3 : ∀ j, j < 16 → I7 300 j = I6 300 j := fun j hj => by
    rw [hI7, uI_at, if_neg (by omega), rI_at, if_pos rfl, oM_lo _ _ hj, sF_at, if_neg (by omega)]
  have wo : ∀ p j, p ≠ 300 → (p = 200 → j ≠ 51) → I7 p j = I6 p j := fun p j h1 h2 => by
    rw [hI7, uI_at, if_neg (fun n => h2 n.1 n.2), rI_at, if_neg h1]
  have x3 : ∀ j, j < 16 → j ≠ 8 → j ≠ 10 → I7 300 j = I 300 j := fun j h1 h2 h3 => (w3 j h1).trans (v3 j h2 h3)
  have e10 : I7 300 10 = nI (gn (pgd T)) := (w3 10 (by decide)).trans u2
  have h199 := fun (Q : xQ) => R199g (I := I7) (J := J) (D := D) (b := (0, 0)) (Q := Q) (n := gn (pgd T)) (c := qU T 1) (t := qU T 9) (s := qU T 8) hL e10 ((x3 1 (by decide) (by decide) (by decide)).trans r1) bd.2.1 (by omega) (by omega) f5 (by omega) ((wo _ _ (by decide) (fun _ => by decide)).trans ((v _ _ (by decide) (by decide)).trans r9)) ((wo _ _ (by decide) (fun _ => by decide)).trans ((v _ _ (by decide) (by decide)).trans r8))
  simp only [xSeq, i_push, i_load, i_iload, i_lload, i_dload, i_aload, i_istore, i_astore, i_lstore, i_dstore, i_iinc, i_ii, i_iiz, i_ll, i_llz, i_lli, i_li, i_i, i_l, i_i2l, i_l2i, i_dup, i_dup2, i_dup2w, i_dupx1, i_pop, i_pop2, i_goto, i_ifc, i_icmp, i_getI, i_getL, i_getR, i_putI, i_putZ, i_putL, i_putR, i_aldI, i_aldB, i_aldL, i_aldD, i_astI, i_astL, i_astD, i_alen, i_ret, i_iret, i_zret, i_lret, i_fret, i_dret, i_aret, i_invS0, i_invV0, i_m2, i_m1, i_ml, i_obj, lk, lkp, stf1, stf2, Value.category, rV, xTo, lv_args, xCk, xCat, xRc, xAk, hg_S, hg_I, hg_J, hg_D, hg_R, hs_I, hs_J, hs_D, hs_R, uI_at, uJ_at, uD_at, uR_at, List.take_succ_cons, List.take_zero, List.drop_succ_cons, List.drop_zero, List.reverse_cons, List.reverse_nil, List.nil_append, List.cons_append, List.map_cons, List.map_nil, List.sum_cons, List.sum_nil, List.length_cons, List.length_nil, Option.toList_some, Option.toList_none, true_and, and_true, false_and, and_false, true_implies, false_implies, implies_true, not_true_eq_false, not_false_eq_true, ne_eq, if_true, if_false, Bool.and_true, Bool.true_and, decide_true, decide_false, reduceIte, reduceCtorEq, Bool.and_self, Bool.and_eq_true, decide_eq_true_eq, and_self, true_or, or_true, false_or, or_false, Nat.zero_add, Nat.add_zero, eq_self, Nat.reduceEqDiff, Nat.reduceLeDiff, Nat.reduceLT, Nat.reduceAdd, Nat.reduceSub, Nat.reduceMul, LM_out hL, h198]
  rw [← hI7]
  simp only [xSeq, i_push, i_load, i_iload, i_lload, i_dload, i_aload, i_istore, i_astore, i_lstore, i_dstore, i_iinc, i_ii, i_iiz, i_ll, i_llz, i_lli, i_li, i_i, i_l, i_i2l, i_l2i, i_dup, i_dup2, i_dup2w, i_dupx1, i_pop, i_pop2, i_goto, i_ifc, i_icmp, i_getI, i_getL, i_getR, i_putI, i_putZ, i_putL, i_putR, i_aldI, i_aldB, i_aldL, i_aldD, i_astI, i_astL, i_astD, i_alen, i_ret, i_iret, i_zret, i_lret, i_fret, i_dret, i_aret, i_invS0, i_invV0, i_m2, i_m1, i_ml, i_obj, lk, lkp, stf1, stf2, Value.category, rV, xTo, lv_args, xCk, xCat, xRc, xAk, hg_S, hg_I, hg_J, hg_D, hg_R, hs_I, hs_J, hs_D, hs_R, uI_at, uJ_at, uD_at, uR_at, List.take_succ_cons, List.take_zero, List.drop_succ_cons, List.drop_zero, List.reverse_cons, List.reverse_nil, List.nil_append, List.cons_append, List.map_cons, List.map_nil, List.sum_cons, List.sum_nil, List.length_cons, List.length_nil, Option.toList_some, Option.toList_none, true_and, and_true, false_and, and_false, true_implies, false_implies, implies_true, not_true_eq_false, not_false_eq_true, ne_eq, if_true, if_false, Bool.and_true, Bool.true_and, decide_true, decide_false, reduceIte, reduceCtorEq, Bool.and_self, Bool.and_eq_true, decide_eq_true_eq, and_self, true_or, or_true, false_or, or_false, Nat.zero_add, Nat.add_zero, eq_self, Nat.reduceEqDiff, Nat.reduceLeDiff, Nat.reduceLT, Nat.reduceAdd, Nat.reduceSub, Nat.reduceMul, LM_out hL, h199, xi144_0, ix_0, xi144_1, ix_1, xi144_2, ix_2, xi144_3, ix_3, xi144_4, ix_4, xi144_5, ix_5, xi144_6, ix_6, xi144_7, ix_7, xi144_8, ix_8, xi144_9, ix_9, xi144_10, ix_10, e10]
  have y : ∀ p j, (p = 200 → j ≠ 7) → uI I7 200 7 0 p j = I7 p j := fun p j h1 => by rw [uI_at, if_neg (fun n => h1 n.1 n.2)]
  refine kk (uI I7 200 7 0) _ ?_ ⟨?_, fun j hj => ?_, fun j hj => ?_, fun j hj => ?_, fun i j hi hj => ?_⟩ ?_ ?_ ?_ ?_ ?_ ?_ ?_ ?_ ?_ (fun j hj => ?_) ?_ ?_ (fun p j h1 h2 h3 => ?_) rfl
  · exact (y _ _ (by decide)).trans e10
  · exact (y _ _ (by decide)).trans ((w3 8 (by decide)).trans u1.1)
  · exact (y _ _ (by omega)).trans ((wo _ _ (by decide) (by omega)).trans (u1.2.1 j hj))
  · exact (y _ _ (by omega)).trans ((wo _ _ (by decide) (by omega)).trans (u1.2.2.1 j hj))
  · exact (y _ _ (by omega)).trans ((wo _ _ (by decide) (by omega)).trans (u1.2.2.2.1 j hj))
  · exact (y _ _ (by omega)).trans ((wo _ _ (by decide) (by omega)).trans (u1.2.2.2.2 i j hi hj))
  · exact (y _ _ (by decide)).trans ((x3 0 (by decide) (by decide) (by decide)).trans r0)
  · exact (y _ _ (by decide)).trans ((x3 1 (by decide) (by decide) (by decide)).trans r1)
  · exact (y _ _ (by decide)).trans ((x3 2 (by decide) (by decide) (by decide)).trans r3)
  · exact (y _ _ (by decide)).trans ((x3 3 (by decide) (by decide) (by decide)).trans r4)
  · exact (y _ _ (by decide)).trans ((x3 4 (by decide) (by decide) (by decide)).trans r6)
  · exact (y _ _ (by decide)).trans ((x3 5 (by decide) (by decide) (by decide)).trans r7)
  · exact (y _ _ (by decide)).trans ((x3 6 (by decide) (by decide) (by decide)).trans hl.1)
  · exact (y _ _ (by decide)).trans ((x3 7 (by decide) (by decide) (by decide)).trans hl.2.1)
  · exact (y _ _ (by decide)).trans ((x3 9 (by decide) (by decide) (by decide)).trans hl.2.2)
  · rw [y _ _ (by omega), hI7, uI_at, if_neg (by omega), rI_at, if_pos rfl]
    exact oM_hi (m := gm (pgd T)) (fun i hi => by rw [sF_at, if_pos (by omega)]) _ _ hj
  · rw [uI_at, if_pos ⟨rfl, rfl⟩]
  · rw [y _ _ (fun _ => by decide), hI7, uI_at, if_pos ⟨rfl, rfl⟩]
  · rw [y _ _ (fun q => (h3 q).1), wo _ _ h1 (fun q => (h3 q).2), v _ _ h1 h2]
theorem KM2 (w : WA N z) (h : ABm z S I J R) (hT : WT S I R) (kk : ∀ I' J', I' 200 19 = 0 → ABm (lz z) S I' J' R → frM I J I' J' → Q (.ok (some (.int (lzv z)))) (S, I', J', D, R) b) : xRun xT 206 0 [(0, .ref 200)] [] (S, I, J, D, R) b Q := by
  have hM : LM S R := h.1
  have k600 : z.2.2.2.1 ≤ 600 := w.2.2.2.1
  have i21 : I 200 21 = nI z.2.2.2.1 := h.2.2.2.2.1.1
  have i18 : I 200 18 = nI z.1.2.2 := h.2.1.2.2.2
  have h207 : ∀ (I : xI) (J : xJ) (D : xDb) (b : Nat × Nat) (Q : xQ), xRun xT 207 0 [(0, .ref 300), (1, .ref 301), (2, .int 144)] [] (S, I, J, D, R) b Q = Q (.ok none) (S, cpr I 300 301 144, J, D, R) b := fun I J D b Q => R207 (n := 144) (k := 144) (j := 144) (by simp only [LM_out hM]) (by simp only [LM_out hM]) (by decide) (by decide) (by decide) (by decide) (by decide)
  have h207b : ∀ (I : xI) (J : xJ) (D : xDb) (b : Nat × Nat) (Q : xQ), xRun xT 207 0 [(0, .ref 301), (1, .ref 300), (2, .int 144)] [] (S, I, J, D, R) b Q = Q (.ok none) (S, cpr I 301 300 144, J, D, R) b := fun I J D b Q => R207 (n := 144) (k := 144) (j := 144) (by simp only [LM_out hM]) (by simp only [LM_out hM]) (by decide) (by decide) (by decide) (by decide) (by decide)
  have e18 : cpr (uI I 200 19 0) 300 301 144 200 18 = nI z.1.2.2 := by
    rw [cpr_at, if_neg (by decide), uI_at, if_neg (by decide)]
    exact i18
  obtain ⟨⟨n1, n2, n3, n4⟩, n5⟩ := mB_R (I := I)
  rw [e206_0]
  simp only [B206_0, xSeq, i_push, i_load, i_iload, i_lload, i_dload, i_aload, i_istore, i_astore, i_lstore, i_dstore, i_iinc, i_ii, i_iiz, i_ll, i_llz, i_lli, i_li, i_i, i_l, i_i2l, i_l2i, i_dup, i_dup2, i_dup2w, i_dupx1, i_pop, i_pop2, i_goto, i_ifc, i_icmp, i_getI, i_getL, i_getR, i_putI, i_putZ, i_putL, i_putR, i_aldI, i_aldB, i_aldL, i_aldD, i_astI, i_astL, i_astD, i_alen, i_ret, i_iret, i_zret, i_lret, i_fret, i_dret, i_aret, i_invS0, i_invV0, i_m2, i_m1, i_ml, i_obj, lk, lkp, stf1, stf2, Value.category, rV, xTo, lv_args, xCk, xCat, xRc, xAk, hg_S, hg_I, hg_J, hg_D, hg_R, hs_I, hs_J, hs_D, hs_R, uI_at, uJ_at, uD_at, uR_at, List.take_succ_cons, List.take_zero, List.drop_succ_cons, List.drop_zero, List.reverse_cons, List.reverse_nil, List.nil_append, List.cons_append, List.map_cons, List.map_nil, List.sum_cons, List.sum_nil, List.length_cons, List.length_nil, Option.toList_some, Option.toList_none, true_and, and_true, false_and, and_false, true_implies, false_implies, implies_true, not_true_eq_false, not_false_eq_true, ne_eq, if_true, if_false, Bool.and_true, Bool.true_and, decide_true, decide_false, reduceIte, reduceCtorEq, Bool.and_self, Bool.and_eq_true, decide_eq_true_eq, and_self, true_or, or_true, false_or, or_false, Nat.zero_add, Nat.add_zero, eq_self, Nat.reduceEqDiff, Nat.reduceLeDiff, Nat.reduceLT, Nat.reduceAdd, Nat.reduceSub, Nat.reduceMul, LM_out hM, h207, R193 hM, e18]
  obtain ⟨I3, hI3⟩ : ∃ I3, I3 = mB I := ⟨_, rfl⟩
  rw [show uI (uI (uI (uI (mC (cpr (uI I 200 19 0) 300 301 144)) 200 24 0) 200 25 (-1)) 200 26 0) 200 30 0 = I3 from hI3.symm]
  rw [← hI3] at n1 n2 n3 n4 n5
  have hp : PM z.2.2.2.1 z.2.2.2.2.1 S I3 R := ⟨hM, k600, by rw [hI3, mB_200 (by decide)]; exact i21, fun j hj => ⟨by rw [hI3, mB_fr (by decide) (by decide) (by decide)]; exact h.2.2.2.2.1.2.1 j hj, w.2.2.2.2 j hj⟩⟩
  have hT3 : WT S I3 R := WT_e hT (fun _ _ => rfl) (fun p hp => by funext j; rw [hI3, mB_fr (by omega) (by omega) (by omega)]) (fun _ _ => rfl)
  have ad := TK_adv (f := z.2.2.2.2.1) (T := p00) (k := z.2.2.2.1) (Nat.zero_le _)
  refine L208w (T := p00) (w := 0) hp n1 n2 n3 n4 n5 (Nat.zero_le _) (fun I4 q1 q2 _ => ?_)
  simp only [xSeq, i_push, i_load, i_iload, i_lload, i_dload, i_aload, i_istore, i_astore, i_lstore, i_dstore, i_iinc, i_ii, i_iiz, i_ll, i_llz, i_lli, i_li, i_i, i_l, i_i2l, i_l2i, i_dup, i_dup2, i_dup2w, i_dupx1, i_pop, i_pop2, i_goto, i_ifc, i_icmp, i_getI, i_getL, i_getR, i_putI, i_putZ, i_putL, i_putR, i_aldI, i_aldB, i_aldL, i_aldD, i_astI, i_astL, i_astD, i_alen, i_ret, i_iret, i_zret, i_lret, i_fret, i_dret, i_aret, i_invS0, i_invV0, i_m2, i_m1, i_ml, i_obj, lk, lkp, stf1, stf2, Value.category, rV, xTo, lv_args, xCk, xCat, xRc, xAk, hg_S, hg_I, hg_J, hg_D, hg_R, hs_I, hs_J, hs_D, hs_R, uI_at, uJ_at, uD_at, uR_at, List.take_succ_cons, List.take_zero, List.drop_succ_cons, List.drop_zero, List.reverse_cons, List.reverse_nil, List.nil_append, List.cons_append, List.map_cons, List.map_nil, List.sum_cons, List.sum_nil, List.length_cons, List.length_nil, Option.toList_some, Option.toList_none, true_and, and_true, false_and, and_false, true_implies, false_implies, implies_true, not_true_eq_false, not_false_eq_true, ne_eq, if_true, if_false, Bool.and_true, Bool.true_and, decide_true, decide_false, reduceIte, reduceCtorEq, Bool.and_self, Bool.and_eq_true, decide_eq_true_eq, and_self, true_or, or_true, false_or, or_false, Nat.zero_add, Nat.add_zero, eq_self, Nat.reduceEqDiff, Nat.reduceLeDiff, Nat.reduceLT, Nat.reduceAdd, Nat.reduceSub, Nat.reduceMul, LM_out hM]
  refine L210 (z.2.2.2.1 + 1) (pAdv z.2.2.2.2.1 z.2.2.2.1 p00) I4 (PM_c hp q2) q1 ad.1 (TF_e (T := p00) rfl TF_00) (WT_m hT3 q2) (fun _ => by omega) (fun I5 q3 q4 => ?_)
  obtain ⟨w5, q3⟩ := q3
  have hPl : pLab z.2.2.2.2.1 z.2.2.2.1 (z.2.2.2.1 + 1) (pAdv z.2.2.2.2.1 z.2.2.2.1 p00) = pLoad z.2.2.2.2.1 z.2.2.2.1 := rfl
  rw [hPl] at q3 ⊢
  have fr : ∀ p j, ¬ (p = 200 ∧ (j = 18 ∨ 24 ≤ j ∧ j ≤ 37)) → ¬ (p = 300 ∧ j ≤ 5) → p ≠ 334 → p ≠ 335 → I5 p j = I3 p j := fM_t q2 q4
  by_cases e : (pLoad z.2.2.2.2.1 z.2.2.2.1).1 = 0
  · have c3 := q3.1 e
    have hF := TF_load e
    obtain ⟨T, hTe⟩ : ∃ T, T = (pLoad z.2.2.2.2.1 z.2.2.2.1).2 := ⟨_, rfl⟩
    rw [← hTe] at c3 hF
    have el : lz z = (pgd T, pst T, none, 0, z.2.2.2.2.1, 0, -1) := by unfold lz; rw [if_pos e, hTe]
    have ev : lzv z = nI (gn (pgd T)) := by unfold lzv; rw [if_pos e, hTe]
    rw [ev, el] at kk
    have m24 := c3.1.1
    have m25 := c3.1.2.1
    simp only [e, xSeq, i_push, i_load, i_iload, i_lload, i_dload, i_aload, i_istore, i_astore, i_lstore, i_dstore, i_iinc, i_ii, i_iiz, i_ll, i_llz, i_lli, i_li, i_i, i_l, i_i2l, i_l2i, i_dup, i_dup2, i_dup2w, i_dupx1, i_pop, i_pop2, i_goto, i_ifc, i_icmp, i_getI, i_getL, i_getR, i_putI, i_putZ, i_putL, i_putR, i_aldI, i_aldB, i_aldL, i_aldD, i_astI, i_astL, i_astD, i_alen, i_ret, i_iret, i_zret, i_lret, i_fret, i_dret, i_aret, i_invS0, i_invV0, i_m2, i_m1, i_ml, i_obj, lk, lkp, stf1, stf2, Value.category, rV, xTo, lv_args, xCk, xCat, xRc, xAk, hg_S, hg_I, hg_J, hg_D, hg_R, hs_I, hs_J, hs_D, hs_R, uI_at, uJ_at, uD_at, uR_at, List.take_succ_cons, List.take_zero, List.drop_succ_cons, List.drop_zero, List.reverse_cons, List.reverse_nil, List.nil_append, List.cons_append, List.map_cons, List.map_nil, List.sum_cons, List.sum_nil, List.length_cons, List.length_nil, Option.toList_some, Option.toList_none, true_and, and_true, false_and, and_false, true_implies, false_implies, implies_true, not_true_eq_false, not_false_eq_true, ne_eq, if_true, if_false, Bool.and_true, Bool.true_and, decide_true, decide_false, reduceIte, reduceCtorEq, Bool.and_self, Bool.and_eq_true, decide_eq_true_eq, and_self, true_or, or_true, false_or, or_false, Nat.zero_add, Nat.add_zero, eq_self, Nat.reduceEqDiff, Nat.reduceLeDiff, Nat.reduceLT, Nat.reduceAdd, Nat.reduceSub, Nat.reduceMul, LM_out hM, m24, m25, i1_0, uI_at]
    obtain ⟨I6, hI6⟩ : ∃ I6, I6 = uI (uI (uI I5 200 21 0) 200 22 0) 200 23 (-1) := ⟨_, rfl⟩
    rw [← hI6]
    have f6 : ∀ p j, ¬ (p = 200 ∧ 21 ≤ j ∧ j ≤ 23) → I6 p j = I5 p j := fun p j hh => by
      rw [hI6, uI_at, if_neg (by omega), uI_at, if_neg (by omega), uI_at, if_neg (by omega)]
    refine L206_103 hM (MR_e c3.2.2 (fun j h1 => f6 _ _ (by omega)) (by funext j; exact f6 _ _ (by omega)) (by funext j; exact f6 _ _ (by omega)) (by funext j; exact f6 _ _ (by omega))) hF ⟨?_, ?_, ?_⟩ (fun I' J' y10 yB y0 y1 y2 y3 y4 y5 y6 y7 y9 ys y107 y151 yf yJ => ?_)
    · rw [f6 _ _ (by omega), fr _ _ (by omega) (by omega) (by omega) (by omega), hI3]; exact mB_lo (by decide) (by decide)
    · rw [f6 _ _ (by omega), fr _ _ (by omega) (by omega) (by omega) (by omega), hI3]; exact mB_lo (by decide) (by decide)
    · rw [f6 _ _ (by omega), fr _ _ (by omega) (by omega) (by omega) (by omega), hI3]; exact mB_lo (by decide) (by decide)
    refine kk I' J' ?_ (AM_load h hF (fun p j h1 h2 h3 h4 h5 h6 => ?_) yJ yB y0 y1 y10 ?_ y2 y3 y4 y5 y6 y7 y9 ys y107 ?_ ?_ ?_ y151) (fun p hp => ⟨?_, ?_⟩)
    · rw [yf _ _ (by decide) (by decide) (fun _ => by decide), f6 _ _ (by omega), fr _ _ (by omega) (by omega) (by omega) (by omega), hI3]; exact mB_19
    · rw [yf _ _ h1 h5 (fun q => by have := h6 q; omega), f6 _ _ (by omega), fr _ _ (by omega) (by omega) (by omega) (by omega), hI3]
      by_cases q : p = 200
      · subst q
        exact mB_200 (by have := h6 rfl; omega)
      · exact mB_fr q h1 h2
    · rw [yf _ _ (by decide) (by decide) (fun _ => by decide), f6 _ _ (by omega)]; exact c3.2.2.1.2.2.1
    · rw [yf _ _ (by decide) (by decide) (fun _ => by decide), hI6, uI_at, if_neg (by omega), uI_at, if_neg (by omega), uI_at, if_pos ⟨rfl, rfl⟩]
    · rw [yf _ _ (by decide) (by decide) (fun _ => by decide), hI6, uI_at, if_neg (by omega), uI_at, if_pos ⟨rfl, rfl⟩]
    · rw [yf _ _ (by decide) (by decide) (fun _ => by decide), hI6, uI_at, if_pos ⟨rfl, rfl⟩]
    · funext j
      rw [yf _ _ (by omega) (by unfold bM; omega) (fun _ => by omega), f6 _ _ (by omega), fr _ _ (by omega) (by omega) (by omega) (by omega), hI3, mB_fr (by omega) (by omega) (by omega)]
    · funext j
      rw [yJ, uJ_at, if_neg (by omega), uJ_at, if_neg (by omega)]
  · obtain ⟨m24, m25⟩ := q3.2 e
    have el : lz z = (z.1, z.2.1, z.2.2.1, 0, z.2.2.2.2.1, nI (pLoad z.2.2.2.2.1 z.2.2.2.1).1, nI (qS (pLoad z.2.2.2.2.1 z.2.2.2.1).2)) := by unfold lz; rw [if_neg e]
    have ev : lzv z = -1 := by unfold lzv; rw [if_neg e]
    rw [ev, el] at kk
    obtain ⟨ec, hec⟩ : ∃ ec, ec = nI (pLoad z.2.2.2.2.1 z.2.2.2.1).1 := ⟨_, rfl⟩
    obtain ⟨eo, heo⟩ : ∃ eo, eo = nI (qS (pLoad z.2.2.2.2.1 z.2.2.2.1).2) := ⟨_, rfl⟩
    rw [← hec, ← heo] at kk
    rw [← hec] at m24
    rw [← heo] at m25
    simp only [e, xSeq, i_push, i_load, i_iload, i_lload, i_dload, i_aload, i_istore, i_astore, i_lstore, i_dstore, i_iinc, i_ii, i_iiz, i_ll, i_llz, i_lli, i_li, i_i, i_l, i_i2l, i_l2i, i_dup, i_dup2, i_dup2w, i_dupx1, i_pop, i_pop2, i_goto, i_ifc, i_icmp, i_getI, i_getL, i_getR, i_putI, i_putZ, i_putL, i_putR, i_aldI, i_aldB, i_aldL, i_aldD, i_astI, i_astL, i_astD, i_alen, i_ret, i_iret, i_zret, i_lret, i_fret, i_dret, i_aret, i_invS0, i_invV0, i_m2, i_m1, i_ml, i_obj, lk, lkp, stf1, stf2, Value.category, rV, xTo, lv_args, xCk, xCat, xRc, xAk, hg_S, hg_I, hg_J, hg_D, hg_R, hs_I, hs_J, hs_D, hs_R, uI_at, uJ_at, uD_at, uR_at, List.take_succ_cons, List.take_zero, List.drop_succ_cons, List.drop_zero, List.reverse_cons, List.reverse_nil, List.nil_append, List.cons_append, List.map_cons, List.map_nil, List.sum_cons, List.sum_nil, List.length_cons, List.length_nil, Option.toList_some, Option.toList_none, true_and, and_true, false_and, and_false, true_implies, false_implies, implies_true, not_true_eq_false, not_false_eq_true, ne_eq, if_true, if_false, Bool.and_true, Bool.true_and, decide_true, decide_false, reduceIte, reduceCtorEq, Bool.and_self, Bool.and_eq_true, decide_eq_true_eq, and_self, true_or, or_true, false_or, or_false, Nat.zero_add, Nat.add_zero, eq_self, Nat.reduceEqDiff, Nat.reduceLeDiff, Nat.reduceLT, Nat.reduceAdd, Nat.reduceSub, Nat.reduceMul, LM_out hM, m24, m25, uI_at, h207b]
    obtain ⟨I6, hI6⟩ : ∃ I6, I6 = uI (cpr (uI (uI (uI I5 200 21 0) 200 22 ec) 200 23 eo) 301 300 144) 200 18 (nI z.1.2.2) := ⟨_, rfl⟩
    rw [← hI6]
    have f6 : ∀ p j, p ≠ 300 → ¬ (p = 200 ∧ (21 ≤ j ∧ j ≤ 23 ∨ j = 18)) → I6 p j = I5 p j := fun p j h1 hh => by
      rw [hI6, uI_at, if_neg (by omega), cpr_at, if_neg h1, uI_at, if_neg (by omega), uI_at, if_neg (by omega), uI_at, if_neg (by omega)]
    have g300 : I6 300 = I 300 := by
      funext j
      rw [hI6, uI_at, if_neg (by omega), cpr_at, if_pos rfl]
      by_cases q : j < 144
      · rw [if_pos q, uI_at, if_neg (by omega), uI_at, if_neg (by omega), uI_at, if_neg (by omega), fr _ _ (by omega) (by omega) (by omega) (by omega), hI3]
        exact mB_301 q
      · rw [if_neg q, uI_at, if_neg (by omega), uI_at, if_neg (by omega), uI_at, if_neg (by omega), fr _ _ (by omega) (by omega) (by omega) (by omega), hI3]
        exact mB_hi (by omega)
    have go : ∀ p j, p ≠ 200 → p ≠ 300 → p ≠ 301 → p ≠ 334 → p ≠ 335 → I6 p j = I p j := fun p j h0 h1 h2 h3 h4 => by
      rw [f6 p j h1 (by omega), fr _ _ (by omega) (by omega) h3 h4, hI3, mB_fr h0 h1 h2]
    have g2 : ∀ j, kf j → j ≠ 18 → j ≠ 21 → j ≠ 22 → j ≠ 23 → I6 200 j = I 200 j := fun j h0 h1 h2 h3 h4 => by
      unfold kf at h0
      rw [f6 200 j (by decide) (by omega), fr _ _ (by omega) (by omega) (by omega) (by omega), hI3, mB_200 (by omega)]
    have g18 : I6 200 18 = I 200 18 := by rw [hI6, uI_at, if_pos ⟨rfl, rfl⟩]; exact i18.symm
    -- the model's words but for the input
    have hA : AM z.1 z.2.1 z.2.2.1 z.2.2.2.1 z.2.2.2.2.1 z.2.2.2.2.2.1 z.2.2.2.2.2.2 S (uI (uI (uI I6 200 21 (I 200 21)) 200 22 (I 200 22)) 200 23 (I 200 23)) J R := by
      refine AM_fr h (fun _ _ _ => rfl) (fun _ _ _ => rfl) (fun p hp => ?_) (fun j hj => ?_) (fun _ _ => rfl) (fun _ _ => rfl)
      · funext j
        unfold kr at hp
        rw [uI_at, if_neg (by omega), uI_at, if_neg (by omega), uI_at, if_neg (by omega)]
        by_cases q : p = 300
        · subst q; rw [g300]
        · exact go p j (by omega) q (by omega) (by omega) (by omega)
      · rw [uI_at, uI_at, uI_at]
        by_cases q1 : j = 23
        · rw [if_pos ⟨rfl, q1⟩, q1]
        rw [if_neg (fun n => q1 n.2)]
        by_cases q2 : j = 22
        · rw [if_pos ⟨rfl, q2⟩, q2]
        rw [if_neg (fun n => q2 n.2)]
        by_cases q3 : j = 21
        · rw [if_pos ⟨rfl, q3⟩, q3]
        rw [if_neg (fun n => q3 n.2)]
        by_cases q4 : j = 18
        · rw [q4]; exact g18
        exact g2 j hj q4 q3 q2 q1
    refine kk I6 J ?_ (AM_in hA (fun p j hh => ?_) ?_ (fun j hj => absurd hj (Nat.not_lt_zero j)) ?_ ?_) (fun p hp => ⟨?_, rfl⟩)
    · rw [f6 _ _ (by decide) (by omega), fr _ _ (by omega) (by omega) (by omega) (by omega), hI3]; exact mB_19
    · rw [uI_at, if_neg (by omega), uI_at, if_neg (by omega), uI_at, if_neg (by omega)]
    · rw [hI6, uI_at, if_neg (by omega), cpr_at, if_neg (by decide), uI_at, if_neg (by omega), uI_at, if_neg (by omega), uI_at, if_pos ⟨rfl, rfl⟩]; rfl
    · rw [hI6, uI_at, if_neg (by omega), cpr_at, if_neg (by decide), uI_at, if_neg (by omega), uI_at, if_pos ⟨rfl, rfl⟩]
    · rw [hI6, uI_at, if_neg (by omega), cpr_at, if_neg (by decide), uI_at, if_pos ⟨rfl, rfl⟩]
    · funext j
      exact go p j (by omega) (by omega) (by omega) (by omega) (by omega)
end
