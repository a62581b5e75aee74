/-! ===== the model knows its levels ===== -/
section
variable {S : xS} {I : xI} {J : xJ} {D : xDb} {R : xR} {b : Nat × Nat} {Q : xQ} {n m : Nat} {fi se dg : Nat → Nat} {sb : Nat → Nat → Nat}
theorem R302_15 (hL : LM S R) {N : Nat} (hn : (13233 : Int32) = nI N) (hn2 : N = 13233) : ∀ (j i : Nat) (f : Nat → Int32), i + j = N → xRun xT 302 15 [(0, .ref 200), (1, .int (nI i))] [] (S, rI I 345 (fill f 0 i), J, D, R) b Q = xRun xT 302 35 [(0, .ref 200)] [] (S, rI I 345 (fill f 0 N), J, D, R) b Q
  | 0, i, f, hi => by
    have e : i = N := by omega
    subst e
    rw [e302_15]
    simp only [B302_15, xSeq, i_push, i_load, i_iload, i_lload, i_dload, i_aload, i_istore, i_astore, i_lstore, i_dstore, i_iinc, i_ii, i_iiz, i_ll, i_llz, i_lli, i_li, i_i, i_l, i_i2l, i_l2i, i_dup, i_dup2, i_dup2w, i_dupx1, i_pop, i_pop2, i_goto, i_ifc, i_icmp, i_getI, i_getL, i_getR, i_putI, i_putZ, i_putL, i_putR, i_aldI, i_aldB, i_aldL, i_aldD, i_astI, i_astL, i_astD, i_alen, i_ret, i_iret, i_zret, i_lret, i_fret, i_dret, i_aret, i_invS0, i_invV0, i_m2, i_m1, i_ml, i_obj, lk, lkp, stf1, stf2, Value.category, rV, xTo, lv_args, xCk, xCat, xRc, xAk, hg_S, hg_I, hg_J, hg_D, hg_R, hs_I, hs_J, hs_D, hs_R, uI_at, uJ_at, uD_at, uR_at, List.take_succ_cons, List.take_zero, List.drop_succ_cons, List.drop_zero, List.reverse_cons, List.reverse_nil, List.nil_append, List.cons_append, List.map_cons, List.map_nil, List.sum_cons, List.sum_nil, List.length_cons, List.length_nil, Option.toList_some, Option.toList_none, true_and, and_true, false_and, and_false, true_implies, false_implies, implies_true, not_true_eq_false, not_false_eq_true, ne_eq, if_true, if_false, Bool.and_true, Bool.true_and, decide_true, decide_false, reduceIte, reduceCtorEq, Bool.and_self, Bool.and_eq_true, decide_eq_true_eq, and_self, true_or, or_true, false_or, or_false, Nat.zero_add, Nat.add_zero, eq_self, Nat.reduceEqDiff, Nat.reduceLeDiff, Nat.reduceLT, Nat.reduceAdd, Nat.reduceSub, Nat.reduceMul, xi144_0, ix_0, xi144_1, ix_1, xi144_2, ix_2, xi144_3, ix_3, xi144_4, ix_4, xi144_5, ix_5, xi144_6, ix_6, xi144_7, ix_7, xi144_8, ix_8, xi144_9, ix_9, xi144_10, ix_10, LM_out hL, rI_at, hn, nI_leP (show i < 2147483648 by omega) (show i < 2147483648 by omega), Nat.le_refl]
  | j + 1, i, f, hi => by
    rw [e302_15]
    simp only [B302_15, xSeq, i_push, i_load, i_iload, i_lload, i_dload, i_aload, i_istore, i_astore, i_lstore, i_dstore, i_iinc, i_ii, i_iiz, i_ll, i_llz, i_lli, i_li, i_i, i_l, i_i2l, i_l2i, i_dup, i_dup2, i_dup2w, i_dupx1, i_pop, i_pop2, i_goto, i_ifc, i_icmp, i_getI, i_getL, i_getR, i_putI, i_putZ, i_putL, i_putR, i_aldI, i_aldB, i_aldL, i_aldD, i_astI, i_astL, i_astD, i_alen, i_ret, i_iret, i_zret, i_lret, i_fret, i_dret, i_aret, i_invS0, i_invV0, i_m2, i_m1, i_ml, i_obj, lk, lkp, stf1, stf2, Value.category, rV, xTo, lv_args, xCk, xCat, xRc, xAk, hg_S, hg_I, hg_J, hg_D, hg_R, hs_I, hs_J, hs_D, hs_R, uI_at, uJ_at, uD_at, uR_at, List.take_succ_cons, List.take_zero, List.drop_succ_cons, List.drop_zero, List.reverse_cons, List.reverse_nil, List.nil_append, List.cons_append, List.map_cons, List.map_nil, List.sum_cons, List.sum_nil, List.length_cons, List.length_nil, Option.toList_some, Option.toList_none, true_and, and_true, false_and, and_false, true_implies, false_implies, implies_true, not_true_eq_false, not_false_eq_true, ne_eq, if_true, if_false, Bool.and_true, Bool.true_and, decide_true, decide_false, reduceIte, reduceCtorEq, Bool.and_self, Bool.and_eq_true, decide_eq_true_eq, and_self, true_or, or_true, false_or, or_false, Nat.zero_add, Nat.add_zero, eq_self, Nat.reduceEqDiff, Nat.reduceLeDiff, Nat.reduceLT, Nat.reduceAdd, Nat.reduceSub, Nat.reduceMul, xi144_0, ix_0, xi144_1, ix_1, xi144_2, ix_2, xi144_3, ix_3, xi144_4, ix_4, xi144_5, ix_5, xi144_6, ix_6, xi144_7, ix_7, xi144_8, ix_8, xi144_9, ix_9, xi144_10, ix_10, LM_out hL, rI_at, hn, nI_leP (show N < 2147483648 by omega) (show i < 2147483648 by omega), show (N ≤ i) = False from eq_false (by omega), nI_inP (show i < 13233 by omega) (by decide), nI_ix (show i < 2147483648 by omega), uI_rI, fill_up, nI_1]
    exact R302_15 hL hn hn2 j (i + 1) f (by omega)
theorem R302_z (hL : LM S R) : ∃ f, (∀ k, k < 13233 → f k = 0) ∧ ∀ (J : xJ) (D : xDb) (b : Nat × Nat) (Q : xQ), xRun xT 302 15 [(0, .ref 200), (1, .int 0)] [] (S, I, J, D, R) b Q = xRun xT 302 35 [(0, .ref 200)] [] (S, rI I 345 f, J, D, R) b Q := by
  obtain ⟨N, hn2⟩ : ∃ N : Nat, N = 13233 := ⟨_, rfl⟩
  have hn : (13233 : Int32) = nI N := by rw [hn2]; decide
  refine ⟨fill (I 345) 0 N, fun k hk => by rw [fill_at, if_pos (by omega)], fun J D b Q => ?_⟩
  have h := R302_15 (I := I) (J := J) (D := D) (b := b) (Q := Q) hL hn hn2 N 0 (I 345) (by omega)
  rw [fill_0, rI_self, nI_0] at h
  exact h
theorem R303 (hL : LM S R) (h : I 300 10 = nI n) (hn : n < 31) : xRun xT 303 0 [(0, .ref 200)] [] (S, I, J, D, R) b Q = Q (.ok (some (.int (nI (2 ^ n))))) (S, I, J, D, R) b := by
  rw [e303_0]
  simp only [B303_0, xSeq, i_push, i_load, i_iload, i_lload, i_dload, i_aload, i_istore, i_astore, i_lstore, i_dstore, i_iinc, i_ii, i_iiz, i_ll, i_llz, i_lli, i_li, i_i, i_l, i_i2l, i_l2i, i_dup, i_dup2, i_dup2w, i_dupx1, i_pop, i_pop2, i_goto, i_ifc, i_icmp, i_getI, i_getL, i_getR, i_putI, i_putZ, i_putL, i_putR, i_aldI, i_aldB, i_aldL, i_aldD, i_astI, i_astL, i_astD, i_alen, i_ret, i_iret, i_zret, i_lret, i_fret, i_dret, i_aret, i_invS0, i_invV0, i_m2, i_m1, i_ml, i_obj, lk, lkp, stf1, stf2, Value.category, rV, xTo, lv_args, xCk, xCat, xRc, xAk, hg_S, hg_I, hg_J, hg_D, hg_R, hs_I, hs_J, hs_D, hs_R, uI_at, uJ_at, uD_at, uR_at, List.take_succ_cons, List.take_zero, List.drop_succ_cons, List.drop_zero, List.reverse_cons, List.reverse_nil, List.nil_append, List.cons_append, List.map_cons, List.map_nil, List.sum_cons, List.sum_nil, List.length_cons, List.length_nil, Option.toList_some, Option.toList_none, true_and, and_true, false_and, and_false, true_implies, false_implies, implies_true, not_true_eq_false, not_false_eq_true, ne_eq, if_true, if_false, Bool.and_true, Bool.true_and, decide_true, decide_false, reduceIte, reduceCtorEq, Bool.and_self, Bool.and_eq_true, decide_eq_true_eq, and_self, true_or, or_true, false_or, or_false, Nat.zero_add, Nat.add_zero, eq_self, Nat.reduceEqDiff, Nat.reduceLeDiff, Nat.reduceLT, Nat.reduceAdd, Nat.reduceSub, Nat.reduceMul, xi144_0, ix_0, xi144_1, ix_1, xi144_2, ix_2, xi144_3, ix_3, xi144_4, ix_4, xi144_5, ix_5, xi144_6, ix_6, xi144_7, ix_7, xi144_8, ix_8, xi144_9, ix_9, xi144_10, ix_10, LM_out hL, h, q_1shl hn]
/-- a set's lowest bit -/
theorem R304_2 {c : Nat} (hc : c < 2147483648) : ∀ (j k : Nat), k + j < 31 → c.testBit (k + j) = true → ∃ t, k ≤ t ∧ t ≤ k + j ∧ c.testBit t = true ∧ ∀ (S : xS) (I : xI) (J : xJ) (D : xDb) (R : xR) (b : Nat × Nat) (Q : xQ), xRun xT 304 2 [(1, .int (nI c)), (2, .int (nI k))] [] (S, I, J, D, R) b Q = Q (.ok (some (.int (nI t)))) (S, I, J, D, R) b
  | j, k, hk, hb => by
    have e1 : jShr (nI c) (nI k) &&& 1 = nI (c / 2 ^ k % 2) := by
      rw [i_shr hc (by omega), pk_andN (Nat.lt_of_le_of_lt (Nat.div_le_self _ _) (by omega)) 1 (by decide)]
    by_cases h : c.testBit k = true
    · refine ⟨k, Nat.le_refl k, Nat.le_add_right k j, h, fun S I J D R b Q => ?_⟩
      have e2 : c / 2 ^ k % 2 = 1 := by
        rw [Nat.testBit_eq_decide_div_mod_eq] at h
        exact of_decide_eq_true h
      rw [e304_2]
      simp only [B304_2, xSeq, i_push, i_load, i_iload, i_lload, i_dload, i_aload, i_istore, i_astore, i_lstore, i_dstore, i_iinc, i_ii, i_iiz, i_ll, i_llz, i_lli, i_li, i_i, i_l, i_i2l, i_l2i, i_dup, i_dup2, i_dup2w, i_dupx1, i_pop, i_pop2, i_goto, i_ifc, i_icmp, i_getI, i_getL, i_getR, i_putI, i_putZ, i_putL, i_putR, i_aldI, i_aldB, i_aldL, i_aldD, i_astI, i_astL, i_astD, i_alen, i_ret, i_iret, i_zret, i_lret, i_fret, i_dret, i_aret, i_invS0, i_invV0, i_m2, i_m1, i_ml, i_obj, lk, lkp, stf1, stf2, Value.category, rV, xTo, lv_args, xCk, xCat, xRc, xAk, hg_S, hg_I, hg_J, hg_D, hg_R, hs_I, hs_J, hs_D, hs_R, uI_at, uJ_at, uD_at, uR_at, List.take_succ_cons, List.take_zero, List.drop_succ_cons, List.drop_zero, List.reverse_cons, List.reverse_nil, List.nil_append, List.cons_append, List.map_cons, List.map_nil, List.sum_cons, List.sum_nil, List.length_cons, List.length_nil, Option.toList_some, Option.toList_none, true_and, and_true, false_and, and_false, true_implies, false_implies, implies_true, not_true_eq_false, not_false_eq_true, ne_eq, if_true, if_false, Bool.and_true, Bool.true_and, decide_true, decide_false, reduceIte, reduceCtorEq, Bool.and_self, Bool.and_eq_true, decide_eq_true_eq, and_self, true_or, or_true, false_or, or_false, Nat.zero_add, Nat.add_zero, eq_self, Nat.reduceEqDiff, Nat.reduceLeDiff, Nat.reduceLT, Nat.reduceAdd, Nat.reduceSub, Nat.reduceMul, e1, e2, show (nI 1 = 0) = False from eq_false (by decide), ne_eq, not_false_eq_true, e304_16, B304_16]
    · have e2 : c / 2 ^ k % 2 = 0 := by
        rw [Nat.testBit_eq_decide_div_mod_eq] at h
        have : ¬ c / 2 ^ k % 2 = 1 := fun e => h (decide_eq_true e)
        omega
      obtain ⟨j', rfl⟩ : ∃ j', j = j' + 1 := by
        cases j with
        | zero => exact absurd hb h
        | succ j => exact ⟨j, rfl⟩
      obtain ⟨t, t1, t2, t3, t4⟩ := R304_2 hc j' (k + 1) (by omega) (by rw [show k + 1 + j' = k + (j' + 1) by omega]; exact hb)
      refine ⟨t, by omega, by omega, t3, fun S I J D R b Q => ?_⟩
      rw [e304_2]
      simp only [B304_2, xSeq, i_push, i_load, i_iload, i_lload, i_dload, i_aload, i_istore, i_astore, i_lstore, i_dstore, i_iinc, i_ii, i_iiz, i_ll, i_llz, i_lli, i_li, i_i, i_l, i_i2l, i_l2i, i_dup, i_dup2, i_dup2w, i_dupx1, i_pop, i_pop2, i_goto, i_ifc, i_icmp, i_getI, i_getL, i_getR, i_putI, i_putZ, i_putL, i_putR, i_aldI, i_aldB, i_aldL, i_aldD, i_astI, i_astL, i_astD, i_alen, i_ret, i_iret, i_zret, i_lret, i_fret, i_dret, i_aret, i_invS0, i_invV0, i_m2, i_m1, i_ml, i_obj, lk, lkp, stf1, stf2, Value.category, rV, xTo, lv_args, xCk, xCat, xRc, xAk, hg_S, hg_I, hg_J, hg_D, hg_R, hs_I, hs_J, hs_D, hs_R, uI_at, uJ_at, uD_at, uR_at, List.take_succ_cons, List.take_zero, List.drop_succ_cons, List.drop_zero, List.reverse_cons, List.reverse_nil, List.nil_append, List.cons_append, List.map_cons, List.map_nil, List.sum_cons, List.sum_nil, List.length_cons, List.length_nil, Option.toList_some, Option.toList_none, true_and, and_true, false_and, and_false, true_implies, false_implies, implies_true, not_true_eq_false, not_false_eq_true, ne_eq, if_true, if_false, Bool.and_true, Bool.true_and, decide_true, decide_false, reduceIte, reduceCtorEq, Bool.and_self, Bool.and_eq_true, decide_eq_true_eq, and_self, true_or, or_true, false_or, or_false, Nat.zero_add, Nat.add_zero, eq_self, Nat.reduceEqDiff, Nat.reduceLeDiff, Nat.reduceLT, Nat.reduceAdd, Nat.reduceSub, Nat.reduceMul, e1, e2, show (nI 0 = 0) = True from eq_true (by decide), ne_eq, not_true_eq_false, nI_1]
      exact t4 S I J D R b Q
theorem bit_ex {c : Nat} (h0 : 0 < c) {n : Nat} (hc : c < 2 ^ n) : ∃ t, t < n ∧ c.testBit t = true := by
  refine Classical.byContradiction (fun h => ?_)
  have : c = 0 := by
    apply Nat.eq_of_testBit_eq
    intro i
    rw [Nat.zero_testBit]
    by_cases hi : i < n
    · cases hb : c.testBit i
      · rfl
      · exact absurd ⟨i, hi, hb⟩ h
    · exact Nat.testBit_lt_two_pow (Nat.lt_of_lt_of_le hc (Nat.pow_le_pow_right (by decide) (by omega)))
  omega
theorem R304 {c : Nat} (h0 : 0 < c) (hn : n ≤ 16) (hc : c < 2 ^ n) : ∃ t, t < n ∧ c.testBit t = true ∧ ∀ (S : xS) (I : xI) (J : xJ) (D : xDb) (R : xR) (b : Nat × Nat) (Q : xQ), xRun xT 304 0 [(0, .ref 200), (1, .int (nI c))] [] (S, I, J, D, R) b Q = Q (.ok (some (.int (nI t)))) (S, I, J, D, R) b := by
  have hp := pow16 hn
  obtain ⟨t0, h1, h2⟩ := bit_ex h0 hc
  obtain ⟨t, t1, t2, t3, t4⟩ := R304_2 (c := c) (by omega) t0 0 (by omega) (by rw [Nat.zero_add]; exact h2)
  refine ⟨t, by omega, t3, fun S I J D R b Q => ?_⟩
  have h := t4 S I J D R b Q
  rw [nI_0] at h
  rw [e304_0]
  simp only [B304_0, xSeq, i_push, i_load, i_iload, i_lload, i_dload, i_aload, i_istore, i_astore, i_lstore, i_dstore, i_iinc, i_ii, i_iiz, i_ll, i_llz, i_lli, i_li, i_i, i_l, i_i2l, i_l2i, i_dup, i_dup2, i_dup2w, i_dupx1, i_pop, i_pop2, i_goto, i_ifc, i_icmp, i_getI, i_getL, i_getR, i_putI, i_putZ, i_putL, i_putR, i_aldI, i_aldB, i_aldL, i_aldD, i_astI, i_astL, i_astD, i_alen, i_ret, i_iret, i_zret, i_lret, i_fret, i_dret, i_aret, i_invS0, i_invV0, i_m2, i_m1, i_ml, i_obj, lk, lkp, stf1, stf2, Value.category, rV, xTo, lv_args, xCk, xCat, xRc, xAk, hg_S, hg_I, hg_J, hg_D, hg_R, hs_I, hs_J, hs_D, hs_R, uI_at, uJ_at, uD_at, uR_at, List.take_succ_cons, List.take_zero, List.drop_succ_cons, List.drop_zero, List.reverse_cons, List.reverse_nil, List.nil_append, List.cons_append, List.map_cons, List.map_nil, List.sum_cons, List.sum_nil, List.length_cons, List.length_nil, Option.toList_some, Option.toList_none, true_and, and_true, false_and, and_false, true_implies, false_implies, implies_true, not_true_eq_false, not_false_eq_true, ne_eq, if_true, if_false, Bool.and_true, Bool.true_and, decide_true, decide_false, reduceIte, reduceCtorEq, Bool.and_self, Bool.and_eq_true, decide_eq_true_eq, and_self, true_or, or_true, false_or, or_false, Nat.zero_add, Nat.add_zero, eq_self, Nat.reduceEqDiff, Nat.reduceLeDiff, Nat.reduceLT, Nat.reduceAdd, Nat.reduceSub, Nat.reduceMul]
  exact h
theorem xor_lo {c t : Nat} (h : c.testBit t = true) : c ^^^ 2 ^ t < c ∧ (c ^^^ 2 ^ t).testBit t = false ∧ (c ^^^ 2 ^ t) ^^^ 2 ^ t = c := by
  have e1 : (c ^^^ 2 ^ t).testBit t = false := by
    rw [bit_x, h]
    simp
  refine ⟨?_, e1, ?_⟩
  · have e : c ^^^ 2 ^ t = c &&& (c ^^^ 2 ^ t) := Nat.eq_of_testBit_eq (fun i => by
      rw [Nat.testBit_and, bit_x]
      by_cases hi : t = i
      · subst hi
        rw [h]
        simp
      · rw [decide_eq_false hi]
        simp)
    exact Nat.lt_of_le_of_ne (by rw [e]; exact Nat.and_le_left) (xor_ne c t)
  · rw [Nat.xor_assoc, Nat.xor_self, Nat.xor_zero]
theorem L302_62 (hL : LM S R) (hG : GR n m fi se dg sb) (hN : GN n m fi se dg sb) (hC : CM I n m fi se dg sb) (hn : n ≤ 16)
    (kk : ∀ f g, (∀ c, c < 2 ^ n → f c = en (I 300 4) (fun k => I 300 (16 + k)) n m fi se c ∧ g c = mg n c) → xRun xT 302 122 [(0, .ref 200)] [] (S, rI (rI I 343 f) 344 g, J, D, R) b Q) :
    ∀ (j i : Nat) (f g : Nat → Int32), i + j = 2 ^ n → 0 < i → (∀ c, c < i → f c = en (I 300 4) (fun k => I 300 (16 + k)) n m fi se c ∧ g c = mg n c) → xRun xT 302 62 [(0, .ref 200), (1, .int (nI i))] [] (S, rI (rI I 343 f) 344 g, J, D, R) b Q
  | 0, i, f, g, hi, h0, hf => by
    have hp := pow16 hn
    have e : i = 2 ^ n := by omega
    subst e
    have h10 : rI (rI I 343 f) 344 g 300 10 = nI n := hC.1
    rw [e302_62]
    simp only [B302_62, xSeq, i_push, i_load, i_iload, i_lload, i_dload, i_aload, i_istore, i_astore, i_lstore, i_dstore, i_iinc, i_ii, i_iiz, i_ll, i_llz, i_lli, i_li, i_i, i_l, i_i2l, i_l2i, i_dup, i_dup2, i_dup2w, i_dupx1, i_pop, i_pop2, i_goto, i_ifc, i_icmp, i_getI, i_getL, i_getR, i_putI, i_putZ, i_putL, i_putR, i_aldI, i_aldB, i_aldL, i_aldD, i_astI, i_astL, i_astD, i_alen, i_ret, i_iret, i_zret, i_lret, i_fret, i_dret, i_aret, i_invS0, i_invV0, i_m2, i_m1, i_ml, i_obj, lk, lkp, stf1, stf2, Value.category, rV, xTo, lv_args, xCk, xCat, xRc, xAk, hg_S, hg_I, hg_J, hg_D, hg_R, hs_I, hs_J, hs_D, hs_R, uI_at, uJ_at, uD_at, uR_at, List.take_succ_cons, List.take_zero, List.drop_succ_cons, List.drop_zero, List.reverse_cons, List.reverse_nil, List.nil_append, List.cons_append, List.map_cons, List.map_nil, List.sum_cons, List.sum_nil, List.length_cons, List.length_nil, Option.toList_some, Option.toList_none, true_and, and_true, false_and, and_false, true_implies, false_implies, implies_true, not_true_eq_false, not_false_eq_true, ne_eq, if_true, if_false, Bool.and_true, Bool.true_and, decide_true, decide_false, reduceIte, reduceCtorEq, Bool.and_self, Bool.and_eq_true, decide_eq_true_eq, and_self, true_or, or_true, false_or, or_false, Nat.zero_add, Nat.add_zero, eq_self, Nat.reduceEqDiff, Nat.reduceLeDiff, Nat.reduceLT, Nat.reduceAdd, Nat.reduceSub, Nat.reduceMul, LM_out hL, R303 hL h10 (show n < 31 by omega), nI_leP (show 2 ^ n < 2147483648 by omega) (show 2 ^ n < 2147483648 by omega), Nat.le_refl]
    exact kk f g hf
  | j + 1, i, f, g, hi, h0, hf => by
    have hp := pow16 hn
    have hc : i < 2 ^ n := by omega
    obtain ⟨t, t1, t2, t3⟩ := R304 h0 hn hc
    obtain ⟨x1, x2, x3⟩ := xor_lo t2
    have h10 : rI (rI I 343 f) 344 g 300 10 = nI n := hC.1
    have h257 := fun (b : Nat × Nat) (Q : xQ) => R257 (S := S) (I := rI (rI I 343 f) 344 g) (J := J) (D := D) (b := b) (Q := Q) hL hG (CM_r (CM_r hC (by decide)) (by decide)) (s := i ^^^ 2 ^ t) (t := t) (by omega) t1
    have eF : rI (rI I 343 f) 344 g 300 4 = I 300 4 := rfl
    have eS : (fun k => rI (rI I 343 f) 344 g 300 (16 + k)) = fun k => I 300 (16 + k) := rfl
    rw [eF, eS] at h257
    have f1 := hf _ x1
    have y1 := en_x hN (I 300 4) (fun k => I 300 (16 + k)) (i ^^^ 2 ^ t) t t1
    rw [x3] at y1
    have y2 := mg_x n (i ^^^ 2 ^ t) t t1
    rw [x3, x2] at y2
    have y3 : mg n (i ^^^ 2 ^ t) + 2 = mg n i := by
      rw [y2]
      show _ = mg n (i ^^^ 2 ^ t) + -2 * (-1)
      rfl
    have sw : ∀ (k : Nat) (v : Int32), uI (rI (rI I 343 f) 344 g) 343 k v = rI (rI I 343 (up f k v)) 344 g := fun k v => by
      rw [uI_swap _ (by decide), uI_rI]
    rw [e302_62]
    simp only [B302_62, xSeq, i_push, i_load, i_iload, i_lload, i_dload, i_aload, i_istore, i_astore, i_lstore, i_dstore, i_iinc, i_ii, i_iiz, i_ll, i_llz, i_lli, i_li, i_i, i_l, i_i2l, i_l2i, i_dup, i_dup2, i_dup2w, i_dupx1, i_pop, i_pop2, i_goto, i_ifc, i_icmp, i_getI, i_getL, i_getR, i_putI, i_putZ, i_putL, i_putR, i_aldI, i_aldB, i_aldL, i_aldD, i_astI, i_astL, i_astD, i_alen, i_ret, i_iret, i_zret, i_lret, i_fret, i_dret, i_aret, i_invS0, i_invV0, i_m2, i_m1, i_ml, i_obj, lk, lkp, stf1, stf2, Value.category, rV, xTo, lv_args, xCk, xCat, xRc, xAk, hg_S, hg_I, hg_J, hg_D, hg_R, hs_I, hs_J, hs_D, hs_R, uI_at, uJ_at, uD_at, uR_at, List.take_succ_cons, List.take_zero, List.drop_succ_cons, List.drop_zero, List.reverse_cons, List.reverse_nil, List.nil_append, List.cons_append, List.map_cons, List.map_nil, List.sum_cons, List.sum_nil, List.length_cons, List.length_nil, Option.toList_some, Option.toList_none, true_and, and_true, false_and, and_false, true_implies, false_implies, implies_true, not_true_eq_false, not_false_eq_true, ne_eq, if_true, if_false, Bool.and_true, Bool.true_and, decide_true, decide_false, reduceIte, reduceCtorEq, Bool.and_self, Bool.and_eq_true, decide_eq_true_eq, and_self, true_or, or_true, false_or, or_false, Nat.zero_add, Nat.add_zero, eq_self, Nat.reduceEqDiff, Nat.reduceLeDiff, Nat.reduceLT, Nat.reduceAdd, Nat.reduceSub, Nat.reduceMul, LM_out hL, R303 hL h10 (show n < 31 by omega), nI_leP (show 2 ^ n < 2147483648 by omega) (show i < 2147483648 by omega), show (2 ^ n ≤ i) = False from eq_false (by omega), t3, q_1shl (show t < 31 by omega), i_xorN, nI_l (show i ^^^ 2 ^ t < 2147483648 by omega), h257, rI_at, nI_inP (show i < 65536 by omega) (by decide), nI_ix (show i < 2147483648 by omega), nI_inP (show i ^^^ 2 ^ t < 65536 by omega) (by decide), nI_ix (show i ^^^ 2 ^ t < 2147483648 by omega), f1.1, f1.2, ← y1, y3, sw, uI_rI, nI_1]
    refine L302_62 hL hG hN hC hn kk j (i + 1) _ _ (by omega) (by omega) (fun c hc2 => ?_)
    rw [up_at, up_at]
    by_cases e : c = i
    · rw [if_pos e, if_pos e, e]
      exact ⟨rfl, rfl⟩
    · rw [if_neg e, if_neg e]
      exact hf c (by omega)
variable {E : Nat → Int32}
theorem L302_124 (hL : LM S R) (hB : EB E n) (h10 : I 300 10 = nI n) (he : ∀ c, c < 2 ^ n → I 343 c = E c ∧ I 344 c = mg n c)
    (kk : ∀ f, (∀ k, k < 13233 → f k = nI (cM E n k)) → xRun xT 302 170 [(0, .ref 200)] [] (S, rI I 345 f, J, D, R) b Q) :
    ∀ (j i : Nat) (f : Nat → Int32), i + j = 2 ^ n → (∀ k, k < 13233 → f k = nI (ct (fun c => decide (yM E n c = k)) i)) → xRun xT 302 124 [(0, .ref 200), (1, .int (nI i))] [] (S, rI I 345 f, J, D, R) b Q
  | 0, i, f, hi, hf => by
    have hp := pow16 hB.1
    have hn := hB.1
    have e : i = 2 ^ n := by omega
    subst e
    have h10' : rI I 345 f 300 10 = nI n := h10
    rw [e302_124]
    simp only [B302_124, xSeq, i_push, i_load, i_iload, i_lload, i_dload, i_aload, i_istore, i_astore, i_lstore, i_dstore, i_iinc, i_ii, i_iiz, i_ll, i_llz, i_lli, i_li, i_i, i_l, i_i2l, i_l2i, i_dup, i_dup2, i_dup2w, i_dupx1, i_pop, i_pop2, i_goto, i_ifc, i_icmp, i_getI, i_getL, i_getR, i_putI, i_putZ, i_putL, i_putR, i_aldI, i_aldB, i_aldL, i_aldD, i_astI, i_astL, i_astD, i_alen, i_ret, i_iret, i_zret, i_lret, i_fret, i_dret, i_aret, i_invS0, i_invV0, i_m2, i_m1, i_ml, i_obj, lk, lkp, stf1, stf2, Value.category, rV, xTo, lv_args, xCk, xCat, xRc, xAk, hg_S, hg_I, hg_J, hg_D, hg_R, hs_I, hs_J, hs_D, hs_R, uI_at, uJ_at, uD_at, uR_at, List.take_succ_cons, List.take_zero, List.drop_succ_cons, List.drop_zero, List.reverse_cons, List.reverse_nil, List.nil_append, List.cons_append, List.map_cons, List.map_nil, List.sum_cons, List.sum_nil, List.length_cons, List.length_nil, Option.toList_some, Option.toList_none, true_and, and_true, false_and, and_false, true_implies, false_implies, implies_true, not_true_eq_false, not_false_eq_true, ne_eq, if_true, if_false, Bool.and_true, Bool.true_and, decide_true, decide_false, reduceIte, reduceCtorEq, Bool.and_self, Bool.and_eq_true, decide_eq_true_eq, and_self, true_or, or_true, false_or, or_false, Nat.zero_add, Nat.add_zero, eq_self, Nat.reduceEqDiff, Nat.reduceLeDiff, Nat.reduceLT, Nat.reduceAdd, Nat.reduceSub, Nat.reduceMul, LM_out hL, R303 hL h10' (show n < 31 by omega), nI_leP (show 2 ^ n < 2147483648 by omega) (show 2 ^ n < 2147483648 by omega), Nat.le_refl]
    exact kk f hf
  | j + 1, i, f, hi, hf => by
    have hp := pow16 hB.1
    have hn := hB.1
    have hc : i < 2 ^ n := by omega
    have h10' : rI I 345 f 300 10 = nI n := h10
    obtain ⟨-, h1, h2, -⟩ := eN_ok hB hc
    obtain ⟨-, h4⟩ := yM_ok hB hc
    have h5 := pop_le n i
    have e1 : (33 * nI (eN E i + 56) + mg n i + 16 : Int32) = nI (yM E n i) := by
      have e2 : nI (2 * pop n i + 16 - n) + nI n = 2 * nI (pop n i) + 16 := by
        rw [nI_add, show 2 * pop n i + 16 - n + n = 2 * pop n i + 16 by omega, ← nI_add, ← pk_mul]
        rfl
      rw [mg_pop]
      unfold yM
      rw [← nI_add (33 * _), ← pk_mul 33, show nI 33 = 33 from rfl]
      grind
    rw [e302_124]
    simp only [B302_124, xSeq, i_push, i_load, i_iload, i_lload, i_dload, i_aload, i_istore, i_astore, i_lstore, i_dstore, i_iinc, i_ii, i_iiz, i_ll, i_llz, i_lli, i_li, i_i, i_l, i_i2l, i_l2i, i_dup, i_dup2, i_dup2w, i_dupx1, i_pop, i_pop2, i_goto, i_ifc, i_icmp, i_getI, i_getL, i_getR, i_putI, i_putZ, i_putL, i_putR, i_aldI, i_aldB, i_aldL, i_aldD, i_astI, i_astL, i_astD, i_alen, i_ret, i_iret, i_zret, i_lret, i_fret, i_dret, i_aret, i_invS0, i_invV0, i_m2, i_m1, i_ml, i_obj, lk, lkp, stf1, stf2, Value.category, rV, xTo, lv_args, xCk, xCat, xRc, xAk, hg_S, hg_I, hg_J, hg_D, hg_R, hs_I, hs_J, hs_D, hs_R, uI_at, uJ_at, uD_at, uR_at, List.take_succ_cons, List.take_zero, List.drop_succ_cons, List.drop_zero, List.reverse_cons, List.reverse_nil, List.nil_append, List.cons_append, List.map_cons, List.map_nil, List.sum_cons, List.sum_nil, List.length_cons, List.length_nil, Option.toList_some, Option.toList_none, true_and, and_true, false_and, and_false, true_implies, false_implies, implies_true, not_true_eq_false, not_false_eq_true, ne_eq, if_true, if_false, Bool.and_true, Bool.true_and, decide_true, decide_false, reduceIte, reduceCtorEq, Bool.and_self, Bool.and_eq_true, decide_eq_true_eq, and_self, true_or, or_true, false_or, or_false, Nat.zero_add, Nat.add_zero, eq_self, Nat.reduceEqDiff, Nat.reduceLeDiff, Nat.reduceLT, Nat.reduceAdd, Nat.reduceSub, Nat.reduceMul, LM_out hL, R303 hL h10' (show n < 31 by omega), rI_at, nI_leP (show 2 ^ n < 2147483648 by omega) (show i < 2147483648 by omega), show (2 ^ n ≤ i) = False from eq_false (by omega), nI_inP (show i < 65536 by omega) (by decide), nI_ix (show i < 2147483648 by omega), (he i hc).1, (he i hc).2, h1, e1, nI_inP h4 (by decide), nI_ix (show yM E n i < 2147483648 by omega), uI_rI, nI_1]
    refine L302_124 hL hB h10 he kk j (i + 1) _ (by omega) (fun k hk => ?_)
    rw [up_at, ct]
    by_cases e : k = yM E n i
    · rw [if_pos e, e, hf _ h4, if_pos (decide_eq_true rfl), nI_1]
    · rw [if_neg e, hf k hk, if_neg (fun h => e (of_decide_eq_true h).symm), Nat.add_zero]
def kvH (I : xI) (m : Nat) (w4 w5 w6 : Nat → Int32) : xI := fun o k => if o = 346 then w4 k else if o = 347 then w5 k else if o = 348 then w6 k else if o = 200 ∧ k = 49 then nI m else I o k
theorem kvH_at (I : xI) (m : Nat) (w4 w5 w6 : Nat → Int32) (o k : Nat) : kvH I m w4 w5 w6 o k = if o = 346 then w4 k else if o = 347 then w5 k else if o = 348 then w6 k else if o = 200 ∧ k = 49 then nI m else I o k := rfl
theorem kvH_add (I : xI) (m : Nat) (w4 w5 w6 : Nat → Int32) (x y z : Int32) : uI (uI (uI (uI (kvH I m w4 w5 w6) 346 m x) 347 m y) 348 m z) 200 49 (nI (m + 1)) = kvH I (m + 1) (up w4 m x) (up w5 m y) (up w6 m z) := by
  funext o k
  simp only [uI_at, kvH_at, up_at]
  by_cases h1 : o = 346
  · subst h1; simp
  · by_cases h2 : o = 347
    · subst h2; simp
    · by_cases h3 : o = 348
      · subst h3; simp
      · by_cases h4 : o = 200 ∧ k = 49
        · simp [h4]
        · simp [h1, h2, h3, h4]
theorem kvH_0 (I : xI) (m : Nat) (h : I 200 49 = nI m) : kvH I m (I 346) (I 347) (I 348) = I := by
  funext o k
  rw [kvH_at]
  split
  · rename_i e; rw [e]
  · split
    · rename_i e; rw [e]
    · split
      · rename_i e; rw [e]
      · split
        · rename_i e; rw [e.1, e.2, h]
        · rfl
theorem L302_177 (hL : LM S R) (hB : EB E n) {N : Nat} (hN : (13233 : Int32) = nI N) (hN2 : N = 13233) (ht : ∀ k, k < 13233 → I 345 k = nI (cM E n k))
    (kk : ∀ w4 w5 w6, GL (fl (fun k => decide (0 < cM E n k)) N) (fun k => nI (k / 33) - 200) (fun k => nI (k % 33) - 16) (fun k => nI (cM E n k)) w4 w5 w6 → xRun xT 302 260 [(0, .ref 200)] [] (S, kvH I (fl (fun k => decide (0 < cM E n k)) N).length w4 w5 w6, J, D, R) b Q)
    (hlen : ∀ k, k ≤ N → (fl (fun k => decide (0 < cM E n k)) k).length ≤ 4913) :
    ∀ (j k : Nat) (w4 w5 w6 : Nat → Int32), k + j = N → GL (fl (fun k => decide (0 < cM E n k)) k) (fun k => nI (k / 33) - 200) (fun k => nI (k % 33) - 16) (fun k => nI (cM E n k)) w4 w5 w6 → xRun xT 302 177 [(0, .ref 200), (1, .int (nI k))] [] (S, kvH I (fl (fun k => decide (0 < cM E n k)) k).length w4 w5 w6, J, D, R) b Q
  | 0, k, w4, w5, w6, hk, hg => by
    have e : k = N := by omega
    subst e
    rw [e302_177]
    simp only [B302_177, xSeq, i_push, i_load, i_iload, i_lload, i_dload, i_aload, i_istore, i_astore, i_lstore, i_dstore, i_iinc, i_ii, i_iiz, i_ll, i_llz, i_lli, i_li, i_i, i_l, i_i2l, i_l2i, i_dup, i_dup2, i_dup2w, i_dupx1, i_pop, i_pop2, i_goto, i_ifc, i_icmp, i_getI, i_getL, i_getR, i_putI, i_putZ, i_putL, i_putR, i_aldI, i_aldB, i_aldL, i_aldD, i_astI, i_astL, i_astD, i_alen, i_ret, i_iret, i_zret, i_lret, i_fret, i_dret, i_aret, i_invS0, i_invV0, i_m2, i_m1, i_ml, i_obj, lk, lkp, stf1, stf2, Value.category, rV, xTo, lv_args, xCk, xCat, xRc, xAk, hg_S, hg_I, hg_J, hg_D, hg_R, hs_I, hs_J, hs_D, hs_R, uI_at, uJ_at, uD_at, uR_at, List.take_succ_cons, List.take_zero, List.drop_succ_cons, List.drop_zero, List.reverse_cons, List.reverse_nil, List.nil_append, List.cons_append, List.map_cons, List.map_nil, List.sum_cons, List.sum_nil, List.length_cons, List.length_nil, Option.toList_some, Option.toList_none, true_and, and_true, false_and, and_false, true_implies, false_implies, implies_true, not_true_eq_false, not_false_eq_true, ne_eq, if_true, if_false, Bool.and_true, Bool.true_and, decide_true, decide_false, reduceIte, reduceCtorEq, Bool.and_self, Bool.and_eq_true, decide_eq_true_eq, and_self, true_or, or_true, false_or, or_false, Nat.zero_add, Nat.add_zero, eq_self, Nat.reduceEqDiff, Nat.reduceLeDiff, Nat.reduceLT, Nat.reduceAdd, Nat.reduceSub, Nat.reduceMul, LM_out hL, hN, nI_leP (show k < 2147483648 by omega) (show k < 2147483648 by omega), Nat.le_refl]
    exact kk w4 w5 w6 hg
  | j + 1, k, w4, w5, w6, hk, hg => by
    obtain ⟨m, hm⟩ : ∃ m, m = (fl (fun k => decide (0 < cM E n k)) k).length := ⟨_, rfl⟩
    have hml : m ≤ 4913 := by rw [hm]; exact hlen k (by omega)
    have ht' : kvH I m w4 w5 w6 345 k = nI (cM E n k) := ht k (by omega)
    have hm' : kvH I m w4 w5 w6 200 49 = nI m := rfl
    have hkk := ht k (by omega)
    have e33 : ((33 : Int32) = 0) = False := eq_false (by decide)
    have d1 : (nI k / 33 : Int32) = nI (k / 33) := by rw [show (33 : Int32) = nI 33 from rfl]; exact pk_div (by omega) (by decide) (by decide)
    have d2 : jRem (nI k) 33 = nI (k % 33) := by rw [show (33 : Int32) = nI 33 from rfl]; exact q_rem (by omega) (by decide) (by decide)
    have ih := L302_177 hL hB hN hN2 ht kk hlen j (k + 1)
    have hcc : cM E n k ≤ 2 ^ n := ct_le _ _
    have hp := pow16 hB.1
    have e7 : (nI (cM E n k) = 0) = (cM E n k = 0) := by rw [show (0 : Int32) = nI 0 from rfl, nI_iff (by omega) (by decide)]
    rw [← hm]
    rw [e302_177]
    simp only [B302_177, xSeq, i_push, i_load, i_iload, i_lload, i_dload, i_aload, i_istore, i_astore, i_lstore, i_dstore, i_iinc, i_ii, i_iiz, i_ll, i_llz, i_lli, i_li, i_i, i_l, i_i2l, i_l2i, i_dup, i_dup2, i_dup2w, i_dupx1, i_pop, i_pop2, i_goto, i_ifc, i_icmp, i_getI, i_getL, i_getR, i_putI, i_putZ, i_putL, i_putR, i_aldI, i_aldB, i_aldL, i_aldD, i_astI, i_astL, i_astD, i_alen, i_ret, i_iret, i_zret, i_lret, i_fret, i_dret, i_aret, i_invS0, i_invV0, i_m2, i_m1, i_ml, i_obj, lk, lkp, stf1, stf2, Value.category, rV, xTo, lv_args, xCk, xCat, xRc, xAk, hg_S, hg_I, hg_J, hg_D, hg_R, hs_I, hs_J, hs_D, hs_R, uI_at, uJ_at, uD_at, uR_at, List.take_succ_cons, List.take_zero, List.drop_succ_cons, List.drop_zero, List.reverse_cons, List.reverse_nil, List.nil_append, List.cons_append, List.map_cons, List.map_nil, List.sum_cons, List.sum_nil, List.length_cons, List.length_nil, Option.toList_some, Option.toList_none, true_and, and_true, false_and, and_false, true_implies, false_implies, implies_true, not_true_eq_false, not_false_eq_true, ne_eq, if_true, if_false, Bool.and_true, Bool.true_and, decide_true, decide_false, reduceIte, reduceCtorEq, Bool.and_self, Bool.and_eq_true, decide_eq_true_eq, and_self, true_or, or_true, false_or, or_false, Nat.zero_add, Nat.add_zero, eq_self, Nat.reduceEqDiff, Nat.reduceLeDiff, Nat.reduceLT, Nat.reduceAdd, Nat.reduceSub, Nat.reduceMul, LM_out hL, hN, nI_leP (show N < 2147483648 by omega) (show k < 2147483648 by omega), show (N ≤ k) = False from eq_false (by omega), nI_inP (show k < 13233 by omega) (by decide), nI_ix (show k < 2147483648 by omega), ht', e7, e302_254, B302_254, nI_1]
    by_cases hc : 0 < cM E n k
    · have hc0 : (cM E n k = 0) = False := eq_false (by omega)
      simp only [hc0, ne_eq, not_false_eq_true, xSeq, i_push, i_load, i_iload, i_lload, i_dload, i_aload, i_istore, i_astore, i_lstore, i_dstore, i_iinc, i_ii, i_iiz, i_ll, i_llz, i_lli, i_li, i_i, i_l, i_i2l, i_l2i, i_dup, i_dup2, i_dup2w, i_dupx1, i_pop, i_pop2, i_goto, i_ifc, i_icmp, i_getI, i_getL, i_getR, i_putI, i_putZ, i_putL, i_putR, i_aldI, i_aldB, i_aldL, i_aldD, i_astI, i_astL, i_astD, i_alen, i_ret, i_iret, i_zret, i_lret, i_fret, i_dret, i_aret, i_invS0, i_invV0, i_m2, i_m1, i_ml, i_obj, lk, lkp, stf1, stf2, Value.category, rV, xTo, lv_args, xCk, xCat, xRc, xAk, hg_S, hg_I, hg_J, hg_D, hg_R, hs_I, hs_J, hs_D, hs_R, uI_at, uJ_at, uD_at, uR_at, List.take_succ_cons, List.take_zero, List.drop_succ_cons, List.drop_zero, List.reverse_cons, List.reverse_nil, List.nil_append, List.cons_append, List.map_cons, List.map_nil, List.sum_cons, List.sum_nil, List.length_cons, List.length_nil, Option.toList_some, Option.toList_none, true_and, and_true, false_and, and_false, true_implies, false_implies, implies_true, not_true_eq_false, not_false_eq_true, ne_eq, if_true, if_false, Bool.and_true, Bool.true_and, decide_true, decide_false, reduceIte, reduceCtorEq, Bool.and_self, Bool.and_eq_true, decide_eq_true_eq, and_self, true_or, or_true, false_or, or_false, Nat.zero_add, Nat.add_zero, eq_self, Nat.reduceEqDiff, Nat.reduceLeDiff, Nat.reduceLT, Nat.reduceAdd, Nat.reduceSub, Nat.reduceMul, e302_196, B302_196, LM_out hL, uI_at, hm', ht', e33, d1, d2, nI_inP (show m < 6000 by omega) (by decide), nI_ix (show m < 2147483648 by omega), nI_inP (show k < 13233 by omega) (by decide), nI_ix (show k < 2147483648 by omega), nI_1, kvH_add, e302_254, B302_254]
      have e8 := lv_up (p := fun k => decide (0 < cM E n k)) (k := k) (decide_eq_true hc)
      have hg2 := GL_add hg k
      rw [← e8, ← hm] at hg2
      have ih2 := ih _ _ _ (by omega) hg2
      have e9 : (fl (fun k => decide (0 < cM E n k)) (k + 1)).length = m + 1 := by
        rw [e8, List.length_append, ← hm]
        rfl
      rw [e9] at ih2
      exact ih2
    · have hc0 : (cM E n k = 0) = True := eq_true (by omega)
      have e8 := lv_no (p := fun k => decide (0 < cM E n k)) (k := k) (fun h => hc (of_decide_eq_true h))
      simp only [hc0, ne_eq, not_true_eq_false, xSeq, i_push, i_load, i_iload, i_lload, i_dload, i_aload, i_istore, i_astore, i_lstore, i_dstore, i_iinc, i_ii, i_iiz, i_ll, i_llz, i_lli, i_li, i_i, i_l, i_i2l, i_l2i, i_dup, i_dup2, i_dup2w, i_dupx1, i_pop, i_pop2, i_goto, i_ifc, i_icmp, i_getI, i_getL, i_getR, i_putI, i_putZ, i_putL, i_putR, i_aldI, i_aldB, i_aldL, i_aldD, i_astI, i_astL, i_astD, i_alen, i_ret, i_iret, i_zret, i_lret, i_fret, i_dret, i_aret, i_invS0, i_invV0, i_m2, i_m1, i_ml, i_obj, lk, lkp, stf1, stf2, Value.category, rV, xTo, lv_args, xCk, xCat, xRc, xAk, hg_S, hg_I, hg_J, hg_D, hg_R, hs_I, hs_J, hs_D, hs_R, uI_at, uJ_at, uD_at, uR_at, List.take_succ_cons, List.take_zero, List.drop_succ_cons, List.drop_zero, List.reverse_cons, List.reverse_nil, List.nil_append, List.cons_append, List.map_cons, List.map_nil, List.sum_cons, List.sum_nil, List.length_cons, List.length_nil, Option.toList_some, Option.toList_none, true_and, and_true, false_and, and_false, true_implies, false_implies, implies_true, not_true_eq_false, not_false_eq_true, ne_eq, if_true, if_false, Bool.and_true, Bool.true_and, decide_true, decide_false, reduceIte, reduceCtorEq, Bool.and_self, Bool.and_eq_true, decide_eq_true_eq, and_self, true_or, or_true, false_or, or_false, Nat.zero_add, Nat.add_zero, eq_self, Nat.reduceEqDiff, Nat.reduceLeDiff, Nat.reduceLT, Nat.reduceAdd, Nat.reduceSub, Nat.reduceMul]
      have ih2 := ih w4 w5 w6 (by omega) (by rw [e8]; exact hg)
      rw [e8, ← hm] at ih2
      exact ih2
/-- the model knows its levels -/
def XM (n : Nat) (E : Nat → Int32) (I : xI) : Prop := I 200 51 = 1 ∧ I 200 49 = nI (lv E n).length ∧ I 200 50 = gE ((lv E n).getD 0 0) ∧ GL (lv E n) gE (gM n) (gN E n) (I 346) (I 347) (I 348) ∧ ∀ c, c < 2 ^ n → I 343 c = E c
/-- what knowing may change -/
abbrev nm (o k : Nat) : Prop := (343 ≤ o ∧ o ≤ 348) ∨ (o = 200 ∧ 49 ≤ k ∧ k ≤ 51)
theorem fl_mono (p : Nat → Bool) : ∀ (d a : Nat), (fl p a).length ≤ (fl p (a + d)).length
  | 0, _ => Nat.le_refl _
  | d + 1, a => by
    have := fl_mono p d a
    show _ ≤ (fl p (a + d + 1)).length
    rw [fl]
    split
    · rw [List.length_append]
      omega
    · exact this
theorem L302 (hL : LM S R) (hG : GR n m fi se dg sb) (hN : GN n m fi se dg sb) (hC : CM I n m fi se dg sb) (hn : n ≤ 16) (hm : m ≤ 32) (hs : SB (I 300 4) (fun k => I 300 (16 + k)) m) (hz : I 200 51 = 0)
    (kk : ∀ I', XM n (en (I 300 4) (fun k => I 300 (16 + k)) n m fi se) I' → (∀ o k, ¬ nm o k → I' o k = I o k) → Q (.ok none) (S, I', J, D, R) b) :
    xRun xT 302 0 [(0, .ref 200)] [] (S, I, J, D, R) b Q := by
  have hp := pow16 hn
  have hp0 := Nat.two_pow_pos n
  obtain ⟨E, hE⟩ : ∃ E, E = en (I 300 4) (fun k => I 300 (16 + k)) n m fi se := ⟨_, rfl⟩
  rw [← hE] at kk
  have hB : EB E n := by rw [hE]; exact en_EB hs hn hm
  obtain ⟨f0, z1, z2⟩ := R302_z (I := uI I 200 51 1) hL
  obtain ⟨I1, hI1⟩ : ∃ I1, I1 = rI (uI I 200 51 1) 345 f0 := ⟨_, rfl⟩
  have c300 : I1 300 = I 300 := by rw [hI1]; rfl
  have hC1 : CM I1 n m fi se dg sb := by rw [hI1]; exact CM_r (CM_u hC (by decide)) (by decide)
  have hF : I1 300 4 = I 300 4 := by rw [c300]
  have hS : (fun k => I1 300 (16 + k)) = fun k => I 300 (16 + k) := by rw [c300]
  have h250 : ∀ (b : Nat × Nat) (Q : xQ), xRun xT 250 0 [(0, .ref 200), (1, .long 0)] [] (S, I1, J, D, R) b Q = Q (.ok (some (.int (en (I1 300 4) (fun k => I1 300 (16 + k)) n m fi se 0)))) (S, I1, J, D, R) b := fun b Q => R250 (s := 0) hL hG hC1 (by decide)
  rw [hF, hS, ← hE] at h250
  have em : (-nI n : Int32) = mg n 0 := by
    rw [mg_pop, show pop n 0 = 0 from ?_, nI_0]
    · grind
    · have h1 := pop_up (n := 0) (s := 0) (by decide) n
      rw [Nat.zero_add] at h1
      rw [h1]
      rfl
  have sw : uI (uI I1 343 0 (E 0)) 344 0 (mg n 0) = rI (rI I1 343 (up (I1 343) 0 (E 0))) 344 (up (I1 344) 0 (mg n 0)) := by
    rw [← uI_rI, ← uI_rI, rI_self]
    rw [show rI (uI I1 343 0 (E 0)) 344 (I1 344) = uI I1 343 0 (E 0) from rI_self (uI I1 343 0 (E 0)) 344]
  have h10 : I1 300 10 = nI n := hC1.1
  rw [e302_0]
  simp only [B302_0, xSeq, i_push, i_load, i_iload, i_lload, i_dload, i_aload, i_istore, i_astore, i_lstore, i_dstore, i_iinc, i_ii, i_iiz, i_ll, i_llz, i_lli, i_li, i_i, i_l, i_i2l, i_l2i, i_dup, i_dup2, i_dup2w, i_dupx1, i_pop, i_pop2, i_goto, i_ifc, i_icmp, i_getI, i_getL, i_getR, i_putI, i_putZ, i_putL, i_putR, i_aldI, i_aldB, i_aldL, i_aldD, i_astI, i_astL, i_astD, i_alen, i_ret, i_iret, i_zret, i_lret, i_fret, i_dret, i_aret, i_invS0, i_invV0, i_m2, i_m1, i_ml, i_obj, lk, lkp, stf1, stf2, Value.category, rV, xTo, lv_args, xCk, xCat, xRc, xAk, hg_S, hg_I, hg_J, hg_D, hg_R, hs_I, hs_J, hs_D, hs_R, uI_at, uJ_at, uD_at, uR_at, List.take_succ_cons, List.take_zero, List.drop_succ_cons, List.drop_zero, List.reverse_cons, List.reverse_nil, List.nil_append, List.cons_append, List.map_cons, List.map_nil, List.sum_cons, List.sum_nil, List.length_cons, List.length_nil, Option.toList_some, Option.toList_none, true_and, and_true, false_and, and_false, true_implies, false_implies, implies_true, not_true_eq_false, not_false_eq_true, ne_eq, if_true, if_false, Bool.and_true, Bool.true_and, decide_true, decide_false, reduceIte, reduceCtorEq, Bool.and_self, Bool.and_eq_true, decide_eq_true_eq, and_self, true_or, or_true, false_or, or_false, Nat.zero_add, Nat.add_zero, eq_self, Nat.reduceEqDiff, Nat.reduceLeDiff, Nat.reduceLT, Nat.reduceAdd, Nat.reduceSub, Nat.reduceMul, LM_out hL, hz]
  rw [e302_8]
  simp only [B302_8, xSeq, i_push, i_load, i_iload, i_lload, i_dload, i_aload, i_istore, i_astore, i_lstore, i_dstore, i_iinc, i_ii, i_iiz, i_ll, i_llz, i_lli, i_li, i_i, i_l, i_i2l, i_l2i, i_dup, i_dup2, i_dup2w, i_dupx1, i_pop, i_pop2, i_goto, i_ifc, i_icmp, i_getI, i_getL, i_getR, i_putI, i_putZ, i_putL, i_putR, i_aldI, i_aldB, i_aldL, i_aldD, i_astI, i_astL, i_astD, i_alen, i_ret, i_iret, i_zret, i_lret, i_fret, i_dret, i_aret, i_invS0, i_invV0, i_m2, i_m1, i_ml, i_obj, lk, lkp, stf1, stf2, Value.category, rV, xTo, lv_args, xCk, xCat, xRc, xAk, hg_S, hg_I, hg_J, hg_D, hg_R, hs_I, hs_J, hs_D, hs_R, uI_at, uJ_at, uD_at, uR_at, List.take_succ_cons, List.take_zero, List.drop_succ_cons, List.drop_zero, List.reverse_cons, List.reverse_nil, List.nil_append, List.cons_append, List.map_cons, List.map_nil, List.sum_cons, List.sum_nil, List.length_cons, List.length_nil, Option.toList_some, Option.toList_none, true_and, and_true, false_and, and_false, true_implies, false_implies, implies_true, not_true_eq_false, not_false_eq_true, ne_eq, if_true, if_false, Bool.and_true, Bool.true_and, decide_true, decide_false, reduceIte, reduceCtorEq, Bool.and_self, Bool.and_eq_true, decide_eq_true_eq, and_self, true_or, or_true, false_or, or_false, Nat.zero_add, Nat.add_zero, eq_self, Nat.reduceEqDiff, Nat.reduceLeDiff, Nat.reduceLT, Nat.reduceAdd, Nat.reduceSub, Nat.reduceMul, LM_out hL]
  rw [z2, ← hI1, e302_35]
  simp only [B302_35, xSeq, i_push, i_load, i_iload, i_lload, i_dload, i_aload, i_istore, i_astore, i_lstore, i_dstore, i_iinc, i_ii, i_iiz, i_ll, i_llz, i_lli, i_li, i_i, i_l, i_i2l, i_l2i, i_dup, i_dup2, i_dup2w, i_dupx1, i_pop, i_pop2, i_goto, i_ifc, i_icmp, i_getI, i_getL, i_getR, i_putI, i_putZ, i_putL, i_putR, i_aldI, i_aldB, i_aldL, i_aldD, i_astI, i_astL, i_astD, i_alen, i_ret, i_iret, i_zret, i_lret, i_fret, i_dret, i_aret, i_invS0, i_invV0, i_m2, i_m1, i_ml, i_obj, lk, lkp, stf1, stf2, Value.category, rV, xTo, lv_args, xCk, xCat, xRc, xAk, hg_S, hg_I, hg_J, hg_D, hg_R, hs_I, hs_J, hs_D, hs_R, uI_at, uJ_at, uD_at, uR_at, List.take_succ_cons, List.take_zero, List.drop_succ_cons, List.drop_zero, List.reverse_cons, List.reverse_nil, List.nil_append, List.cons_append, List.map_cons, List.map_nil, List.sum_cons, List.sum_nil, List.length_cons, List.length_nil, Option.toList_some, Option.toList_none, true_and, and_true, false_and, and_false, true_implies, false_implies, implies_true, not_true_eq_false, not_false_eq_true, ne_eq, if_true, if_false, Bool.and_true, Bool.true_and, decide_true, decide_false, reduceIte, reduceCtorEq, Bool.and_self, Bool.and_eq_true, decide_eq_true_eq, and_self, true_or, or_true, false_or, or_false, Nat.zero_add, Nat.add_zero, eq_self, Nat.reduceEqDiff, Nat.reduceLeDiff, Nat.reduceLT, Nat.reduceAdd, Nat.reduceSub, Nat.reduceMul, xi144_0, ix_0, xi144_1, ix_1, xi144_2, ix_2, xi144_3, ix_3, xi144_4, ix_4, xi144_5, ix_5, xi144_6, ix_6, xi144_7, ix_7, xi144_8, ix_8, xi144_9, ix_9, xi144_10, ix_10, LM_out hL, h250, h10, xi0 (show 0 < 65536 by decide) (by decide), ix_0, em, sw]
  have h62 := L302_62 (I := I1) (J := J) (D := D) (b := b) (Q := Q) hL hG hN hC1 hn (fun f g hfg => ?_) (2 ^ n - 1) 1 (up (I1 343) 0 (E 0)) (up (I1 344) 0 (mg n 0)) (by omega) (by decide) (fun c hc => by
    have e : c = 0 := by omega
    rw [up_at, up_at, if_pos e, if_pos e, e, hF, hS, ← hE]
    exact ⟨rfl, rfl⟩)
  · exact h62
  · rw [hF, hS, ← hE] at hfg
    obtain ⟨I2, hI2⟩ : ∃ I2, I2 = rI (rI I1 343 f) 344 g := ⟨_, rfl⟩
    rw [← hI2]
    have he2 : ∀ c, c < 2 ^ n → I2 343 c = E c ∧ I2 344 c = mg n c := fun c hc => by rw [hI2]; exact hfg c hc
    have h345 : rI I2 345 (I2 345) = I2 := rI_self I2 345
    have h124 := L302_124 (I := I2) (J := J) (D := D) (b := b) (Q := Q) hL hB (by rw [hI2]; exact h10) he2 (fun t ht => ?_) (2 ^ n) 0 (I2 345) (by omega) (fun k hk => by
      rw [hI2]
      show I1 345 k = _
      rw [hI1]
      exact z1 k hk)
    · rw [h345, nI_0] at h124
      rw [e302_122]
      simp only [B302_122, xSeq, i_push, i_load, i_iload, i_lload, i_dload, i_aload, i_istore, i_astore, i_lstore, i_dstore, i_iinc, i_ii, i_iiz, i_ll, i_llz, i_lli, i_li, i_i, i_l, i_i2l, i_l2i, i_dup, i_dup2, i_dup2w, i_dupx1, i_pop, i_pop2, i_goto, i_ifc, i_icmp, i_getI, i_getL, i_getR, i_putI, i_putZ, i_putL, i_putR, i_aldI, i_aldB, i_aldL, i_aldD, i_astI, i_astL, i_astD, i_alen, i_ret, i_iret, i_zret, i_lret, i_fret, i_dret, i_aret, i_invS0, i_invV0, i_m2, i_m1, i_ml, i_obj, lk, lkp, stf1, stf2, Value.category, rV, xTo, lv_args, xCk, xCat, xRc, xAk, hg_S, hg_I, hg_J, hg_D, hg_R, hs_I, hs_J, hs_D, hs_R, uI_at, uJ_at, uD_at, uR_at, List.take_succ_cons, List.take_zero, List.drop_succ_cons, List.drop_zero, List.reverse_cons, List.reverse_nil, List.nil_append, List.cons_append, List.map_cons, List.map_nil, List.sum_cons, List.sum_nil, List.length_cons, List.length_nil, Option.toList_some, Option.toList_none, true_and, and_true, false_and, and_false, true_implies, false_implies, implies_true, not_true_eq_false, not_false_eq_true, ne_eq, if_true, if_false, Bool.and_true, Bool.true_and, decide_true, decide_false, reduceIte, reduceCtorEq, Bool.and_self, Bool.and_eq_true, decide_eq_true_eq, and_self, true_or, or_true, false_or, or_false, Nat.zero_add, Nat.add_zero, eq_self, Nat.reduceEqDiff, Nat.reduceLeDiff, Nat.reduceLT, Nat.reduceAdd, Nat.reduceSub, Nat.reduceMul]
      exact h124
    · obtain ⟨I3, hI3⟩ : ∃ I3, I3 = uI (rI I2 345 t) 200 49 0 := ⟨_, rfl⟩
      obtain ⟨N, hN2⟩ : ∃ N : Nat, N = 13233 := ⟨_, rfl⟩
      have hNN : (13233 : Int32) = nI N := by rw [hN2]; decide
      have ht3 : ∀ k, k < 13233 → I3 345 k = nI (cM E n k) := fun k hk => by rw [hI3]; exact ht k hk
      have hlen : ∀ k, k ≤ N → (fl (fun k => decide (0 < cM E n k)) k).length ≤ 4913 := fun k hk => by
        have h1 := fl_mono (fun k => decide (0 < cM E n k)) (13233 - k) k
        rw [show k + (13233 - k) = 13233 by omega, lv_map hB, List.length_map] at h1
        exact Nat.le_trans h1 (lv_len E n)
      have h177 := L302_177 (I := I3) (J := J) (D := D) (b := b) (Q := Q) hL hB hNN hN2 ht3 (fun w4 w5 w6 hg => ?_) hlen N 0 (I3 346) (I3 347) (I3 348) (by omega) GL_0
      · have e0 : kvH I3 (fl (fun k => decide (0 < cM E n k)) 0).length (I3 346) (I3 347) (I3 348) = I3 := kvH_0 I3 0 (by rw [hI3]; rfl)
        rw [e0, nI_0] at h177
        rw [e302_170]
        simp only [B302_170, xSeq, i_push, i_load, i_iload, i_lload, i_dload, i_aload, i_istore, i_astore, i_lstore, i_dstore, i_iinc, i_ii, i_iiz, i_ll, i_llz, i_lli, i_li, i_i, i_l, i_i2l, i_l2i, i_dup, i_dup2, i_dup2w, i_dupx1, i_pop, i_pop2, i_goto, i_ifc, i_icmp, i_getI, i_getL, i_getR, i_putI, i_putZ, i_putL, i_putR, i_aldI, i_aldB, i_aldL, i_aldD, i_astI, i_astL, i_astD, i_alen, i_ret, i_iret, i_zret, i_lret, i_fret, i_dret, i_aret, i_invS0, i_invV0, i_m2, i_m1, i_ml, i_obj, lk, lkp, stf1, stf2, Value.category, rV, xTo, lv_args, xCk, xCat, xRc, xAk, hg_S, hg_I, hg_J, hg_D, hg_R, hs_I, hs_J, hs_D, hs_R, uI_at, uJ_at, uD_at, uR_at, List.take_succ_cons, List.take_zero, List.drop_succ_cons, List.drop_zero, List.reverse_cons, List.reverse_nil, List.nil_append, List.cons_append, List.map_cons, List.map_nil, List.sum_cons, List.sum_nil, List.length_cons, List.length_nil, Option.toList_some, Option.toList_none, true_and, and_true, false_and, and_false, true_implies, false_implies, implies_true, not_true_eq_false, not_false_eq_true, ne_eq, if_true, if_false, Bool.and_true, Bool.true_and, decide_true, decide_false, reduceIte, reduceCtorEq, Bool.and_self, Bool.and_eq_true, decide_eq_true_eq, and_self, true_or, or_true, false_or, or_false, Nat.zero_add, Nat.add_zero, eq_self, Nat.reduceEqDiff, Nat.reduceLeDiff, Nat.reduceLT, Nat.reduceAdd, Nat.reduceSub, Nat.reduceMul, LM_out hL]
        rw [← hI3]
        exact h177
      · rw [hN2] at hg ⊢
        have hg2 := GL_map hB hg
        have hl2 : (fl (fun k => decide (0 < cM E n k)) 13233).length = (lv E n).length := by rw [lv_map hB, List.length_map]
        rw [hl2]
        have e4 : kvH I3 (lv E n).length w4 w5 w6 346 0 = w4 0 := rfl
        rw [e302_260]
        simp only [B302_260, xSeq, i_push, i_load, i_iload, i_lload, i_dload, i_aload, i_istore, i_astore, i_lstore, i_dstore, i_iinc, i_ii, i_iiz, i_ll, i_llz, i_lli, i_li, i_i, i_l, i_i2l, i_l2i, i_dup, i_dup2, i_dup2w, i_dupx1, i_pop, i_pop2, i_goto, i_ifc, i_icmp, i_getI, i_getL, i_getR, i_putI, i_putZ, i_putL, i_putR, i_aldI, i_aldB, i_aldL, i_aldD, i_astI, i_astL, i_astD, i_alen, i_ret, i_iret, i_zret, i_lret, i_fret, i_dret, i_aret, i_invS0, i_invV0, i_m2, i_m1, i_ml, i_obj, lk, lkp, stf1, stf2, Value.category, rV, xTo, lv_args, xCk, xCat, xRc, xAk, hg_S, hg_I, hg_J, hg_D, hg_R, hs_I, hs_J, hs_D, hs_R, uI_at, uJ_at, uD_at, uR_at, List.take_succ_cons, List.take_zero, List.drop_succ_cons, List.drop_zero, List.reverse_cons, List.reverse_nil, List.nil_append, List.cons_append, List.map_cons, List.map_nil, List.sum_cons, List.sum_nil, List.length_cons, List.length_nil, Option.toList_some, Option.toList_none, true_and, and_true, false_and, and_false, true_implies, false_implies, implies_true, not_true_eq_false, not_false_eq_true, ne_eq, if_true, if_false, Bool.and_true, Bool.true_and, decide_true, decide_false, reduceIte, reduceCtorEq, Bool.and_self, Bool.and_eq_true, decide_eq_true_eq, and_self, true_or, or_true, false_or, or_false, Nat.zero_add, Nat.add_zero, eq_self, Nat.reduceEqDiff, Nat.reduceLeDiff, Nat.reduceLT, Nat.reduceAdd, Nat.reduceSub, Nat.reduceMul, LM_out hL, xi0 (show 0 < 6000 by decide) (by decide), ix_0, e4]
        refine kk _ ⟨?_, rfl, (hg2 0 (lv_pos hB)).1, hg2, fun c hc => ?_⟩ (fun o k a => ?_)
        · show I3 200 51 = 1
          rw [hI3, hI2, hI1]
          rfl
        · show I3 343 c = E c
          rw [hI3]
          exact (he2 c hc).1
        · rw [uI_at, if_neg (by omega), kvH_at, if_neg (by omega), if_neg (by omega), if_neg (by omega), if_neg (by omega), hI3, uI_at, if_neg (by omega), rI_at, if_neg (by omega), hI2, rI_at, if_neg (by omega), rI_at, if_neg (by omega), hI1, rI_at, if_neg (by omega), uI_at, if_neg (by omega)]
theorem R301 (hL : LM S R) (h : I 300 10 = nI n) (hn : n ≤ 16) {v : Int32} : xRun xT 301 0 [(0, .ref 200), (1, .int v)] [] (S, I, J, D, R) b Q = Q (.ok (some (.int 0))) (S, I, J, D, R) b := by
  have e1 : (nI n ≤ 16) = True := eq_true (by rw [show (16 : Int32) = nI 16 from rfl]; exact (nI_leI (by omega) (by decide)).mpr hn)
  rw [e301_0]
  simp only [B301_0, xSeq, i_push, i_load, i_iload, i_lload, i_dload, i_aload, i_istore, i_astore, i_lstore, i_dstore, i_iinc, i_ii, i_iiz, i_ll, i_llz, i_lli, i_li, i_i, i_l, i_i2l, i_l2i, i_dup, i_dup2, i_dup2w, i_dupx1, i_pop, i_pop2, i_goto, i_ifc, i_icmp, i_getI, i_getL, i_getR, i_putI, i_putZ, i_putL, i_putR, i_aldI, i_aldB, i_aldL, i_aldD, i_astI, i_astL, i_astD, i_alen, i_ret, i_iret, i_zret, i_lret, i_fret, i_dret, i_aret, i_invS0, i_invV0, i_m2, i_m1, i_ml, i_obj, lk, lkp, stf1, stf2, Value.category, rV, xTo, lv_args, xCk, xCat, xRc, xAk, hg_S, hg_I, hg_J, hg_D, hg_R, hs_I, hs_J, hs_D, hs_R, uI_at, uJ_at, uD_at, uR_at, List.take_succ_cons, List.take_zero, List.drop_succ_cons, List.drop_zero, List.reverse_cons, List.reverse_nil, List.nil_append, List.cons_append, List.map_cons, List.map_nil, List.sum_cons, List.sum_nil, List.length_cons, List.length_nil, Option.toList_some, Option.toList_none, true_and, and_true, false_and, and_false, true_implies, false_implies, implies_true, not_true_eq_false, not_false_eq_true, ne_eq, if_true, if_false, Bool.and_true, Bool.true_and, decide_true, decide_false, reduceIte, reduceCtorEq, Bool.and_self, Bool.and_eq_true, decide_eq_true_eq, and_self, true_or, or_true, false_or, or_false, Nat.zero_add, Nat.add_zero, eq_self, Nat.reduceEqDiff, Nat.reduceLeDiff, Nat.reduceLT, Nat.reduceAdd, Nat.reduceSub, Nat.reduceMul, xi144_0, ix_0, xi144_1, ix_1, xi144_2, ix_2, xi144_3, ix_3, xi144_4, ix_4, xi144_5, ix_5, xi144_6, ix_6, xi144_7, ix_7, xi144_8, ix_8, xi144_9, ix_9, xi144_10, ix_10, LM_out hL, h, e1, e301_17, B301_17, e301_18, B301_18, R234 hL (v := 0) (Or.inl rfl)]
end
