/-! ===== overlap ===== -/
section
variable {S : xS} {I : xI} {J : xJ} {D : xDb} {R : xR} {b : Nat × Nat} {Q : xQ} {n m : Nat} {fi se dg : Nat → Nat} {sb : Nat → Nat → Nat}
/-- what two configurations share at site i -/
def ovl (c s i : Nat) : Int32 := sg (c.testBit i) * sg (s.testBit i)
theorem sg_mul (a c : Bool) : sg a * sg c = - sg (a ^^ c) := by cases a <;> cases c <;> decide
theorem ovl_pop (c s : Nat) : ∀ n, sm (ovl c s) n = nI n - 2 * nI (pop n (c ^^^ s))
  | 0 => by simp [sm, pop, nI_0]
  | n + 1 => by
    have h := mg_pop (c ^^^ s) 
    have h1 := h n
    have h2 := h (n + 1)
    have ih := ovl_pop c s n
    have e : mg (n + 1) (c ^^^ s) = mg n (c ^^^ s) + sg ((c ^^^ s).testBit n) := rfl
    rw [sm, ih, ovl, sg_mul, ← Nat.testBit_xor]
    rw [h2, h1] at e
    grind
theorem R261_25 (hL : LM S R) (hC : I 300 10 = nI n) (hn : n ≤ 64) {c s : Nat} (hc : c < 2 ^ 64) (hs : s < 2 ^ 64) (hJ : J 200 3 = lN s) : ∀ (j i : Nat), i + j = n → xRun xT 261 25 [(0, .ref 200), (1, .long (lN c)), (3, .int (sm (ovl c s) i)), (4, .int (nI i))] [] (S, I, J, D, R) b Q = Q (.ok (some (.int (sm (ovl c s) n)))) (S, I, J, D, R) b
  | 0, i, hi => by
    have e : i = n := by omega
    subst e
    rw [e261_25]
    simp only [B261_25, xSeq, i_push, i_load, i_iload, i_lload, i_dload, i_aload, i_istore, i_astore, i_lstore, i_dstore, i_iinc, i_ii, i_iiz, i_ll, i_llz, i_lli, i_li, i_i, i_l, i_i2l, i_l2i, i_dup, i_dup2, i_dup2w, i_dupx1, i_pop, i_pop2, i_goto, i_ifc, i_icmp, i_getI, i_getL, i_getR, i_putI, i_putZ, i_putL, i_putR, i_aldI, i_aldB, i_aldL, i_aldD, i_astI, i_astL, i_astD, i_alen, i_ret, i_iret, i_zret, i_lret, i_fret, i_dret, i_aret, i_invS0, i_invV0, i_m2, i_m1, i_ml, i_obj, lk, lkp, stf1, stf2, Value.category, rV, xTo, lv_args, xCk, xCat, xRc, xAk, hg_S, hg_I, hg_J, hg_D, hg_R, hs_I, hs_J, hs_D, hs_R, uI_at, uJ_at, uD_at, uR_at, List.take_succ_cons, List.take_zero, List.drop_succ_cons, List.drop_zero, List.reverse_cons, List.reverse_nil, List.nil_append, List.cons_append, List.map_cons, List.map_nil, List.sum_cons, List.sum_nil, List.length_cons, List.length_nil, Option.toList_some, Option.toList_none, true_and, and_true, false_and, and_false, true_implies, false_implies, implies_true, not_true_eq_false, not_false_eq_true, ne_eq, if_true, if_false, Bool.and_true, Bool.true_and, decide_true, decide_false, reduceIte, reduceCtorEq, Bool.and_self, Bool.and_eq_true, decide_eq_true_eq, and_self, true_or, or_true, false_or, or_false, Nat.zero_add, Nat.add_zero, eq_self, Nat.reduceEqDiff, Nat.reduceLeDiff, Nat.reduceLT, Nat.reduceAdd, Nat.reduceSub, Nat.reduceMul, LM_out hL, xi144_0, ix_0, xi144_1, ix_1, xi144_2, ix_2, xi144_3, ix_3, xi144_4, ix_4, xi144_5, ix_5, xi144_6, ix_6, xi144_7, ix_7, xi144_8, ix_8, xi144_9, ix_9, xi144_10, ix_10, hC, nI_leP (show i < 2147483648 by omega) (show i < 2147483648 by omega), Nat.le_refl, e261_62, B261_62]
  | j + 1, i, hi => by
    have ih := R261_25 hL hC hn hc hs hJ j (i + 1) (by omega)
    rw [sm, ovl] at ih
    rw [e261_25]
    simp only [B261_25, xSeq, i_push, i_load, i_iload, i_lload, i_dload, i_aload, i_istore, i_astore, i_lstore, i_dstore, i_iinc, i_ii, i_iiz, i_ll, i_llz, i_lli, i_li, i_i, i_l, i_i2l, i_l2i, i_dup, i_dup2, i_dup2w, i_dupx1, i_pop, i_pop2, i_goto, i_ifc, i_icmp, i_getI, i_getL, i_getR, i_putI, i_putZ, i_putL, i_putR, i_aldI, i_aldB, i_aldL, i_aldD, i_astI, i_astL, i_astD, i_alen, i_ret, i_iret, i_zret, i_lret, i_fret, i_dret, i_aret, i_invS0, i_invV0, i_m2, i_m1, i_ml, i_obj, lk, lkp, stf1, stf2, Value.category, rV, xTo, lv_args, xCk, xCat, xRc, xAk, hg_S, hg_I, hg_J, hg_D, hg_R, hs_I, hs_J, hs_D, hs_R, uI_at, uJ_at, uD_at, uR_at, List.take_succ_cons, List.take_zero, List.drop_succ_cons, List.drop_zero, List.reverse_cons, List.reverse_nil, List.nil_append, List.cons_append, List.map_cons, List.map_nil, List.sum_cons, List.sum_nil, List.length_cons, List.length_nil, Option.toList_some, Option.toList_none, true_and, and_true, false_and, and_false, true_implies, false_implies, implies_true, not_true_eq_false, not_false_eq_true, ne_eq, if_true, if_false, Bool.and_true, Bool.true_and, decide_true, decide_false, reduceIte, reduceCtorEq, Bool.and_self, Bool.and_eq_true, decide_eq_true_eq, and_self, true_or, or_true, false_or, or_false, Nat.zero_add, Nat.add_zero, eq_self, Nat.reduceEqDiff, Nat.reduceLeDiff, Nat.reduceLT, Nat.reduceAdd, Nat.reduceSub, Nat.reduceMul, LM_out hL, xi144_0, ix_0, xi144_1, ix_1, xi144_2, ix_2, xi144_3, ix_3, xi144_4, ix_4, xi144_5, ix_5, xi144_6, ix_6, xi144_7, ix_7, xi144_8, ix_8, xi144_9, ix_9, xi144_10, ix_10, hC, nI_leP (show n < 2147483648 by omega) (show i < 2147483648 by omega), show (n ≤ i) = False from eq_false (by omega), R238 hc (show i < 64 by omega), hJ, R238 hs (show i < 64 by omega), nI_1]
    exact ih
theorem R261_20 (hL : LM S R) (hC : I 300 10 = nI n) (hn : n ≤ 64) {c s : Nat} (hc : c < 2 ^ 64) (hs : s < 2 ^ 64) (hJ : J 200 3 = lN s) : xRun xT 261 20 [(0, .ref 200), (1, .long (lN c))] [] (S, I, J, D, R) b Q = Q (.ok (some (.int (nI n - 2 * nI (pop n (c ^^^ s)))))) (S, I, J, D, R) b := by
  rw [e261_20]
  simp only [B261_20, xSeq, i_push, i_load, i_iload, i_lload, i_dload, i_aload, i_istore, i_astore, i_lstore, i_dstore, i_iinc, i_ii, i_iiz, i_ll, i_llz, i_lli, i_li, i_i, i_l, i_i2l, i_l2i, i_dup, i_dup2, i_dup2w, i_dupx1, i_pop, i_pop2, i_goto, i_ifc, i_icmp, i_getI, i_getL, i_getR, i_putI, i_putZ, i_putL, i_putR, i_aldI, i_aldB, i_aldL, i_aldD, i_astI, i_astL, i_astD, i_alen, i_ret, i_iret, i_zret, i_lret, i_fret, i_dret, i_aret, i_invS0, i_invV0, i_m2, i_m1, i_ml, i_obj, lk, lkp, stf1, stf2, Value.category, rV, xTo, lv_args, xCk, xCat, xRc, xAk, hg_S, hg_I, hg_J, hg_D, hg_R, hs_I, hs_J, hs_D, hs_R, uI_at, uJ_at, uD_at, uR_at, List.take_succ_cons, List.take_zero, List.drop_succ_cons, List.drop_zero, List.reverse_cons, List.reverse_nil, List.nil_append, List.cons_append, List.map_cons, List.map_nil, List.sum_cons, List.sum_nil, List.length_cons, List.length_nil, Option.toList_some, Option.toList_none, true_and, and_true, false_and, and_false, true_implies, false_implies, implies_true, not_true_eq_false, not_false_eq_true, ne_eq, if_true, if_false, Bool.and_true, Bool.true_and, decide_true, decide_false, reduceIte, reduceCtorEq, Bool.and_self, Bool.and_eq_true, decide_eq_true_eq, and_self, true_or, or_true, false_or, or_false, Nat.zero_add, Nat.add_zero, eq_self, Nat.reduceEqDiff, Nat.reduceLeDiff, Nat.reduceLT, Nat.reduceAdd, Nat.reduceSub, Nat.reduceMul, LM_out hL]
  rw [← ovl_pop]
  exact R261_25 hL hC hn hc hs hJ n 0 (by omega)
theorem pop_64 {n s : Nat} (hn : n ≤ 64) (hs : s < 2 ^ n) : pop 64 s = pop n s := by
  have := pop_up hs (64 - n)
  rw [show n + (64 - n) = 64 by omega] at this
  exact this
end
