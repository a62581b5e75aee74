/-! ===== questions: printed by 55.pub.py ===== -/
section
variable {S : xS} {I : xI} {J : xJ} {D : xDb} {R : xR} {b : Nat × Nat} {Q : xQ} {n m : Nat} {fi se dg : Nat → Nat} {sb : Nat → Nat → Nat}
theorem i32_nl (x y : Int32) : (x ≤ y) = ¬ (y < x) := propext Int32.not_lt.symm
theorem CM_u {o k : Nat} {v : Int32} (h : CM I n m fi se dg sb) (ho : (o ≠ 300 ∨ (k ≠ 8 ∧ k ≠ 10)) ∧ o ≠ 314 ∧ o ≠ 315 ∧ o ≠ 316 ∧ o ≠ 317) : CM (uI I o k v) n m fi se dg sb := by
  obtain ⟨h1, h2, h3, h4, h5⟩ := ho
  obtain ⟨c1, c2, c3, c4, c5, c6⟩ := h
  refine ⟨?_, ?_, fun i hi => ?_, fun i hi => ?_, fun i hi => ?_, fun i j hi hj => ?_⟩
  · rw [uI_at, if_neg (fun e => h1.elim (fun e2 => e2 e.1.symm) (fun e2 => e2.2 e.2.symm))]; exact c1
  · rw [uI_at, if_neg (fun e => h1.elim (fun e2 => e2 e.1.symm) (fun e2 => e2.1 e.2.symm))]; exact c2
  · rw [uI_at, if_neg (fun e => h2 e.1.symm)]; exact c3 i hi
  · rw [uI_at, if_neg (fun e => h3 e.1.symm)]; exact c4 i hi
  · rw [uI_at, if_neg (fun e => h5 e.1.symm)]; exact c5 i hi
  · rw [uI_at, if_neg (fun e => h4 e.1.symm)]; exact c6 i j hi hj
theorem CL_u {o k : Nat} {v : Int32} (h : CL I n m fi se dg sb) (ho : (o ≠ 102 ∨ (k ≠ 2 ∧ k ≠ 3)) ∧ o ≠ 103 ∧ o ≠ 104 ∧ o ≠ 107 ∧ o ≠ 108) : CL (uI I o k v) n m fi se dg sb := by
  obtain ⟨h1, h2, h3, h4, h5⟩ := ho
  obtain ⟨c1, c2, c3, c4, c5, c6⟩ := h
  refine ⟨?_, ?_, fun i hi => ?_, fun i hi => ?_, fun i hi => ?_, fun i j hi hj => ?_⟩
  · rw [uI_at, if_neg (fun e => h1.elim (fun e2 => e2 e.1.symm) (fun e2 => e2.1 e.2.symm))]; exact c1
  · rw [uI_at, if_neg (fun e => h1.elim (fun e2 => e2 e.1.symm) (fun e2 => e2.2 e.2.symm))]; exact c2
  · rw [uI_at, if_neg (fun e => h2 e.1.symm)]; exact c3 i hi
  · rw [uI_at, if_neg (fun e => h3 e.1.symm)]; exact c4 i hi
  · rw [uI_at, if_neg (fun e => h4 e.1.symm)]; exact c5 i hi
  · rw [uI_at, if_neg (fun e => h5 e.1.symm)]; exact c6 i j hi hj
theorem R128_4 (hL : LC S R) (hG : GR n m fi se dg sb) (hC : CL I n m fi se dg sb) {s : Nat} (hs : s < 2 ^ 64) (hJ : J 110 4 = lN s) : ∀ (j i : Nat), i + j = m → xRun xT 128 4 [(0, .ref 100), (1, .int (nI (ct (fun k => decide ((pr (I 111 k) (s.testBit (fi k)) (s.testBit (se k))) < 0)) i))), (2, .int (nI i))] [] (S, I, J, D, R) b Q = Q (.ok (some (.int (nI (ct (fun k => decide ((pr (I 111 k) (s.testBit (fi k)) (s.testBit (se k))) < 0)) m))))) (S, I, J, D, R) b
  | 0, i, hi => by
    obtain ⟨g0, g1, g2, g3, g4, g5, g6⟩ := hG
    obtain ⟨c1, c2, c3, c4, c5, c6⟩ := hC
    have e : i = m := by omega
    subst e
    rw [e128_4]
    simp only [B128_4, xSeq, i_push, i_load, i_iload, i_lload, i_dload, i_aload, i_istore, i_astore, i_lstore, i_dstore, i_iinc, i_ii, i_iiz, i_ll, i_llz, i_lli, i_li, i_i, i_l, i_i2l, i_l2i, i_dup, i_dup2, i_dup2w, i_dupx1, i_pop, i_pop2, i_goto, i_ifc, i_icmp, i_getI, i_getL, i_getR, i_putI, i_putZ, i_putL, i_putR, i_aldI, i_aldB, i_aldL, i_aldD, i_astI, i_astL, i_astD, i_alen, i_ret, i_iret, i_zret, i_lret, i_fret, i_dret, i_aret, i_invS0, i_invV0, i_m2, i_m1, i_ml, i_obj, lk, lkp, stf1, stf2, Value.category, rV, xTo, lv_args, xCk, xCat, xRc, xAk, hg_S, hg_I, hg_J, hg_D, hg_R, hs_I, hs_J, hs_D, hs_R, uI_at, uJ_at, uD_at, uR_at, List.take_succ_cons, List.take_zero, List.drop_succ_cons, List.drop_zero, List.reverse_cons, List.reverse_nil, List.nil_append, List.cons_append, List.map_cons, List.map_nil, List.sum_cons, List.sum_nil, List.length_cons, List.length_nil, Option.toList_some, Option.toList_none, true_and, and_true, false_and, and_false, true_implies, false_implies, implies_true, not_true_eq_false, not_false_eq_true, ne_eq, if_true, if_false, Bool.and_true, Bool.true_and, decide_true, decide_false, reduceIte, reduceCtorEq, Bool.and_self, Bool.and_eq_true, decide_eq_true_eq, and_self, true_or, or_true, false_or, or_false, Nat.zero_add, Nat.add_zero, eq_self, Nat.reduceEqDiff, Nat.reduceLeDiff, Nat.reduceLT, Nat.reduceAdd, Nat.reduceSub, Nat.reduceMul, LC_out hL, c2, nI_leP (show i < 2147483648 by omega) (show i < 2147483648 by omega), Nat.le_refl, e128_42, B128_42]
  | j + 1, i, hi => by
    have hG' := hG
    have hC' := hC
    obtain ⟨g0, g1, g2, g3, g4, g5, g6⟩ := hG'
    obtain ⟨c1, c2, c3, c4, c5, c6⟩ := hC'
    have ih := R128_4 hL hG hC hs hJ j (i + 1) (by omega)
    rw [ct] at ih
    rw [e128_4]
    simp only [B128_4, xSeq, i_push, i_load, i_iload, i_lload, i_dload, i_aload, i_istore, i_astore, i_lstore, i_dstore, i_iinc, i_ii, i_iiz, i_ll, i_llz, i_lli, i_li, i_i, i_l, i_i2l, i_l2i, i_dup, i_dup2, i_dup2w, i_dupx1, i_pop, i_pop2, i_goto, i_ifc, i_icmp, i_getI, i_getL, i_getR, i_putI, i_putZ, i_putL, i_putR, i_aldI, i_aldB, i_aldL, i_aldD, i_astI, i_astL, i_astD, i_alen, i_ret, i_iret, i_zret, i_lret, i_fret, i_dret, i_aret, i_invS0, i_invV0, i_m2, i_m1, i_ml, i_obj, lk, lkp, stf1, stf2, Value.category, rV, xTo, lv_args, xCk, xCat, xRc, xAk, hg_S, hg_I, hg_J, hg_D, hg_R, hs_I, hs_J, hs_D, hs_R, uI_at, uJ_at, uD_at, uR_at, List.take_succ_cons, List.take_zero, List.drop_succ_cons, List.drop_zero, List.reverse_cons, List.reverse_nil, List.nil_append, List.cons_append, List.map_cons, List.map_nil, List.sum_cons, List.sum_nil, List.length_cons, List.length_nil, Option.toList_some, Option.toList_none, true_and, and_true, false_and, and_false, true_implies, false_implies, implies_true, not_true_eq_false, not_false_eq_true, ne_eq, if_true, if_false, Bool.and_true, Bool.true_and, decide_true, decide_false, reduceIte, reduceCtorEq, Bool.and_self, Bool.and_eq_true, decide_eq_true_eq, and_self, true_or, or_true, false_or, or_false, Nat.zero_add, Nat.add_zero, eq_self, Nat.reduceEqDiff, Nat.reduceLeDiff, Nat.reduceLT, Nat.reduceAdd, Nat.reduceSub, Nat.reduceMul, LC_out hL, c2, hJ, nI_leP (show m < 2147483648 by omega) (show i < 2147483648 by omega), show (m ≤ i) = False from eq_false (by omega), R75 hL hG hC hs (show i < m by omega), e128_36, B128_36, nI_1]
    by_cases h : (pr (I 111 i) (s.testBit (fi i)) (s.testBit (se i))) < 0
    · rw [if_pos (decide_eq_true h)] at ih
      simp only [h, i32_nl, true_and, and_true, false_and, and_false, true_implies, false_implies, implies_true, not_true_eq_false, not_false_eq_true, ne_eq, if_true, if_false, Bool.and_true, Bool.true_and, decide_true, decide_false, reduceIte, reduceCtorEq, Bool.and_self, Bool.and_eq_true, decide_eq_true_eq, and_self, true_or, or_true, false_or, or_false, Nat.zero_add, Nat.add_zero, eq_self, Nat.reduceEqDiff, Nat.reduceLeDiff, Nat.reduceLT, Nat.reduceAdd, Nat.reduceSub, Nat.reduceMul]
      exact ih
    · rw [if_neg (fun e => h (of_decide_eq_true e)), Nat.add_zero] at ih
      simp only [h, i32_nl, true_and, and_true, false_and, and_false, true_implies, false_implies, implies_true, not_true_eq_false, not_false_eq_true, ne_eq, if_true, if_false, Bool.and_true, Bool.true_and, decide_true, decide_false, reduceIte, reduceCtorEq, Bool.and_self, Bool.and_eq_true, decide_eq_true_eq, and_self, true_or, or_true, false_or, or_false, Nat.zero_add, Nat.add_zero, eq_self, Nat.reduceEqDiff, Nat.reduceLeDiff, Nat.reduceLT, Nat.reduceAdd, Nat.reduceSub, Nat.reduceMul]
      exact ih
theorem R128 (hL : LC S R) (hG : GR n m fi se dg sb) (hC : CL I n m fi se dg sb) {s : Nat} (hs : s < 2 ^ 64) (hJ : J 110 4 = lN s) : xRun xT 128 0 [(0, .ref 100)] [] (S, I, J, D, R) b Q = Q (.ok (some (.int (nI (ct (fun k => decide ((pr (I 111 k) (s.testBit (fi k)) (s.testBit (se k))) < 0)) m))))) (S, I, J, D, R) b := by
  rw [e128_0]
  simp only [B128_0, xSeq, i_push, i_load, i_iload, i_lload, i_dload, i_aload, i_istore, i_astore, i_lstore, i_dstore, i_iinc, i_ii, i_iiz, i_ll, i_llz, i_lli, i_li, i_i, i_l, i_i2l, i_l2i, i_dup, i_dup2, i_dup2w, i_dupx1, i_pop, i_pop2, i_goto, i_ifc, i_icmp, i_getI, i_getL, i_getR, i_putI, i_putZ, i_putL, i_putR, i_aldI, i_aldB, i_aldL, i_aldD, i_astI, i_astL, i_astD, i_alen, i_ret, i_iret, i_zret, i_lret, i_fret, i_dret, i_aret, i_invS0, i_invV0, i_m2, i_m1, i_ml, i_obj, lk, lkp, stf1, stf2, Value.category, rV, xTo, lv_args, xCk, xCat, xRc, xAk, hg_S, hg_I, hg_J, hg_D, hg_R, hs_I, hs_J, hs_D, hs_R, uI_at, uJ_at, uD_at, uR_at, List.take_succ_cons, List.take_zero, List.drop_succ_cons, List.drop_zero, List.reverse_cons, List.reverse_nil, List.nil_append, List.cons_append, List.map_cons, List.map_nil, List.sum_cons, List.sum_nil, List.length_cons, List.length_nil, Option.toList_some, Option.toList_none, true_and, and_true, false_and, and_false, true_implies, false_implies, implies_true, not_true_eq_false, not_false_eq_true, ne_eq, if_true, if_false, Bool.and_true, Bool.true_and, decide_true, decide_false, reduceIte, reduceCtorEq, Bool.and_self, Bool.and_eq_true, decide_eq_true_eq, and_self, true_or, or_true, false_or, or_false, Nat.zero_add, Nat.add_zero, eq_self, Nat.reduceEqDiff, Nat.reduceLeDiff, Nat.reduceLT, Nat.reduceAdd, Nat.reduceSub, Nat.reduceMul]
  exact R128_4 hL hG hC hs hJ m 0 (by omega)
theorem R129_4 (hL : LC S R) (hG : GR n m fi se dg sb) (hC : CL I n m fi se dg sb) {s : Nat} (hs : s < 2 ^ 64) (hJ : J 110 4 = lN s) : ∀ (j i : Nat), i + j = n → xRun xT 129 4 [(0, .ref 100), (1, .int (nI (ct (fun k => decide (0 < (dl (I 110 6) (I 111) fi se dg sb s k))) i))), (2, .int (nI i))] [] (S, I, J, D, R) b Q = Q (.ok (some (.int (nI (ct (fun k => decide (0 < (dl (I 110 6) (I 111) fi se dg sb s k))) n))))) (S, I, J, D, R) b
  | 0, i, hi => by
    obtain ⟨g0, g1, g2, g3, g4, g5, g6⟩ := hG
    obtain ⟨c1, c2, c3, c4, c5, c6⟩ := hC
    have e : i = n := by omega
    subst e
    rw [e129_4]
    simp only [B129_4, xSeq, i_push, i_load, i_iload, i_lload, i_dload, i_aload, i_istore, i_astore, i_lstore, i_dstore, i_iinc, i_ii, i_iiz, i_ll, i_llz, i_lli, i_li, i_i, i_l, i_i2l, i_l2i, i_dup, i_dup2, i_dup2w, i_dupx1, i_pop, i_pop2, i_goto, i_ifc, i_icmp, i_getI, i_getL, i_getR, i_putI, i_putZ, i_putL, i_putR, i_aldI, i_aldB, i_aldL, i_aldD, i_astI, i_astL, i_astD, i_alen, i_ret, i_iret, i_zret, i_lret, i_fret, i_dret, i_aret, i_invS0, i_invV0, i_m2, i_m1, i_ml, i_obj, lk, lkp, stf1, stf2, Value.category, rV, xTo, lv_args, xCk, xCat, xRc, xAk, hg_S, hg_I, hg_J, hg_D, hg_R, hs_I, hs_J, hs_D, hs_R, uI_at, uJ_at, uD_at, uR_at, List.take_succ_cons, List.take_zero, List.drop_succ_cons, List.drop_zero, List.reverse_cons, List.reverse_nil, List.nil_append, List.cons_append, List.map_cons, List.map_nil, List.sum_cons, List.sum_nil, List.length_cons, List.length_nil, Option.toList_some, Option.toList_none, true_and, and_true, false_and, and_false, true_implies, false_implies, implies_true, not_true_eq_false, not_false_eq_true, ne_eq, if_true, if_false, Bool.and_true, Bool.true_and, decide_true, decide_false, reduceIte, reduceCtorEq, Bool.and_self, Bool.and_eq_true, decide_eq_true_eq, and_self, true_or, or_true, false_or, or_false, Nat.zero_add, Nat.add_zero, eq_self, Nat.reduceEqDiff, Nat.reduceLeDiff, Nat.reduceLT, Nat.reduceAdd, Nat.reduceSub, Nat.reduceMul, LC_out hL, c1, nI_leP (show i < 2147483648 by omega) (show i < 2147483648 by omega), Nat.le_refl, e129_42, B129_42]
  | j + 1, i, hi => by
    have hG' := hG
    have hC' := hC
    obtain ⟨g0, g1, g2, g3, g4, g5, g6⟩ := hG'
    obtain ⟨c1, c2, c3, c4, c5, c6⟩ := hC'
    have ih := R129_4 hL hG hC hs hJ j (i + 1) (by omega)
    rw [ct] at ih
    rw [e129_4]
    simp only [B129_4, xSeq, i_push, i_load, i_iload, i_lload, i_dload, i_aload, i_istore, i_astore, i_lstore, i_dstore, i_iinc, i_ii, i_iiz, i_ll, i_llz, i_lli, i_li, i_i, i_l, i_i2l, i_l2i, i_dup, i_dup2, i_dup2w, i_dupx1, i_pop, i_pop2, i_goto, i_ifc, i_icmp, i_getI, i_getL, i_getR, i_putI, i_putZ, i_putL, i_putR, i_aldI, i_aldB, i_aldL, i_aldD, i_astI, i_astL, i_astD, i_alen, i_ret, i_iret, i_zret, i_lret, i_fret, i_dret, i_aret, i_invS0, i_invV0, i_m2, i_m1, i_ml, i_obj, lk, lkp, stf1, stf2, Value.category, rV, xTo, lv_args, xCk, xCat, xRc, xAk, hg_S, hg_I, hg_J, hg_D, hg_R, hs_I, hs_J, hs_D, hs_R, uI_at, uJ_at, uD_at, uR_at, List.take_succ_cons, List.take_zero, List.drop_succ_cons, List.drop_zero, List.reverse_cons, List.reverse_nil, List.nil_append, List.cons_append, List.map_cons, List.map_nil, List.sum_cons, List.sum_nil, List.length_cons, List.length_nil, Option.toList_some, Option.toList_none, true_and, and_true, false_and, and_false, true_implies, false_implies, implies_true, not_true_eq_false, not_false_eq_true, ne_eq, if_true, if_false, Bool.and_true, Bool.true_and, decide_true, decide_false, reduceIte, reduceCtorEq, Bool.and_self, Bool.and_eq_true, decide_eq_true_eq, and_self, true_or, or_true, false_or, or_false, Nat.zero_add, Nat.add_zero, eq_self, Nat.reduceEqDiff, Nat.reduceLeDiff, Nat.reduceLT, Nat.reduceAdd, Nat.reduceSub, Nat.reduceMul, LC_out hL, c1, hJ, nI_leP (show n < 2147483648 by omega) (show i < 2147483648 by omega), show (n ≤ i) = False from eq_false (by omega), R76 hL hG hC hs (show i < n by omega), e129_36, B129_36, nI_1]
    by_cases h : 0 < (dl (I 110 6) (I 111) fi se dg sb s i)
    · rw [if_pos (decide_eq_true h)] at ih
      simp only [h, i32_nl, true_and, and_true, false_and, and_false, true_implies, false_implies, implies_true, not_true_eq_false, not_false_eq_true, ne_eq, if_true, if_false, Bool.and_true, Bool.true_and, decide_true, decide_false, reduceIte, reduceCtorEq, Bool.and_self, Bool.and_eq_true, decide_eq_true_eq, and_self, true_or, or_true, false_or, or_false, Nat.zero_add, Nat.add_zero, eq_self, Nat.reduceEqDiff, Nat.reduceLeDiff, Nat.reduceLT, Nat.reduceAdd, Nat.reduceSub, Nat.reduceMul]
      exact ih
    · rw [if_neg (fun e => h (of_decide_eq_true e)), Nat.add_zero] at ih
      simp only [h, i32_nl, true_and, and_true, false_and, and_false, true_implies, false_implies, implies_true, not_true_eq_false, not_false_eq_true, ne_eq, if_true, if_false, Bool.and_true, Bool.true_and, decide_true, decide_false, reduceIte, reduceCtorEq, Bool.and_self, Bool.and_eq_true, decide_eq_true_eq, and_self, true_or, or_true, false_or, or_false, Nat.zero_add, Nat.add_zero, eq_self, Nat.reduceEqDiff, Nat.reduceLeDiff, Nat.reduceLT, Nat.reduceAdd, Nat.reduceSub, Nat.reduceMul]
      exact ih
theorem R129 (hL : LC S R) (hG : GR n m fi se dg sb) (hC : CL I n m fi se dg sb) {s : Nat} (hs : s < 2 ^ 64) (hJ : J 110 4 = lN s) : xRun xT 129 0 [(0, .ref 100)] [] (S, I, J, D, R) b Q = Q (.ok (some (.int (nI (ct (fun k => decide (0 < (dl (I 110 6) (I 111) fi se dg sb s k))) n))))) (S, I, J, D, R) b := by
  rw [e129_0]
  simp only [B129_0, xSeq, i_push, i_load, i_iload, i_lload, i_dload, i_aload, i_istore, i_astore, i_lstore, i_dstore, i_iinc, i_ii, i_iiz, i_ll, i_llz, i_lli, i_li, i_i, i_l, i_i2l, i_l2i, i_dup, i_dup2, i_dup2w, i_dupx1, i_pop, i_pop2, i_goto, i_ifc, i_icmp, i_getI, i_getL, i_getR, i_putI, i_putZ, i_putL, i_putR, i_aldI, i_aldB, i_aldL, i_aldD, i_astI, i_astL, i_astD, i_alen, i_ret, i_iret, i_zret, i_lret, i_fret, i_dret, i_aret, i_invS0, i_invV0, i_m2, i_m1, i_ml, i_obj, lk, lkp, stf1, stf2, Value.category, rV, xTo, lv_args, xCk, xCat, xRc, xAk, hg_S, hg_I, hg_J, hg_D, hg_R, hs_I, hs_J, hs_D, hs_R, uI_at, uJ_at, uD_at, uR_at, List.take_succ_cons, List.take_zero, List.drop_succ_cons, List.drop_zero, List.reverse_cons, List.reverse_nil, List.nil_append, List.cons_append, List.map_cons, List.map_nil, List.sum_cons, List.sum_nil, List.length_cons, List.length_nil, Option.toList_some, Option.toList_none, true_and, and_true, false_and, and_false, true_implies, false_implies, implies_true, not_true_eq_false, not_false_eq_true, ne_eq, if_true, if_false, Bool.and_true, Bool.true_and, decide_true, decide_false, reduceIte, reduceCtorEq, Bool.and_self, Bool.and_eq_true, decide_eq_true_eq, and_self, true_or, or_true, false_or, or_false, Nat.zero_add, Nat.add_zero, eq_self, Nat.reduceEqDiff, Nat.reduceLeDiff, Nat.reduceLT, Nat.reduceAdd, Nat.reduceSub, Nat.reduceMul]
  exact R129_4 hL hG hC hs hJ n 0 (by omega)
theorem R130_4 (hL : LC S R) (hG : GR n m fi se dg sb) (hC : CL I n m fi se dg sb) {s : Nat} (hs : s < 2 ^ 64) (hJ : J 110 4 = lN s) : ∀ (j i : Nat), i + j = n → xRun xT 130 4 [(0, .ref 100), (1, .int (nI (ct (fun k => decide ((dl (I 110 6) (I 111) fi se dg sb s k) = 0)) i))), (2, .int (nI i))] [] (S, I, J, D, R) b Q = Q (.ok (some (.int (nI (ct (fun k => decide ((dl (I 110 6) (I 111) fi se dg sb s k) = 0)) n))))) (S, I, J, D, R) b
  | 0, i, hi => by
    obtain ⟨g0, g1, g2, g3, g4, g5, g6⟩ := hG
    obtain ⟨c1, c2, c3, c4, c5, c6⟩ := hC
    have e : i = n := by omega
    subst e
    rw [e130_4]
    simp only [B130_4, xSeq, i_push, i_load, i_iload, i_lload, i_dload, i_aload, i_istore, i_astore, i_lstore, i_dstore, i_iinc, i_ii, i_iiz, i_ll, i_llz, i_lli, i_li, i_i, i_l, i_i2l, i_l2i, i_dup, i_dup2, i_dup2w, i_dupx1, i_pop, i_pop2, i_goto, i_ifc, i_icmp, i_getI, i_getL, i_getR, i_putI, i_putZ, i_putL, i_putR, i_aldI, i_aldB, i_aldL, i_aldD, i_astI, i_astL, i_astD, i_alen, i_ret, i_iret, i_zret, i_lret, i_fret, i_dret, i_aret, i_invS0, i_invV0, i_m2, i_m1, i_ml, i_obj, lk, lkp, stf1, stf2, Value.category, rV, xTo, lv_args, xCk, xCat, xRc, xAk, hg_S, hg_I, hg_J, hg_D, hg_R, hs_I, hs_J, hs_D, hs_R, uI_at, uJ_at, uD_at, uR_at, List.take_succ_cons, List.take_zero, List.drop_succ_cons, List.drop_zero, List.reverse_cons, List.reverse_nil, List.nil_append, List.cons_append, List.map_cons, List.map_nil, List.sum_cons, List.sum_nil, List.length_cons, List.length_nil, Option.toList_some, Option.toList_none, true_and, and_true, false_and, and_false, true_implies, false_implies, implies_true, not_true_eq_false, not_false_eq_true, ne_eq, if_true, if_false, Bool.and_true, Bool.true_and, decide_true, decide_false, reduceIte, reduceCtorEq, Bool.and_self, Bool.and_eq_true, decide_eq_true_eq, and_self, true_or, or_true, false_or, or_false, Nat.zero_add, Nat.add_zero, eq_self, Nat.reduceEqDiff, Nat.reduceLeDiff, Nat.reduceLT, Nat.reduceAdd, Nat.reduceSub, Nat.reduceMul, LC_out hL, c1, nI_leP (show i < 2147483648 by omega) (show i < 2147483648 by omega), Nat.le_refl, e130_42, B130_42]
  | j + 1, i, hi => by
    have hG' := hG
    have hC' := hC
    obtain ⟨g0, g1, g2, g3, g4, g5, g6⟩ := hG'
    obtain ⟨c1, c2, c3, c4, c5, c6⟩ := hC'
    have ih := R130_4 hL hG hC hs hJ j (i + 1) (by omega)
    rw [ct] at ih
    rw [e130_4]
    simp only [B130_4, xSeq, i_push, i_load, i_iload, i_lload, i_dload, i_aload, i_istore, i_astore, i_lstore, i_dstore, i_iinc, i_ii, i_iiz, i_ll, i_llz, i_lli, i_li, i_i, i_l, i_i2l, i_l2i, i_dup, i_dup2, i_dup2w, i_dupx1, i_pop, i_pop2, i_goto, i_ifc, i_icmp, i_getI, i_getL, i_getR, i_putI, i_putZ, i_putL, i_putR, i_aldI, i_aldB, i_aldL, i_aldD, i_astI, i_astL, i_astD, i_alen, i_ret, i_iret, i_zret, i_lret, i_fret, i_dret, i_aret, i_invS0, i_invV0, i_m2, i_m1, i_ml, i_obj, lk, lkp, stf1, stf2, Value.category, rV, xTo, lv_args, xCk, xCat, xRc, xAk, hg_S, hg_I, hg_J, hg_D, hg_R, hs_I, hs_J, hs_D, hs_R, uI_at, uJ_at, uD_at, uR_at, List.take_succ_cons, List.take_zero, List.drop_succ_cons, List.drop_zero, List.reverse_cons, List.reverse_nil, List.nil_append, List.cons_append, List.map_cons, List.map_nil, List.sum_cons, List.sum_nil, List.length_cons, List.length_nil, Option.toList_some, Option.toList_none, true_and, and_true, false_and, and_false, true_implies, false_implies, implies_true, not_true_eq_false, not_false_eq_true, ne_eq, if_true, if_false, Bool.and_true, Bool.true_and, decide_true, decide_false, reduceIte, reduceCtorEq, Bool.and_self, Bool.and_eq_true, decide_eq_true_eq, and_self, true_or, or_true, false_or, or_false, Nat.zero_add, Nat.add_zero, eq_self, Nat.reduceEqDiff, Nat.reduceLeDiff, Nat.reduceLT, Nat.reduceAdd, Nat.reduceSub, Nat.reduceMul, LC_out hL, c1, hJ, nI_leP (show n < 2147483648 by omega) (show i < 2147483648 by omega), show (n ≤ i) = False from eq_false (by omega), R76 hL hG hC hs (show i < n by omega), e130_36, B130_36, nI_1]
    by_cases h : (dl (I 110 6) (I 111) fi se dg sb s i) = 0
    · rw [if_pos (decide_eq_true h)] at ih
      simp only [h, i32_nl, true_and, and_true, false_and, and_false, true_implies, false_implies, implies_true, not_true_eq_false, not_false_eq_true, ne_eq, if_true, if_false, Bool.and_true, Bool.true_and, decide_true, decide_false, reduceIte, reduceCtorEq, Bool.and_self, Bool.and_eq_true, decide_eq_true_eq, and_self, true_or, or_true, false_or, or_false, Nat.zero_add, Nat.add_zero, eq_self, Nat.reduceEqDiff, Nat.reduceLeDiff, Nat.reduceLT, Nat.reduceAdd, Nat.reduceSub, Nat.reduceMul]
      exact ih
    · rw [if_neg (fun e => h (of_decide_eq_true e)), Nat.add_zero] at ih
      simp only [h, i32_nl, true_and, and_true, false_and, and_false, true_implies, false_implies, implies_true, not_true_eq_false, not_false_eq_true, ne_eq, if_true, if_false, Bool.and_true, Bool.true_and, decide_true, decide_false, reduceIte, reduceCtorEq, Bool.and_self, Bool.and_eq_true, decide_eq_true_eq, and_self, true_or, or_true, false_or, or_false, Nat.zero_add, Nat.add_zero, eq_self, Nat.reduceEqDiff, Nat.reduceLeDiff, Nat.reduceLT, Nat.reduceAdd, Nat.reduceSub, Nat.reduceMul]
      exact ih
theorem R130 (hL : LC S R) (hG : GR n m fi se dg sb) (hC : CL I n m fi se dg sb) {s : Nat} (hs : s < 2 ^ 64) (hJ : J 110 4 = lN s) : xRun xT 130 0 [(0, .ref 100)] [] (S, I, J, D, R) b Q = Q (.ok (some (.int (nI (ct (fun k => decide ((dl (I 110 6) (I 111) fi se dg sb s k) = 0)) n))))) (S, I, J, D, R) b := by
  rw [e130_0]
  simp only [B130_0, xSeq, i_push, i_load, i_iload, i_lload, i_dload, i_aload, i_istore, i_astore, i_lstore, i_dstore, i_iinc, i_ii, i_iiz, i_ll, i_llz, i_lli, i_li, i_i, i_l, i_i2l, i_l2i, i_dup, i_dup2, i_dup2w, i_dupx1, i_pop, i_pop2, i_goto, i_ifc, i_icmp, i_getI, i_getL, i_getR, i_putI, i_putZ, i_putL, i_putR, i_aldI, i_aldB, i_aldL, i_aldD, i_astI, i_astL, i_astD, i_alen, i_ret, i_iret, i_zret, i_lret, i_fret, i_dret, i_aret, i_invS0, i_invV0, i_m2, i_m1, i_ml, i_obj, lk, lkp, stf1, stf2, Value.category, rV, xTo, lv_args, xCk, xCat, xRc, xAk, hg_S, hg_I, hg_J, hg_D, hg_R, hs_I, hs_J, hs_D, hs_R, uI_at, uJ_at, uD_at, uR_at, List.take_succ_cons, List.take_zero, List.drop_succ_cons, List.drop_zero, List.reverse_cons, List.reverse_nil, List.nil_append, List.cons_append, List.map_cons, List.map_nil, List.sum_cons, List.sum_nil, List.length_cons, List.length_nil, Option.toList_some, Option.toList_none, true_and, and_true, false_and, and_false, true_implies, false_implies, implies_true, not_true_eq_false, not_false_eq_true, ne_eq, if_true, if_false, Bool.and_true, Bool.true_and, decide_true, decide_false, reduceIte, reduceCtorEq, Bool.and_self, Bool.and_eq_true, decide_eq_true_eq, and_self, true_or, or_true, false_or, or_false, Nat.zero_add, Nat.add_zero, eq_self, Nat.reduceEqDiff, Nat.reduceLeDiff, Nat.reduceLT, Nat.reduceAdd, Nat.reduceSub, Nat.reduceMul]
  exact R130_4 hL hG hC hs hJ n 0 (by omega)
theorem R258_9 (hL : LM S R) (hG : GR n m fi se dg sb) (hC : CM I n m fi se dg sb) {s : Nat} (hs : s < 2 ^ 64) (hJ : J 200 3 = lN s) : ∀ (j i : Nat), i + j = m → xRun xT 258 9 [(0, .ref 200), (1, .int (nI (ct (fun k => decide ((pr (I 300 (16 + k)) (s.testBit (fi k)) (s.testBit (se k))) < 0)) i))), (2, .int (nI i))] [] (S, I, J, D, R) b Q = Q (.ok (some (.int (nI (ct (fun k => decide ((pr (I 300 (16 + k)) (s.testBit (fi k)) (s.testBit (se k))) < 0)) m))))) (S, I, J, D, R) b
  | 0, i, hi => by
    obtain ⟨g0, g1, g2, g3, g4, g5, g6⟩ := hG
    obtain ⟨c1, c2, c3, c4, c5, c6⟩ := hC
    have e : i = m := by omega
    subst e
    rw [e258_9]
    simp only [B258_9, xSeq, i_push, i_load, i_iload, i_lload, i_dload, i_aload, i_istore, i_astore, i_lstore, i_dstore, i_iinc, i_ii, i_iiz, i_ll, i_llz, i_lli, i_li, i_i, i_l, i_i2l, i_l2i, i_dup, i_dup2, i_dup2w, i_dupx1, i_pop, i_pop2, i_goto, i_ifc, i_icmp, i_getI, i_getL, i_getR, i_putI, i_putZ, i_putL, i_putR, i_aldI, i_aldB, i_aldL, i_aldD, i_astI, i_astL, i_astD, i_alen, i_ret, i_iret, i_zret, i_lret, i_fret, i_dret, i_aret, i_invS0, i_invV0, i_m2, i_m1, i_ml, i_obj, lk, lkp, stf1, stf2, Value.category, rV, xTo, lv_args, xCk, xCat, xRc, xAk, hg_S, hg_I, hg_J, hg_D, hg_R, hs_I, hs_J, hs_D, hs_R, uI_at, uJ_at, uD_at, uR_at, List.take_succ_cons, List.take_zero, List.drop_succ_cons, List.drop_zero, List.reverse_cons, List.reverse_nil, List.nil_append, List.cons_append, List.map_cons, List.map_nil, List.sum_cons, List.sum_nil, List.length_cons, List.length_nil, Option.toList_some, Option.toList_none, true_and, and_true, false_and, and_false, true_implies, false_implies, implies_true, not_true_eq_false, not_false_eq_true, ne_eq, if_true, if_false, Bool.and_true, Bool.true_and, decide_true, decide_false, reduceIte, reduceCtorEq, Bool.and_self, Bool.and_eq_true, decide_eq_true_eq, and_self, true_or, or_true, false_or, or_false, Nat.zero_add, Nat.add_zero, eq_self, Nat.reduceEqDiff, Nat.reduceLeDiff, Nat.reduceLT, Nat.reduceAdd, Nat.reduceSub, Nat.reduceMul, LM_out hL, xi144_0, ix_0, xi144_1, ix_1, xi144_2, ix_2, xi144_3, ix_3, xi144_4, ix_4, xi144_5, ix_5, xi144_6, ix_6, xi144_7, ix_7, xi144_8, ix_8, xi144_9, ix_9, xi144_10, ix_10, c2, nI_leP (show i < 2147483648 by omega) (show i < 2147483648 by omega), Nat.le_refl, e258_46, B258_46]
  | j + 1, i, hi => by
    have hG' := hG
    have hC' := hC
    obtain ⟨g0, g1, g2, g3, g4, g5, g6⟩ := hG'
    obtain ⟨c1, c2, c3, c4, c5, c6⟩ := hC'
    have ih := R258_9 hL hG hC hs hJ j (i + 1) (by omega)
    rw [ct] at ih
    rw [e258_9]
    simp only [B258_9, xSeq, i_push, i_load, i_iload, i_lload, i_dload, i_aload, i_istore, i_astore, i_lstore, i_dstore, i_iinc, i_ii, i_iiz, i_ll, i_llz, i_lli, i_li, i_i, i_l, i_i2l, i_l2i, i_dup, i_dup2, i_dup2w, i_dupx1, i_pop, i_pop2, i_goto, i_ifc, i_icmp, i_getI, i_getL, i_getR, i_putI, i_putZ, i_putL, i_putR, i_aldI, i_aldB, i_aldL, i_aldD, i_astI, i_astL, i_astD, i_alen, i_ret, i_iret, i_zret, i_lret, i_fret, i_dret, i_aret, i_invS0, i_invV0, i_m2, i_m1, i_ml, i_obj, lk, lkp, stf1, stf2, Value.category, rV, xTo, lv_args, xCk, xCat, xRc, xAk, hg_S, hg_I, hg_J, hg_D, hg_R, hs_I, hs_J, hs_D, hs_R, uI_at, uJ_at, uD_at, uR_at, List.take_succ_cons, List.take_zero, List.drop_succ_cons, List.drop_zero, List.reverse_cons, List.reverse_nil, List.nil_append, List.cons_append, List.map_cons, List.map_nil, List.sum_cons, List.sum_nil, List.length_cons, List.length_nil, Option.toList_some, Option.toList_none, true_and, and_true, false_and, and_false, true_implies, false_implies, implies_true, not_true_eq_false, not_false_eq_true, ne_eq, if_true, if_false, Bool.and_true, Bool.true_and, decide_true, decide_false, reduceIte, reduceCtorEq, Bool.and_self, Bool.and_eq_true, decide_eq_true_eq, and_self, true_or, or_true, false_or, or_false, Nat.zero_add, Nat.add_zero, eq_self, Nat.reduceEqDiff, Nat.reduceLeDiff, Nat.reduceLT, Nat.reduceAdd, Nat.reduceSub, Nat.reduceMul, LM_out hL, xi144_0, ix_0, xi144_1, ix_1, xi144_2, ix_2, xi144_3, ix_3, xi144_4, ix_4, xi144_5, ix_5, xi144_6, ix_6, xi144_7, ix_7, xi144_8, ix_8, xi144_9, ix_9, xi144_10, ix_10, c2, hJ, nI_leP (show m < 2147483648 by omega) (show i < 2147483648 by omega), show (m ≤ i) = False from eq_false (by omega), R237 hL hG hC hs (show i < m by omega)]
    by_cases h : (pr (I 300 (16 + i)) (s.testBit (fi i)) (s.testBit (se i))) < 0
    · rw [if_pos (decide_eq_true h)] at ih
      simp only [h, i32_nl, xSeq, i_push, i_load, i_iload, i_lload, i_dload, i_aload, i_istore, i_astore, i_lstore, i_dstore, i_iinc, i_ii, i_iiz, i_ll, i_llz, i_lli, i_li, i_i, i_l, i_i2l, i_l2i, i_dup, i_dup2, i_dup2w, i_dupx1, i_pop, i_pop2, i_goto, i_ifc, i_icmp, i_getI, i_getL, i_getR, i_putI, i_putZ, i_putL, i_putR, i_aldI, i_aldB, i_aldL, i_aldD, i_astI, i_astL, i_astD, i_alen, i_ret, i_iret, i_zret, i_lret, i_fret, i_dret, i_aret, i_invS0, i_invV0, i_m2, i_m1, i_ml, i_obj, lk, lkp, stf1, stf2, Value.category, rV, xTo, lv_args, xCk, xCat, xRc, xAk, hg_S, hg_I, hg_J, hg_D, hg_R, hs_I, hs_J, hs_D, hs_R, uI_at, uJ_at, uD_at, uR_at, List.take_succ_cons, List.take_zero, List.drop_succ_cons, List.drop_zero, List.reverse_cons, List.reverse_nil, List.nil_append, List.cons_append, List.map_cons, List.map_nil, List.sum_cons, List.sum_nil, List.length_cons, List.length_nil, Option.toList_some, Option.toList_none, true_and, and_true, false_and, and_false, true_implies, false_implies, implies_true, not_true_eq_false, not_false_eq_true, ne_eq, if_true, if_false, Bool.and_true, Bool.true_and, decide_true, decide_false, reduceIte, reduceCtorEq, Bool.and_self, Bool.and_eq_true, decide_eq_true_eq, and_self, true_or, or_true, false_or, or_false, Nat.zero_add, Nat.add_zero, eq_self, Nat.reduceEqDiff, Nat.reduceLeDiff, Nat.reduceLT, Nat.reduceAdd, Nat.reduceSub, Nat.reduceMul, e258_38, B258_38, nI_1]
      exact ih
    · rw [if_neg (fun e => h (of_decide_eq_true e)), Nat.add_zero] at ih
      simp only [h, i32_nl, xSeq, i_push, i_load, i_iload, i_lload, i_dload, i_aload, i_istore, i_astore, i_lstore, i_dstore, i_iinc, i_ii, i_iiz, i_ll, i_llz, i_lli, i_li, i_i, i_l, i_i2l, i_l2i, i_dup, i_dup2, i_dup2w, i_dupx1, i_pop, i_pop2, i_goto, i_ifc, i_icmp, i_getI, i_getL, i_getR, i_putI, i_putZ, i_putL, i_putR, i_aldI, i_aldB, i_aldL, i_aldD, i_astI, i_astL, i_astD, i_alen, i_ret, i_iret, i_zret, i_lret, i_fret, i_dret, i_aret, i_invS0, i_invV0, i_m2, i_m1, i_ml, i_obj, lk, lkp, stf1, stf2, Value.category, rV, xTo, lv_args, xCk, xCat, xRc, xAk, hg_S, hg_I, hg_J, hg_D, hg_R, hs_I, hs_J, hs_D, hs_R, uI_at, uJ_at, uD_at, uR_at, List.take_succ_cons, List.take_zero, List.drop_succ_cons, List.drop_zero, List.reverse_cons, List.reverse_nil, List.nil_append, List.cons_append, List.map_cons, List.map_nil, List.sum_cons, List.sum_nil, List.length_cons, List.length_nil, Option.toList_some, Option.toList_none, true_and, and_true, false_and, and_false, true_implies, false_implies, implies_true, not_true_eq_false, not_false_eq_true, ne_eq, if_true, if_false, Bool.and_true, Bool.true_and, decide_true, decide_false, reduceIte, reduceCtorEq, Bool.and_self, Bool.and_eq_true, decide_eq_true_eq, and_self, true_or, or_true, false_or, or_false, Nat.zero_add, Nat.add_zero, eq_self, Nat.reduceEqDiff, Nat.reduceLeDiff, Nat.reduceLT, Nat.reduceAdd, Nat.reduceSub, Nat.reduceMul, e258_37, B258_37, e258_38, B258_38, nI_1, Int32.add_zero]
      exact ih
theorem R258 (hL : LM S R) (hG : GR n m fi se dg sb) (hC : CM I n m fi se dg sb) {s : Nat} (hs : s < 2 ^ 64) (hJ : J 200 3 = lN s) : xRun xT 258 0 [(0, .ref 200)] [] (S, I, J, D, R) b Q = Q (.ok (some (.int (nI (ct (fun k => decide ((pr (I 300 (16 + k)) (s.testBit (fi k)) (s.testBit (se k))) < 0)) m))))) (S, uI I 200 19 0, J, D, R) b := by
  rw [e258_0]
  simp only [B258_0, xSeq, i_push, i_load, i_iload, i_lload, i_dload, i_aload, i_istore, i_astore, i_lstore, i_dstore, i_iinc, i_ii, i_iiz, i_ll, i_llz, i_lli, i_li, i_i, i_l, i_i2l, i_l2i, i_dup, i_dup2, i_dup2w, i_dupx1, i_pop, i_pop2, i_goto, i_ifc, i_icmp, i_getI, i_getL, i_getR, i_putI, i_putZ, i_putL, i_putR, i_aldI, i_aldB, i_aldL, i_aldD, i_astI, i_astL, i_astD, i_alen, i_ret, i_iret, i_zret, i_lret, i_fret, i_dret, i_aret, i_invS0, i_invV0, i_m2, i_m1, i_ml, i_obj, lk, lkp, stf1, stf2, Value.category, rV, xTo, lv_args, xCk, xCat, xRc, xAk, hg_S, hg_I, hg_J, hg_D, hg_R, hs_I, hs_J, hs_D, hs_R, uI_at, uJ_at, uD_at, uR_at, List.take_succ_cons, List.take_zero, List.drop_succ_cons, List.drop_zero, List.reverse_cons, List.reverse_nil, List.nil_append, List.cons_append, List.map_cons, List.map_nil, List.sum_cons, List.sum_nil, List.length_cons, List.length_nil, Option.toList_some, Option.toList_none, true_and, and_true, false_and, and_false, true_implies, false_implies, implies_true, not_true_eq_false, not_false_eq_true, ne_eq, if_true, if_false, Bool.and_true, Bool.true_and, decide_true, decide_false, reduceIte, reduceCtorEq, Bool.and_self, Bool.and_eq_true, decide_eq_true_eq, and_self, true_or, or_true, false_or, or_false, Nat.zero_add, Nat.add_zero, eq_self, Nat.reduceEqDiff, Nat.reduceLeDiff, Nat.reduceLT, Nat.reduceAdd, Nat.reduceSub, Nat.reduceMul, LM_out hL]
  exact R258_9 (I := uI I 200 19 0) hL hG (CM_u hC (by decide)) hs hJ m 0 (by omega)
theorem R259_9 (hL : LM S R) (hG : GR n m fi se dg sb) (hC : CM I n m fi se dg sb) {s : Nat} (hs : s < 2 ^ 64) (hJ : J 200 3 = lN s) : ∀ (j i : Nat), i + j = n → xRun xT 259 9 [(0, .ref 200), (1, .int (nI (ct (fun k => decide (0 < (dl (I 300 4) (fun k => I 300 (16 + k)) fi se dg sb s k))) i))), (2, .int (nI i))] [] (S, I, J, D, R) b Q = Q (.ok (some (.int (nI (ct (fun k => decide (0 < (dl (I 300 4) (fun k => I 300 (16 + k)) fi se dg sb s k))) n))))) (S, I, J, D, R) b
  | 0, i, hi => by
    obtain ⟨g0, g1, g2, g3, g4, g5, g6⟩ := hG
    obtain ⟨c1, c2, c3, c4, c5, c6⟩ := hC
    have e : i = n := by omega
    subst e
    rw [e259_9]
    simp only [B259_9, xSeq, i_push, i_load, i_iload, i_lload, i_dload, i_aload, i_istore, i_astore, i_lstore, i_dstore, i_iinc, i_ii, i_iiz, i_ll, i_llz, i_lli, i_li, i_i, i_l, i_i2l, i_l2i, i_dup, i_dup2, i_dup2w, i_dupx1, i_pop, i_pop2, i_goto, i_ifc, i_icmp, i_getI, i_getL, i_getR, i_putI, i_putZ, i_putL, i_putR, i_aldI, i_aldB, i_aldL, i_aldD, i_astI, i_astL, i_astD, i_alen, i_ret, i_iret, i_zret, i_lret, i_fret, i_dret, i_aret, i_invS0, i_invV0, i_m2, i_m1, i_ml, i_obj, lk, lkp, stf1, stf2, Value.category, rV, xTo, lv_args, xCk, xCat, xRc, xAk, hg_S, hg_I, hg_J, hg_D, hg_R, hs_I, hs_J, hs_D, hs_R, uI_at, uJ_at, uD_at, uR_at, List.take_succ_cons, List.take_zero, List.drop_succ_cons, List.drop_zero, List.reverse_cons, List.reverse_nil, List.nil_append, List.cons_append, List.map_cons, List.map_nil, List.sum_cons, List.sum_nil, List.length_cons, List.length_nil, Option.toList_some, Option.toList_none, true_and, and_true, false_and, and_false, true_implies, false_implies, implies_true, not_true_eq_false, not_false_eq_true, ne_eq, if_true, if_false, Bool.and_true, Bool.true_and, decide_true, decide_false, reduceIte, reduceCtorEq, Bool.and_self, Bool.and_eq_true, decide_eq_true_eq, and_self, true_or, or_true, false_or, or_false, Nat.zero_add, Nat.add_zero, eq_self, Nat.reduceEqDiff, Nat.reduceLeDiff, Nat.reduceLT, Nat.reduceAdd, Nat.reduceSub, Nat.reduceMul, LM_out hL, xi144_0, ix_0, xi144_1, ix_1, xi144_2, ix_2, xi144_3, ix_3, xi144_4, ix_4, xi144_5, ix_5, xi144_6, ix_6, xi144_7, ix_7, xi144_8, ix_8, xi144_9, ix_9, xi144_10, ix_10, c1, nI_leP (show i < 2147483648 by omega) (show i < 2147483648 by omega), Nat.le_refl, e259_46, B259_46]
  | j + 1, i, hi => by
    have hG' := hG
    have hC' := hC
    obtain ⟨g0, g1, g2, g3, g4, g5, g6⟩ := hG'
    obtain ⟨c1, c2, c3, c4, c5, c6⟩ := hC'
    have ih := R259_9 hL hG hC hs hJ j (i + 1) (by omega)
    rw [ct] at ih
    rw [e259_9]
    simp only [B259_9, xSeq, i_push, i_load, i_iload, i_lload, i_dload, i_aload, i_istore, i_astore, i_lstore, i_dstore, i_iinc, i_ii, i_iiz, i_ll, i_llz, i_lli, i_li, i_i, i_l, i_i2l, i_l2i, i_dup, i_dup2, i_dup2w, i_dupx1, i_pop, i_pop2, i_goto, i_ifc, i_icmp, i_getI, i_getL, i_getR, i_putI, i_putZ, i_putL, i_putR, i_aldI, i_aldB, i_aldL, i_aldD, i_astI, i_astL, i_astD, i_alen, i_ret, i_iret, i_zret, i_lret, i_fret, i_dret, i_aret, i_invS0, i_invV0, i_m2, i_m1, i_ml, i_obj, lk, lkp, stf1, stf2, Value.category, rV, xTo, lv_args, xCk, xCat, xRc, xAk, hg_S, hg_I, hg_J, hg_D, hg_R, hs_I, hs_J, hs_D, hs_R, uI_at, uJ_at, uD_at, uR_at, List.take_succ_cons, List.take_zero, List.drop_succ_cons, List.drop_zero, List.reverse_cons, List.reverse_nil, List.nil_append, List.cons_append, List.map_cons, List.map_nil, List.sum_cons, List.sum_nil, List.length_cons, List.length_nil, Option.toList_some, Option.toList_none, true_and, and_true, false_and, and_false, true_implies, false_implies, implies_true, not_true_eq_false, not_false_eq_true, ne_eq, if_true, if_false, Bool.and_true, Bool.true_and, decide_true, decide_false, reduceIte, reduceCtorEq, Bool.and_self, Bool.and_eq_true, decide_eq_true_eq, and_self, true_or, or_true, false_or, or_false, Nat.zero_add, Nat.add_zero, eq_self, Nat.reduceEqDiff, Nat.reduceLeDiff, Nat.reduceLT, Nat.reduceAdd, Nat.reduceSub, Nat.reduceMul, LM_out hL, xi144_0, ix_0, xi144_1, ix_1, xi144_2, ix_2, xi144_3, ix_3, xi144_4, ix_4, xi144_5, ix_5, xi144_6, ix_6, xi144_7, ix_7, xi144_8, ix_8, xi144_9, ix_9, xi144_10, ix_10, c1, hJ, nI_leP (show n < 2147483648 by omega) (show i < 2147483648 by omega), show (n ≤ i) = False from eq_false (by omega), R257 hL hG hC hs (show i < n by omega)]
    by_cases h : 0 < (dl (I 300 4) (fun k => I 300 (16 + k)) fi se dg sb s i)
    · rw [if_pos (decide_eq_true h)] at ih
      simp only [h, i32_nl, xSeq, i_push, i_load, i_iload, i_lload, i_dload, i_aload, i_istore, i_astore, i_lstore, i_dstore, i_iinc, i_ii, i_iiz, i_ll, i_llz, i_lli, i_li, i_i, i_l, i_i2l, i_l2i, i_dup, i_dup2, i_dup2w, i_dupx1, i_pop, i_pop2, i_goto, i_ifc, i_icmp, i_getI, i_getL, i_getR, i_putI, i_putZ, i_putL, i_putR, i_aldI, i_aldB, i_aldL, i_aldD, i_astI, i_astL, i_astD, i_alen, i_ret, i_iret, i_zret, i_lret, i_fret, i_dret, i_aret, i_invS0, i_invV0, i_m2, i_m1, i_ml, i_obj, lk, lkp, stf1, stf2, Value.category, rV, xTo, lv_args, xCk, xCat, xRc, xAk, hg_S, hg_I, hg_J, hg_D, hg_R, hs_I, hs_J, hs_D, hs_R, uI_at, uJ_at, uD_at, uR_at, List.take_succ_cons, List.take_zero, List.drop_succ_cons, List.drop_zero, List.reverse_cons, List.reverse_nil, List.nil_append, List.cons_append, List.map_cons, List.map_nil, List.sum_cons, List.sum_nil, List.length_cons, List.length_nil, Option.toList_some, Option.toList_none, true_and, and_true, false_and, and_false, true_implies, false_implies, implies_true, not_true_eq_false, not_false_eq_true, ne_eq, if_true, if_false, Bool.and_true, Bool.true_and, decide_true, decide_false, reduceIte, reduceCtorEq, Bool.and_self, Bool.and_eq_true, decide_eq_true_eq, and_self, true_or, or_true, false_or, or_false, Nat.zero_add, Nat.add_zero, eq_self, Nat.reduceEqDiff, Nat.reduceLeDiff, Nat.reduceLT, Nat.reduceAdd, Nat.reduceSub, Nat.reduceMul, e259_38, B259_38, nI_1]
      exact ih
    · rw [if_neg (fun e => h (of_decide_eq_true e)), Nat.add_zero] at ih
      simp only [h, i32_nl, xSeq, i_push, i_load, i_iload, i_lload, i_dload, i_aload, i_istore, i_astore, i_lstore, i_dstore, i_iinc, i_ii, i_iiz, i_ll, i_llz, i_lli, i_li, i_i, i_l, i_i2l, i_l2i, i_dup, i_dup2, i_dup2w, i_dupx1, i_pop, i_pop2, i_goto, i_ifc, i_icmp, i_getI, i_getL, i_getR, i_putI, i_putZ, i_putL, i_putR, i_aldI, i_aldB, i_aldL, i_aldD, i_astI, i_astL, i_astD, i_alen, i_ret, i_iret, i_zret, i_lret, i_fret, i_dret, i_aret, i_invS0, i_invV0, i_m2, i_m1, i_ml, i_obj, lk, lkp, stf1, stf2, Value.category, rV, xTo, lv_args, xCk, xCat, xRc, xAk, hg_S, hg_I, hg_J, hg_D, hg_R, hs_I, hs_J, hs_D, hs_R, uI_at, uJ_at, uD_at, uR_at, List.take_succ_cons, List.take_zero, List.drop_succ_cons, List.drop_zero, List.reverse_cons, List.reverse_nil, List.nil_append, List.cons_append, List.map_cons, List.map_nil, List.sum_cons, List.sum_nil, List.length_cons, List.length_nil, Option.toList_some, Option.toList_none, true_and, and_true, false_and, and_false, true_implies, false_implies, implies_true, not_true_eq_false, not_false_eq_true, ne_eq, if_true, if_false, Bool.and_true, Bool.true_and, decide_true, decide_false, reduceIte, reduceCtorEq, Bool.and_self, Bool.and_eq_true, decide_eq_true_eq, and_self, true_or, or_true, false_or, or_false, Nat.zero_add, Nat.add_zero, eq_self, Nat.reduceEqDiff, Nat.reduceLeDiff, Nat.reduceLT, Nat.reduceAdd, Nat.reduceSub, Nat.reduceMul, e259_37, B259_37, e259_38, B259_38, nI_1, Int32.add_zero]
      exact ih
theorem R259 (hL : LM S R) (hG : GR n m fi se dg sb) (hC : CM I n m fi se dg sb) {s : Nat} (hs : s < 2 ^ 64) (hJ : J 200 3 = lN s) : xRun xT 259 0 [(0, .ref 200)] [] (S, I, J, D, R) b Q = Q (.ok (some (.int (nI (ct (fun k => decide (0 < (dl (I 300 4) (fun k => I 300 (16 + k)) fi se dg sb s k))) n))))) (S, uI I 200 19 0, J, D, R) b := by
  rw [e259_0]
  simp only [B259_0, xSeq, i_push, i_load, i_iload, i_lload, i_dload, i_aload, i_istore, i_astore, i_lstore, i_dstore, i_iinc, i_ii, i_iiz, i_ll, i_llz, i_lli, i_li, i_i, i_l, i_i2l, i_l2i, i_dup, i_dup2, i_dup2w, i_dupx1, i_pop, i_pop2, i_goto, i_ifc, i_icmp, i_getI, i_getL, i_getR, i_putI, i_putZ, i_putL, i_putR, i_aldI, i_aldB, i_aldL, i_aldD, i_astI, i_astL, i_astD, i_alen, i_ret, i_iret, i_zret, i_lret, i_fret, i_dret, i_aret, i_invS0, i_invV0, i_m2, i_m1, i_ml, i_obj, lk, lkp, stf1, stf2, Value.category, rV, xTo, lv_args, xCk, xCat, xRc, xAk, hg_S, hg_I, hg_J, hg_D, hg_R, hs_I, hs_J, hs_D, hs_R, uI_at, uJ_at, uD_at, uR_at, List.take_succ_cons, List.take_zero, List.drop_succ_cons, List.drop_zero, List.reverse_cons, List.reverse_nil, List.nil_append, List.cons_append, List.map_cons, List.map_nil, List.sum_cons, List.sum_nil, List.length_cons, List.length_nil, Option.toList_some, Option.toList_none, true_and, and_true, false_and, and_false, true_implies, false_implies, implies_true, not_true_eq_false, not_false_eq_true, ne_eq, if_true, if_false, Bool.and_true, Bool.true_and, decide_true, decide_false, reduceIte, reduceCtorEq, Bool.and_self, Bool.and_eq_true, decide_eq_true_eq, and_self, true_or, or_true, false_or, or_false, Nat.zero_add, Nat.add_zero, eq_self, Nat.reduceEqDiff, Nat.reduceLeDiff, Nat.reduceLT, Nat.reduceAdd, Nat.reduceSub, Nat.reduceMul, LM_out hL]
  exact R259_9 (I := uI I 200 19 0) hL hG (CM_u hC (by decide)) hs hJ n 0 (by omega)
theorem R260_9 (hL : LM S R) (hG : GR n m fi se dg sb) (hC : CM I n m fi se dg sb) {s : Nat} (hs : s < 2 ^ 64) (hJ : J 200 3 = lN s) : ∀ (j i : Nat), i + j = n → xRun xT 260 9 [(0, .ref 200), (1, .int (nI (ct (fun k => decide ((dl (I 300 4) (fun k => I 300 (16 + k)) fi se dg sb s k) = 0)) i))), (2, .int (nI i))] [] (S, I, J, D, R) b Q = Q (.ok (some (.int (nI (ct (fun k => decide ((dl (I 300 4) (fun k => I 300 (16 + k)) fi se dg sb s k) = 0)) n))))) (S, I, J, D, R) b
  | 0, i, hi => by
    obtain ⟨g0, g1, g2, g3, g4, g5, g6⟩ := hG
    obtain ⟨c1, c2, c3, c4, c5, c6⟩ := hC
    have e : i = n := by omega
    subst e
    rw [e260_9]
    simp only [B260_9, xSeq, i_push, i_load, i_iload, i_lload, i_dload, i_aload, i_istore, i_astore, i_lstore, i_dstore, i_iinc, i_ii, i_iiz, i_ll, i_llz, i_lli, i_li, i_i, i_l, i_i2l, i_l2i, i_dup, i_dup2, i_dup2w, i_dupx1, i_pop, i_pop2, i_goto, i_ifc, i_icmp, i_getI, i_getL, i_getR, i_putI, i_putZ, i_putL, i_putR, i_aldI, i_aldB, i_aldL, i_aldD, i_astI, i_astL, i_astD, i_alen, i_ret, i_iret, i_zret, i_lret, i_fret, i_dret, i_aret, i_invS0, i_invV0, i_m2, i_m1, i_ml, i_obj, lk, lkp, stf1, stf2, Value.category, rV, xTo, lv_args, xCk, xCat, xRc, xAk, hg_S, hg_I, hg_J, hg_D, hg_R, hs_I, hs_J, hs_D, hs_R, uI_at, uJ_at, uD_at, uR_at, List.take_succ_cons, List.take_zero, List.drop_succ_cons, List.drop_zero, List.reverse_cons, List.reverse_nil, List.nil_append, List.cons_append, List.map_cons, List.map_nil, List.sum_cons, List.sum_nil, List.length_cons, List.length_nil, Option.toList_some, Option.toList_none, true_and, and_true, false_and, and_false, true_implies, false_implies, implies_true, not_true_eq_false, not_false_eq_true, ne_eq, if_true, if_false, Bool.and_true, Bool.true_and, decide_true, decide_false, reduceIte, reduceCtorEq, Bool.and_self, Bool.and_eq_true, decide_eq_true_eq, and_self, true_or, or_true, false_or, or_false, Nat.zero_add, Nat.add_zero, eq_self, Nat.reduceEqDiff, Nat.reduceLeDiff, Nat.reduceLT, Nat.reduceAdd, Nat.reduceSub, Nat.reduceMul, LM_out hL, xi144_0, ix_0, xi144_1, ix_1, xi144_2, ix_2, xi144_3, ix_3, xi144_4, ix_4, xi144_5, ix_5, xi144_6, ix_6, xi144_7, ix_7, xi144_8, ix_8, xi144_9, ix_9, xi144_10, ix_10, c1, nI_leP (show i < 2147483648 by omega) (show i < 2147483648 by omega), Nat.le_refl, e260_46, B260_46]
  | j + 1, i, hi => by
    have hG' := hG
    have hC' := hC
    obtain ⟨g0, g1, g2, g3, g4, g5, g6⟩ := hG'
    obtain ⟨c1, c2, c3, c4, c5, c6⟩ := hC'
    have ih := R260_9 hL hG hC hs hJ j (i + 1) (by omega)
    rw [ct] at ih
    rw [e260_9]
    simp only [B260_9, xSeq, i_push, i_load, i_iload, i_lload, i_dload, i_aload, i_istore, i_astore, i_lstore, i_dstore, i_iinc, i_ii, i_iiz, i_ll, i_llz, i_lli, i_li, i_i, i_l, i_i2l, i_l2i, i_dup, i_dup2, i_dup2w, i_dupx1, i_pop, i_pop2, i_goto, i_ifc, i_icmp, i_getI, i_getL, i_getR, i_putI, i_putZ, i_putL, i_putR, i_aldI, i_aldB, i_aldL, i_aldD, i_astI, i_astL, i_astD, i_alen, i_ret, i_iret, i_zret, i_lret, i_fret, i_dret, i_aret, i_invS0, i_invV0, i_m2, i_m1, i_ml, i_obj, lk, lkp, stf1, stf2, Value.category, rV, xTo, lv_args, xCk, xCat, xRc, xAk, hg_S, hg_I, hg_J, hg_D, hg_R, hs_I, hs_J, hs_D, hs_R, uI_at, uJ_at, uD_at, uR_at, List.take_succ_cons, List.take_zero, List.drop_succ_cons, List.drop_zero, List.reverse_cons, List.reverse_nil, List.nil_append, List.cons_append, List.map_cons, List.map_nil, List.sum_cons, List.sum_nil, List.length_cons, List.length_nil, Option.toList_some, Option.toList_none, true_and, and_true, false_and, and_false, true_implies, false_implies, implies_true, not_true_eq_false, not_false_eq_true, ne_eq, if_true, if_false, Bool.and_true, Bool.true_and, decide_true, decide_false, reduceIte, reduceCtorEq, Bool.and_self, Bool.and_eq_true, decide_eq_true_eq, and_self, true_or, or_true, false_or, or_false, Nat.zero_add, Nat.add_zero, eq_self, Nat.reduceEqDiff, Nat.reduceLeDiff, Nat.reduceLT, Nat.reduceAdd, Nat.reduceSub, Nat.reduceMul, LM_out hL, xi144_0, ix_0, xi144_1, ix_1, xi144_2, ix_2, xi144_3, ix_3, xi144_4, ix_4, xi144_5, ix_5, xi144_6, ix_6, xi144_7, ix_7, xi144_8, ix_8, xi144_9, ix_9, xi144_10, ix_10, c1, hJ, nI_leP (show n < 2147483648 by omega) (show i < 2147483648 by omega), show (n ≤ i) = False from eq_false (by omega), R257 hL hG hC hs (show i < n by omega)]
    by_cases h : (dl (I 300 4) (fun k => I 300 (16 + k)) fi se dg sb s i) = 0
    · rw [if_pos (decide_eq_true h)] at ih
      simp only [h, i32_nl, xSeq, i_push, i_load, i_iload, i_lload, i_dload, i_aload, i_istore, i_astore, i_lstore, i_dstore, i_iinc, i_ii, i_iiz, i_ll, i_llz, i_lli, i_li, i_i, i_l, i_i2l, i_l2i, i_dup, i_dup2, i_dup2w, i_dupx1, i_pop, i_pop2, i_goto, i_ifc, i_icmp, i_getI, i_getL, i_getR, i_putI, i_putZ, i_putL, i_putR, i_aldI, i_aldB, i_aldL, i_aldD, i_astI, i_astL, i_astD, i_alen, i_ret, i_iret, i_zret, i_lret, i_fret, i_dret, i_aret, i_invS0, i_invV0, i_m2, i_m1, i_ml, i_obj, lk, lkp, stf1, stf2, Value.category, rV, xTo, lv_args, xCk, xCat, xRc, xAk, hg_S, hg_I, hg_J, hg_D, hg_R, hs_I, hs_J, hs_D, hs_R, uI_at, uJ_at, uD_at, uR_at, List.take_succ_cons, List.take_zero, List.drop_succ_cons, List.drop_zero, List.reverse_cons, List.reverse_nil, List.nil_append, List.cons_append, List.map_cons, List.map_nil, List.sum_cons, List.sum_nil, List.length_cons, List.length_nil, Option.toList_some, Option.toList_none, true_and, and_true, false_and, and_false, true_implies, false_implies, implies_true, not_true_eq_false, not_false_eq_true, ne_eq, if_true, if_false, Bool.and_true, Bool.true_and, decide_true, decide_false, reduceIte, reduceCtorEq, Bool.and_self, Bool.and_eq_true, decide_eq_true_eq, and_self, true_or, or_true, false_or, or_false, Nat.zero_add, Nat.add_zero, eq_self, Nat.reduceEqDiff, Nat.reduceLeDiff, Nat.reduceLT, Nat.reduceAdd, Nat.reduceSub, Nat.reduceMul, e260_38, B260_38, nI_1]
      exact ih
    · rw [if_neg (fun e => h (of_decide_eq_true e)), Nat.add_zero] at ih
      simp only [h, i32_nl, xSeq, i_push, i_load, i_iload, i_lload, i_dload, i_aload, i_istore, i_astore, i_lstore, i_dstore, i_iinc, i_ii, i_iiz, i_ll, i_llz, i_lli, i_li, i_i, i_l, i_i2l, i_l2i, i_dup, i_dup2, i_dup2w, i_dupx1, i_pop, i_pop2, i_goto, i_ifc, i_icmp, i_getI, i_getL, i_getR, i_putI, i_putZ, i_putL, i_putR, i_aldI, i_aldB, i_aldL, i_aldD, i_astI, i_astL, i_astD, i_alen, i_ret, i_iret, i_zret, i_lret, i_fret, i_dret, i_aret, i_invS0, i_invV0, i_m2, i_m1, i_ml, i_obj, lk, lkp, stf1, stf2, Value.category, rV, xTo, lv_args, xCk, xCat, xRc, xAk, hg_S, hg_I, hg_J, hg_D, hg_R, hs_I, hs_J, hs_D, hs_R, uI_at, uJ_at, uD_at, uR_at, List.take_succ_cons, List.take_zero, List.drop_succ_cons, List.drop_zero, List.reverse_cons, List.reverse_nil, List.nil_append, List.cons_append, List.map_cons, List.map_nil, List.sum_cons, List.sum_nil, List.length_cons, List.length_nil, Option.toList_some, Option.toList_none, true_and, and_true, false_and, and_false, true_implies, false_implies, implies_true, not_true_eq_false, not_false_eq_true, ne_eq, if_true, if_false, Bool.and_true, Bool.true_and, decide_true, decide_false, reduceIte, reduceCtorEq, Bool.and_self, Bool.and_eq_true, decide_eq_true_eq, and_self, true_or, or_true, false_or, or_false, Nat.zero_add, Nat.add_zero, eq_self, Nat.reduceEqDiff, Nat.reduceLeDiff, Nat.reduceLT, Nat.reduceAdd, Nat.reduceSub, Nat.reduceMul, e260_37, B260_37, e260_38, B260_38, nI_1, Int32.add_zero]
      exact ih
theorem R260 (hL : LM S R) (hG : GR n m fi se dg sb) (hC : CM I n m fi se dg sb) {s : Nat} (hs : s < 2 ^ 64) (hJ : J 200 3 = lN s) : xRun xT 260 0 [(0, .ref 200)] [] (S, I, J, D, R) b Q = Q (.ok (some (.int (nI (ct (fun k => decide ((dl (I 300 4) (fun k => I 300 (16 + k)) fi se dg sb s k) = 0)) n))))) (S, uI I 200 19 0, J, D, R) b := by
  rw [e260_0]
  simp only [B260_0, xSeq, i_push, i_load, i_iload, i_lload, i_dload, i_aload, i_istore, i_astore, i_lstore, i_dstore, i_iinc, i_ii, i_iiz, i_ll, i_llz, i_lli, i_li, i_i, i_l, i_i2l, i_l2i, i_dup, i_dup2, i_dup2w, i_dupx1, i_pop, i_pop2, i_goto, i_ifc, i_icmp, i_getI, i_getL, i_getR, i_putI, i_putZ, i_putL, i_putR, i_aldI, i_aldB, i_aldL, i_aldD, i_astI, i_astL, i_astD, i_alen, i_ret, i_iret, i_zret, i_lret, i_fret, i_dret, i_aret, i_invS0, i_invV0, i_m2, i_m1, i_ml, i_obj, lk, lkp, stf1, stf2, Value.category, rV, xTo, lv_args, xCk, xCat, xRc, xAk, hg_S, hg_I, hg_J, hg_D, hg_R, hs_I, hs_J, hs_D, hs_R, uI_at, uJ_at, uD_at, uR_at, List.take_succ_cons, List.take_zero, List.drop_succ_cons, List.drop_zero, List.reverse_cons, List.reverse_nil, List.nil_append, List.cons_append, List.map_cons, List.map_nil, List.sum_cons, List.sum_nil, List.length_cons, List.length_nil, Option.toList_some, Option.toList_none, true_and, and_true, false_and, and_false, true_implies, false_implies, implies_true, not_true_eq_false, not_false_eq_true, ne_eq, if_true, if_false, Bool.and_true, Bool.true_and, decide_true, decide_false, reduceIte, reduceCtorEq, Bool.and_self, Bool.and_eq_true, decide_eq_true_eq, and_self, true_or, or_true, false_or, or_false, Nat.zero_add, Nat.add_zero, eq_self, Nat.reduceEqDiff, Nat.reduceLeDiff, Nat.reduceLT, Nat.reduceAdd, Nat.reduceSub, Nat.reduceMul, LM_out hL]
  exact R260_9 (I := uI I 200 19 0) hL hG (CM_u hC (by decide)) hs hJ n 0 (by omega)
end
/-! ===== whole rows ===== -/
section
def rI (I : xI) (o : Nat) (f : Nat → Int32) : xI := fun a b => if a = o then f b else I a b
def up (f : Nat → Int32) (k : Nat) (v : Int32) : Nat → Int32 := fun j => if j = k then v else f j
theorem up_at (f : Nat → Int32) (k : Nat) (v : Int32) (j : Nat) : up f k v j = if j = k then v else f j := rfl
theorem rI_at (I : xI) (o : Nat) (f : Nat → Int32) (a b : Nat) : rI I o f a b = if a = o then f b else I a b := rfl
theorem uI_rI (I : xI) (o : Nat) (f : Nat → Int32) (k : Nat) (v : Int32) : uI (rI I o f) o k v = rI I o (up f k v) := by
  funext a b
  simp only [uI_at, rI_at, up_at]
  by_cases h : a = o
  · simp [h]
  · simp [h]
theorem rI_rI (I : xI) (o : Nat) (f g : Nat → Int32) : rI (rI I o f) o g = rI I o g := by
  funext a b
  simp only [rI_at]
  split <;> rfl
theorem rI_self (I : xI) (o : Nat) : rI I o (I o) = I := by
  funext a b
  simp only [rI_at]
  split
  · rename_i h
    rw [h]
  · rfl
theorem rI_swap (I : xI) {o p : Nat} (h : o ≠ p) (f g : Nat → Int32) : rI (rI I o f) p g = rI (rI I p g) o f := by
  funext a b
  simp only [rI_at]
  by_cases h1 : a = p
  · subst h1
    rw [if_pos rfl, if_neg (fun e => h e.symm), if_pos rfl]
  · rw [if_neg h1, if_neg h1]
theorem uI_swap (I : xI) {o p : Nat} (h : o ≠ p) (k : Nat) (v : Int32) (g : Nat → Int32) : uI (rI I p g) o k v = rI (uI I o k v) p g := by
  funext a b
  simp only [rI_at, uI_at]
  by_cases h1 : a = p
  · subst h1
    rw [if_pos rfl, if_neg (fun e => h e.1.symm), if_pos rfl]
  · rw [if_neg h1, if_neg h1]
theorem CL_r {I : xI} {n m : Nat} {fi se dg : Nat → Nat} {sb : Nat → Nat → Nat} {o : Nat} {f : Nat → Int32} (h : CL I n m fi se dg sb) (ho : o ≠ 102 ∧ o ≠ 103 ∧ o ≠ 104 ∧ o ≠ 107 ∧ o ≠ 108) : CL (rI I o f) n m fi se dg sb := by
  obtain ⟨h1, h2, h3, h4, h5⟩ := ho
  obtain ⟨c1, c2, c3, c4, c5, c6⟩ := h
  refine ⟨?_, ?_, fun i hi => ?_, fun i hi => ?_, fun i hi => ?_, fun i j hi hj => ?_⟩
  · rw [rI_at, if_neg (fun e => h1 e.symm)]; exact c1
  · rw [rI_at, if_neg (fun e => h1 e.symm)]; exact c2
  · rw [rI_at, if_neg (fun e => h2 e.symm)]; exact c3 i hi
  · rw [rI_at, if_neg (fun e => h3 e.symm)]; exact c4 i hi
  · rw [rI_at, if_neg (fun e => h4 e.symm)]; exact c5 i hi
  · rw [rI_at, if_neg (fun e => h5 e.symm)]; exact c6 i j hi hj
theorem CM_r {I : xI} {n m : Nat} {fi se dg : Nat → Nat} {sb : Nat → Nat → Nat} {o : Nat} {f : Nat → Int32} (h : CM I n m fi se dg sb) (ho : o ≠ 300 ∧ o ≠ 314 ∧ o ≠ 315 ∧ o ≠ 316 ∧ o ≠ 317) : CM (rI I o f) n m fi se dg sb := by
  obtain ⟨h1, h2, h3, h4, h5⟩ := ho
  obtain ⟨c1, c2, c3, c4, c5, c6⟩ := h
  refine ⟨?_, ?_, fun i hi => ?_, fun i hi => ?_, fun i hi => ?_, fun i j hi hj => ?_⟩
  · rw [rI_at, if_neg (fun e => h1 e.symm)]; exact c1
  · rw [rI_at, if_neg (fun e => h1 e.symm)]; exact c2
  · rw [rI_at, if_neg (fun e => h2 e.symm)]; exact c3 i hi
  · rw [rI_at, if_neg (fun e => h3 e.symm)]; exact c4 i hi
  · rw [rI_at, if_neg (fun e => h5 e.symm)]; exact c5 i hi
  · rw [rI_at, if_neg (fun e => h4 e.symm)]; exact c6 i j hi hj
/-- the strengths of all bonds of t that lead to o -/
def sp (st : Nat → Int32) (fi se dg : Nat → Nat) (sb : Nat → Nat → Nat) (t o : Nat) : Int32 := sm (fun i => if (if fi (sb t i) = t then se (sb t i) else fi (sb t i)) = o then st (sb t i) else 0) (dg t)
variable {S : xS} {I : xI} {J : xJ} {D : xDb} {R : xR} {b : Nat × Nat} {Q : xQ} {n m : Nat} {fi se dg : Nat → Nat} {sb : Nat → Nat → Nat}
theorem R92_5 (hL : LC S R) (hG : GR n m fi se dg sb) (hC : CL I n m fi se dg sb) {t o : Nat} (ht : t < n) (ho : o < n) : ∀ (j i : Nat), i + j = dg t → xRun xT 92 5 [(0, .ref 110), (1, .int (nI t)), (2, .int (nI o)), (3, .int (sm (fun i => if (if fi (sb t i) = t then se (sb t i) else fi (sb t i)) = o then I 111 (sb t i) else 0) i)), (4, .int (nI i))] [] (S, I, J, D, R) b Q = Q (.ok (some (.int (sp (I 111) fi se dg sb t o)))) (S, I, J, D, R) b
  | 0, i, hi => by
    obtain ⟨g0, g1, g2, g3, g4, g5, g6⟩ := hG
    obtain ⟨c1, c2, c3, c4, c5, c6⟩ := hC
    have h5 := g5 t ht
    have e : i = dg t := by omega
    subst e
    rw [e92_5]
    simp only [B92_5, xSeq, i_push, i_load, i_iload, i_lload, i_dload, i_aload, i_istore, i_astore, i_lstore, i_dstore, i_iinc, i_ii, i_iiz, i_ll, i_llz, i_lli, i_li, i_i, i_l, i_i2l, i_l2i, i_dup, i_dup2, i_dup2w, i_dupx1, i_pop, i_pop2, i_goto, i_ifc, i_icmp, i_getI, i_getL, i_getR, i_putI, i_putZ, i_putL, i_putR, i_aldI, i_aldB, i_aldL, i_aldD, i_astI, i_astL, i_astD, i_alen, i_ret, i_iret, i_zret, i_lret, i_fret, i_dret, i_aret, i_invS0, i_invV0, i_m2, i_m1, i_ml, i_obj, lk, lkp, stf1, stf2, Value.category, rV, xTo, lv_args, xCk, xCat, xRc, xAk, hg_S, hg_I, hg_J, hg_D, hg_R, hs_I, hs_J, hs_D, hs_R, uI_at, uJ_at, uD_at, uR_at, List.take_succ_cons, List.take_zero, List.drop_succ_cons, List.drop_zero, List.reverse_cons, List.reverse_nil, List.nil_append, List.cons_append, List.map_cons, List.map_nil, List.sum_cons, List.sum_nil, List.length_cons, List.length_nil, Option.toList_some, Option.toList_none, true_and, and_true, false_and, and_false, true_implies, false_implies, implies_true, not_true_eq_false, not_false_eq_true, ne_eq, if_true, if_false, Bool.and_true, Bool.true_and, decide_true, decide_false, reduceIte, reduceCtorEq, Bool.and_self, Bool.and_eq_true, decide_eq_true_eq, and_self, true_or, or_true, false_or, or_false, Nat.zero_add, Nat.add_zero, eq_self, Nat.reduceEqDiff, Nat.reduceLeDiff, Nat.reduceLT, Nat.reduceAdd, Nat.reduceSub, Nat.reduceMul, LC_out hL, nI_inP (show t < 64 by omega) (by decide), nI_ix (show t < 2147483648 by omega), c5 t ht, nI_leP (show dg t < 2147483648 by omega) (show dg t < 2147483648 by omega), Nat.le_refl, e92_61, B92_61, sp]
  | j + 1, i, hi => by
    have hG' := hG
    have hC' := hC
    obtain ⟨g0, g1, g2, g3, g4, g5, g6⟩ := hG'
    obtain ⟨c1, c2, c3, c4, c5, c6⟩ := hC'
    have h5 := g5 t ht
    have hk := g6 t i ht (show i < dg t by omega)
    have h3 := g3 _ hk
    have h4 := g4 _ hk
    have ih := R92_5 hL hG hC ht ho j (i + 1) (by omega)
    rw [sm] at ih
    rw [e92_5]
    simp only [B92_5, xSeq, i_push, i_load, i_iload, i_lload, i_dload, i_aload, i_istore, i_astore, i_lstore, i_dstore, i_iinc, i_ii, i_iiz, i_ll, i_llz, i_lli, i_li, i_i, i_l, i_i2l, i_l2i, i_dup, i_dup2, i_dup2w, i_dupx1, i_pop, i_pop2, i_goto, i_ifc, i_icmp, i_getI, i_getL, i_getR, i_putI, i_putZ, i_putL, i_putR, i_aldI, i_aldB, i_aldL, i_aldD, i_astI, i_astL, i_astD, i_alen, i_ret, i_iret, i_zret, i_lret, i_fret, i_dret, i_aret, i_invS0, i_invV0, i_m2, i_m1, i_ml, i_obj, lk, lkp, stf1, stf2, Value.category, rV, xTo, lv_args, xCk, xCat, xRc, xAk, hg_S, hg_I, hg_J, hg_D, hg_R, hs_I, hs_J, hs_D, hs_R, uI_at, uJ_at, uD_at, uR_at, List.take_succ_cons, List.take_zero, List.drop_succ_cons, List.drop_zero, List.reverse_cons, List.reverse_nil, List.nil_append, List.cons_append, List.map_cons, List.map_nil, List.sum_cons, List.sum_nil, List.length_cons, List.length_nil, Option.toList_some, Option.toList_none, true_and, and_true, false_and, and_false, true_implies, false_implies, implies_true, not_true_eq_false, not_false_eq_true, ne_eq, if_true, if_false, Bool.and_true, Bool.true_and, decide_true, decide_false, reduceIte, reduceCtorEq, Bool.and_self, Bool.and_eq_true, decide_eq_true_eq, and_self, true_or, or_true, false_or, or_false, Nat.zero_add, Nat.add_zero, eq_self, Nat.reduceEqDiff, Nat.reduceLeDiff, Nat.reduceLT, Nat.reduceAdd, Nat.reduceSub, Nat.reduceMul, LC_out hL, nI_inP (show t < 64 by omega) (by decide), nI_ix (show t < 2147483648 by omega), c5 t ht, nI_leP (show dg t < 2147483648 by omega) (show i < 2147483648 by omega), show (dg t ≤ i) = False from eq_false (by omega), R52 hL hG hC ht (show i < dg t by omega), R54 hL hG hC ht hk, nI_iff (show (if fi (sb t i) = t then se (sb t i) else fi (sb t i)) < 2147483648 by split <;> omega) (show o < 2147483648 by omega), nI_inP (show sb t i < 128 by omega) (by decide), nI_ix (show sb t i < 2147483648 by omega), e92_55, B92_55, nI_1]
    by_cases h : (if fi (sb t i) = t then se (sb t i) else fi (sb t i)) = o
    · rw [if_pos h] at ih
      simp only [h, true_and, and_true, false_and, and_false, true_implies, false_implies, implies_true, not_true_eq_false, not_false_eq_true, ne_eq, if_true, if_false, Bool.and_true, Bool.true_and, decide_true, decide_false, reduceIte, reduceCtorEq, Bool.and_self, Bool.and_eq_true, decide_eq_true_eq, and_self, true_or, or_true, false_or, or_false, Nat.zero_add, Nat.add_zero, eq_self, Nat.reduceEqDiff, Nat.reduceLeDiff, Nat.reduceLT, Nat.reduceAdd, Nat.reduceSub, Nat.reduceMul]
      exact ih
    · rw [if_neg h, Int32.add_zero] at ih
      simp only [h, true_and, and_true, false_and, and_false, true_implies, false_implies, implies_true, not_true_eq_false, not_false_eq_true, ne_eq, if_true, if_false, Bool.and_true, Bool.true_and, decide_true, decide_false, reduceIte, reduceCtorEq, Bool.and_self, Bool.and_eq_true, decide_eq_true_eq, and_self, true_or, or_true, false_or, or_false, Nat.zero_add, Nat.add_zero, eq_self, Nat.reduceEqDiff, Nat.reduceLeDiff, Nat.reduceLT, Nat.reduceAdd, Nat.reduceSub, Nat.reduceMul]
      exact ih
theorem R92 (hL : LC S R) (hG : GR n m fi se dg sb) (hC : CL I n m fi se dg sb) {t o : Nat} (ht : t < n) (ho : o < n) : xRun xT 92 0 [(0, .ref 110), (1, .int (nI t)), (2, .int (nI o))] [] (S, I, J, D, R) b Q = Q (.ok (some (.int (sp (I 111) fi se dg sb t o)))) (S, I, J, D, R) b := by
  rw [e92_0]
  simp only [B92_0, xSeq, i_push, i_load, i_iload, i_lload, i_dload, i_aload, i_istore, i_astore, i_lstore, i_dstore, i_iinc, i_ii, i_iiz, i_ll, i_llz, i_lli, i_li, i_i, i_l, i_i2l, i_l2i, i_dup, i_dup2, i_dup2w, i_dupx1, i_pop, i_pop2, i_goto, i_ifc, i_icmp, i_getI, i_getL, i_getR, i_putI, i_putZ, i_putL, i_putR, i_aldI, i_aldB, i_aldL, i_aldD, i_astI, i_astL, i_astD, i_alen, i_ret, i_iret, i_zret, i_lret, i_fret, i_dret, i_aret, i_invS0, i_invV0, i_m2, i_m1, i_ml, i_obj, lk, lkp, stf1, stf2, Value.category, rV, xTo, lv_args, xCk, xCat, xRc, xAk, hg_S, hg_I, hg_J, hg_D, hg_R, hs_I, hs_J, hs_D, hs_R, uI_at, uJ_at, uD_at, uR_at, List.take_succ_cons, List.take_zero, List.drop_succ_cons, List.drop_zero, List.reverse_cons, List.reverse_nil, List.nil_append, List.cons_append, List.map_cons, List.map_nil, List.sum_cons, List.sum_nil, List.length_cons, List.length_nil, Option.toList_some, Option.toList_none, true_and, and_true, false_and, and_false, true_implies, false_implies, implies_true, not_true_eq_false, not_false_eq_true, ne_eq, if_true, if_false, Bool.and_true, Bool.true_and, decide_true, decide_false, reduceIte, reduceCtorEq, Bool.and_self, Bool.and_eq_true, decide_eq_true_eq, and_self, true_or, or_true, false_or, or_false, Nat.zero_add, Nat.add_zero, eq_self, Nat.reduceEqDiff, Nat.reduceLeDiff, Nat.reduceLT, Nat.reduceAdd, Nat.reduceSub, Nat.reduceMul]
  exact R92_5 hL hG hC ht ho (dg t) 0 (by omega)
end
/-! ===== the energies of all configurations: the lab's side ===== -/
section
theorem xi0 {k : Nat} (h : 0 < k) (h2 : k < 2147483648) : xIn 0 k = True := by
  have := nI_inP h h2
  rwa [nI_0] at this
def fill (f : Nat → Int32) (v : Int32) (i : Nat) : Nat → Int32 := fun j => if j < i then v else f j
theorem fill_at (f : Nat → Int32) (v : Int32) (i j : Nat) : fill f v i j = if j < i then v else f j := rfl
theorem fill_up (f : Nat → Int32) (v : Int32) (i : Nat) : up (fill f v i) i v = fill f v (i + 1) := by
  funext j
  simp only [up_at, fill_at]
  by_cases h : j = i
  · rw [if_pos h, if_pos (by omega)]
  · rw [if_neg h]
    by_cases h2 : j < i
    · rw [if_pos h2, if_pos (by omega)]
    · rw [if_neg h2, if_neg (by omega)]
theorem fill_0 (f : Nat → Int32) (v : Int32) : fill f v 0 = f := by
  funext j
  rw [fill_at, if_neg (Nat.not_lt_zero j)]
variable {S : xS} {I : xI} {J : xJ} {D : xDb} {R : xR} {b : Nat × Nat} {Q : xQ} {n m : Nat} {fi se dg : Nat → Nat} {sb : Nat → Nat → Nat}
theorem Y6_5 {o L : Nat} {v : Int32} {f : Nat → Int32} (hS : S o = (100, L)) (hL : L < 2147483648) : ∀ (j i : Nat), i + j = L → xRun xT 6 5 [(0, .ref o), (1, .int v), (2, .int (nI i)), (3, .int (nI L))] [] (S, rI I o (fill f v i), J, D, R) b Q = Q (.ok none) (S, rI I o (fill f v L), J, D, R) b
  | 0, i, hi => by
    have e : i = L := by omega
    subst e
    rw [e6_5]
    simp only [B6_5, xSeq, i_push, i_load, i_iload, i_lload, i_dload, i_aload, i_istore, i_astore, i_lstore, i_dstore, i_iinc, i_ii, i_iiz, i_ll, i_llz, i_lli, i_li, i_i, i_l, i_i2l, i_l2i, i_dup, i_dup2, i_dup2w, i_dupx1, i_pop, i_pop2, i_goto, i_ifc, i_icmp, i_getI, i_getL, i_getR, i_putI, i_putZ, i_putL, i_putR, i_aldI, i_aldB, i_aldL, i_aldD, i_astI, i_astL, i_astD, i_alen, i_ret, i_iret, i_zret, i_lret, i_fret, i_dret, i_aret, i_invS0, i_invV0, i_m2, i_m1, i_ml, i_obj, lk, lkp, stf1, stf2, Value.category, rV, xTo, lv_args, xCk, xCat, xRc, xAk, hg_S, hg_I, hg_J, hg_D, hg_R, hs_I, hs_J, hs_D, hs_R, uI_at, uJ_at, uD_at, uR_at, List.take_succ_cons, List.take_zero, List.drop_succ_cons, List.drop_zero, List.reverse_cons, List.reverse_nil, List.nil_append, List.cons_append, List.map_cons, List.map_nil, List.sum_cons, List.sum_nil, List.length_cons, List.length_nil, Option.toList_some, Option.toList_none, true_and, and_true, false_and, and_false, true_implies, false_implies, implies_true, not_true_eq_false, not_false_eq_true, ne_eq, if_true, if_false, Bool.and_true, Bool.true_and, decide_true, decide_false, reduceIte, reduceCtorEq, Bool.and_self, Bool.and_eq_true, decide_eq_true_eq, and_self, true_or, or_true, false_or, or_false, Nat.zero_add, Nat.add_zero, eq_self, Nat.reduceEqDiff, Nat.reduceLeDiff, Nat.reduceLT, Nat.reduceAdd, Nat.reduceSub, Nat.reduceMul, nI_leP hL hL, Nat.le_refl, e6_20, B6_20]
  | j + 1, i, hi => by
    rw [e6_5]
    simp only [B6_5, xSeq, i_push, i_load, i_iload, i_lload, i_dload, i_aload, i_istore, i_astore, i_lstore, i_dstore, i_iinc, i_ii, i_iiz, i_ll, i_llz, i_lli, i_li, i_i, i_l, i_i2l, i_l2i, i_dup, i_dup2, i_dup2w, i_dupx1, i_pop, i_pop2, i_goto, i_ifc, i_icmp, i_getI, i_getL, i_getR, i_putI, i_putZ, i_putL, i_putR, i_aldI, i_aldB, i_aldL, i_aldD, i_astI, i_astL, i_astD, i_alen, i_ret, i_iret, i_zret, i_lret, i_fret, i_dret, i_aret, i_invS0, i_invV0, i_m2, i_m1, i_ml, i_obj, lk, lkp, stf1, stf2, Value.category, rV, xTo, lv_args, xCk, xCat, xRc, xAk, hg_S, hg_I, hg_J, hg_D, hg_R, hs_I, hs_J, hs_D, hs_R, uI_at, uJ_at, uD_at, uR_at, List.take_succ_cons, List.take_zero, List.drop_succ_cons, List.drop_zero, List.reverse_cons, List.reverse_nil, List.nil_append, List.cons_append, List.map_cons, List.map_nil, List.sum_cons, List.sum_nil, List.length_cons, List.length_nil, Option.toList_some, Option.toList_none, true_and, and_true, false_and, and_false, true_implies, false_implies, implies_true, not_true_eq_false, not_false_eq_true, ne_eq, if_true, if_false, Bool.and_true, Bool.true_and, decide_true, decide_false, reduceIte, reduceCtorEq, Bool.and_self, Bool.and_eq_true, decide_eq_true_eq, and_self, true_or, or_true, false_or, or_false, Nat.zero_add, Nat.add_zero, eq_self, Nat.reduceEqDiff, Nat.reduceLeDiff, Nat.reduceLT, Nat.reduceAdd, Nat.reduceSub, Nat.reduceMul, hS, nI_leP hL (show i < 2147483648 by omega), show (L ≤ i) = False from eq_false (by omega), nI_inP (show i < L by omega) hL, nI_ix (show i < 2147483648 by omega), uI_rI, fill_up, nI_1]
    exact Y6_5 hS hL j (i + 1) (by omega)
theorem Y6 {o L : Nat} {v : Int32} (hS : S o = (100, L)) (hL : L < 2147483648) : xRun xT 6 0 [(0, .ref o), (1, .int v)] [] (S, I, J, D, R) b Q = Q (.ok none) (S, rI I o (fill (I o) v L), J, D, R) b := by
  rw [e6_0]
  simp only [B6_0, xSeq, i_push, i_load, i_iload, i_lload, i_dload, i_aload, i_istore, i_astore, i_lstore, i_dstore, i_iinc, i_ii, i_iiz, i_ll, i_llz, i_lli, i_li, i_i, i_l, i_i2l, i_l2i, i_dup, i_dup2, i_dup2w, i_dupx1, i_pop, i_pop2, i_goto, i_ifc, i_icmp, i_getI, i_getL, i_getR, i_putI, i_putZ, i_putL, i_putR, i_aldI, i_aldB, i_aldL, i_aldD, i_astI, i_astL, i_astD, i_alen, i_ret, i_iret, i_zret, i_lret, i_fret, i_dret, i_aret, i_invS0, i_invV0, i_m2, i_m1, i_ml, i_obj, lk, lkp, stf1, stf2, Value.category, rV, xTo, lv_args, xCk, xCat, xRc, xAk, hg_S, hg_I, hg_J, hg_D, hg_R, hs_I, hs_J, hs_D, hs_R, uI_at, uJ_at, uD_at, uR_at, List.take_succ_cons, List.take_zero, List.drop_succ_cons, List.drop_zero, List.reverse_cons, List.reverse_nil, List.nil_append, List.cons_append, List.map_cons, List.map_nil, List.sum_cons, List.sum_nil, List.length_cons, List.length_nil, Option.toList_some, Option.toList_none, true_and, and_true, false_and, and_false, true_implies, false_implies, implies_true, not_true_eq_false, not_false_eq_true, ne_eq, if_true, if_false, Bool.and_true, Bool.true_and, decide_true, decide_false, reduceIte, reduceCtorEq, Bool.and_self, Bool.and_eq_true, decide_eq_true_eq, and_self, true_or, or_true, false_or, or_false, Nat.zero_add, Nat.add_zero, eq_self, Nat.reduceEqDiff, Nat.reduceLeDiff, Nat.reduceLT, Nat.reduceAdd, Nat.reduceSub, Nat.reduceMul, hS]
  have h := Y6_5 (S := S) (I := I) (J := J) (D := D) (R := R) (b := b) (Q := Q) (f := I o) (v := v) hS hL L 0 (by omega)
  rw [fill_0, rI_self] at h
  simp only [nI_0] at h
  simp [xAk, h]
/-- the rows that the enumeration makes -/
def LE (S : xS) (R : xR) : Prop := R 130 6 = some 151 ∧ R 130 7 = some 152 ∧ R 130 8 = some 153 ∧ R 130 9 = some 154 ∧ R 130 10 = some 155 ∧ R 130 11 = some 156 ∧ S 151 = (104, 65536) ∧ S 152 = (100, 65536) ∧ S 153 = (100, 4913) ∧ S 154 = (100, 4913) ∧ S 155 = (100, 4913) ∧ S 156 = (100, 4913)
theorem LE_out {S : xS} {R : xR} (h : LE S R) : R 130 6 = some 151 ∧ R 130 7 = some 152 ∧ R 130 8 = some 153 ∧ R 130 9 = some 154 ∧ R 130 10 = some 155 ∧ R 130 11 = some 156 ∧ S 151 = (104, 65536) ∧ S 152 = (100, 65536) ∧ S 153 = (100, 4913) ∧ S 154 = (100, 4913) ∧ S 155 = (100, 4913) ∧ S 156 = (100, 4913) := h
theorem pw_lt {o t : Nat} (h : o < t) : 2 ^ o * 2 ≤ 2 ^ t := by
  rw [← Nat.pow_succ]
  exact Nat.pow_le_pow_right (by decide) h
theorem xor_hi {j t : Nat} (h : j < 2 ^ t) : j ^^^ 2 ^ t = 2 ^ t + j := by
  apply Nat.eq_of_testBit_eq
  intro i
  rw [bit_x]
  rcases Nat.lt_trichotomy i t with h1 | h1 | h1
  · rw [Nat.testBit_two_pow_add_gt h1, decide_eq_false (by omega), Bool.xor_false]
  · subst h1
    rw [Nat.testBit_two_pow_add_eq]
    simp
  · rw [decide_eq_false (by omega), Bool.xor_false]
    have h2 : j < 2 ^ i := Nat.lt_trans h (Nat.pow_lt_pow_right (by decide) h1)
    have h3 : 2 ^ t + j < 2 ^ i := by
      have := pw_lt h1
      omega
    rw [Nat.testBit_lt_two_pow h2, Nat.testBit_lt_two_pow h3]
theorem q_1shl {t : Nat} (h : t < 31) : jShl 1 (nI t) = nI (2 ^ t) := by
  have : ∀ t, t < 31 → jShl 1 (nI t) = nI (2 ^ t) := by decide +kernel
  exact this t h
/-- what the flip of t upwards changes, when the spin of o comes up beside it -/
theorem dl_up (hG : GR n m fi se dg sb) (hN : GN n m fi se dg sb) (F : Int32) (st : Nat → Int32) {j t o : Nat} (ht : t < n) (ho : o < t) (h1 : j.testBit t = false) (h2 : j.testBit o = false) (hinc : ∀ i, i < dg t → fi (sb t i) = t ∨ se (sb t i) = t) : dl F st fi se dg sb (j ^^^ 2 ^ o) t = dl F st fi se dg sb j t + -4 * sp st fi se dg sb t o := by
  have e : sm (fun i => pr (st (sb t i)) ((j ^^^ 2 ^ o).testBit (fi (sb t i))) ((j ^^^ 2 ^ o).testBit (se (sb t i)))) (dg t) = sm (fun i => pr (st (sb t i)) (j.testBit (fi (sb t i))) (j.testBit (se (sb t i))) + -2 * (if (if fi (sb t i) = t then se (sb t i) else fi (sb t i)) = o then st (sb t i) else 0)) (dg t) := sm_congr (fun i hi => by
    have hb := hG.2.2.2.2.2.2 t i ht hi
    have hne := hN.1 _ hb
    rw [bit_x, bit_x]
    rcases hinc i hi with h | h
    · rw [if_pos h, h, h1, decide_eq_false (show ¬ o = t by omega), Bool.xor_false]
      by_cases hs : se (sb t i) = o
      · rw [if_pos hs, hs, h2]
        simp [pr]
        grind
      · rw [if_neg hs, decide_eq_false (fun e => hs e.symm), Bool.xor_false]
        grind
    · have hf : ¬ fi (sb t i) = t := fun e => hne (e.trans h.symm)
      rw [if_neg hf, h, h1, decide_eq_false (show ¬ o = t by omega), Bool.xor_false]
      by_cases hs : fi (sb t i) = o
      · rw [if_pos hs, hs, h2]
        simp [pr]
        grind
      · rw [if_neg hs, decide_eq_false (fun e => hs e.symm), Bool.xor_false]
        grind)
  unfold dl sp
  rw [e, sm_add, sm_mul, bit_x, h1, decide_eq_false (show ¬ o = t by omega), Bool.xor_false]
  grind
theorem L99_43 {t o : Nat} {g : Nat → Int32} (hL : LC S R) (hE : LE S R) (ho : o < t) (ht : t < 16) {c : Int32} (hg : ∀ j, j < 2 ^ o → g (2 ^ o + j) = g j + c)
    (kk : ∀ f, (∀ j, j < 2 ^ (o + 1) → f j = g j) → xRun xT 99 17 [(0, .ref 130), (1, .int (nI t)), (2, .int (nI (o + 1)))] [] (S, rI I 152 f, J, D, R) b Q) :
    ∀ (jj i : Nat) (f : Nat → Int32), i + jj = 2 ^ o → (∀ j, j < 2 ^ o + i → f j = g j) → xRun xT 99 43 [(0, .ref 130), (1, .int (nI t)), (2, .int (nI o)), (3, .int c), (4, .int (nI (2 ^ o))), (5, .int (nI i))] [] (S, rI I 152 f, J, D, R) b Q
  | 0, i, f, hi, hf => by
    have e : i = 2 ^ o := by omega
    have h16 : 2 ^ o * 2 ≤ 2 ^ 16 := pw_lt (by omega)
    subst e
    rw [e99_43]
    simp only [B99_43, xSeq, i_push, i_load, i_iload, i_lload, i_dload, i_aload, i_istore, i_astore, i_lstore, i_dstore, i_iinc, i_ii, i_iiz, i_ll, i_llz, i_lli, i_li, i_i, i_l, i_i2l, i_l2i, i_dup, i_dup2, i_dup2w, i_dupx1, i_pop, i_pop2, i_goto, i_ifc, i_icmp, i_getI, i_getL, i_getR, i_putI, i_putZ, i_putL, i_putR, i_aldI, i_aldB, i_aldL, i_aldD, i_astI, i_astL, i_astD, i_alen, i_ret, i_iret, i_zret, i_lret, i_fret, i_dret, i_aret, i_invS0, i_invV0, i_m2, i_m1, i_ml, i_obj, lk, lkp, stf1, stf2, Value.category, rV, xTo, lv_args, xCk, xCat, xRc, xAk, hg_S, hg_I, hg_J, hg_D, hg_R, hs_I, hs_J, hs_D, hs_R, uI_at, uJ_at, uD_at, uR_at, List.take_succ_cons, List.take_zero, List.drop_succ_cons, List.drop_zero, List.reverse_cons, List.reverse_nil, List.nil_append, List.cons_append, List.map_cons, List.map_nil, List.sum_cons, List.sum_nil, List.length_cons, List.length_nil, Option.toList_some, Option.toList_none, true_and, and_true, false_and, and_false, true_implies, false_implies, implies_true, not_true_eq_false, not_false_eq_true, ne_eq, if_true, if_false, Bool.and_true, Bool.true_and, decide_true, decide_false, reduceIte, reduceCtorEq, Bool.and_self, Bool.and_eq_true, decide_eq_true_eq, and_self, true_or, or_true, false_or, or_false, Nat.zero_add, Nat.add_zero, eq_self, Nat.reduceEqDiff, Nat.reduceLeDiff, Nat.reduceLT, Nat.reduceAdd, Nat.reduceSub, Nat.reduceMul, nI_leP (show 2 ^ o < 2147483648 by omega) (show 2 ^ o < 2147483648 by omega), Nat.le_refl, e99_75, B99_75, nI_1]
    exact kk f (fun j hj => hf j (by rw [Nat.pow_succ] at hj; omega))
  | jj + 1, i, f, hi, hf => by
    have h16 : 2 ^ o * 2 ≤ 2 ^ 16 := pw_lt (by omega)
    rw [e99_43]
    simp only [B99_43, xSeq, i_push, i_load, i_iload, i_lload, i_dload, i_aload, i_istore, i_astore, i_lstore, i_dstore, i_iinc, i_ii, i_iiz, i_ll, i_llz, i_lli, i_li, i_i, i_l, i_i2l, i_l2i, i_dup, i_dup2, i_dup2w, i_dupx1, i_pop, i_pop2, i_goto, i_ifc, i_icmp, i_getI, i_getL, i_getR, i_putI, i_putZ, i_putL, i_putR, i_aldI, i_aldB, i_aldL, i_aldD, i_astI, i_astL, i_astD, i_alen, i_ret, i_iret, i_zret, i_lret, i_fret, i_dret, i_aret, i_invS0, i_invV0, i_m2, i_m1, i_ml, i_obj, lk, lkp, stf1, stf2, Value.category, rV, xTo, lv_args, xCk, xCat, xRc, xAk, hg_S, hg_I, hg_J, hg_D, hg_R, hs_I, hs_J, hs_D, hs_R, uI_at, uJ_at, uD_at, uR_at, List.take_succ_cons, List.take_zero, List.drop_succ_cons, List.drop_zero, List.reverse_cons, List.reverse_nil, List.nil_append, List.cons_append, List.map_cons, List.map_nil, List.sum_cons, List.sum_nil, List.length_cons, List.length_nil, Option.toList_some, Option.toList_none, true_and, and_true, false_and, and_false, true_implies, false_implies, implies_true, not_true_eq_false, not_false_eq_true, ne_eq, if_true, if_false, Bool.and_true, Bool.true_and, decide_true, decide_false, reduceIte, reduceCtorEq, Bool.and_self, Bool.and_eq_true, decide_eq_true_eq, and_self, true_or, or_true, false_or, or_false, Nat.zero_add, Nat.add_zero, eq_self, Nat.reduceEqDiff, Nat.reduceLeDiff, Nat.reduceLT, Nat.reduceAdd, Nat.reduceSub, Nat.reduceMul, LC_out hL, LE_out hE, nI_leP (show 2 ^ o < 2147483648 by omega) (show i < 2147483648 by omega), show (2 ^ o ≤ i) = False from eq_false (by omega), nI_add, nI_inP (show 2 ^ o + i < 65536 by omega) (by decide), nI_ix (show 2 ^ o + i < 2147483648 by omega), nI_inP (show i < 65536 by omega) (by decide), nI_ix (show i < 2147483648 by omega), rI_at, uI_rI, nI_1]
    refine L99_43 hL hE ho ht hg kk jj (i + 1) _ (by omega) (fun j hj => ?_)
    rw [up_at]
    by_cases e : j = 2 ^ o + i
    · rw [if_pos e, e, hg i (by omega), hf i (by omega)]
    · rw [if_neg e]
      exact hf j (by omega)
/-- each bond of a site is joined to it -/
def GI (n : Nat) (fi se dg : Nat → Nat) (sb : Nat → Nat → Nat) : Prop := ∀ t, t < n → ∀ i, i < dg t → fi (sb t i) = t ∨ se (sb t i) = t
theorem L99_17 {t : Nat} (hL : LC S R) (hE : LE S R) (hG : GR n m fi se dg sb) (hN : GN n m fi se dg sb) (hI : GI n fi se dg sb) (hC : CL I n m fi se dg sb) (ht : t < n) (hn : n ≤ 16)
    (kk : ∀ f, (∀ j, j < 2 ^ t → f j = dl (I 110 6) (I 111) fi se dg sb j t) → Q (.ok none) (S, rI I 152 f, J, D, R) b) :
    ∀ (oo o : Nat) (f : Nat → Int32), o + oo = t → (∀ j, j < 2 ^ o → f j = dl (I 110 6) (I 111) fi se dg sb j t) → xRun xT 99 17 [(0, .ref 130), (1, .int (nI t)), (2, .int (nI o))] [] (S, rI I 152 f, J, D, R) b Q
  | 0, o, f, ho, hf => by
    have e : o = t := by omega
    subst e
    rw [e99_17]
    simp only [B99_17, xSeq, i_push, i_load, i_iload, i_lload, i_dload, i_aload, i_istore, i_astore, i_lstore, i_dstore, i_iinc, i_ii, i_iiz, i_ll, i_llz, i_lli, i_li, i_i, i_l, i_i2l, i_l2i, i_dup, i_dup2, i_dup2w, i_dupx1, i_pop, i_pop2, i_goto, i_ifc, i_icmp, i_getI, i_getL, i_getR, i_putI, i_putZ, i_putL, i_putR, i_aldI, i_aldB, i_aldL, i_aldD, i_astI, i_astL, i_astD, i_alen, i_ret, i_iret, i_zret, i_lret, i_fret, i_dret, i_aret, i_invS0, i_invV0, i_m2, i_m1, i_ml, i_obj, lk, lkp, stf1, stf2, Value.category, rV, xTo, lv_args, xCk, xCat, xRc, xAk, hg_S, hg_I, hg_J, hg_D, hg_R, hs_I, hs_J, hs_D, hs_R, uI_at, uJ_at, uD_at, uR_at, List.take_succ_cons, List.take_zero, List.drop_succ_cons, List.drop_zero, List.reverse_cons, List.reverse_nil, List.nil_append, List.cons_append, List.map_cons, List.map_nil, List.sum_cons, List.sum_nil, List.length_cons, List.length_nil, Option.toList_some, Option.toList_none, true_and, and_true, false_and, and_false, true_implies, false_implies, implies_true, not_true_eq_false, not_false_eq_true, ne_eq, if_true, if_false, Bool.and_true, Bool.true_and, decide_true, decide_false, reduceIte, reduceCtorEq, Bool.and_self, Bool.and_eq_true, decide_eq_true_eq, and_self, true_or, or_true, false_or, or_false, Nat.zero_add, Nat.add_zero, eq_self, Nat.reduceEqDiff, Nat.reduceLeDiff, Nat.reduceLT, Nat.reduceAdd, Nat.reduceSub, Nat.reduceMul, nI_leP (show o < 2147483648 by omega) (show o < 2147483648 by omega), Nat.le_refl, e99_81, B99_81]
    exact kk f hf
  | oo + 1, o, f, ho, hf => by
    have e2 : (rI I 152 f) 111 = I 111 := rfl
    have h92 := fun (Q : xQ) => R92 (J := J) (D := D) (b := (0, 0)) (Q := Q) (I := rI I 152 f) hL hG (CL_r hC (by decide)) ht (show o < n by omega)
    have ih := fun f' hf' => L99_17 hL hE hG hN hI hC ht hn kk oo (o + 1) f' (by omega) hf'
    rw [e99_17]
    simp only [B99_17, xSeq, i_push, i_load, i_iload, i_lload, i_dload, i_aload, i_istore, i_astore, i_lstore, i_dstore, i_iinc, i_ii, i_iiz, i_ll, i_llz, i_lli, i_li, i_i, i_l, i_i2l, i_l2i, i_dup, i_dup2, i_dup2w, i_dupx1, i_pop, i_pop2, i_goto, i_ifc, i_icmp, i_getI, i_getL, i_getR, i_putI, i_putZ, i_putL, i_putR, i_aldI, i_aldB, i_aldL, i_aldD, i_astI, i_astL, i_astD, i_alen, i_ret, i_iret, i_zret, i_lret, i_fret, i_dret, i_aret, i_invS0, i_invV0, i_m2, i_m1, i_ml, i_obj, lk, lkp, stf1, stf2, Value.category, rV, xTo, lv_args, xCk, xCat, xRc, xAk, hg_S, hg_I, hg_J, hg_D, hg_R, hs_I, hs_J, hs_D, hs_R, uI_at, uJ_at, uD_at, uR_at, List.take_succ_cons, List.take_zero, List.drop_succ_cons, List.drop_zero, List.reverse_cons, List.reverse_nil, List.nil_append, List.cons_append, List.map_cons, List.map_nil, List.sum_cons, List.sum_nil, List.length_cons, List.length_nil, Option.toList_some, Option.toList_none, true_and, and_true, false_and, and_false, true_implies, false_implies, implies_true, not_true_eq_false, not_false_eq_true, ne_eq, if_true, if_false, Bool.and_true, Bool.true_and, decide_true, decide_false, reduceIte, reduceCtorEq, Bool.and_self, Bool.and_eq_true, decide_eq_true_eq, and_self, true_or, or_true, false_or, or_false, Nat.zero_add, Nat.add_zero, eq_self, Nat.reduceEqDiff, Nat.reduceLeDiff, Nat.reduceLT, Nat.reduceAdd, Nat.reduceSub, Nat.reduceMul, LC_out hL, nI_leP (show t < 2147483648 by omega) (show o < 2147483648 by omega), show (t ≤ o) = False from eq_false (by omega), h92, e2, q_1shl (show o < 31 by omega)]
    refine L99_43 hL hE (show o < t by omega) (by omega) (g := fun j => dl (I 110 6) (I 111) fi se dg sb j t) (fun j hj => ?_) ih (2 ^ o) 0 f (by omega) (fun j hj => hf j (by omega))
    have e3 := xor_hi hj
    have e4 : j.testBit o = false := Nat.testBit_lt_two_pow hj
    have e5 : j.testBit t = false := Nat.testBit_lt_two_pow (Nat.lt_trans hj (Nat.pow_lt_pow_right (by decide) (by omega)))
    rw [← e3]
    exact dl_up hG hN (I 110 6) (I 111) ht (by omega) e5 e4 (hI t ht)
theorem L99 {t : Nat} (hL : LC S R) (hE : LE S R) (hG : GR n m fi se dg sb) (hN : GN n m fi se dg sb) (hI : GI n fi se dg sb) (hC : CL I n m fi se dg sb) (ht : t < n) (hn : n ≤ 16)
    (kk : ∀ f, (∀ j, j < 2 ^ t → f j = dl (I 110 6) (I 111) fi se dg sb j t) → Q (.ok none) (S, rI I 152 f, J, D, R) b) :
    xRun xT 99 0 [(0, .ref 130), (1, .int (nI t))] [] (S, I, J, D, R) b Q := by
  have h76 : ∀ Q : xQ, xRun xT 76 0 [(0, .ref 110), (1, .long 0), (3, .int (nI t))] [] (S, I, J, D, R) (0, 0) Q = Q (.ok (some (.int (dl (I 110 6) (I 111) fi se dg sb 0 t)))) (S, I, J, D, R) (0, 0) := fun Q => R76 (s := 0) hL hG hC (by decide) ht
  have h := L99_17 (b := b) hL hE hG hN hI hC ht hn kk t 0 (up (I 152) 0 (dl (I 110 6) (I 111) fi se dg sb 0 t)) (by omega) (fun j hj => by
    have e : j = 0 := by omega
    subst e
    rw [up_at, if_pos rfl])
  rw [e99_0]
  simp only [B99_0, xSeq, i_push, i_load, i_iload, i_lload, i_dload, i_aload, i_istore, i_astore, i_lstore, i_dstore, i_iinc, i_ii, i_iiz, i_ll, i_llz, i_lli, i_li, i_i, i_l, i_i2l, i_l2i, i_dup, i_dup2, i_dup2w, i_dupx1, i_pop, i_pop2, i_goto, i_ifc, i_icmp, i_getI, i_getL, i_getR, i_putI, i_putZ, i_putL, i_putR, i_aldI, i_aldB, i_aldL, i_aldD, i_astI, i_astL, i_astD, i_alen, i_ret, i_iret, i_zret, i_lret, i_fret, i_dret, i_aret, i_invS0, i_invV0, i_m2, i_m1, i_ml, i_obj, lk, lkp, stf1, stf2, Value.category, rV, xTo, lv_args, xCk, xCat, xRc, xAk, hg_S, hg_I, hg_J, hg_D, hg_R, hs_I, hs_J, hs_D, hs_R, uI_at, uJ_at, uD_at, uR_at, List.take_succ_cons, List.take_zero, List.drop_succ_cons, List.drop_zero, List.reverse_cons, List.reverse_nil, List.nil_append, List.cons_append, List.map_cons, List.map_nil, List.sum_cons, List.sum_nil, List.length_cons, List.length_nil, Option.toList_some, Option.toList_none, true_and, and_true, false_and, and_false, true_implies, false_implies, implies_true, not_true_eq_false, not_false_eq_true, ne_eq, if_true, if_false, Bool.and_true, Bool.true_and, decide_true, decide_false, reduceIte, reduceCtorEq, Bool.and_self, Bool.and_eq_true, decide_eq_true_eq, and_self, true_or, or_true, false_or, or_false, Nat.zero_add, Nat.add_zero, eq_self, Nat.reduceEqDiff, Nat.reduceLeDiff, Nat.reduceLT, Nat.reduceAdd, Nat.reduceSub, Nat.reduceMul, LC_out hL, LE_out hE, h76, xi0 (show 0 < 65536 by decide) (by decide), ix_0]
  rw [← uI_rI, rI_self] at h
  simp only [nI_0] at h
  exact h
/-- a small number keeps its value as a short -/
theorem q_short {v : Int32} (h1 : -32768 ≤ v.toInt) (h2 : v.toInt ≤ 32767) : jI2s v = v ∧ vp_nar .short v = v := by
  have e : v.toInt16.toInt32 = v := by
    apply Int32.toInt_inj.mp
    rw [Int16.toInt_toInt32, Int32.toInt_toInt16]
    exact Int.bmod_eq_of_le (by omega) (by omega)
  exact ⟨e, by rw [vp_nar_short]; exact e⟩
theorem L98_36 {t : Nat} {E g : Nat → Int32} (hL : LC S R) (hE : LE S R) (ht : t < 16) (hg : ∀ j, j < 2 ^ t → E (2 ^ t + j) = E j + g j) (hb : ∀ j, -32768 ≤ (E j).toInt ∧ (E j).toInt ≤ 32767) {f : Nat → Int32} (hf : ∀ j, j < 2 ^ t → f j = g j)
    (kk : ∀ w, (∀ j, j < 2 ^ (t + 1) → w j = E j) → xRun xT 98 17 [(0, .ref 130), (1, .int (nI (t + 1)))] [] (S, rI (rI I 152 f) 151 w, J, D, R) b Q) :
    ∀ (jj i : Nat) (w : Nat → Int32), i + jj = 2 ^ t → (∀ j, j < 2 ^ t + i → w j = E j) → xRun xT 98 36 [(0, .ref 130), (1, .int (nI t)), (2, .int (nI (2 ^ t))), (3, .int (nI i))] [] (S, rI (rI I 152 f) 151 w, J, D, R) b Q
  | 0, i, w, hi, hw => by
    have e : i = 2 ^ t := by omega
    have h16 : 2 ^ t * 2 ≤ 2 ^ 16 := pw_lt (by omega)
    subst e
    rw [e98_36]
    simp only [B98_36, xSeq, i_push, i_load, i_iload, i_lload, i_dload, i_aload, i_istore, i_astore, i_lstore, i_dstore, i_iinc, i_ii, i_iiz, i_ll, i_llz, i_lli, i_li, i_i, i_l, i_i2l, i_l2i, i_dup, i_dup2, i_dup2w, i_dupx1, i_pop, i_pop2, i_goto, i_ifc, i_icmp, i_getI, i_getL, i_getR, i_putI, i_putZ, i_putL, i_putR, i_aldI, i_aldB, i_aldL, i_aldD, i_astI, i_astL, i_astD, i_alen, i_ret, i_iret, i_zret, i_lret, i_fret, i_dret, i_aret, i_invS0, i_invV0, i_m2, i_m1, i_ml, i_obj, lk, lkp, stf1, stf2, Value.category, rV, xTo, lv_args, xCk, xCat, xRc, xAk, hg_S, hg_I, hg_J, hg_D, hg_R, hs_I, hs_J, hs_D, hs_R, uI_at, uJ_at, uD_at, uR_at, List.take_succ_cons, List.take_zero, List.drop_succ_cons, List.drop_zero, List.reverse_cons, List.reverse_nil, List.nil_append, List.cons_append, List.map_cons, List.map_nil, List.sum_cons, List.sum_nil, List.length_cons, List.length_nil, Option.toList_some, Option.toList_none, true_and, and_true, false_and, and_false, true_implies, false_implies, implies_true, not_true_eq_false, not_false_eq_true, ne_eq, if_true, if_false, Bool.and_true, Bool.true_and, decide_true, decide_false, reduceIte, reduceCtorEq, Bool.and_self, Bool.and_eq_true, decide_eq_true_eq, and_self, true_or, or_true, false_or, or_false, Nat.zero_add, Nat.add_zero, eq_self, Nat.reduceEqDiff, Nat.reduceLeDiff, Nat.reduceLT, Nat.reduceAdd, Nat.reduceSub, Nat.reduceMul, nI_leP (show 2 ^ t < 2147483648 by omega) (show 2 ^ t < 2147483648 by omega), Nat.le_refl, e98_69, B98_69, nI_1]
    exact kk w (fun j hj => hw j (by rw [Nat.pow_succ] at hj; omega))
  | jj + 1, i, w, hi, hw => by
    have h16 : 2 ^ t * 2 ≤ 2 ^ 16 := pw_lt (by omega)
    have e1 := hw i (by omega)
    have e2 := hf i (by omega)
    have e3 := hg i (by omega)
    have e4 := hb (2 ^ t + i)
    rw [e3] at e4
    have e5 := q_short e4.1 e4.2
    rw [e98_36]
    simp only [B98_36, xSeq, i_push, i_load, i_iload, i_lload, i_dload, i_aload, i_istore, i_astore, i_lstore, i_dstore, i_iinc, i_ii, i_iiz, i_ll, i_llz, i_lli, i_li, i_i, i_l, i_i2l, i_l2i, i_dup, i_dup2, i_dup2w, i_dupx1, i_pop, i_pop2, i_goto, i_ifc, i_icmp, i_getI, i_getL, i_getR, i_putI, i_putZ, i_putL, i_putR, i_aldI, i_aldB, i_aldL, i_aldD, i_astI, i_astL, i_astD, i_alen, i_ret, i_iret, i_zret, i_lret, i_fret, i_dret, i_aret, i_invS0, i_invV0, i_m2, i_m1, i_ml, i_obj, lk, lkp, stf1, stf2, Value.category, rV, xTo, lv_args, xCk, xCat, xRc, xAk, hg_S, hg_I, hg_J, hg_D, hg_R, hs_I, hs_J, hs_D, hs_R, uI_at, uJ_at, uD_at, uR_at, List.take_succ_cons, List.take_zero, List.drop_succ_cons, List.drop_zero, List.reverse_cons, List.reverse_nil, List.nil_append, List.cons_append, List.map_cons, List.map_nil, List.sum_cons, List.sum_nil, List.length_cons, List.length_nil, Option.toList_some, Option.toList_none, true_and, and_true, false_and, and_false, true_implies, false_implies, implies_true, not_true_eq_false, not_false_eq_true, ne_eq, if_true, if_false, Bool.and_true, Bool.true_and, decide_true, decide_false, reduceIte, reduceCtorEq, Bool.and_self, Bool.and_eq_true, decide_eq_true_eq, and_self, true_or, or_true, false_or, or_false, Nat.zero_add, Nat.add_zero, eq_self, Nat.reduceEqDiff, Nat.reduceLeDiff, Nat.reduceLT, Nat.reduceAdd, Nat.reduceSub, Nat.reduceMul, LC_out hL, LE_out hE, nI_leP (show 2 ^ t < 2147483648 by omega) (show i < 2147483648 by omega), show (2 ^ t ≤ i) = False from eq_false (by omega), nI_add, nI_inP (show 2 ^ t + i < 65536 by omega) (by decide), nI_ix (show 2 ^ t + i < 2147483648 by omega), nI_inP (show i < 65536 by omega) (by decide), nI_ix (show i < 2147483648 by omega), rI_at, e1, e2, e5.1, e5.2, uI_rI, nI_1]
    refine L98_36 hL hE ht hg hb hf kk jj (i + 1) _ (by omega) (fun j hj => ?_)
    rw [up_at]
    by_cases e : j = 2 ^ t + i
    · rw [if_pos e, e, e3]
    · rw [if_neg e]
      exact hw j (by omega)
theorem L98_17 (hL : LC S R) (hE : LE S R) (hG : GR n m fi se dg sb) (hN : GN n m fi se dg sb) (hI : GI n fi se dg sb) (hC : CL I n m fi se dg sb) (hn : n ≤ 16) (h2 : I 130 2 = nI n) (hb : ∀ j, -32768 ≤ (en (I 110 6) (I 111) n m fi se j).toInt ∧ (en (I 110 6) (I 111) n m fi se j).toInt ≤ 32767)
    (kk : ∀ f w, (∀ j, j < 2 ^ n → w j = en (I 110 6) (I 111) n m fi se j) → Q (.ok none) (S, rI (rI I 152 f) 151 w, J, D, R) b) :
    ∀ (tt t : Nat) (f w : Nat → Int32), t + tt = n → (∀ j, j < 2 ^ t → w j = en (I 110 6) (I 111) n m fi se j) → xRun xT 98 17 [(0, .ref 130), (1, .int (nI t))] [] (S, rI (rI I 152 f) 151 w, J, D, R) b Q
  | 0, t, f, w, ht, hw => by
    have e : t = n := by omega
    subst e
    rw [e98_17]
    simp only [B98_17, xSeq, i_push, i_load, i_iload, i_lload, i_dload, i_aload, i_istore, i_astore, i_lstore, i_dstore, i_iinc, i_ii, i_iiz, i_ll, i_llz, i_lli, i_li, i_i, i_l, i_i2l, i_l2i, i_dup, i_dup2, i_dup2w, i_dupx1, i_pop, i_pop2, i_goto, i_ifc, i_icmp, i_getI, i_getL, i_getR, i_putI, i_putZ, i_putL, i_putR, i_aldI, i_aldB, i_aldL, i_aldD, i_astI, i_astL, i_astD, i_alen, i_ret, i_iret, i_zret, i_lret, i_fret, i_dret, i_aret, i_invS0, i_invV0, i_m2, i_m1, i_ml, i_obj, lk, lkp, stf1, stf2, Value.category, rV, xTo, lv_args, xCk, xCat, xRc, xAk, hg_S, hg_I, hg_J, hg_D, hg_R, hs_I, hs_J, hs_D, hs_R, uI_at, uJ_at, uD_at, uR_at, List.take_succ_cons, List.take_zero, List.drop_succ_cons, List.drop_zero, List.reverse_cons, List.reverse_nil, List.nil_append, List.cons_append, List.map_cons, List.map_nil, List.sum_cons, List.sum_nil, List.length_cons, List.length_nil, Option.toList_some, Option.toList_none, true_and, and_true, false_and, and_false, true_implies, false_implies, implies_true, not_true_eq_false, not_false_eq_true, ne_eq, if_true, if_false, Bool.and_true, Bool.true_and, decide_true, decide_false, reduceIte, reduceCtorEq, Bool.and_self, Bool.and_eq_true, decide_eq_true_eq, and_self, true_or, or_true, false_or, or_false, Nat.zero_add, Nat.add_zero, eq_self, Nat.reduceEqDiff, Nat.reduceLeDiff, Nat.reduceLT, Nat.reduceAdd, Nat.reduceSub, Nat.reduceMul, LC_out hL, rI_at, h2, nI_leP (show t < 2147483648 by omega) (show t < 2147483648 by omega), Nat.le_refl, e98_75, B98_75]
    exact kk f w hw
  | tt + 1, t, f, w, ht, hw => by
    have ih := fun f' w' hw' => L98_17 hL hE hG hN hI hC hn h2 hb kk tt (t + 1) f' w' (by omega) hw'
    rw [e98_17]
    simp only [B98_17, xSeq, i_push, i_load, i_iload, i_lload, i_dload, i_aload, i_istore, i_astore, i_lstore, i_dstore, i_iinc, i_ii, i_iiz, i_ll, i_llz, i_lli, i_li, i_i, i_l, i_i2l, i_l2i, i_dup, i_dup2, i_dup2w, i_dupx1, i_pop, i_pop2, i_goto, i_ifc, i_icmp, i_getI, i_getL, i_getR, i_putI, i_putZ, i_putL, i_putR, i_aldI, i_aldB, i_aldL, i_aldD, i_astI, i_astL, i_astD, i_alen, i_ret, i_iret, i_zret, i_lret, i_fret, i_dret, i_aret, i_invS0, i_invV0, i_m2, i_m1, i_ml, i_obj, lk, lkp, stf1, stf2, Value.category, rV, xTo, lv_args, xCk, xCat, xRc, xAk, hg_S, hg_I, hg_J, hg_D, hg_R, hs_I, hs_J, hs_D, hs_R, uI_at, uJ_at, uD_at, uR_at, List.take_succ_cons, List.take_zero, List.drop_succ_cons, List.drop_zero, List.reverse_cons, List.reverse_nil, List.nil_append, List.cons_append, List.map_cons, List.map_nil, List.sum_cons, List.sum_nil, List.length_cons, List.length_nil, Option.toList_some, Option.toList_none, true_and, and_true, false_and, and_false, true_implies, false_implies, implies_true, not_true_eq_false, not_false_eq_true, ne_eq, if_true, if_false, Bool.and_true, Bool.true_and, decide_true, decide_false, reduceIte, reduceCtorEq, Bool.and_self, Bool.and_eq_true, decide_eq_true_eq, and_self, true_or, or_true, false_or, or_false, Nat.zero_add, Nat.add_zero, eq_self, Nat.reduceEqDiff, Nat.reduceLeDiff, Nat.reduceLT, Nat.reduceAdd, Nat.reduceSub, Nat.reduceMul, LC_out hL, rI_at, h2, nI_leP (show n < 2147483648 by omega) (show t < 2147483648 by omega), show (n ≤ t) = False from eq_false (by omega)]
    refine L99 (I := rI (rI I 152 f) 151 w) hL hE hG hN hI (CL_r (CL_r hC (by decide)) (by decide)) (show t < n by omega) hn (fun f' hf' => ?_)
    simp only [xSeq, i_push, i_load, i_iload, i_lload, i_dload, i_aload, i_istore, i_astore, i_lstore, i_dstore, i_iinc, i_ii, i_iiz, i_ll, i_llz, i_lli, i_li, i_i, i_l, i_i2l, i_l2i, i_dup, i_dup2, i_dup2w, i_dupx1, i_pop, i_pop2, i_goto, i_ifc, i_icmp, i_getI, i_getL, i_getR, i_putI, i_putZ, i_putL, i_putR, i_aldI, i_aldB, i_aldL, i_aldD, i_astI, i_astL, i_astD, i_alen, i_ret, i_iret, i_zret, i_lret, i_fret, i_dret, i_aret, i_invS0, i_invV0, i_m2, i_m1, i_ml, i_obj, lk, lkp, stf1, stf2, Value.category, rV, xTo, lv_args, xCk, xCat, xRc, xAk, hg_S, hg_I, hg_J, hg_D, hg_R, hs_I, hs_J, hs_D, hs_R, uI_at, uJ_at, uD_at, uR_at, List.take_succ_cons, List.take_zero, List.drop_succ_cons, List.drop_zero, List.reverse_cons, List.reverse_nil, List.nil_append, List.cons_append, List.map_cons, List.map_nil, List.sum_cons, List.sum_nil, List.length_cons, List.length_nil, Option.toList_some, Option.toList_none, true_and, and_true, false_and, and_false, true_implies, false_implies, implies_true, not_true_eq_false, not_false_eq_true, ne_eq, if_true, if_false, Bool.and_true, Bool.true_and, decide_true, decide_false, reduceIte, reduceCtorEq, Bool.and_self, Bool.and_eq_true, decide_eq_true_eq, and_self, true_or, or_true, false_or, or_false, Nat.zero_add, Nat.add_zero, eq_self, Nat.reduceEqDiff, Nat.reduceLeDiff, Nat.reduceLT, Nat.reduceAdd, Nat.reduceSub, Nat.reduceMul, q_1shl (show t < 31 by omega)]
    rw [rI_swap _ (by decide), rI_rI]
    have hf2 : ∀ j, j < 2 ^ t → f' j = dl (I 110 6) (I 111) fi se dg sb j t := hf'
    have h := L98_36 (I := I) (b := b) hL hE (show t < 16 by omega) (E := en (I 110 6) (I 111) n m fi se) (g := fun j => dl (I 110 6) (I 111) fi se dg sb j t) (fun j hj => by
      rw [← xor_hi hj]
      exact en_x hN _ _ j t (by omega)) hb hf2 (fun w' hw' => ih f' w' hw') (2 ^ t) 0 w (by omega) (fun j hj => hw j (by omega))
    exact h
theorem L98 (hL : LC S R) (hE : LE S R) (hG : GR n m fi se dg sb) (hN : GN n m fi se dg sb) (hI : GI n fi se dg sb) (hC : CL I n m fi se dg sb) (hn : n ≤ 16) (h2 : I 130 2 = nI n) (hb : ∀ j, -32768 ≤ (en (I 110 6) (I 111) n m fi se j).toInt ∧ (en (I 110 6) (I 111) n m fi se j).toInt ≤ 32767)
    (kk : ∀ f w, (∀ j, j < 2 ^ n → w j = en (I 110 6) (I 111) n m fi se j) → Q (.ok none) (S, rI (rI I 152 f) 151 w, J, D, R) b) :
    xRun xT 98 0 [(0, .ref 130)] [] (S, I, J, D, R) b Q := by
  have h74 : ∀ Q : xQ, xRun xT 74 0 [(0, .ref 110), (1, .long 0)] [] (S, I, J, D, R) (0, 0) Q = Q (.ok (some (.int (en (I 110 6) (I 111) n m fi se 0)))) (S, I, J, D, R) (0, 0) := fun Q => R74 (s := 0) hL hG hC (by decide) (Nat.two_pow_pos n)
  have e5 := q_short (hb 0).1 (hb 0).2
  have h := L98_17 (b := b) hL hE hG hN hI hC hn h2 hb kk n 0 (I 152) (up (I 151) 0 (en (I 110 6) (I 111) n m fi se 0)) (by omega) (fun j hj => by
    have e : j = 0 := by omega
    subst e
    rw [up_at, if_pos rfl])
  rw [e98_0]
  simp only [B98_0, xSeq, i_push, i_load, i_iload, i_lload, i_dload, i_aload, i_istore, i_astore, i_lstore, i_dstore, i_iinc, i_ii, i_iiz, i_ll, i_llz, i_lli, i_li, i_i, i_l, i_i2l, i_l2i, i_dup, i_dup2, i_dup2w, i_dupx1, i_pop, i_pop2, i_goto, i_ifc, i_icmp, i_getI, i_getL, i_getR, i_putI, i_putZ, i_putL, i_putR, i_aldI, i_aldB, i_aldL, i_aldD, i_astI, i_astL, i_astD, i_alen, i_ret, i_iret, i_zret, i_lret, i_fret, i_dret, i_aret, i_invS0, i_invV0, i_m2, i_m1, i_ml, i_obj, lk, lkp, stf1, stf2, Value.category, rV, xTo, lv_args, xCk, xCat, xRc, xAk, hg_S, hg_I, hg_J, hg_D, hg_R, hs_I, hs_J, hs_D, hs_R, uI_at, uJ_at, uD_at, uR_at, List.take_succ_cons, List.take_zero, List.drop_succ_cons, List.drop_zero, List.reverse_cons, List.reverse_nil, List.nil_append, List.cons_append, List.map_cons, List.map_nil, List.sum_cons, List.sum_nil, List.length_cons, List.length_nil, Option.toList_some, Option.toList_none, true_and, and_true, false_and, and_false, true_implies, false_implies, implies_true, not_true_eq_false, not_false_eq_true, ne_eq, if_true, if_false, Bool.and_true, Bool.true_and, decide_true, decide_false, reduceIte, reduceCtorEq, Bool.and_self, Bool.and_eq_true, decide_eq_true_eq, and_self, true_or, or_true, false_or, or_false, Nat.zero_add, Nat.add_zero, eq_self, Nat.reduceEqDiff, Nat.reduceLeDiff, Nat.reduceLT, Nat.reduceAdd, Nat.reduceSub, Nat.reduceMul, LC_out hL, LE_out hE, h74, xi0 (show 0 < 65536 by decide) (by decide), ix_0, e5.1, e5.2]
  rw [← uI_rI, rI_self, rI_self] at h
  simp only [nI_0] at h
  exact h
end
/-! ===== the bonds of a grid ===== -/
section
def bR (c e x : Nat) : Bool := decide (x + 1 < c) || !decide (e = 1)
def bD (r e y : Nat) : Bool := decide (y + 1 < r) || decide (e = 0)
def nR (c x : Nat) : Nat := if x + 1 < c then x + 1 else 0
def oR (c e s : Nat) : List (Nat × Nat) := if bR c e (s % c) = true then [(s, s / c * c + nR c (s % c))] else []
def oD (r c e s : Nat) : List (Nat × Nat) := if bD r e (s / c) = true then [(s, nR r (s / c) * c + s % c)] else []
/-- the bonds whose first sites are below s, by number -/
def bl (r c e : Nat) : Nat → List (Nat × Nat)
  | 0 => []
  | s + 1 => bl r c e s ++ oR c e s ++ oD r c e s
def fE (l : List (Nat × Nat)) (k : Nat) : Nat := (l.getD k (0, 0)).1
def sE (l : List (Nat × Nat)) (k : Nat) : Nat := (l.getD k (0, 0)).2
def iP (l : List (Nat × Nat)) (t k : Nat) : Bool := decide (fE l k = t) || decide (sE l k = t)
/-- the bonds of a site, by number -/
def ic (l : List (Nat × Nat)) (t : Nat) : List Nat := fl (iP l t) l.length
def dE (l : List (Nat × Nat)) (t : Nat) : Nat := (ic l t).length
def bE (l : List (Nat × Nat)) (t i : Nat) : Nat := (ic l t).getD i 0
theorem fl_congr {p q : Nat → Bool} : ∀ {k : Nat}, (∀ j, j < k → p j = q j) → fl p k = fl q k
  | 0, _ => rfl
  | k + 1, h => by rw [fl, fl, h k (Nat.lt_succ_self k), fl_congr (fun j hj => h j (Nat.lt_succ_of_lt hj))]
theorem getD_app1 {α : Type} (l : List α) (q d : α) {k : Nat} (h : k < l.length) : (l ++ [q]).getD k d = l.getD k d := by
  rw [List.getD_eq_getElem?_getD, List.getD_eq_getElem?_getD, List.getElem?_append_left h]
theorem getD_app2 {α : Type} (l : List α) (q d : α) : (l ++ [q]).getD l.length d = q := by
  rw [List.getD_eq_getElem?_getD, List.getElem?_append_right (Nat.le_refl _), Nat.sub_self]
  rfl
theorem ic_app (l : List (Nat × Nat)) (q : Nat × Nat) (t : Nat) : ic (l ++ [q]) t = if q.1 = t ∨ q.2 = t then ic l t ++ [l.length] else ic l t := by
  unfold ic
  rw [List.length_append, List.length_singleton, fl]
  have h1 : fl (iP (l ++ [q]) t) l.length = fl (iP l t) l.length := fl_congr (fun j hj => by
    unfold iP fE sE
    rw [getD_app1 l q _ hj])
  have h2 : iP (l ++ [q]) t l.length = (decide (q.1 = t) || decide (q.2 = t)) := by
    unfold iP fE sE
    rw [getD_app2]
  rw [h1, h2]
  by_cases h : q.1 = t ∨ q.2 = t
  · rw [if_pos h, if_pos (by simpa using h)]
  · rw [if_neg h, if_neg (by simpa using h)]
theorem sm_fl (p : Nat → Bool) (f : Nat → Int32) : ∀ k, sm (fun i => f ((fl p k).getD i 0)) (fl p k).length = sm (fun j => if p j = true then f j else 0) k
  | 0 => rfl
  | k + 1 => by
    rw [sm, ← sm_fl p f k, fl]
    by_cases h : p k = true
    · rw [if_pos h, if_pos h, List.length_append, List.length_singleton, sm, getD_app2]
      congr 1
      exact sm_congr (fun j hj => by rw [getD_app1 _ _ _ hj])
    · rw [if_neg h, if_neg h, Int32.add_zero]
/-- all that is asked of a grid's bonds, by computing -/
def gk (n : Nat) (l : List (Nat × Nat)) : Bool := decide (0 < n) && decide (n ≤ 64) && decide (l.length ≤ 128) && l.all (fun q => decide (q.1 < n) && decide (q.2 < n) && !decide (q.1 = q.2)) && (List.range n).all (fun t => decide ((ic l t).length ≤ 4))
theorem gk_at {l : List (Nat × Nat)} {p : Nat × Nat → Bool} (h : l.all p = true) {k : Nat} (hk : k < l.length) : p (l.getD k (0, 0)) = true := by
  rw [List.getD_eq_getElem?_getD, List.getElem?_eq_getElem hk]
  exact List.all_eq_true.mp h _ (List.getElem_mem hk)
theorem bE_mem {l : List (Nat × Nat)} {t i : Nat} (h : i < dE l t) : bE l t i < l.length ∧ iP l t (bE l t i) = true := by
  unfold bE
  unfold dE at h
  rw [List.getD_eq_getElem?_getD, List.getElem?_eq_getElem h]
  exact (fl_mem _ _ _).mp (List.getElem_mem h)
theorem gk_ok {n : Nat} {l : List (Nat × Nat)} (h : gk n l = true) : GR n l.length (fE l) (sE l) (dE l) (bE l) ∧ GN n l.length (fE l) (sE l) (dE l) (bE l) ∧ GI n (fE l) (sE l) (dE l) (bE l) := by
  unfold gk at h
  simp only [Bool.and_eq_true, decide_eq_true_eq] at h
  obtain ⟨⟨⟨⟨h0, h1⟩, h2⟩, h3⟩, h4⟩ := h
  have hq : ∀ k, k < l.length → fE l k < n ∧ sE l k < n ∧ fE l k ≠ sE l k := fun k hk => by
    have := gk_at h3 hk
    simp only [Bool.and_eq_true, decide_eq_true_eq, Bool.not_eq_true', decide_eq_false_iff_not] at this
    exact ⟨this.1.1, this.1.2, this.2⟩
  refine ⟨⟨h0, h1, h2, fun k hk => (hq k hk).1, fun k hk => (hq k hk).2.1, fun s hs => ?_, fun s i _ hi => (bE_mem hi).1⟩, ⟨fun k hk => (hq k hk).2.2, fun t _ f => ?_⟩, fun t _ i hi => ?_⟩
  · have := List.all_eq_true.mp h4 s (List.mem_range.mpr hs)
    exact of_decide_eq_true this
  · unfold dE bE ic
    rw [sm_fl]
    refine sm_congr (fun k _ => ?_)
    unfold iP
    by_cases h : fE l k = t ∨ sE l k = t
    · rw [if_pos h, if_pos (by simpa using h)]
    · rw [if_neg h, if_neg (by simpa using h)]
  · have := (bE_mem hi).2
    unfold iP at this
    simpa using this
end
/-! ===== the lab's lattice is built ===== -/
section
/-- the lattice holds the bonds l of n sites -/
def HB (I : xI) (n : Nat) (l : List (Nat × Nat)) : Prop := I 102 3 = nI l.length ∧ (∀ k, k < l.length → I 103 k = nI (fE l k)) ∧ (∀ k, k < l.length → I 104 k = nI (sE l k)) ∧ (∀ t, t < n → I 107 t = nI (dE l t)) ∧ ∀ t i, t < n → i < dE l t → I 108 (t * 4 + i) = nI (bE l t i)
/-- what building may change -/
abbrev bO (o k : Nat) : Prop := (o = 102 ∧ k = 3) ∨ o = 103 ∨ o = 104 ∨ o = 105 ∨ o = 106 ∨ o = 107 ∨ o = 108
def aB (I : xI) (f s k df ds : Nat) : xI := uI (uI (uI (uI (uI (uI (uI I 103 k (nI f)) 104 k (nI s)) 102 3 (nI (k + 1))) 108 (f * 4 + df) (nI k)) 107 f (nI (df + 1))) 108 (s * 4 + ds) (nI k)) 107 s (nI (ds + 1))
theorem aB_fr {I : xI} {f s k df ds o j : Nat} (h : ¬ bO o j) : aB I f s k df ds o j = I o j := by
  unfold bO at h
  unfold aB
  simp only [uI_at]
  rw [if_neg (by omega), if_neg (by omega), if_neg (by omega), if_neg (by omega), if_neg (by omega), if_neg (by omega), if_neg (by omega)]
theorem dE_app (l : List (Nat × Nat)) (f s t : Nat) : dE (l ++ [(f, s)]) t = if f = t ∨ s = t then dE l t + 1 else dE l t := by
  unfold dE
  rw [ic_app]
  split
  · rw [List.length_append, List.length_singleton]
  · rfl
theorem bE_app1 (l : List (Nat × Nat)) (f s t : Nat) {i : Nat} (h : i < dE l t) : bE (l ++ [(f, s)]) t i = bE l t i := by
  unfold bE
  rw [ic_app]
  split
  · exact getD_app1 _ _ _ h
  · rfl
theorem bE_app2 (l : List (Nat × Nat)) (f s t : Nat) (h : f = t ∨ s = t) : bE (l ++ [(f, s)]) t (dE l t) = l.length := by
  unfold bE
  rw [ic_app, if_pos h]
  exact getD_app2 _ _ _
theorem HB_add {I : xI} {n : Nat} {l : List (Nat × Nat)} {f s : Nat} (h : HB I n l) (hne : f ≠ s) (hf : f < n) (hs : s < n) (h4 : ∀ t, t < n → dE (l ++ [(f, s)]) t ≤ 4) : HB (aB I f s l.length (dE l f) (dE l s)) n (l ++ [(f, s)]) := by
  obtain ⟨h1, h2, h3, h5, h6⟩ := h
  have hdf := dE_app l f s f
  have hds := dE_app l f s s
  rw [if_pos (Or.inl rfl)] at hdf
  rw [if_pos (Or.inr rfl)] at hds
  have hf4 := h4 f hf
  have hs4 := h4 s hs
  unfold aB
  refine ⟨?_, fun k hk => ?_, fun k hk => ?_, fun t ht => ?_, fun t i ht hi => ?_⟩
  · simp only [uI_at, true_and, and_true, false_and, and_false, true_implies, false_implies, implies_true, not_true_eq_false, not_false_eq_true, ne_eq, if_true, if_false, Bool.and_true, Bool.true_and, decide_true, decide_false, reduceIte, reduceCtorEq, Bool.and_self, Bool.and_eq_true, decide_eq_true_eq, and_self, true_or, or_true, false_or, or_false, Nat.zero_add, Nat.add_zero, eq_self, Nat.reduceEqDiff, Nat.reduceLeDiff, Nat.reduceLT, Nat.reduceAdd, Nat.reduceSub, Nat.reduceMul, List.length_append, List.length_singleton]
  · rw [List.length_append, List.length_singleton] at hk
    simp only [uI_at, true_and, and_true, false_and, and_false, true_implies, false_implies, implies_true, not_true_eq_false, not_false_eq_true, ne_eq, if_true, if_false, Bool.and_true, Bool.true_and, decide_true, decide_false, reduceIte, reduceCtorEq, Bool.and_self, Bool.and_eq_true, decide_eq_true_eq, and_self, true_or, or_true, false_or, or_false, Nat.zero_add, Nat.add_zero, eq_self, Nat.reduceEqDiff, Nat.reduceLeDiff, Nat.reduceLT, Nat.reduceAdd, Nat.reduceSub, Nat.reduceMul]
    unfold fE
    by_cases e : k = l.length
    · rw [if_pos e, e, getD_app2]
    · rw [if_neg e, getD_app1 _ _ _ (by omega)]
      exact h2 k (by omega)
  · rw [List.length_append, List.length_singleton] at hk
    simp only [uI_at, true_and, and_true, false_and, and_false, true_implies, false_implies, implies_true, not_true_eq_false, not_false_eq_true, ne_eq, if_true, if_false, Bool.and_true, Bool.true_and, decide_true, decide_false, reduceIte, reduceCtorEq, Bool.and_self, Bool.and_eq_true, decide_eq_true_eq, and_self, true_or, or_true, false_or, or_false, Nat.zero_add, Nat.add_zero, eq_self, Nat.reduceEqDiff, Nat.reduceLeDiff, Nat.reduceLT, Nat.reduceAdd, Nat.reduceSub, Nat.reduceMul]
    unfold sE
    by_cases e : k = l.length
    · rw [if_pos e, e, getD_app2]
    · rw [if_neg e, getD_app1 _ _ _ (by omega)]
      exact h3 k (by omega)
  · simp only [uI_at, true_and, and_true, false_and, and_false, true_implies, false_implies, implies_true, not_true_eq_false, not_false_eq_true, ne_eq, if_true, if_false, Bool.and_true, Bool.true_and, decide_true, decide_false, reduceIte, reduceCtorEq, Bool.and_self, Bool.and_eq_true, decide_eq_true_eq, and_self, true_or, or_true, false_or, or_false, Nat.zero_add, Nat.add_zero, eq_self, Nat.reduceEqDiff, Nat.reduceLeDiff, Nat.reduceLT, Nat.reduceAdd, Nat.reduceSub, Nat.reduceMul]
    rw [dE_app]
    by_cases e : t = s
    · rw [if_pos e, if_pos (Or.inr e.symm), e]
    · rw [if_neg e]
      by_cases e2 : t = f
      · rw [if_pos e2, if_pos (Or.inl e2.symm), e2]
      · rw [if_neg e2, if_neg (fun h => h.elim (fun h => e2 h.symm) (fun h => e h.symm))]
        exact h5 t ht
  · have ht4 := h4 t ht
    have hd := dE_app l f s t
    simp only [uI_at, true_and, and_true, false_and, and_false, true_implies, false_implies, implies_true, not_true_eq_false, not_false_eq_true, ne_eq, if_true, if_false, Bool.and_true, Bool.true_and, decide_true, decide_false, reduceIte, reduceCtorEq, Bool.and_self, Bool.and_eq_true, decide_eq_true_eq, and_self, true_or, or_true, false_or, or_false, Nat.zero_add, Nat.add_zero, eq_self, Nat.reduceEqDiff, Nat.reduceLeDiff, Nat.reduceLT, Nat.reduceAdd, Nat.reduceSub, Nat.reduceMul]
    by_cases e : t = s
    · subst e
      rw [if_pos (Or.inr rfl)] at hd
      by_cases e2 : i = dE l t
      · subst e2
        rw [if_pos rfl, bE_app2 _ _ _ _ (Or.inr rfl)]
      · rw [if_neg (by omega), if_neg (by omega), bE_app1 _ _ _ _ (by omega)]
        exact h6 t i ht (by omega)
    · by_cases e3 : t = f
      · subst e3
        rw [if_pos (Or.inl rfl)] at hd
        by_cases e2 : i = dE l t
        · subst e2
          rw [if_neg (by omega), if_pos rfl, bE_app2 _ _ _ _ (Or.inl rfl)]
        · rw [if_neg (by omega), if_neg (by omega), bE_app1 _ _ _ _ (by omega)]
          exact h6 t i ht (by omega)
      · rw [if_neg (by omega)] at hd
        rw [if_neg (by omega), if_neg (by omega), bE_app1 _ _ _ _ (by omega)]
        exact h6 t i ht (by omega)
variable {S : xS} {I : xI} {J : xJ} {D : xDb} {R : xR} {b : Nat × Nat} {Q : xQ} {n : Nat}
theorem R50 (hL : LC S R) (h2 : I 102 2 = nI n) (hn : n ≤ 64) {s d : Nat} (hs : s < n) (hd : I 107 s = nI d) (h4 : d < 4) {v : Int32} : xRun xT 50 0 [(0, .ref 102), (1, .int (nI s)), (2, .int v)] [] (S, I, J, D, R) b Q = Q (.ok none) (S, uI (uI I 108 (s * 4 + d) v) 107 s (nI (d + 1)), J, D, R) b := by
  have e4 : (4 : Int32) = nI 4 := rfl
  rw [e50_0]
  simp only [B50_0, xSeq, i_push, i_load, i_iload, i_lload, i_dload, i_aload, i_istore, i_astore, i_lstore, i_dstore, i_iinc, i_ii, i_iiz, i_ll, i_llz, i_lli, i_li, i_i, i_l, i_i2l, i_l2i, i_dup, i_dup2, i_dup2w, i_dupx1, i_pop, i_pop2, i_goto, i_ifc, i_icmp, i_getI, i_getL, i_getR, i_putI, i_putZ, i_putL, i_putR, i_aldI, i_aldB, i_aldL, i_aldD, i_astI, i_astL, i_astD, i_alen, i_ret, i_iret, i_zret, i_lret, i_fret, i_dret, i_aret, i_invS0, i_invV0, i_m2, i_m1, i_ml, i_obj, lk, lkp, stf1, stf2, Value.category, rV, xTo, lv_args, xCk, xCat, xRc, xAk, hg_S, hg_I, hg_J, hg_D, hg_R, hs_I, hs_J, hs_D, hs_R, uI_at, uJ_at, uD_at, uR_at, List.take_succ_cons, List.take_zero, List.drop_succ_cons, List.drop_zero, List.reverse_cons, List.reverse_nil, List.nil_append, List.cons_append, List.map_cons, List.map_nil, List.sum_cons, List.sum_nil, List.length_cons, List.length_nil, Option.toList_some, Option.toList_none, true_and, and_true, false_and, and_false, true_implies, false_implies, implies_true, not_true_eq_false, not_false_eq_true, ne_eq, if_true, if_false, Bool.and_true, Bool.true_and, decide_true, decide_false, reduceIte, reduceCtorEq, Bool.and_self, Bool.and_eq_true, decide_eq_true_eq, and_self, true_or, or_true, false_or, or_false, Nat.zero_add, Nat.add_zero, eq_self, Nat.reduceEqDiff, Nat.reduceLeDiff, Nat.reduceLT, Nat.reduceAdd, Nat.reduceSub, Nat.reduceMul, LC_out hL, nI_0P (show s < 2147483648 by omega), h2, nI_leP (show n < 2147483648 by omega) (show s < 2147483648 by omega), show (n ≤ s) = False from eq_false (by omega), nI_inP (show s < 64 by omega) (by decide), nI_ix (show s < 2147483648 by omega), hd, show ((4 : Int32) ≤ nI d) = False from eq_false (by rw [e4]; exact nI_ge h4 (by decide)), nI_m4, nI_add, nI_inP (show s * 4 + d < 256 by omega) (by decide), nI_ix (show s * 4 + d < 2147483648 by omega), e50_48, B50_48, nI_1]
theorem R49 (hL : LC S R) (h2 : I 102 2 = nI n) (hn : n ≤ 64) {f s k df ds : Nat} (hf : f < n) (hs : s < n) (hne : f ≠ s) (h3 : I 102 3 = nI k) (hk : k < 128) (h7 : I 107 f = nI df) (h8 : I 107 s = nI ds) (h4 : df < 4) (h5 : ds < 4) :
    xRun xT 49 0 [(0, .ref 102), (1, .int (nI f)), (2, .int (nI s))] [] (S, I, J, D, R) b Q = Q (.ok (some (.int (nI k)))) (S, aB I f s k df ds, J, D, R) b := by
  have e128 : (nI k < 128) = True := eq_true (by rw [show (128 : Int32) = nI 128 from rfl]; exact nI_lt hk (by decide))
  rw [e49_0]
  simp only [B49_0, xSeq, i_push, i_load, i_iload, i_lload, i_dload, i_aload, i_istore, i_astore, i_lstore, i_dstore, i_iinc, i_ii, i_iiz, i_ll, i_llz, i_lli, i_li, i_i, i_l, i_i2l, i_l2i, i_dup, i_dup2, i_dup2w, i_dupx1, i_pop, i_pop2, i_goto, i_ifc, i_icmp, i_getI, i_getL, i_getR, i_putI, i_putZ, i_putL, i_putR, i_aldI, i_aldB, i_aldL, i_aldD, i_astI, i_astL, i_astD, i_alen, i_ret, i_iret, i_zret, i_lret, i_fret, i_dret, i_aret, i_invS0, i_invV0, i_m2, i_m1, i_ml, i_obj, lk, lkp, stf1, stf2, Value.category, rV, xTo, lv_args, xCk, xCat, xRc, xAk, hg_S, hg_I, hg_J, hg_D, hg_R, hs_I, hs_J, hs_D, hs_R, uI_at, uJ_at, uD_at, uR_at, List.take_succ_cons, List.take_zero, List.drop_succ_cons, List.drop_zero, List.reverse_cons, List.reverse_nil, List.nil_append, List.cons_append, List.map_cons, List.map_nil, List.sum_cons, List.sum_nil, List.length_cons, List.length_nil, Option.toList_some, Option.toList_none, true_and, and_true, false_and, and_false, true_implies, false_implies, implies_true, not_true_eq_false, not_false_eq_true, ne_eq, if_true, if_false, Bool.and_true, Bool.true_and, decide_true, decide_false, reduceIte, reduceCtorEq, Bool.and_self, Bool.and_eq_true, decide_eq_true_eq, and_self, true_or, or_true, false_or, or_false, Nat.zero_add, Nat.add_zero, eq_self, Nat.reduceEqDiff, Nat.reduceLeDiff, Nat.reduceLT, Nat.reduceAdd, Nat.reduceSub, Nat.reduceMul, LC_out hL, h3, e128, e49_12, B49_12, nI_inP hk (by decide), nI_ix (show k < 2147483648 by omega), nI_1]
  rw [R50 (n := n) (d := df) hL (by simp [uI_at, h2]) hn hf (by simp [uI_at, h7]) h4]
  simp only [xSeq, i_push, i_load, i_iload, i_lload, i_dload, i_aload, i_istore, i_astore, i_lstore, i_dstore, i_iinc, i_ii, i_iiz, i_ll, i_llz, i_lli, i_li, i_i, i_l, i_i2l, i_l2i, i_dup, i_dup2, i_dup2w, i_dupx1, i_pop, i_pop2, i_goto, i_ifc, i_icmp, i_getI, i_getL, i_getR, i_putI, i_putZ, i_putL, i_putR, i_aldI, i_aldB, i_aldL, i_aldD, i_astI, i_astL, i_astD, i_alen, i_ret, i_iret, i_zret, i_lret, i_fret, i_dret, i_aret, i_invS0, i_invV0, i_m2, i_m1, i_ml, i_obj, lk, lkp, stf1, stf2, Value.category, rV, xTo, lv_args, xCk, xCat, xRc, xAk, hg_S, hg_I, hg_J, hg_D, hg_R, hs_I, hs_J, hs_D, hs_R, uI_at, uJ_at, uD_at, uR_at, List.take_succ_cons, List.take_zero, List.drop_succ_cons, List.drop_zero, List.reverse_cons, List.reverse_nil, List.nil_append, List.cons_append, List.map_cons, List.map_nil, List.sum_cons, List.sum_nil, List.length_cons, List.length_nil, Option.toList_some, Option.toList_none, true_and, and_true, false_and, and_false, true_implies, false_implies, implies_true, not_true_eq_false, not_false_eq_true, ne_eq, if_true, if_false, Bool.and_true, Bool.true_and, decide_true, decide_false, reduceIte, reduceCtorEq, Bool.and_self, Bool.and_eq_true, decide_eq_true_eq, and_self, true_or, or_true, false_or, or_false, Nat.zero_add, Nat.add_zero, eq_self, Nat.reduceEqDiff, Nat.reduceLeDiff, Nat.reduceLT, Nat.reduceAdd, Nat.reduceSub, Nat.reduceMul, LC_out hL]
  rw [R50 (n := n) (d := ds) hL (by simp [uI_at, h2]) hn hs (by simp [uI_at, h8, Ne.symm hne]) h5]
  simp only [xSeq, i_push, i_load, i_iload, i_lload, i_dload, i_aload, i_istore, i_astore, i_lstore, i_dstore, i_iinc, i_ii, i_iiz, i_ll, i_llz, i_lli, i_li, i_i, i_l, i_i2l, i_l2i, i_dup, i_dup2, i_dup2w, i_dupx1, i_pop, i_pop2, i_goto, i_ifc, i_icmp, i_getI, i_getL, i_getR, i_putI, i_putZ, i_putL, i_putR, i_aldI, i_aldB, i_aldL, i_aldD, i_astI, i_astL, i_astD, i_alen, i_ret, i_iret, i_zret, i_lret, i_fret, i_dret, i_aret, i_invS0, i_invV0, i_m2, i_m1, i_ml, i_obj, lk, lkp, stf1, stf2, Value.category, rV, xTo, lv_args, xCk, xCat, xRc, xAk, hg_S, hg_I, hg_J, hg_D, hg_R, hs_I, hs_J, hs_D, hs_R, uI_at, uJ_at, uD_at, uR_at, List.take_succ_cons, List.take_zero, List.drop_succ_cons, List.drop_zero, List.reverse_cons, List.reverse_nil, List.nil_append, List.cons_append, List.map_cons, List.map_nil, List.sum_cons, List.sum_nil, List.length_cons, List.length_nil, Option.toList_some, Option.toList_none, true_and, and_true, false_and, and_false, true_implies, false_implies, implies_true, not_true_eq_false, not_false_eq_true, ne_eq, if_true, if_false, Bool.and_true, Bool.true_and, decide_true, decide_false, reduceIte, reduceCtorEq, Bool.and_self, Bool.and_eq_true, decide_eq_true_eq, and_self, true_or, or_true, false_or, or_false, Nat.zero_add, Nat.add_zero, eq_self, Nat.reduceEqDiff, Nat.reduceLeDiff, Nat.reduceLT, Nat.reduceAdd, Nat.reduceSub, Nat.reduceMul, LC_out hL]
  rfl
end
section
variable {S : xS} {I : xI} {J : xJ} {D : xDb} {R : xR} {b : Nat × Nat} {Q : xQ} {n : Nat}
theorem nI_leC {a : Nat} {c : Int32} {d : Nat} (hc : c = nI d) (ha : a < 2147483648) (hd : d < 2147483648) : (nI a ≤ c) = (a ≤ d) := by rw [hc, nI_leP ha hd]
theorem R43 {su c e x : Nat} (hS : S su = (5, 0)) (hc : I su 1 = nI c) (he : I su 2 = nI e) (hx : x < 64) (hc2 : c < 64) (he2 : e < 3) : xRun xT 43 0 [(0, .ref su), (1, .int (nI x))] [] (S, I, J, D, R) b Q = Q (.ok (some (.int (if bR c e x = true then 1 else 0)))) (S, I, J, D, R) b := by
  have e1 : (nI e = 1) = (e = 1) := by rw [show (1 : Int32) = nI 1 from rfl, nI_iff (by omega) (by omega)]
  rw [e43_0]
  simp only [B43_0, xSeq, i_push, i_load, i_iload, i_lload, i_dload, i_aload, i_istore, i_astore, i_lstore, i_dstore, i_iinc, i_ii, i_iiz, i_ll, i_llz, i_lli, i_li, i_i, i_l, i_i2l, i_l2i, i_dup, i_dup2, i_dup2w, i_dupx1, i_pop, i_pop2, i_goto, i_ifc, i_icmp, i_getI, i_getL, i_getR, i_putI, i_putZ, i_putL, i_putR, i_aldI, i_aldB, i_aldL, i_aldD, i_astI, i_astL, i_astD, i_alen, i_ret, i_iret, i_zret, i_lret, i_fret, i_dret, i_aret, i_invS0, i_invV0, i_m2, i_m1, i_ml, i_obj, lk, lkp, stf1, stf2, Value.category, rV, xTo, lv_args, xCk, xCat, xRc, xAk, hg_S, hg_I, hg_J, hg_D, hg_R, hs_I, hs_J, hs_D, hs_R, uI_at, uJ_at, uD_at, uR_at, List.take_succ_cons, List.take_zero, List.drop_succ_cons, List.drop_zero, List.reverse_cons, List.reverse_nil, List.nil_append, List.cons_append, List.map_cons, List.map_nil, List.sum_cons, List.sum_nil, List.length_cons, List.length_nil, Option.toList_some, Option.toList_none, true_and, and_true, false_and, and_false, true_implies, false_implies, implies_true, not_true_eq_false, not_false_eq_true, ne_eq, if_true, if_false, Bool.and_true, Bool.true_and, decide_true, decide_false, reduceIte, reduceCtorEq, Bool.and_self, Bool.and_eq_true, decide_eq_true_eq, and_self, true_or, or_true, false_or, or_false, Nat.zero_add, Nat.add_zero, eq_self, Nat.reduceEqDiff, Nat.reduceLeDiff, Nat.reduceLT, Nat.reduceAdd, Nat.reduceSub, Nat.reduceMul, hS, hc, he, nI_1, nI_ltP (show x + 1 < 2147483648 by omega) (show c < 2147483648 by omega), e1, e43_18, B43_18, e43_22, B43_22, e43_23, B43_23, bR]
  by_cases h1 : x + 1 < c
  · simp [h1]
  · by_cases h2 : e = 1 <;> simp [h1, h2]
theorem R44 {su r e y : Nat} (hS : S su = (5, 0)) (hc : I su 0 = nI r) (he : I su 2 = nI e) (hx : y < 64) (hc2 : r < 64) (he2 : e < 3) : xRun xT 44 0 [(0, .ref su), (1, .int (nI y))] [] (S, I, J, D, R) b Q = Q (.ok (some (.int (if bD r e y = true then 1 else 0)))) (S, I, J, D, R) b := by
  have e1 : (nI e = 0) = (e = 0) := by rw [show (0 : Int32) = nI 0 from rfl, nI_iff (by omega) (by omega)]
  rw [e44_0]
  simp only [B44_0, xSeq, i_push, i_load, i_iload, i_lload, i_dload, i_aload, i_istore, i_astore, i_lstore, i_dstore, i_iinc, i_ii, i_iiz, i_ll, i_llz, i_lli, i_li, i_i, i_l, i_i2l, i_l2i, i_dup, i_dup2, i_dup2w, i_dupx1, i_pop, i_pop2, i_goto, i_ifc, i_icmp, i_getI, i_getL, i_getR, i_putI, i_putZ, i_putL, i_putR, i_aldI, i_aldB, i_aldL, i_aldD, i_astI, i_astL, i_astD, i_alen, i_ret, i_iret, i_zret, i_lret, i_fret, i_dret, i_aret, i_invS0, i_invV0, i_m2, i_m1, i_ml, i_obj, lk, lkp, stf1, stf2, Value.category, rV, xTo, lv_args, xCk, xCat, xRc, xAk, hg_S, hg_I, hg_J, hg_D, hg_R, hs_I, hs_J, hs_D, hs_R, uI_at, uJ_at, uD_at, uR_at, List.take_succ_cons, List.take_zero, List.drop_succ_cons, List.drop_zero, List.reverse_cons, List.reverse_nil, List.nil_append, List.cons_append, List.map_cons, List.map_nil, List.sum_cons, List.sum_nil, List.length_cons, List.length_nil, Option.toList_some, Option.toList_none, true_and, and_true, false_and, and_false, true_implies, false_implies, implies_true, not_true_eq_false, not_false_eq_true, ne_eq, if_true, if_false, Bool.and_true, Bool.true_and, decide_true, decide_false, reduceIte, reduceCtorEq, Bool.and_self, Bool.and_eq_true, decide_eq_true_eq, and_self, true_or, or_true, false_or, or_false, Nat.zero_add, Nat.add_zero, eq_self, Nat.reduceEqDiff, Nat.reduceLeDiff, Nat.reduceLT, Nat.reduceAdd, Nat.reduceSub, Nat.reduceMul, hS, hc, he, nI_1, nI_ltP (show y + 1 < 2147483648 by omega) (show r < 2147483648 by omega), e1, e44_17, B44_17, e44_21, B44_21, e44_22, B44_22, bD]
  by_cases h1 : y + 1 < r
  · simp [h1]
  · by_cases h2 : e = 0 <;> simp [h1, h2]
/-- what setup texts ask for: rows, columns, edge -/
def KS (S : xS) (I : xI) (su r c e : Nat) : Prop := S su = (5, 0) ∧ I su 0 = nI r ∧ I su 1 = nI c ∧ I su 2 = nI e ∧ 2 ≤ r ∧ r ≤ 8 ∧ 2 ≤ c ∧ c ≤ 8 ∧ e < 3 ∧ ∀ k, ¬ bO su k
theorem KS_fr {S : xS} {I I' : xI} {su r c e : Nat} (h : KS S I su r c e) (hf : ∀ o k, ¬ bO o k → I' o k = I o k) : KS S I' su r c e := by
  obtain ⟨h1, h2, h3, h4, h5, h6, h7, h8, h9, h10⟩ := h
  exact ⟨h1, by rw [hf _ _ (h10 _)]; exact h2, by rw [hf _ _ (h10 _)]; exact h3, by rw [hf _ _ (h10 _)]; exact h4, h5, h6, h7, h8, h9, h10⟩
/-- which bond leads right, which down -/
def PB (I : xI) (r c e s : Nat) : Prop := ∀ t, t < s → I 105 t = (if bR c e (t % c) = true then nI (bl r c e t).length else -1) ∧ I 106 t = (if bD r e (t / c) = true then nI (bl r c e t ++ oR c e t).length else -1)
theorem bl_len {r c e : Nat} : ∀ {s n : Nat}, s ≤ n → (bl r c e s).length ≤ (bl r c e n).length := by
  intro s n h
  induction n with
  | zero => rw [Nat.le_zero.mp h]; exact Nat.le_refl _
  | succ n ih =>
    by_cases e2 : s = n + 1
    · rw [e2]; exact Nat.le_refl _
    · have := ih (by omega)
      rw [bl, List.length_append, List.length_append]
      omega
theorem bl_pre {r c e : Nat} : ∀ {s n : Nat}, s ≤ n → ∃ l, bl r c e n = bl r c e s ++ l := by
  intro s n h
  induction n with
  | zero => rw [Nat.le_zero.mp h]; exact ⟨[], by rw [List.append_nil]⟩
  | succ n ih =>
    by_cases e2 : s = n + 1
    · rw [e2]; exact ⟨[], by rw [List.append_nil]⟩
    · obtain ⟨l, hl⟩ := ih (by omega)
      exact ⟨l ++ oR c e n ++ oD r c e n, by rw [bl, hl, List.append_assoc, List.append_assoc, List.append_assoc]⟩
theorem dE_mono (l : List (Nat × Nat)) (t : Nat) : ∀ l' : List (Nat × Nat), dE l t ≤ dE (l ++ l') t := by
  intro l'
  induction l' generalizing l with
  | nil => rw [List.append_nil]; exact Nat.le_refl _
  | cons q r ih =>
    have h1 := ih (l ++ [q])
    have h2 := dE_app l q.1 q.2 t
    rw [List.append_assoc, List.singleton_append] at h1
    have h3 : dE l t ≤ dE (l ++ [q]) t := by
      rw [show q = (q.1, q.2) from rfl, h2]
      split <;> omega
    omega
end
/-! ===== the lab's lattice is built: site by site ===== -/
section
theorem gk_q {n : Nat} {l : List (Nat × Nat)} (h : gk n l = true) : (0 < n ∧ n ≤ 64 ∧ l.length ≤ 128) ∧ (∀ q, q ∈ l → q.1 < n ∧ q.2 < n ∧ q.1 ≠ q.2) ∧ ∀ t, t < n → dE l t ≤ 4 := by
  unfold gk at h
  simp only [Bool.and_eq_true, decide_eq_true_eq] at h
  obtain ⟨⟨⟨⟨h0, h1⟩, h2⟩, h3⟩, h4⟩ := h
  refine ⟨⟨h0, h1, h2⟩, fun q hq => ?_, fun t ht => ?_⟩
  · have := List.all_eq_true.mp h3 q hq
    simp only [Bool.and_eq_true, decide_eq_true_eq, Bool.not_eq_true', decide_eq_false_iff_not] at this
    exact ⟨this.1.1, this.1.2, this.2⟩
  · have := List.all_eq_true.mp h4 t (List.mem_range.mpr ht)
    exact of_decide_eq_true this
/-- one bond more, still within a good grid -/
theorem gk_one {n f s : Nat} {l l' L : List (Nat × Nat)} (h : gk n L = true) (e : L = l ++ [(f, s)] ++ l') : f < n ∧ s < n ∧ f ≠ s ∧ l.length < 128 ∧ (∀ t, t < n → dE (l ++ [(f, s)]) t ≤ 4) ∧ dE l f < 4 ∧ dE l s < 4 := by
  obtain ⟨⟨h0, h1, h2⟩, h3, h4⟩ := gk_q h
  have hq := h3 (f, s) (by rw [e]; simp)
  have hd : ∀ t, t < n → dE (l ++ [(f, s)]) t ≤ 4 := fun t ht => by
    have := h4 t ht
    rw [e] at this
    exact Nat.le_trans (dE_mono _ t l') this
  have hl : l.length < 128 := by
    rw [e] at h2
    simp only [List.length_append, List.length_singleton] at h2
    omega
  have df := hd f hq.1
  have ds := hd s hq.2.1
  rw [dE_app, if_pos (Or.inl rfl)] at df
  rw [dE_app, if_pos (Or.inr rfl)] at ds
  exact ⟨hq.1, hq.2.1, hq.2.2, hl, hd, by omega, by omega⟩
variable {S : xS} {I : xI} {J : xJ} {D : xDb} {R : xR} {b : Nat × Nat} {Q : xQ} {n : Nat}
theorem KS_bound {su r c e : Nat} (h : KS S I su r c e) : 2 ≤ r ∧ r ≤ 8 ∧ 2 ≤ c ∧ c ≤ 8 ∧ e < 3 := ⟨h.2.2.2.2.1, h.2.2.2.2.2.1, h.2.2.2.2.2.2.1, h.2.2.2.2.2.2.2.1, h.2.2.2.2.2.2.2.2.1⟩
theorem L48_87 {su r c e s : Nat} (hL : LC S R) (hK : KS S I su r c e) (h0 : I 102 0 = nI r) (h1 : I 102 1 = nI c) (h2 : I 102 2 = nI n) (hn : n = r * c) (hs : s < n) (hg : gk n (bl r c e n) = true)
    (hB : HB I n (bl r c e s ++ oR c e s)) (hP : PB I r c e s) (hr : I 105 s = (if bR c e (s % c) = true then nI (bl r c e s).length else -1)) (hd : I 106 s = -1)
    (kk : ∀ I', HB I' n (bl r c e (s + 1)) → PB I' r c e (s + 1) → (∀ o k, ¬ bO o k → I' o k = I o k) → Q (.ok none) (S, I', J, D, R) b) :
    xRun xT 48 87 [(0, .ref 102), (1, .int (nI s)), (2, .ref su), (4, .int (nI (s / c))), (5, .int (nI (s % c)))] [] (S, I, J, D, R) b Q := by
  obtain ⟨k1, k2, k3, k4, k5⟩ := KS_bound hK
  obtain ⟨l0, hl0⟩ := bl_pre (r := r) (c := c) (e := e) (show s + 1 ≤ n by omega)
  have hn64 : n ≤ 64 := (gk_q hg).1.2.1
  have hrow : s / c < r := by
    rw [Nat.div_lt_iff_lt_mul (by omega)]
    rw [hn] at hs
    exact hs
  have hcol : s % c < c := Nat.mod_lt _ (by omega)
  have e1 : s / c + 1 < 64 := by omega
  rw [e48_87]
  simp only [B48_87, xSeq, i_push, i_load, i_iload, i_lload, i_dload, i_aload, i_istore, i_astore, i_lstore, i_dstore, i_iinc, i_ii, i_iiz, i_ll, i_llz, i_lli, i_li, i_i, i_l, i_i2l, i_l2i, i_dup, i_dup2, i_dup2w, i_dupx1, i_pop, i_pop2, i_goto, i_ifc, i_icmp, i_getI, i_getL, i_getR, i_putI, i_putZ, i_putL, i_putR, i_aldI, i_aldB, i_aldL, i_aldD, i_astI, i_astL, i_astD, i_alen, i_ret, i_iret, i_zret, i_lret, i_fret, i_dret, i_aret, i_invS0, i_invV0, i_m2, i_m1, i_ml, i_obj, lk, lkp, stf1, stf2, Value.category, rV, xTo, lv_args, xCk, xCat, xRc, xAk, hg_S, hg_I, hg_J, hg_D, hg_R, hs_I, hs_J, hs_D, hs_R, uI_at, uJ_at, uD_at, uR_at, List.take_succ_cons, List.take_zero, List.drop_succ_cons, List.drop_zero, List.reverse_cons, List.reverse_nil, List.nil_append, List.cons_append, List.map_cons, List.map_nil, List.sum_cons, List.sum_nil, List.length_cons, List.length_nil, Option.toList_some, Option.toList_none, true_and, and_true, false_and, and_false, true_implies, false_implies, implies_true, not_true_eq_false, not_false_eq_true, ne_eq, if_true, if_false, Bool.and_true, Bool.true_and, decide_true, decide_false, reduceIte, reduceCtorEq, Bool.and_self, Bool.and_eq_true, decide_eq_true_eq, and_self, true_or, or_true, false_or, or_false, Nat.zero_add, Nat.add_zero, eq_self, Nat.reduceEqDiff, Nat.reduceLeDiff, Nat.reduceLT, Nat.reduceAdd, Nat.reduceSub, Nat.reduceMul, LC_out hL, hK.1, R44 (R := R) hK.1 hK.2.1 hK.2.2.2.1 (show s / c < 64 by omega) (show r < 64 by omega) k5]
  by_cases hD : bD r e (s / c) = true
  · have eD : oD r c e s = [(s, nR r (s / c) * c + s % c)] := by rw [oD, if_pos hD]
    have hone := gk_one hg (l := bl r c e s ++ oR c e s) (f := s) (s := nR r (s / c) * c + s % c) (l' := l0) (by rw [hl0, bl, eD])
    obtain ⟨o1, o2, o3, o4, o5, o6, o7⟩ := hone
    have h49 := fun (Q : xQ) => R49 (J := J) (D := D) (b := (0, 0)) (Q := Q) hL h2 hn64 o1 o2 o3 hB.1 o4 (hB.2.2.2.1 _ o1) (hB.2.2.2.1 _ o2) o6 o7
    have hB' := HB_add hB o3 o1 o2 o5
    have hfr : ∀ o k, ¬ bO o k → uI (aB I s (nR r (s / c) * c + s % c) (bl r c e s ++ oR c e s).length (dE (bl r c e s ++ oR c e s) s) (dE (bl r c e s ++ oR c e s) (nR r (s / c) * c + s % c))) 106 s (nI (bl r c e s ++ oR c e s).length) o k = I o k := fun o k hok => by
      rw [uI_at, if_neg (fun h => hok (by unfold bO; omega)), aB_fr hok]
    have hfin : xRun xT 48 138 [] [] (S, uI (aB I s (nR r (s / c) * c + s % c) (bl r c e s ++ oR c e s).length (dE (bl r c e s ++ oR c e s) s) (dE (bl r c e s ++ oR c e s) (nR r (s / c) * c + s % c))) 106 s (nI (bl r c e s ++ oR c e s).length), J, D, R) b Q := by
      rw [e48_138]
      simp only [B48_138, xSeq, i_push, i_load, i_iload, i_lload, i_dload, i_aload, i_istore, i_astore, i_lstore, i_dstore, i_iinc, i_ii, i_iiz, i_ll, i_llz, i_lli, i_li, i_i, i_l, i_i2l, i_l2i, i_dup, i_dup2, i_dup2w, i_dupx1, i_pop, i_pop2, i_goto, i_ifc, i_icmp, i_getI, i_getL, i_getR, i_putI, i_putZ, i_putL, i_putR, i_aldI, i_aldB, i_aldL, i_aldD, i_astI, i_astL, i_astD, i_alen, i_ret, i_iret, i_zret, i_lret, i_fret, i_dret, i_aret, i_invS0, i_invV0, i_m2, i_m1, i_ml, i_obj, lk, lkp, stf1, stf2, Value.category, rV, xTo, lv_args, xCk, xCat, xRc, xAk, hg_S, hg_I, hg_J, hg_D, hg_R, hs_I, hs_J, hs_D, hs_R, uI_at, uJ_at, uD_at, uR_at, List.take_succ_cons, List.take_zero, List.drop_succ_cons, List.drop_zero, List.reverse_cons, List.reverse_nil, List.nil_append, List.cons_append, List.map_cons, List.map_nil, List.sum_cons, List.sum_nil, List.length_cons, List.length_nil, Option.toList_some, Option.toList_none, true_and, and_true, false_and, and_false, true_implies, false_implies, implies_true, not_true_eq_false, not_false_eq_true, ne_eq, if_true, if_false, Bool.and_true, Bool.true_and, decide_true, decide_false, reduceIte, reduceCtorEq, Bool.and_self, Bool.and_eq_true, decide_eq_true_eq, and_self, true_or, or_true, false_or, or_false, Nat.zero_add, Nat.add_zero, eq_self, Nat.reduceEqDiff, Nat.reduceLeDiff, Nat.reduceLT, Nat.reduceAdd, Nat.reduceSub, Nat.reduceMul]
      refine kk _ ?_ ?_ hfr
      · rw [bl, eD]
        exact hB'
      · intro t ht
        by_cases et : t = s
        · subst et
          refine ⟨?_, ?_⟩
          · rw [uI_at, if_neg (by omega)]
            unfold aB
            simp only [uI_at, true_and, and_true, false_and, and_false, true_implies, false_implies, implies_true, not_true_eq_false, not_false_eq_true, ne_eq, if_true, if_false, Bool.and_true, Bool.true_and, decide_true, decide_false, reduceIte, reduceCtorEq, Bool.and_self, Bool.and_eq_true, decide_eq_true_eq, and_self, true_or, or_true, false_or, or_false, Nat.zero_add, Nat.add_zero, eq_self, Nat.reduceEqDiff, Nat.reduceLeDiff, Nat.reduceLT, Nat.reduceAdd, Nat.reduceSub, Nat.reduceMul]
            exact hr
          · rw [uI_at, if_pos ⟨rfl, rfl⟩, if_pos hD]
        · have := hP t (by omega)
          refine ⟨?_, ?_⟩
          · rw [uI_at, if_neg (by omega)]
            unfold aB
            simp only [uI_at, true_and, and_true, false_and, and_false, true_implies, false_implies, implies_true, not_true_eq_false, not_false_eq_true, ne_eq, if_true, if_false, Bool.and_true, Bool.true_and, decide_true, decide_false, reduceIte, reduceCtorEq, Bool.and_self, Bool.and_eq_true, decide_eq_true_eq, and_self, true_or, or_true, false_or, or_false, Nat.zero_add, Nat.add_zero, eq_self, Nat.reduceEqDiff, Nat.reduceLeDiff, Nat.reduceLT, Nat.reduceAdd, Nat.reduceSub, Nat.reduceMul]
            exact this.1
          · rw [uI_at, if_neg (fun h => et h.2)]
            unfold aB
            simp only [uI_at, true_and, and_true, false_and, and_false, true_implies, false_implies, implies_true, not_true_eq_false, not_false_eq_true, ne_eq, if_true, if_false, Bool.and_true, Bool.true_and, decide_true, decide_false, reduceIte, reduceCtorEq, Bool.and_self, Bool.and_eq_true, decide_eq_true_eq, and_self, true_or, or_true, false_or, or_false, Nat.zero_add, Nat.add_zero, eq_self, Nat.reduceEqDiff, Nat.reduceLeDiff, Nat.reduceLT, Nat.reduceAdd, Nat.reduceSub, Nat.reduceMul]
            exact this.2
    by_cases hlt : s / c + 1 < r
    · have e3 : nI (s / c + 1) * nI c + nI (s % c) = nI (nR r (s / c) * c + s % c) := by
        rw [pk_mul, nI_add, nR, if_pos hlt]
      simp only [hD, if_true, i1_0, xSeq, i_push, i_load, i_iload, i_lload, i_dload, i_aload, i_istore, i_astore, i_lstore, i_dstore, i_iinc, i_ii, i_iiz, i_ll, i_llz, i_lli, i_li, i_i, i_l, i_i2l, i_l2i, i_dup, i_dup2, i_dup2w, i_dupx1, i_pop, i_pop2, i_goto, i_ifc, i_icmp, i_getI, i_getL, i_getR, i_putI, i_putZ, i_putL, i_putR, i_aldI, i_aldB, i_aldL, i_aldD, i_astI, i_astL, i_astD, i_alen, i_ret, i_iret, i_zret, i_lret, i_fret, i_dret, i_aret, i_invS0, i_invV0, i_m2, i_m1, i_ml, i_obj, lk, lkp, stf1, stf2, Value.category, rV, xTo, lv_args, xCk, xCat, xRc, xAk, hg_S, hg_I, hg_J, hg_D, hg_R, hs_I, hs_J, hs_D, hs_R, uI_at, uJ_at, uD_at, uR_at, List.take_succ_cons, List.take_zero, List.drop_succ_cons, List.drop_zero, List.reverse_cons, List.reverse_nil, List.nil_append, List.cons_append, List.map_cons, List.map_nil, List.sum_cons, List.sum_nil, List.length_cons, List.length_nil, Option.toList_some, Option.toList_none, true_and, and_true, false_and, and_false, true_implies, false_implies, implies_true, not_true_eq_false, not_false_eq_true, ne_eq, if_true, if_false, Bool.and_true, Bool.true_and, decide_true, decide_false, reduceIte, reduceCtorEq, Bool.and_self, Bool.and_eq_true, decide_eq_true_eq, and_self, true_or, or_true, false_or, or_false, Nat.zero_add, Nat.add_zero, eq_self, Nat.reduceEqDiff, Nat.reduceLeDiff, Nat.reduceLT, Nat.reduceAdd, Nat.reduceSub, Nat.reduceMul, h0, nI_1, nI_leP (show r < 2147483648 by omega) (show s / c + 1 < 2147483648 by omega), show (r ≤ s / c + 1) = False from eq_false (by omega), e48_115, B48_115, LC_out hL, h1, e3, h49, nI_inP (show s < 64 by omega) (by decide), nI_ix (show s < 2147483648 by omega)]
      exact hfin
    · have e3 : 0 * nI c + nI (s % c) = nI (nR r (s / c) * c + s % c) := by
        rw [nR, if_neg hlt, Nat.zero_mul, Nat.zero_add, Int32.zero_mul, Int32.zero_add]
      simp only [hD, if_true, i1_0, xSeq, i_push, i_load, i_iload, i_lload, i_dload, i_aload, i_istore, i_astore, i_lstore, i_dstore, i_iinc, i_ii, i_iiz, i_ll, i_llz, i_lli, i_li, i_i, i_l, i_i2l, i_l2i, i_dup, i_dup2, i_dup2w, i_dupx1, i_pop, i_pop2, i_goto, i_ifc, i_icmp, i_getI, i_getL, i_getR, i_putI, i_putZ, i_putL, i_putR, i_aldI, i_aldB, i_aldL, i_aldD, i_astI, i_astL, i_astD, i_alen, i_ret, i_iret, i_zret, i_lret, i_fret, i_dret, i_aret, i_invS0, i_invV0, i_m2, i_m1, i_ml, i_obj, lk, lkp, stf1, stf2, Value.category, rV, xTo, lv_args, xCk, xCat, xRc, xAk, hg_S, hg_I, hg_J, hg_D, hg_R, hs_I, hs_J, hs_D, hs_R, uI_at, uJ_at, uD_at, uR_at, List.take_succ_cons, List.take_zero, List.drop_succ_cons, List.drop_zero, List.reverse_cons, List.reverse_nil, List.nil_append, List.cons_append, List.map_cons, List.map_nil, List.sum_cons, List.sum_nil, List.length_cons, List.length_nil, Option.toList_some, Option.toList_none, true_and, and_true, false_and, and_false, true_implies, false_implies, implies_true, not_true_eq_false, not_false_eq_true, ne_eq, if_true, if_false, Bool.and_true, Bool.true_and, decide_true, decide_false, reduceIte, reduceCtorEq, Bool.and_self, Bool.and_eq_true, decide_eq_true_eq, and_self, true_or, or_true, false_or, or_false, Nat.zero_add, Nat.add_zero, eq_self, Nat.reduceEqDiff, Nat.reduceLeDiff, Nat.reduceLT, Nat.reduceAdd, Nat.reduceSub, Nat.reduceMul, h0, nI_1, nI_leP (show r < 2147483648 by omega) (show s / c + 1 < 2147483648 by omega), show (r ≤ s / c + 1) = True from eq_true (by omega), e48_114, B48_114, e48_115, B48_115, LC_out hL, h1, e3, h49, nI_inP (show s < 64 by omega) (by decide), nI_ix (show s < 2147483648 by omega)]
      exact hfin
  · have eD : oD r c e s = [] := by rw [oD, if_neg hD]
    simp only [hD, if_false, xSeq, i_push, i_load, i_iload, i_lload, i_dload, i_aload, i_istore, i_astore, i_lstore, i_dstore, i_iinc, i_ii, i_iiz, i_ll, i_llz, i_lli, i_li, i_i, i_l, i_i2l, i_l2i, i_dup, i_dup2, i_dup2w, i_dupx1, i_pop, i_pop2, i_goto, i_ifc, i_icmp, i_getI, i_getL, i_getR, i_putI, i_putZ, i_putL, i_putR, i_aldI, i_aldB, i_aldL, i_aldD, i_astI, i_astL, i_astD, i_alen, i_ret, i_iret, i_zret, i_lret, i_fret, i_dret, i_aret, i_invS0, i_invV0, i_m2, i_m1, i_ml, i_obj, lk, lkp, stf1, stf2, Value.category, rV, xTo, lv_args, xCk, xCat, xRc, xAk, hg_S, hg_I, hg_J, hg_D, hg_R, hs_I, hs_J, hs_D, hs_R, uI_at, uJ_at, uD_at, uR_at, List.take_succ_cons, List.take_zero, List.drop_succ_cons, List.drop_zero, List.reverse_cons, List.reverse_nil, List.nil_append, List.cons_append, List.map_cons, List.map_nil, List.sum_cons, List.sum_nil, List.length_cons, List.length_nil, Option.toList_some, Option.toList_none, true_and, and_true, false_and, and_false, true_implies, false_implies, implies_true, not_true_eq_false, not_false_eq_true, ne_eq, if_true, if_false, Bool.and_true, Bool.true_and, decide_true, decide_false, reduceIte, reduceCtorEq, Bool.and_self, Bool.and_eq_true, decide_eq_true_eq, and_self, true_or, or_true, false_or, or_false, Nat.zero_add, Nat.add_zero, eq_self, Nat.reduceEqDiff, Nat.reduceLeDiff, Nat.reduceLT, Nat.reduceAdd, Nat.reduceSub, Nat.reduceMul, e48_138, B48_138, Bool.false_eq_true]
    refine kk _ ?_ ?_ (fun _ _ _ => rfl)
    · rw [bl, eD, List.append_nil]
      exact hB
    · intro t ht
      by_cases et : t = s
      · subst et
        exact ⟨hr, by rw [if_neg hD]; exact hd⟩
      · exact hP t (by omega)
theorem L48 {su r c e s : Nat} (hL : LC S R) (hK : KS S I su r c e) (h0 : I 102 0 = nI r) (h1 : I 102 1 = nI c) (h2 : I 102 2 = nI n) (hn : n = r * c) (hs : s < n) (hg : gk n (bl r c e n) = true)
    (hB : HB I n (bl r c e s)) (hP : PB I r c e s)
    (kk : ∀ I', HB I' n (bl r c e (s + 1)) → PB I' r c e (s + 1) → (∀ o k, ¬ bO o k → I' o k = I o k) → Q (.ok none) (S, I', J, D, R) b) :
    xRun xT 48 0 [(0, .ref 102), (1, .int (nI s)), (2, .ref su)] [] (S, I, J, D, R) b Q := by
  obtain ⟨k1, k2, k3, k4, k5⟩ := KS_bound hK
  obtain ⟨l0, hl0⟩ := bl_pre (r := r) (c := c) (e := e) (show s + 1 ≤ n by omega)
  have hn64 : n ≤ 64 := (gk_q hg).1.2.1
  have hcol : s % c < c := Nat.mod_lt _ (by omega)
  have eM : jMax (nI c) 1 = nI c := by
    unfold jMax
    rw [if_neg (by rw [show (1 : Int32) = nI 1 from rfl]; exact nI_nlt (by omega) (by omega))]
  have eD : nI s / nI c = nI (s / c) := pk_div (by omega) (by omega) (by omega)
  have eC : nI s - nI (s / c) * nI c = nI (s % c) := by
    rw [← eD]
    exact pk_rem (by omega) (by omega) (by omega)
  have hc0 : (nI c = 0) = False := eq_false (nI_ne0 (by omega) (by omega))
  obtain ⟨I1, hI1⟩ : ∃ I1, I1 = uI (uI I 105 s (-1)) 106 s (-1) := ⟨_, rfl⟩
  have hf1 : ∀ o k, ¬ bO o k → I1 o k = I o k := fun o k hok => by
    rw [hI1, uI_at, if_neg (fun h => hok (by unfold bO; omega)), uI_at, if_neg (fun h => hok (by unfold bO; omega))]
  have hK1 := KS_fr hK hf1
  have h01 : I1 102 0 = nI r := by rw [hf1 _ _ (by decide)]; exact h0
  have h11 : I1 102 1 = nI c := by rw [hf1 _ _ (by decide)]; exact h1
  have h21 : I1 102 2 = nI n := by rw [hf1 _ _ (by decide)]; exact h2
  have hB1 : HB I1 n (bl r c e s) := by
    obtain ⟨a1, a2, a3, a4, a5⟩ := hB
    rw [hI1]
    refine ⟨a1, fun k hk => ?_, fun k hk => ?_, fun k hk => ?_, fun k i hk hi => ?_⟩
    · rw [uI_at, if_neg (by omega), uI_at, if_neg (by omega)]; exact a2 k hk
    · rw [uI_at, if_neg (by omega), uI_at, if_neg (by omega)]; exact a3 k hk
    · rw [uI_at, if_neg (by omega), uI_at, if_neg (by omega)]; exact a4 k hk
    · rw [uI_at, if_neg (by omega), uI_at, if_neg (by omega)]; exact a5 k i hk hi
  have hP1 : PB I1 r c e s := fun t ht => by
    rw [hI1]
    refine ⟨?_, ?_⟩
    · rw [uI_at, if_neg (by omega), uI_at, if_neg (by omega)]; exact (hP t ht).1
    · rw [uI_at, if_neg (by omega), uI_at, if_neg (by omega)]; exact (hP t ht).2
  have hr1 : I1 105 s = -1 := by
    rw [hI1, uI_at, if_neg (by omega), uI_at, if_pos ⟨rfl, rfl⟩]
  have hd1 : I1 106 s = -1 := by
    rw [hI1, uI_at, if_pos ⟨rfl, rfl⟩]
  rw [e48_0]
  simp only [B48_0, xSeq, i_push, i_load, i_iload, i_lload, i_dload, i_aload, i_istore, i_astore, i_lstore, i_dstore, i_iinc, i_ii, i_iiz, i_ll, i_llz, i_lli, i_li, i_i, i_l, i_i2l, i_l2i, i_dup, i_dup2, i_dup2w, i_dupx1, i_pop, i_pop2, i_goto, i_ifc, i_icmp, i_getI, i_getL, i_getR, i_putI, i_putZ, i_putL, i_putR, i_aldI, i_aldB, i_aldL, i_aldD, i_astI, i_astL, i_astD, i_alen, i_ret, i_iret, i_zret, i_lret, i_fret, i_dret, i_aret, i_invS0, i_invV0, i_m2, i_m1, i_ml, i_obj, lk, lkp, stf1, stf2, Value.category, rV, xTo, lv_args, xCk, xCat, xRc, xAk, hg_S, hg_I, hg_J, hg_D, hg_R, hs_I, hs_J, hs_D, hs_R, uI_at, uJ_at, uD_at, uR_at, List.take_succ_cons, List.take_zero, List.drop_succ_cons, List.drop_zero, List.reverse_cons, List.reverse_nil, List.nil_append, List.cons_append, List.map_cons, List.map_nil, List.sum_cons, List.sum_nil, List.length_cons, List.length_nil, Option.toList_some, Option.toList_none, true_and, and_true, false_and, and_false, true_implies, false_implies, implies_true, not_true_eq_false, not_false_eq_true, ne_eq, if_true, if_false, Bool.and_true, Bool.true_and, decide_true, decide_false, reduceIte, reduceCtorEq, Bool.and_self, Bool.and_eq_true, decide_eq_true_eq, and_self, true_or, or_true, false_or, or_false, Nat.zero_add, Nat.add_zero, eq_self, Nat.reduceEqDiff, Nat.reduceLeDiff, Nat.reduceLT, Nat.reduceAdd, Nat.reduceSub, Nat.reduceMul, LC_out hL, h1, eM, hc0, eD, eC, nI_inP (show s < 64 by omega) (by decide), nI_ix (show s < 2147483648 by omega)]
  rw [← hI1]
  simp only [xSeq, i_push, i_load, i_iload, i_lload, i_dload, i_aload, i_istore, i_astore, i_lstore, i_dstore, i_iinc, i_ii, i_iiz, i_ll, i_llz, i_lli, i_li, i_i, i_l, i_i2l, i_l2i, i_dup, i_dup2, i_dup2w, i_dupx1, i_pop, i_pop2, i_goto, i_ifc, i_icmp, i_getI, i_getL, i_getR, i_putI, i_putZ, i_putL, i_putR, i_aldI, i_aldB, i_aldL, i_aldD, i_astI, i_astL, i_astD, i_alen, i_ret, i_iret, i_zret, i_lret, i_fret, i_dret, i_aret, i_invS0, i_invV0, i_m2, i_m1, i_ml, i_obj, lk, lkp, stf1, stf2, Value.category, rV, xTo, lv_args, xCk, xCat, xRc, xAk, hg_S, hg_I, hg_J, hg_D, hg_R, hs_I, hs_J, hs_D, hs_R, uI_at, uJ_at, uD_at, uR_at, List.take_succ_cons, List.take_zero, List.drop_succ_cons, List.drop_zero, List.reverse_cons, List.reverse_nil, List.nil_append, List.cons_append, List.map_cons, List.map_nil, List.sum_cons, List.sum_nil, List.length_cons, List.length_nil, Option.toList_some, Option.toList_none, true_and, and_true, false_and, and_false, true_implies, false_implies, implies_true, not_true_eq_false, not_false_eq_true, ne_eq, if_true, if_false, Bool.and_true, Bool.true_and, decide_true, decide_false, reduceIte, reduceCtorEq, Bool.and_self, Bool.and_eq_true, decide_eq_true_eq, and_self, true_or, or_true, false_or, or_false, Nat.zero_add, Nat.add_zero, eq_self, Nat.reduceEqDiff, Nat.reduceLeDiff, Nat.reduceLT, Nat.reduceAdd, Nat.reduceSub, Nat.reduceMul, hK.1, R43 (R := R) hK1.1 hK1.2.2.1 hK1.2.2.2.1 (show s % c < 64 by omega) (show c < 64 by omega) k5]
  by_cases hR : bR c e (s % c) = true
  · have eR : oR c e s = [(s, s / c * c + nR c (s % c))] := by rw [oR, if_pos hR]
    have hone := gk_one hg (l := bl r c e s) (f := s) (s := s / c * c + nR c (s % c)) (l' := oD r c e s ++ l0) (by rw [hl0, bl, eR, ← List.append_assoc])
    obtain ⟨o1, o2, o3, o4, o5, o6, o7⟩ := hone
    have h49 := fun (Q : xQ) => R49 (J := J) (D := D) (b := (0, 0)) (Q := Q) hL h21 hn64 o1 o2 o3 hB1.1 o4 (hB1.2.2.2.1 _ o1) (hB1.2.2.2.1 _ o2) o6 o7
    have hB' := HB_add hB1 o3 o1 o2 o5
    obtain ⟨I2, hI2⟩ : ∃ I2, I2 = uI (aB I1 s (s / c * c + nR c (s % c)) (bl r c e s).length (dE (bl r c e s) s) (dE (bl r c e s) (s / c * c + nR c (s % c)))) 105 s (nI (bl r c e s).length) := ⟨_, rfl⟩
    have hf2 : ∀ o k, ¬ bO o k → I2 o k = I1 o k := fun o k hok => by
      rw [hI2, uI_at, if_neg (fun h => hok (by unfold bO; omega)), aB_fr hok]
    have hB2 : HB I2 n (bl r c e s ++ oR c e s) := by
      rw [eR, hI2]
      exact hB'
    have hP2 : PB I2 r c e s := fun t ht => by
      rw [hI2]
      refine ⟨?_, ?_⟩
      · rw [uI_at, if_neg (by omega)]
        unfold aB
        simp only [uI_at, true_and, and_true, false_and, and_false, true_implies, false_implies, implies_true, not_true_eq_false, not_false_eq_true, ne_eq, if_true, if_false, Bool.and_true, Bool.true_and, decide_true, decide_false, reduceIte, reduceCtorEq, Bool.and_self, Bool.and_eq_true, decide_eq_true_eq, and_self, true_or, or_true, false_or, or_false, Nat.zero_add, Nat.add_zero, eq_self, Nat.reduceEqDiff, Nat.reduceLeDiff, Nat.reduceLT, Nat.reduceAdd, Nat.reduceSub, Nat.reduceMul]
        exact (hP1 t ht).1
      · rw [uI_at, if_neg (by omega)]
        unfold aB
        simp only [uI_at, true_and, and_true, false_and, and_false, true_implies, false_implies, implies_true, not_true_eq_false, not_false_eq_true, ne_eq, if_true, if_false, Bool.and_true, Bool.true_and, decide_true, decide_false, reduceIte, reduceCtorEq, Bool.and_self, Bool.and_eq_true, decide_eq_true_eq, and_self, true_or, or_true, false_or, or_false, Nat.zero_add, Nat.add_zero, eq_self, Nat.reduceEqDiff, Nat.reduceLeDiff, Nat.reduceLT, Nat.reduceAdd, Nat.reduceSub, Nat.reduceMul]
        exact (hP1 t ht).2
    have hr2 : I2 105 s = (if bR c e (s % c) = true then nI (bl r c e s).length else -1) := by
      rw [hI2, uI_at, if_pos ⟨rfl, rfl⟩, if_pos hR]
    have hd2 : I2 106 s = -1 := by
      rw [hI2, uI_at, if_neg (by omega)]
      unfold aB
      simp only [uI_at, true_and, and_true, false_and, and_false, true_implies, false_implies, implies_true, not_true_eq_false, not_false_eq_true, ne_eq, if_true, if_false, Bool.and_true, Bool.true_and, decide_true, decide_false, reduceIte, reduceCtorEq, Bool.and_self, Bool.and_eq_true, decide_eq_true_eq, and_self, true_or, or_true, false_or, or_false, Nat.zero_add, Nat.add_zero, eq_self, Nat.reduceEqDiff, Nat.reduceLeDiff, Nat.reduceLT, Nat.reduceAdd, Nat.reduceSub, Nat.reduceMul]
      exact hd1
    have hfin := L48_87 (J := J) (D := D) (b := b) (Q := Q) hL (KS_fr hK1 hf2) (by rw [hf2 _ _ (by decide)]; exact h01) (by rw [hf2 _ _ (by decide)]; exact h11) (by rw [hf2 _ _ (by decide)]; exact h21) hn hs hg hB2 hP2 hr2 hd2 (fun I' a1 a2 a3 => kk I' a1 a2 (fun o k hok => by rw [a3 o k hok, hf2 o k hok, hf1 o k hok]))
    by_cases hlt : s % c + 1 < c
    · have e3 : nI (s / c) * nI c + nI (s % c + 1) = nI (s / c * c + nR c (s % c)) := by
        rw [pk_mul, nI_add, nR, if_pos hlt]
      simp only [hR, if_true, i1_0, xSeq, i_push, i_load, i_iload, i_lload, i_dload, i_aload, i_istore, i_astore, i_lstore, i_dstore, i_iinc, i_ii, i_iiz, i_ll, i_llz, i_lli, i_li, i_i, i_l, i_i2l, i_l2i, i_dup, i_dup2, i_dup2w, i_dupx1, i_pop, i_pop2, i_goto, i_ifc, i_icmp, i_getI, i_getL, i_getR, i_putI, i_putZ, i_putL, i_putR, i_aldI, i_aldB, i_aldL, i_aldD, i_astI, i_astL, i_astD, i_alen, i_ret, i_iret, i_zret, i_lret, i_fret, i_dret, i_aret, i_invS0, i_invV0, i_m2, i_m1, i_ml, i_obj, lk, lkp, stf1, stf2, Value.category, rV, xTo, lv_args, xCk, xCat, xRc, xAk, hg_S, hg_I, hg_J, hg_D, hg_R, hs_I, hs_J, hs_D, hs_R, uI_at, uJ_at, uD_at, uR_at, List.take_succ_cons, List.take_zero, List.drop_succ_cons, List.drop_zero, List.reverse_cons, List.reverse_nil, List.nil_append, List.cons_append, List.map_cons, List.map_nil, List.sum_cons, List.sum_nil, List.length_cons, List.length_nil, Option.toList_some, Option.toList_none, true_and, and_true, false_and, and_false, true_implies, false_implies, implies_true, not_true_eq_false, not_false_eq_true, ne_eq, if_true, if_false, Bool.and_true, Bool.true_and, decide_true, decide_false, reduceIte, reduceCtorEq, Bool.and_self, Bool.and_eq_true, decide_eq_true_eq, and_self, true_or, or_true, false_or, or_false, Nat.zero_add, Nat.add_zero, eq_self, Nat.reduceEqDiff, Nat.reduceLeDiff, Nat.reduceLT, Nat.reduceAdd, Nat.reduceSub, Nat.reduceMul, h11, nI_1, nI_leP (show c < 2147483648 by omega) (show s % c + 1 < 2147483648 by omega), show (c ≤ s % c + 1) = False from eq_false (by omega), e48_64, B48_64, LC_out hL, e3, h49, nI_inP (show s < 64 by omega) (by decide), nI_ix (show s < 2147483648 by omega)]
      rw [← hI2]
      exact hfin
    · have e3 : nI (s / c) * nI c + 0 = nI (s / c * c + nR c (s % c)) := by
        rw [nR, if_neg hlt, pk_mul, Nat.add_zero, Int32.add_zero]
      simp only [hR, if_true, i1_0, xSeq, i_push, i_load, i_iload, i_lload, i_dload, i_aload, i_istore, i_astore, i_lstore, i_dstore, i_iinc, i_ii, i_iiz, i_ll, i_llz, i_lli, i_li, i_i, i_l, i_i2l, i_l2i, i_dup, i_dup2, i_dup2w, i_dupx1, i_pop, i_pop2, i_goto, i_ifc, i_icmp, i_getI, i_getL, i_getR, i_putI, i_putZ, i_putL, i_putR, i_aldI, i_aldB, i_aldL, i_aldD, i_astI, i_astL, i_astD, i_alen, i_ret, i_iret, i_zret, i_lret, i_fret, i_dret, i_aret, i_invS0, i_invV0, i_m2, i_m1, i_ml, i_obj, lk, lkp, stf1, stf2, Value.category, rV, xTo, lv_args, xCk, xCat, xRc, xAk, hg_S, hg_I, hg_J, hg_D, hg_R, hs_I, hs_J, hs_D, hs_R, uI_at, uJ_at, uD_at, uR_at, List.take_succ_cons, List.take_zero, List.drop_succ_cons, List.drop_zero, List.reverse_cons, List.reverse_nil, List.nil_append, List.cons_append, List.map_cons, List.map_nil, List.sum_cons, List.sum_nil, List.length_cons, List.length_nil, Option.toList_some, Option.toList_none, true_and, and_true, false_and, and_false, true_implies, false_implies, implies_true, not_true_eq_false, not_false_eq_true, ne_eq, if_true, if_false, Bool.and_true, Bool.true_and, decide_true, decide_false, reduceIte, reduceCtorEq, Bool.and_self, Bool.and_eq_true, decide_eq_true_eq, and_self, true_or, or_true, false_or, or_false, Nat.zero_add, Nat.add_zero, eq_self, Nat.reduceEqDiff, Nat.reduceLeDiff, Nat.reduceLT, Nat.reduceAdd, Nat.reduceSub, Nat.reduceMul, h11, nI_1, nI_leP (show c < 2147483648 by omega) (show s % c + 1 < 2147483648 by omega), show (c ≤ s % c + 1) = True from eq_true (by omega), e48_63, B48_63, e48_64, B48_64, LC_out hL, e3, h49, nI_inP (show s < 64 by omega) (by decide), nI_ix (show s < 2147483648 by omega)]
      rw [← hI2]
      exact hfin
  · have eR : oR c e s = [] := by rw [oR, if_neg hR]
    simp only [hR, if_false, xSeq, i_push, i_load, i_iload, i_lload, i_dload, i_aload, i_istore, i_astore, i_lstore, i_dstore, i_iinc, i_ii, i_iiz, i_ll, i_llz, i_lli, i_li, i_i, i_l, i_i2l, i_l2i, i_dup, i_dup2, i_dup2w, i_dupx1, i_pop, i_pop2, i_goto, i_ifc, i_icmp, i_getI, i_getL, i_getR, i_putI, i_putZ, i_putL, i_putR, i_aldI, i_aldB, i_aldL, i_aldD, i_astI, i_astL, i_astD, i_alen, i_ret, i_iret, i_zret, i_lret, i_fret, i_dret, i_aret, i_invS0, i_invV0, i_m2, i_m1, i_ml, i_obj, lk, lkp, stf1, stf2, Value.category, rV, xTo, lv_args, xCk, xCat, xRc, xAk, hg_S, hg_I, hg_J, hg_D, hg_R, hs_I, hs_J, hs_D, hs_R, uI_at, uJ_at, uD_at, uR_at, List.take_succ_cons, List.take_zero, List.drop_succ_cons, List.drop_zero, List.reverse_cons, List.reverse_nil, List.nil_append, List.cons_append, List.map_cons, List.map_nil, List.sum_cons, List.sum_nil, List.length_cons, List.length_nil, Option.toList_some, Option.toList_none, true_and, and_true, false_and, and_false, true_implies, false_implies, implies_true, not_true_eq_false, not_false_eq_true, ne_eq, if_true, if_false, Bool.and_true, Bool.true_and, decide_true, decide_false, reduceIte, reduceCtorEq, Bool.and_self, Bool.and_eq_true, decide_eq_true_eq, and_self, true_or, or_true, false_or, or_false, Nat.zero_add, Nat.add_zero, eq_self, Nat.reduceEqDiff, Nat.reduceLeDiff, Nat.reduceLT, Nat.reduceAdd, Nat.reduceSub, Nat.reduceMul, Bool.false_eq_true]
    exact L48_87 (J := J) (D := D) (b := b) (Q := Q) hL hK1 h01 h11 h21 hn hs hg (by rw [eR, List.append_nil]; exact hB1) hP1 (by rw [if_neg hR]; exact hr1) hd1 (fun I' a1 a2 a3 => kk I' a1 a2 (fun o k hok => by rw [a3 o k hok, hf1 o k hok]))
end
/-! ===== the lab's lattice is built ===== -/
section
/-- all sites up -/
def aU (n : Nat) : Nat := 2 ^ n - 1
theorem aU_lt (n : Nat) : aU n < 2 ^ n := by
  have := Nat.two_pow_pos n
  unfold aU
  omega
theorem aU_64 : (-1 : Int64) = lN (aU 64) := by decide
theorem q_1sub {n : Nat} (h : n < 64) : jLshl 1 (nI n) - 1 = lN (aU n) := by
  have h2 := Nat.two_pow_pos n
  rw [show (1 : Int64) = lN 1 from rfl, q_shl 1 h, Nat.one_mul, lN_sub h2]
  rfl
theorem rI_fr {I : xI} {p : Nat} {f : Nat → Int32} {o k : Nat} (h : o ≠ p) : rI I p f o k = I o k := by
  rw [rI_at, if_neg h]
variable {S : xS} {I : xI} {J : xJ} {D : xDb} {R : xR} {b : Nat × Nat} {Q : xQ} {n : Nat}
theorem L47_76 {su r c e : Nat} (hL : LC S R) (hn : n = r * c) (hg : gk n (bl r c e n) = true) {I0 : xI} (h00 : I0 102 0 = nI r) (h01 : I0 102 1 = nI c) (h02 : I0 102 2 = nI n) (hK0 : KS S I0 su r c e)
    (kk : ∀ I', HB I' n (bl r c e n) → PB I' r c e n → (∀ o k, ¬ bO o k → I' o k = I0 o k) → Q (.ok none) (S, I', J, D, R) b) :
    ∀ (j s : Nat) (I : xI), s + j = n → HB I n (bl r c e s) → PB I r c e s → (∀ o k, ¬ bO o k → I o k = I0 o k) → xRun xT 47 76 [(0, .ref 102), (1, .ref su), (2, .int (nI s))] [] (S, I, J, D, R) b Q
  | 0, s, I, hs, hB, hP, hf => by
    have e2 : s = n := by omega
    have h2 : I 102 2 = nI n := by rw [hf _ _ (by decide)]; exact h02
    have hn64 : n ≤ 64 := (gk_q hg).1.2.1
    subst e2
    rw [e47_76]
    simp only [B47_76, xSeq, i_push, i_load, i_iload, i_lload, i_dload, i_aload, i_istore, i_astore, i_lstore, i_dstore, i_iinc, i_ii, i_iiz, i_ll, i_llz, i_lli, i_li, i_i, i_l, i_i2l, i_l2i, i_dup, i_dup2, i_dup2w, i_dupx1, i_pop, i_pop2, i_goto, i_ifc, i_icmp, i_getI, i_getL, i_getR, i_putI, i_putZ, i_putL, i_putR, i_aldI, i_aldB, i_aldL, i_aldD, i_astI, i_astL, i_astD, i_alen, i_ret, i_iret, i_zret, i_lret, i_fret, i_dret, i_aret, i_invS0, i_invV0, i_m2, i_m1, i_ml, i_obj, lk, lkp, stf1, stf2, Value.category, rV, xTo, lv_args, xCk, xCat, xRc, xAk, hg_S, hg_I, hg_J, hg_D, hg_R, hs_I, hs_J, hs_D, hs_R, uI_at, uJ_at, uD_at, uR_at, List.take_succ_cons, List.take_zero, List.drop_succ_cons, List.drop_zero, List.reverse_cons, List.reverse_nil, List.nil_append, List.cons_append, List.map_cons, List.map_nil, List.sum_cons, List.sum_nil, List.length_cons, List.length_nil, Option.toList_some, Option.toList_none, true_and, and_true, false_and, and_false, true_implies, false_implies, implies_true, not_true_eq_false, not_false_eq_true, ne_eq, if_true, if_false, Bool.and_true, Bool.true_and, decide_true, decide_false, reduceIte, reduceCtorEq, Bool.and_self, Bool.and_eq_true, decide_eq_true_eq, and_self, true_or, or_true, false_or, or_false, Nat.zero_add, Nat.add_zero, eq_self, Nat.reduceEqDiff, Nat.reduceLeDiff, Nat.reduceLT, Nat.reduceAdd, Nat.reduceSub, Nat.reduceMul, LC_out hL, h2, nI_leP (show s < 2147483648 by omega) (show s < 2147483648 by omega), Nat.le_refl, e47_96, B47_96]
    exact kk I hB hP hf
  | j + 1, s, I, hs, hB, hP, hf => by
    have h2 : I 102 2 = nI n := by rw [hf _ _ (by decide)]; exact h02
    have hn64 : n ≤ 64 := (gk_q hg).1.2.1
    rw [e47_76]
    simp only [B47_76, xSeq, i_push, i_load, i_iload, i_lload, i_dload, i_aload, i_istore, i_astore, i_lstore, i_dstore, i_iinc, i_ii, i_iiz, i_ll, i_llz, i_lli, i_li, i_i, i_l, i_i2l, i_l2i, i_dup, i_dup2, i_dup2w, i_dupx1, i_pop, i_pop2, i_goto, i_ifc, i_icmp, i_getI, i_getL, i_getR, i_putI, i_putZ, i_putL, i_putR, i_aldI, i_aldB, i_aldL, i_aldD, i_astI, i_astL, i_astD, i_alen, i_ret, i_iret, i_zret, i_lret, i_fret, i_dret, i_aret, i_invS0, i_invV0, i_m2, i_m1, i_ml, i_obj, lk, lkp, stf1, stf2, Value.category, rV, xTo, lv_args, xCk, xCat, xRc, xAk, hg_S, hg_I, hg_J, hg_D, hg_R, hs_I, hs_J, hs_D, hs_R, uI_at, uJ_at, uD_at, uR_at, List.take_succ_cons, List.take_zero, List.drop_succ_cons, List.drop_zero, List.reverse_cons, List.reverse_nil, List.nil_append, List.cons_append, List.map_cons, List.map_nil, List.sum_cons, List.sum_nil, List.length_cons, List.length_nil, Option.toList_some, Option.toList_none, true_and, and_true, false_and, and_false, true_implies, false_implies, implies_true, not_true_eq_false, not_false_eq_true, ne_eq, if_true, if_false, Bool.and_true, Bool.true_and, decide_true, decide_false, reduceIte, reduceCtorEq, Bool.and_self, Bool.and_eq_true, decide_eq_true_eq, and_self, true_or, or_true, false_or, or_false, Nat.zero_add, Nat.add_zero, eq_self, Nat.reduceEqDiff, Nat.reduceLeDiff, Nat.reduceLT, Nat.reduceAdd, Nat.reduceSub, Nat.reduceMul, LC_out hL, h2, nI_leP (show n < 2147483648 by omega) (show s < 2147483648 by omega), show (n ≤ s) = False from eq_false (by omega)]
    refine L48 hL (KS_fr hK0 hf) (by rw [hf _ _ (by decide)]; exact h00) (by rw [hf _ _ (by decide)]; exact h01) h2 hn (by omega) hg hB hP (fun I' a1 a2 a3 => ?_)
    simp only [xSeq, i_push, i_load, i_iload, i_lload, i_dload, i_aload, i_istore, i_astore, i_lstore, i_dstore, i_iinc, i_ii, i_iiz, i_ll, i_llz, i_lli, i_li, i_i, i_l, i_i2l, i_l2i, i_dup, i_dup2, i_dup2w, i_dupx1, i_pop, i_pop2, i_goto, i_ifc, i_icmp, i_getI, i_getL, i_getR, i_putI, i_putZ, i_putL, i_putR, i_aldI, i_aldB, i_aldL, i_aldD, i_astI, i_astL, i_astD, i_alen, i_ret, i_iret, i_zret, i_lret, i_fret, i_dret, i_aret, i_invS0, i_invV0, i_m2, i_m1, i_ml, i_obj, lk, lkp, stf1, stf2, Value.category, rV, xTo, lv_args, xCk, xCat, xRc, xAk, hg_S, hg_I, hg_J, hg_D, hg_R, hs_I, hs_J, hs_D, hs_R, uI_at, uJ_at, uD_at, uR_at, List.take_succ_cons, List.take_zero, List.drop_succ_cons, List.drop_zero, List.reverse_cons, List.reverse_nil, List.nil_append, List.cons_append, List.map_cons, List.map_nil, List.sum_cons, List.sum_nil, List.length_cons, List.length_nil, Option.toList_some, Option.toList_none, true_and, and_true, false_and, and_false, true_implies, false_implies, implies_true, not_true_eq_false, not_false_eq_true, ne_eq, if_true, if_false, Bool.and_true, Bool.true_and, decide_true, decide_false, reduceIte, reduceCtorEq, Bool.and_self, Bool.and_eq_true, decide_eq_true_eq, and_self, true_or, or_true, false_or, or_false, Nat.zero_add, Nat.add_zero, eq_self, Nat.reduceEqDiff, Nat.reduceLeDiff, Nat.reduceLT, Nat.reduceAdd, Nat.reduceSub, Nat.reduceMul, nI_1]
    exact L47_76 hL hn hg h00 h01 h02 hK0 kk j (s + 1) I' (by omega) a1 a2 (fun o k hok => by rw [a3 o k hok, hf o k hok])
theorem L47 {su r c e : Nat} (hL : LC S R) (hK : KS S I su r c e) (hsu : su ≠ 102) (hn : n = r * c) (hg : gk n (bl r c e n) = true)
    (kk : ∀ I', HB I' n (bl r c e n) → PB I' r c e n → I' 102 0 = nI r → I' 102 1 = nI c → I' 102 2 = nI n → (∀ o k, ¬ bO o k → o ≠ 102 → I' o k = I o k) → Q (.ok none) (S, I', uJ J 102 4 (lN (aU n)), D, R) b) :
    xRun xT 47 0 [(0, .ref 102), (1, .ref su)] [] (S, I, J, D, R) b Q := by
  obtain ⟨k1, k2, k3, k4, k5⟩ := KS_bound hK
  have hn64 : n ≤ 64 := (gk_q hg).1.2.1
  obtain ⟨q1, q2, q3, q4, q5, q6, q7, q8, q9, q10⟩ := hK
  have eM : jMin (nI n) 64 = nI n := by
    unfold jMin
    rw [if_neg (by rw [show (64 : Int32) = nI 64 from rfl]; exact nI_nlt (by omega) (by omega))]
  have eP : nI r * nI c = nI n := by rw [pk_mul, hn]
  have e64 : (nI n = 64) = (n = 64) := by rw [show (64 : Int32) = nI 64 from rfl, nI_iff (by omega) (by decide)]
  obtain ⟨I1, hI1⟩ : ∃ I1, I1 = rI (uI (uI (uI (uI I 102 0 (nI r)) 102 1 (nI c)) 102 2 (nI n)) 102 3 0) 107 (fill (uI (uI (uI (uI I 102 0 (nI r)) 102 1 (nI c)) 102 2 (nI n)) 102 3 0 107) 0 64) := ⟨_, rfl⟩
  have hfr : ∀ o k, ¬ bO o k → o ≠ 102 → I1 o k = I o k := fun o k h1 h2 => by
    rw [hI1, rI_fr (fun h => h1 (by unfold bO; omega)), uI_at, if_neg (by omega), uI_at, if_neg (by omega), uI_at, if_neg (by omega), uI_at, if_neg (by omega)]
  have a0 : I1 102 0 = nI r := by rw [hI1]; simp only [rI_at, uI_at, true_and, and_true, false_and, and_false, true_implies, false_implies, implies_true, not_true_eq_false, not_false_eq_true, ne_eq, if_true, if_false, Bool.and_true, Bool.true_and, decide_true, decide_false, reduceIte, reduceCtorEq, Bool.and_self, Bool.and_eq_true, decide_eq_true_eq, and_self, true_or, or_true, false_or, or_false, Nat.zero_add, Nat.add_zero, eq_self, Nat.reduceEqDiff, Nat.reduceLeDiff, Nat.reduceLT, Nat.reduceAdd, Nat.reduceSub, Nat.reduceMul]
  have a1 : I1 102 1 = nI c := by rw [hI1]; simp only [rI_at, uI_at, true_and, and_true, false_and, and_false, true_implies, false_implies, implies_true, not_true_eq_false, not_false_eq_true, ne_eq, if_true, if_false, Bool.and_true, Bool.true_and, decide_true, decide_false, reduceIte, reduceCtorEq, Bool.and_self, Bool.and_eq_true, decide_eq_true_eq, and_self, true_or, or_true, false_or, or_false, Nat.zero_add, Nat.add_zero, eq_self, Nat.reduceEqDiff, Nat.reduceLeDiff, Nat.reduceLT, Nat.reduceAdd, Nat.reduceSub, Nat.reduceMul]
  have a2 : I1 102 2 = nI n := by rw [hI1]; simp only [rI_at, uI_at, true_and, and_true, false_and, and_false, true_implies, false_implies, implies_true, not_true_eq_false, not_false_eq_true, ne_eq, if_true, if_false, Bool.and_true, Bool.true_and, decide_true, decide_false, reduceIte, reduceCtorEq, Bool.and_self, Bool.and_eq_true, decide_eq_true_eq, and_self, true_or, or_true, false_or, or_false, Nat.zero_add, Nat.add_zero, eq_self, Nat.reduceEqDiff, Nat.reduceLeDiff, Nat.reduceLT, Nat.reduceAdd, Nat.reduceSub, Nat.reduceMul]
  have a3 : I1 102 3 = nI 0 := by rw [hI1]; simp only [rI_at, uI_at, true_and, and_true, false_and, and_false, true_implies, false_implies, implies_true, not_true_eq_false, not_false_eq_true, ne_eq, if_true, if_false, Bool.and_true, Bool.true_and, decide_true, decide_false, reduceIte, reduceCtorEq, Bool.and_self, Bool.and_eq_true, decide_eq_true_eq, and_self, true_or, or_true, false_or, or_false, Nat.zero_add, Nat.add_zero, eq_self, Nat.reduceEqDiff, Nat.reduceLeDiff, Nat.reduceLT, Nat.reduceAdd, Nat.reduceSub, Nat.reduceMul]; rfl
  have hK1 : KS S I1 su r c e := ⟨q1, by rw [hfr _ _ (q10 _) hsu]; exact q2, by rw [hfr _ _ (q10 _) hsu]; exact q3, by rw [hfr _ _ (q10 _) hsu]; exact q4, q5, q6, q7, q8, q9, q10⟩
  have hB1 : HB I1 n (bl r c e 0) := by
    refine ⟨a3, fun k hk => absurd hk (Nat.not_lt_zero k), fun k hk => absurd hk (Nat.not_lt_zero k), fun t ht => ?_, fun t i ht hi => absurd hi (Nat.not_lt_zero i)⟩
    rw [hI1, rI_at, if_pos rfl, fill_at, if_pos (by omega)]
    rfl
  have hfin : ∀ J, (∀ I', HB I' n (bl r c e n) → PB I' r c e n → I' 102 0 = nI r → I' 102 1 = nI c → I' 102 2 = nI n → (∀ o k, ¬ bO o k → o ≠ 102 → I' o k = I o k) → Q (.ok none) (S, I', J, D, R) b) → xRun xT 47 76 [(0, .ref 102), (1, .ref su), (2, .int 0)] [] (S, I1, J, D, R) b Q := fun J hk => by
    have h := L47_76 (J := J) (D := D) (b := b) (Q := Q) hL hn hg a0 a1 a2 hK1 (fun I' b1 b2 b3 => hk I' b1 b2 (by rw [b3 _ _ (by decide)]; exact a0) (by rw [b3 _ _ (by decide)]; exact a1) (by rw [b3 _ _ (by decide)]; exact a2) (fun o k h1 h2 => by rw [b3 o k h1, hfr o k h1 h2])) n 0 I1 (by omega) hB1 (fun t ht => absurd ht (Nat.not_lt_zero t)) (fun _ _ _ => rfl)
    rw [nI_0] at h
    exact h
  rw [e47_0]
  simp only [B47_0, xSeq, i_push, i_load, i_iload, i_lload, i_dload, i_aload, i_istore, i_astore, i_lstore, i_dstore, i_iinc, i_ii, i_iiz, i_ll, i_llz, i_lli, i_li, i_i, i_l, i_i2l, i_l2i, i_dup, i_dup2, i_dup2w, i_dupx1, i_pop, i_pop2, i_goto, i_ifc, i_icmp, i_getI, i_getL, i_getR, i_putI, i_putZ, i_putL, i_putR, i_aldI, i_aldB, i_aldL, i_aldD, i_astI, i_astL, i_astD, i_alen, i_ret, i_iret, i_zret, i_lret, i_fret, i_dret, i_aret, i_invS0, i_invV0, i_m2, i_m1, i_ml, i_obj, lk, lkp, stf1, stf2, Value.category, rV, xTo, lv_args, xCk, xCat, xRc, xAk, hg_S, hg_I, hg_J, hg_D, hg_R, hs_I, hs_J, hs_D, hs_R, uI_at, uJ_at, uD_at, uR_at, List.take_succ_cons, List.take_zero, List.drop_succ_cons, List.drop_zero, List.reverse_cons, List.reverse_nil, List.nil_append, List.cons_append, List.map_cons, List.map_nil, List.sum_cons, List.sum_nil, List.length_cons, List.length_nil, Option.toList_some, Option.toList_none, true_and, and_true, false_and, and_false, true_implies, false_implies, implies_true, not_true_eq_false, not_false_eq_true, ne_eq, if_true, if_false, Bool.and_true, Bool.true_and, decide_true, decide_false, reduceIte, reduceCtorEq, Bool.and_self, Bool.and_eq_true, decide_eq_true_eq, and_self, true_or, or_true, false_or, or_false, Nat.zero_add, Nat.add_zero, eq_self, Nat.reduceEqDiff, Nat.reduceLeDiff, Nat.reduceLT, Nat.reduceAdd, Nat.reduceSub, Nat.reduceMul, LC_out hL, q1, q2, q3, eP, eM, hsu]
  by_cases h64 : n = 64
  · have eT : (nI n = 64) = True := by rw [e64]; exact eq_true h64
    have eA : (-1 : Int64) = lN (aU n) := by rw [h64]; exact aU_64
    simp only [eT, true_and, and_true, false_and, and_false, true_implies, false_implies, implies_true, not_true_eq_false, not_false_eq_true, ne_eq, if_true, if_false, Bool.and_true, Bool.true_and, decide_true, decide_false, reduceIte, reduceCtorEq, Bool.and_self, Bool.and_eq_true, decide_eq_true_eq, and_self, true_or, or_true, false_or, or_false, Nat.zero_add, Nat.add_zero, eq_self, Nat.reduceEqDiff, Nat.reduceLeDiff, Nat.reduceLT, Nat.reduceAdd, Nat.reduceSub, Nat.reduceMul, e47_58, B47_58, xSeq, i_push, i_load, i_iload, i_lload, i_dload, i_aload, i_istore, i_astore, i_lstore, i_dstore, i_iinc, i_ii, i_iiz, i_ll, i_llz, i_lli, i_li, i_i, i_l, i_i2l, i_l2i, i_dup, i_dup2, i_dup2w, i_dupx1, i_pop, i_pop2, i_goto, i_ifc, i_icmp, i_getI, i_getL, i_getR, i_putI, i_putZ, i_putL, i_putR, i_aldI, i_aldB, i_aldL, i_aldD, i_astI, i_astL, i_astD, i_alen, i_ret, i_iret, i_zret, i_lret, i_fret, i_dret, i_aret, i_invS0, i_invV0, i_m2, i_m1, i_ml, i_obj, lk, lkp, stf1, stf2, Value.category, rV, xTo, lv_args, xCk, xCat, xRc, xAk, hg_S, hg_I, hg_J, hg_D, hg_R, hs_I, hs_J, hs_D, hs_R, uI_at, uJ_at, uD_at, uR_at, List.take_succ_cons, List.take_zero, List.drop_succ_cons, List.drop_zero, List.reverse_cons, List.reverse_nil, List.nil_append, List.cons_append, List.map_cons, List.map_nil, List.sum_cons, List.sum_nil, List.length_cons, List.length_nil, Option.toList_some, Option.toList_none, LC_out hL, Y6 (S := S) (R := R) (o := 107) (L := 64) (v := 0) (LC_out hL).2.2.2.2.2.2.2.2.2.2.2.2.2.2.2.2.2.2.2.1 (by decide)]
    rw [← hI1, eA]
    exact hfin _ kk
  · simp only [e64, h64, true_and, and_true, false_and, and_false, true_implies, false_implies, implies_true, not_true_eq_false, not_false_eq_true, ne_eq, if_true, if_false, Bool.and_true, Bool.true_and, decide_true, decide_false, reduceIte, reduceCtorEq, Bool.and_self, Bool.and_eq_true, decide_eq_true_eq, and_self, true_or, or_true, false_or, or_false, Nat.zero_add, Nat.add_zero, eq_self, Nat.reduceEqDiff, Nat.reduceLeDiff, Nat.reduceLT, Nat.reduceAdd, Nat.reduceSub, Nat.reduceMul, e47_50, B47_50, e47_58, B47_58, xSeq, i_push, i_load, i_iload, i_lload, i_dload, i_aload, i_istore, i_astore, i_lstore, i_dstore, i_iinc, i_ii, i_iiz, i_ll, i_llz, i_lli, i_li, i_i, i_l, i_i2l, i_l2i, i_dup, i_dup2, i_dup2w, i_dupx1, i_pop, i_pop2, i_goto, i_ifc, i_icmp, i_getI, i_getL, i_getR, i_putI, i_putZ, i_putL, i_putR, i_aldI, i_aldB, i_aldL, i_aldD, i_astI, i_astL, i_astD, i_alen, i_ret, i_iret, i_zret, i_lret, i_fret, i_dret, i_aret, i_invS0, i_invV0, i_m2, i_m1, i_ml, i_obj, lk, lkp, stf1, stf2, Value.category, rV, xTo, lv_args, xCk, xCat, xRc, xAk, hg_S, hg_I, hg_J, hg_D, hg_R, hs_I, hs_J, hs_D, hs_R, uI_at, uJ_at, uD_at, uR_at, List.take_succ_cons, List.take_zero, List.drop_succ_cons, List.drop_zero, List.reverse_cons, List.reverse_nil, List.nil_append, List.cons_append, List.map_cons, List.map_nil, List.sum_cons, List.sum_nil, List.length_cons, List.length_nil, Option.toList_some, Option.toList_none, LC_out hL, q_1sub (show n < 64 by omega), Y6 (S := S) (R := R) (o := 107) (L := 64) (v := 0) (LC_out hL).2.2.2.2.2.2.2.2.2.2.2.2.2.2.2.2.2.2.2.1 (by decide)]
    rw [← hI1]
    exact hfin _ kk
end
