/-! ===== cases: printed by 73.cases.py ===== -/
section
theorem C1039 : xCase 1039 := by
  intro xs S I J D R hP
  obtain ⟨⟨hL, hM⟩, ⟨hC, hD⟩, ⟨j1, j2, j3, j4, j5⟩, ⟨i1, i2, i3, i4⟩, s4, s5, s6, x6⟩ := FP_out hP
  obtain ⟨g1, g2, g3⟩ := g4
  have k1 : (65535 : Nat) < 2 ^ 64 := by decide
  have k2 : (65535 : Nat) < 2 ^ 16 := by decide
  have e1 := en_congr (F := I 110 6) (n := 16) (fi := fE B4) (se := sE B4) 65535 i3
  have e2 := en_congr (F := I 300 4) (n := 16) (fi := fE B4) (se := sE B4) 65535 i4
  rw [i1] at e1
  rw [i2] at e2
  rw [e375_1039]
  simp only [B375_1039, xSeq, i_push, i_load, i_iload, i_lload, i_dload, i_aload, i_istore, i_astore, i_lstore, i_dstore, i_iinc, i_ii, i_iiz, i_ll, i_llz, i_lli, i_li, i_i, i_l, i_i2l, i_l2i, i_dup, i_dup2, i_dup2w, i_dupx1, i_pop, i_pop2, i_goto, i_ifc, i_icmp, i_getI, i_getL, i_getR, i_putI, i_putZ, i_putL, i_putR, i_aldI, i_aldB, i_aldL, i_aldD, i_astI, i_astL, i_astD, i_alen, i_ret, i_iret, i_zret, i_lret, i_fret, i_dret, i_aret, i_invS0, i_invV0, i_m2, i_m1, i_ml, i_obj, lk, lkp, stf1, stf2, Value.category, rV, xTo, lv_args, xCk, xCat, xRc, xAk, hg_S, hg_I, hg_J, hg_D, hg_R, hs_I, hs_J, hs_D, hs_R, uI_at, uJ_at, uD_at, uR_at, List.take_succ_cons, List.take_zero, List.drop_succ_cons, List.drop_zero, List.reverse_cons, List.reverse_nil, List.nil_append, List.cons_append, List.map_cons, List.map_nil, List.sum_cons, List.sum_nil, List.length_cons, List.length_nil, Option.toList_some, Option.toList_none, true_and, and_true, false_and, and_false, true_implies, false_implies, implies_true, not_true_eq_false, not_false_eq_true, ne_eq, if_true, if_false, Bool.and_true, Bool.true_and, decide_true, decide_false, reduceIte, reduceCtorEq, Bool.and_self, Bool.and_eq_true, decide_eq_true_eq, and_self, true_or, or_true, false_or, or_false, Nat.zero_add, Nat.add_zero, eq_self, Nat.reduceEqDiff, Nat.reduceLeDiff, Nat.reduceLT, Nat.reduceAdd, Nat.reduceSub, Nat.reduceMul, LC_out hL, LM_out hM, R126 hL g1 hC j1 k1 k2, R254 hM g1 hD j2 k1, i1, i2, e1, e2]
  exact T3560 s6
theorem C1052 : xCase 1052 := by
  intro xs S I J D R hP
  obtain ⟨⟨hL, hM⟩, ⟨hC, hD⟩, ⟨j1, j2, j3, j4, j5⟩, ⟨i1, i2, i3, i4⟩, s4, s5, s6, x6⟩ := FP_out hP
  obtain ⟨g1, g2, g3⟩ := g4
  have k1 : (65535 : Nat) < 2 ^ 64 := by decide
  have k2 : (65535 : Nat) < 2 ^ 16 := by decide
  rw [e375_1052]
  simp only [B375_1052, xSeq, i_push, i_load, i_iload, i_lload, i_dload, i_aload, i_istore, i_astore, i_lstore, i_dstore, i_iinc, i_ii, i_iiz, i_ll, i_llz, i_lli, i_li, i_i, i_l, i_i2l, i_l2i, i_dup, i_dup2, i_dup2w, i_dupx1, i_pop, i_pop2, i_goto, i_ifc, i_icmp, i_getI, i_getL, i_getR, i_putI, i_putZ, i_putL, i_putR, i_aldI, i_aldB, i_aldL, i_aldD, i_astI, i_astL, i_astD, i_alen, i_ret, i_iret, i_zret, i_lret, i_fret, i_dret, i_aret, i_invS0, i_invV0, i_m2, i_m1, i_ml, i_obj, lk, lkp, stf1, stf2, Value.category, rV, xTo, lv_args, xCk, xCat, xRc, xAk, hg_S, hg_I, hg_J, hg_D, hg_R, hs_I, hs_J, hs_D, hs_R, uI_at, uJ_at, uD_at, uR_at, List.take_succ_cons, List.take_zero, List.drop_succ_cons, List.drop_zero, List.reverse_cons, List.reverse_nil, List.nil_append, List.cons_append, List.map_cons, List.map_nil, List.sum_cons, List.sum_nil, List.length_cons, List.length_nil, Option.toList_some, Option.toList_none, true_and, and_true, false_and, and_false, true_implies, false_implies, implies_true, not_true_eq_false, not_false_eq_true, ne_eq, if_true, if_false, Bool.and_true, Bool.true_and, decide_true, decide_false, reduceIte, reduceCtorEq, Bool.and_self, Bool.and_eq_true, decide_eq_true_eq, and_self, true_or, or_true, false_or, or_false, Nat.zero_add, Nat.add_zero, eq_self, Nat.reduceEqDiff, Nat.reduceLeDiff, Nat.reduceLT, Nat.reduceAdd, Nat.reduceSub, Nat.reduceMul, LC_out hL, LM_out hM, R127 (n := 16) hL hC.1 (by decide) j1 k2, R255 (n := 16) hM hD.1 (by decide) j2 k1]
  exact T3560 s6
theorem C427 : xCase 427 := by
  intro xs S I J D R hP
  obtain ⟨⟨hL, hM⟩, ⟨hC, hD⟩, ⟨j1, j2, j3, j4, j5⟩, ⟨i1, i2, i3, i4⟩, s4, s5, s6, x6⟩ := FP_out hP
  obtain ⟨g1, g2, g3⟩ := g4
  have k1 : (65535 : Nat) < 2 ^ 64 := by decide
  have k2 : (65535 : Nat) < 2 ^ 16 := by decide
  have h2 : I 100 2 = 0 := hP.1.2.2.2.2.2.2.2.2.2.2.2.2.1.2.1
  have h3 : I 200 22 = 0 := hP.2.1.2.2.2.2.2.2.2.2.2.2.1
  rw [e375_427]
  simp only [B375_427, xSeq, i_push, i_load, i_iload, i_lload, i_dload, i_aload, i_istore, i_astore, i_lstore, i_dstore, i_iinc, i_ii, i_iiz, i_ll, i_llz, i_lli, i_li, i_i, i_l, i_i2l, i_l2i, i_dup, i_dup2, i_dup2w, i_dupx1, i_pop, i_pop2, i_goto, i_ifc, i_icmp, i_getI, i_getL, i_getR, i_putI, i_putZ, i_putL, i_putR, i_aldI, i_aldB, i_aldL, i_aldD, i_astI, i_astL, i_astD, i_alen, i_ret, i_iret, i_zret, i_lret, i_fret, i_dret, i_aret, i_invS0, i_invV0, i_m2, i_m1, i_ml, i_obj, lk, lkp, stf1, stf2, Value.category, rV, xTo, lv_args, xCk, xCat, xRc, xAk, hg_S, hg_I, hg_J, hg_D, hg_R, hs_I, hs_J, hs_D, hs_R, uI_at, uJ_at, uD_at, uR_at, List.take_succ_cons, List.take_zero, List.drop_succ_cons, List.drop_zero, List.reverse_cons, List.reverse_nil, List.nil_append, List.cons_append, List.map_cons, List.map_nil, List.sum_cons, List.sum_nil, List.length_cons, List.length_nil, Option.toList_some, Option.toList_none, true_and, and_true, false_and, and_false, true_implies, false_implies, implies_true, not_true_eq_false, not_false_eq_true, ne_eq, if_true, if_false, Bool.and_true, Bool.true_and, decide_true, decide_false, reduceIte, reduceCtorEq, Bool.and_self, Bool.and_eq_true, decide_eq_true_eq, and_self, true_or, or_true, false_or, or_false, Nat.zero_add, Nat.add_zero, eq_self, Nat.reduceEqDiff, Nat.reduceLeDiff, Nat.reduceLT, Nat.reduceAdd, Nat.reduceSub, Nat.reduceMul, LC_out hL, LM_out hM, e122_0, B122_0, e231_0, B231_0, h2, h3]
  exact T3560 s6
theorem C440 : xCase 440 := by
  intro xs S I J D R hP
  obtain ⟨⟨hL, hM⟩, ⟨hC, hD⟩, ⟨j1, j2, j3, j4, j5⟩, ⟨i1, i2, i3, i4⟩, s4, s5, s6, x6⟩ := FP_out hP
  obtain ⟨g1, g2, g3⟩ := g4
  have k1 : (65535 : Nat) < 2 ^ 64 := by decide
  have k2 : (65535 : Nat) < 2 ^ 16 := by decide
  have h2 : I 100 3 = -1 := hP.1.2.2.2.2.2.2.2.2.2.2.2.2.1.2.2.1
  have h3 : I 200 23 = -1 := hP.2.1.2.2.2.2.2.2.2.2.2.2.2.1
  rw [e375_440]
  simp only [B375_440, xSeq, i_push, i_load, i_iload, i_lload, i_dload, i_aload, i_istore, i_astore, i_lstore, i_dstore, i_iinc, i_ii, i_iiz, i_ll, i_llz, i_lli, i_li, i_i, i_l, i_i2l, i_l2i, i_dup, i_dup2, i_dup2w, i_dupx1, i_pop, i_pop2, i_goto, i_ifc, i_icmp, i_getI, i_getL, i_getR, i_putI, i_putZ, i_putL, i_putR, i_aldI, i_aldB, i_aldL, i_aldD, i_astI, i_astL, i_astD, i_alen, i_ret, i_iret, i_zret, i_lret, i_fret, i_dret, i_aret, i_invS0, i_invV0, i_m2, i_m1, i_ml, i_obj, lk, lkp, stf1, stf2, Value.category, rV, xTo, lv_args, xCk, xCat, xRc, xAk, hg_S, hg_I, hg_J, hg_D, hg_R, hs_I, hs_J, hs_D, hs_R, uI_at, uJ_at, uD_at, uR_at, List.take_succ_cons, List.take_zero, List.drop_succ_cons, List.drop_zero, List.reverse_cons, List.reverse_nil, List.nil_append, List.cons_append, List.map_cons, List.map_nil, List.sum_cons, List.sum_nil, List.length_cons, List.length_nil, Option.toList_some, Option.toList_none, true_and, and_true, false_and, and_false, true_implies, false_implies, implies_true, not_true_eq_false, not_false_eq_true, ne_eq, if_true, if_false, Bool.and_true, Bool.true_and, decide_true, decide_false, reduceIte, reduceCtorEq, Bool.and_self, Bool.and_eq_true, decide_eq_true_eq, and_self, true_or, or_true, false_or, or_false, Nat.zero_add, Nat.add_zero, eq_self, Nat.reduceEqDiff, Nat.reduceLeDiff, Nat.reduceLT, Nat.reduceAdd, Nat.reduceSub, Nat.reduceMul, LC_out hL, LM_out hM, e123_0, B123_0, e232_0, B232_0, h2, h3]
  exact T3560 s6
theorem C881 : xCase 881 := by
  intro xs S I J D R hP
  obtain ⟨⟨hL, hM⟩, ⟨hC, hD⟩, ⟨j1, j2, j3, j4, j5⟩, ⟨i1, i2, i3, i4⟩, s4, s5, s6, x6⟩ := FP_out hP
  obtain ⟨g1, g2, g3⟩ := g4
  have k1 : (65535 : Nat) < 2 ^ 64 := by decide
  have k2 : (65535 : Nat) < 2 ^ 16 := by decide
  rw [e375_881]
  simp only [B375_881, xSeq, i_push, i_load, i_iload, i_lload, i_dload, i_aload, i_istore, i_astore, i_lstore, i_dstore, i_iinc, i_ii, i_iiz, i_ll, i_llz, i_lli, i_li, i_i, i_l, i_i2l, i_l2i, i_dup, i_dup2, i_dup2w, i_dupx1, i_pop, i_pop2, i_goto, i_ifc, i_icmp, i_getI, i_getL, i_getR, i_putI, i_putZ, i_putL, i_putR, i_aldI, i_aldB, i_aldL, i_aldD, i_astI, i_astL, i_astD, i_alen, i_ret, i_iret, i_zret, i_lret, i_fret, i_dret, i_aret, i_invS0, i_invV0, i_m2, i_m1, i_ml, i_obj, lk, lkp, stf1, stf2, Value.category, rV, xTo, lv_args, xCk, xCat, xRc, xAk, hg_S, hg_I, hg_J, hg_D, hg_R, hs_I, hs_J, hs_D, hs_R, uI_at, uJ_at, uD_at, uR_at, List.take_succ_cons, List.take_zero, List.drop_succ_cons, List.drop_zero, List.reverse_cons, List.reverse_nil, List.nil_append, List.cons_append, List.map_cons, List.map_nil, List.sum_cons, List.sum_nil, List.length_cons, List.length_nil, Option.toList_some, Option.toList_none, true_and, and_true, false_and, and_false, true_implies, false_implies, implies_true, not_true_eq_false, not_false_eq_true, ne_eq, if_true, if_false, Bool.and_true, Bool.true_and, decide_true, decide_false, reduceIte, reduceCtorEq, Bool.and_self, Bool.and_eq_true, decide_eq_true_eq, and_self, true_or, or_true, false_or, or_false, Nat.zero_add, Nat.add_zero, eq_self, Nat.reduceEqDiff, Nat.reduceLeDiff, Nat.reduceLT, Nat.reduceAdd, Nat.reduceSub, Nat.reduceMul, LC_out hL, LM_out hM, e124_0, B124_0, e247_0, B247_0, j1, j2, lg_self]
  exact T3560 s6
theorem C1121 : xCase 1121 := by
  intro xs S I J D R hP
  obtain ⟨⟨hL, hM⟩, ⟨hC, hD⟩, ⟨j1, j2, j3, j4, j5⟩, ⟨i1, i2, i3, i4⟩, s4, s5, s6, x6⟩ := FP_out hP
  obtain ⟨g1, g2, g3⟩ := g4
  have k1 : (65535 : Nat) < 2 ^ 64 := by decide
  have k2 : (65535 : Nat) < 2 ^ 16 := by decide
  have e1 : ct (fun k => decide (pr (I 111 k) (Nat.testBit 65535 (fE B4 k)) (Nat.testBit 65535 (sE B4 k)) < 0)) 32 = ct (fun k => decide (pr (I 300 (16 + k)) (Nat.testBit 65535 (fE B4 k)) (Nat.testBit 65535 (sE B4 k)) < 0)) 32 := ct_congr (fun k hk => by rw [i3 k hk, i4 k hk])
  rw [e375_1121]
  simp only [B375_1121, xSeq, i_push, i_load, i_iload, i_lload, i_dload, i_aload, i_istore, i_astore, i_lstore, i_dstore, i_iinc, i_ii, i_iiz, i_ll, i_llz, i_lli, i_li, i_i, i_l, i_i2l, i_l2i, i_dup, i_dup2, i_dup2w, i_dupx1, i_pop, i_pop2, i_goto, i_ifc, i_icmp, i_getI, i_getL, i_getR, i_putI, i_putZ, i_putL, i_putR, i_aldI, i_aldB, i_aldL, i_aldD, i_astI, i_astL, i_astD, i_alen, i_ret, i_iret, i_zret, i_lret, i_fret, i_dret, i_aret, i_invS0, i_invV0, i_m2, i_m1, i_ml, i_obj, lk, lkp, stf1, stf2, Value.category, rV, xTo, lv_args, xCk, xCat, xRc, xAk, hg_S, hg_I, hg_J, hg_D, hg_R, hs_I, hs_J, hs_D, hs_R, uI_at, uJ_at, uD_at, uR_at, List.take_succ_cons, List.take_zero, List.drop_succ_cons, List.drop_zero, List.reverse_cons, List.reverse_nil, List.nil_append, List.cons_append, List.map_cons, List.map_nil, List.sum_cons, List.sum_nil, List.length_cons, List.length_nil, Option.toList_some, Option.toList_none, true_and, and_true, false_and, and_false, true_implies, false_implies, implies_true, not_true_eq_false, not_false_eq_true, ne_eq, if_true, if_false, Bool.and_true, Bool.true_and, decide_true, decide_false, reduceIte, reduceCtorEq, Bool.and_self, Bool.and_eq_true, decide_eq_true_eq, and_self, true_or, or_true, false_or, or_false, Nat.zero_add, Nat.add_zero, eq_self, Nat.reduceEqDiff, Nat.reduceLeDiff, Nat.reduceLT, Nat.reduceAdd, Nat.reduceSub, Nat.reduceMul, LC_out hL, LM_out hM, R128 hL g1 hC k1 j1, R258 hM g1 hD k1 j2, e1]
  exact T3560 s6
theorem C1134 : xCase 1134 := by
  intro xs S I J D R hP
  obtain ⟨⟨hL, hM⟩, ⟨hC, hD⟩, ⟨j1, j2, j3, j4, j5⟩, ⟨i1, i2, i3, i4⟩, s4, s5, s6, x6⟩ := FP_out hP
  obtain ⟨g1, g2, g3⟩ := g4
  have k1 : (65535 : Nat) < 2 ^ 64 := by decide
  have k2 : (65535 : Nat) < 2 ^ 16 := by decide
  have e1 : ct (fun k => decide (0 < dl (I 110 6) (I 111) (fE B4) (sE B4) (dE B4) (bE B4) 65535 k)) 16 = ct (fun k => decide (0 < dl (I 300 4) (fun k => I 300 (16 + k)) (fE B4) (sE B4) (dE B4) (bE B4) 65535 k)) 16 := ct_congr (fun k hk => by rw [i1, i2, dl_congr (F := 0) (st := I 111) (st' := fun k => I 300 (16 + k)) g1 65535 hk (fun k hk => by rw [i3 k hk, i4 k hk])])
  rw [e375_1134]
  simp only [B375_1134, xSeq, i_push, i_load, i_iload, i_lload, i_dload, i_aload, i_istore, i_astore, i_lstore, i_dstore, i_iinc, i_ii, i_iiz, i_ll, i_llz, i_lli, i_li, i_i, i_l, i_i2l, i_l2i, i_dup, i_dup2, i_dup2w, i_dupx1, i_pop, i_pop2, i_goto, i_ifc, i_icmp, i_getI, i_getL, i_getR, i_putI, i_putZ, i_putL, i_putR, i_aldI, i_aldB, i_aldL, i_aldD, i_astI, i_astL, i_astD, i_alen, i_ret, i_iret, i_zret, i_lret, i_fret, i_dret, i_aret, i_invS0, i_invV0, i_m2, i_m1, i_ml, i_obj, lk, lkp, stf1, stf2, Value.category, rV, xTo, lv_args, xCk, xCat, xRc, xAk, hg_S, hg_I, hg_J, hg_D, hg_R, hs_I, hs_J, hs_D, hs_R, uI_at, uJ_at, uD_at, uR_at, List.take_succ_cons, List.take_zero, List.drop_succ_cons, List.drop_zero, List.reverse_cons, List.reverse_nil, List.nil_append, List.cons_append, List.map_cons, List.map_nil, List.sum_cons, List.sum_nil, List.length_cons, List.length_nil, Option.toList_some, Option.toList_none, true_and, and_true, false_and, and_false, true_implies, false_implies, implies_true, not_true_eq_false, not_false_eq_true, ne_eq, if_true, if_false, Bool.and_true, Bool.true_and, decide_true, decide_false, reduceIte, reduceCtorEq, Bool.and_self, Bool.and_eq_true, decide_eq_true_eq, and_self, true_or, or_true, false_or, or_false, Nat.zero_add, Nat.add_zero, eq_self, Nat.reduceEqDiff, Nat.reduceLeDiff, Nat.reduceLT, Nat.reduceAdd, Nat.reduceSub, Nat.reduceMul, LC_out hL, LM_out hM, R129 hL g1 hC k1 j1, R259 hM g1 hD k1 j2, e1]
  exact T3560 s6
theorem C2970 : xCase 2970 := by
  intro xs S I J D R hP
  obtain ⟨⟨hL, hM⟩, ⟨hC, hD⟩, ⟨j1, j2, j3, j4, j5⟩, ⟨i1, i2, i3, i4⟩, s4, s5, s6, x6⟩ := FP_out hP
  obtain ⟨g1, g2, g3⟩ := g4
  have k1 : (65535 : Nat) < 2 ^ 64 := by decide
  have k2 : (65535 : Nat) < 2 ^ 16 := by decide
  have e1 : ct (fun k => decide (dl (I 110 6) (I 111) (fE B4) (sE B4) (dE B4) (bE B4) 65535 k = 0)) 16 = ct (fun k => decide (dl (I 300 4) (fun k => I 300 (16 + k)) (fE B4) (sE B4) (dE B4) (bE B4) 65535 k = 0)) 16 := ct_congr (fun k hk => by rw [i1, i2, dl_congr (F := 0) (st := I 111) (st' := fun k => I 300 (16 + k)) g1 65535 hk (fun k hk => by rw [i3 k hk, i4 k hk])])
  rw [e375_2970]
  simp only [B375_2970, xSeq, i_push, i_load, i_iload, i_lload, i_dload, i_aload, i_istore, i_astore, i_lstore, i_dstore, i_iinc, i_ii, i_iiz, i_ll, i_llz, i_lli, i_li, i_i, i_l, i_i2l, i_l2i, i_dup, i_dup2, i_dup2w, i_dupx1, i_pop, i_pop2, i_goto, i_ifc, i_icmp, i_getI, i_getL, i_getR, i_putI, i_putZ, i_putL, i_putR, i_aldI, i_aldB, i_aldL, i_aldD, i_astI, i_astL, i_astD, i_alen, i_ret, i_iret, i_zret, i_lret, i_fret, i_dret, i_aret, i_invS0, i_invV0, i_m2, i_m1, i_ml, i_obj, lk, lkp, stf1, stf2, Value.category, rV, xTo, lv_args, xCk, xCat, xRc, xAk, hg_S, hg_I, hg_J, hg_D, hg_R, hs_I, hs_J, hs_D, hs_R, uI_at, uJ_at, uD_at, uR_at, List.take_succ_cons, List.take_zero, List.drop_succ_cons, List.drop_zero, List.reverse_cons, List.reverse_nil, List.nil_append, List.cons_append, List.map_cons, List.map_nil, List.sum_cons, List.sum_nil, List.length_cons, List.length_nil, Option.toList_some, Option.toList_none, true_and, and_true, false_and, and_false, true_implies, false_implies, implies_true, not_true_eq_false, not_false_eq_true, ne_eq, if_true, if_false, Bool.and_true, Bool.true_and, decide_true, decide_false, reduceIte, reduceCtorEq, Bool.and_self, Bool.and_eq_true, decide_eq_true_eq, and_self, true_or, or_true, false_or, or_false, Nat.zero_add, Nat.add_zero, eq_self, Nat.reduceEqDiff, Nat.reduceLeDiff, Nat.reduceLT, Nat.reduceAdd, Nat.reduceSub, Nat.reduceMul, LC_out hL, LM_out hM, R130 hL g1 hC k1 j1, R260 hM g1 hD k1 j2, e1]
  exact T3560 s6
theorem C1719 : xCase 1719 := by
  intro xs S I J D R hP
  obtain ⟨⟨hL, hM⟩, ⟨hC, hD⟩, ⟨j1, j2, j3, j4, j5⟩, ⟨i1, i2, i3, i4⟩, s4, s5, s6, x6⟩ := FP_out hP
  obtain ⟨g1, g2, g3⟩ := g4
  have k1 : (65535 : Nat) < 2 ^ 64 := by decide
  have k2 : (65535 : Nat) < 2 ^ 16 := by decide
  have h2 : I 112 0 = 0 := hP.1.2.2.2.2.2.2.2.2.2.2.1.1
  have h3 : I 300 9 = 0 := hP.2.1.2.2.1.2.2.2.2.2.2.2.2.2.1
  rw [e375_1719]
  simp only [B375_1719, xSeq, i_push, i_load, i_iload, i_lload, i_dload, i_aload, i_istore, i_astore, i_lstore, i_dstore, i_iinc, i_ii, i_iiz, i_ll, i_llz, i_lli, i_li, i_i, i_l, i_i2l, i_l2i, i_dup, i_dup2, i_dup2w, i_dupx1, i_pop, i_pop2, i_goto, i_ifc, i_icmp, i_getI, i_getL, i_getR, i_putI, i_putZ, i_putL, i_putR, i_aldI, i_aldB, i_aldL, i_aldD, i_astI, i_astL, i_astD, i_alen, i_ret, i_iret, i_zret, i_lret, i_fret, i_dret, i_aret, i_invS0, i_invV0, i_m2, i_m1, i_ml, i_obj, lk, lkp, stf1, stf2, Value.category, rV, xTo, lv_args, xCk, xCat, xRc, xAk, hg_S, hg_I, hg_J, hg_D, hg_R, hs_I, hs_J, hs_D, hs_R, uI_at, uJ_at, uD_at, uR_at, List.take_succ_cons, List.take_zero, List.drop_succ_cons, List.drop_zero, List.reverse_cons, List.reverse_nil, List.nil_append, List.cons_append, List.map_cons, List.map_nil, List.sum_cons, List.sum_nil, List.length_cons, List.length_nil, Option.toList_some, Option.toList_none, true_and, and_true, false_and, and_false, true_implies, false_implies, implies_true, not_true_eq_false, not_false_eq_true, ne_eq, if_true, if_false, Bool.and_true, Bool.true_and, decide_true, decide_false, reduceIte, reduceCtorEq, Bool.and_self, Bool.and_eq_true, decide_eq_true_eq, and_self, true_or, or_true, false_or, or_false, Nat.zero_add, Nat.add_zero, eq_self, Nat.reduceEqDiff, Nat.reduceLeDiff, Nat.reduceLT, Nat.reduceAdd, Nat.reduceSub, Nat.reduceMul, LC_out hL, LM_out hM, e142_0, B142_0, e299_0, B299_0, h2, h3, xi144_0, ix_0, xi144_1, ix_1, xi144_2, ix_2, xi144_3, ix_3, xi144_4, ix_4, xi144_5, ix_5, xi144_6, ix_6, xi144_7, ix_7, xi144_8, ix_8, xi144_9, ix_9, xi144_10, ix_10]
  exact T3560 s6
end
