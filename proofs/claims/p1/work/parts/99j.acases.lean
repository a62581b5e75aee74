/-! ===== appendInput: printed by 99j.acases.py ===== -/
section
theorem C316 : xCase 316 := by
  intro xs S I J D R hP
  obtain ⟨⟨hL, hM⟩, ⟨hC, hD⟩, ⟨j1, j2, j3, j4, j5⟩, ⟨i1, i2, i3, i4⟩, s4, s5, s6, x6⟩ := FP_out hP
  obtain ⟨g1, g2, g3⟩ := g4
  have k1 : (65535 : Nat) < 2 ^ 64 := by decide
  have k2 : (65535 : Nat) < 2 ^ 16 := by decide
  have h1 : I 100 1 = nI 0 := hP.1.2.2.2.2.2.2.2.2.2.2.2.2.1.1
  have h2 : I 200 21 = nI 0 := hP.2.1.2.2.2.2.2.2.2.2.2.1
  have x6' : ∀ j, (pWs I 0 (xs 1) (xs 2) (xs 3) (xs 4) (xs 5)) 900600 j = xs j := x6
  have h3 : (pWs I 0 (xs 1) (xs 2) (xs 3) (xs 4) (xs 5)) 200 21 = nI 0 := h2
  have e1 := fun (b : Nat × Nat) (Q : xQ) => R118 (J := J) (D := D) (b := b) (Q := Q) hL h1 (by decide) (v := xs 1) (w := xs 2) (x := xs 3) (y := xs 4) (z := xs 5)
  have e2 := fun (b : Nat × Nat) (Q : xQ) => R202 (J := J) (D := D) (b := b) (Q := Q) hM h3 (by decide) (v := xs 1) (w := xs 2) (x := xs 3) (y := xs 4) (z := xs 5)
  rw [e375_316]
  simp only [B375_316, xSeq, i_push, i_load, i_iload, i_lload, i_dload, i_aload, i_istore, i_astore, i_lstore, i_dstore, i_iinc, i_ii, i_iiz, i_ll, i_llz, i_lli, i_li, i_i, i_l, i_i2l, i_l2i, i_dup, i_dup2, i_dup2w, i_dupx1, i_pop, i_pop2, i_goto, i_ifc, i_icmp, i_getI, i_getL, i_getR, i_putI, i_putZ, i_putL, i_putR, i_aldI, i_aldB, i_aldL, i_aldD, i_astI, i_astL, i_astD, i_alen, i_ret, i_iret, i_zret, i_lret, i_fret, i_dret, i_aret, i_invS0, i_invV0, i_m2, i_m1, i_ml, i_obj, lk, lkp, stf1, stf2, Value.category, rV, xTo, lv_args, xCk, xCat, xRc, xAk, hg_S, hg_I, hg_J, hg_D, hg_R, hs_I, hs_J, hs_D, hs_R, uI_at, uJ_at, uD_at, uR_at, List.take_succ_cons, List.take_zero, List.drop_succ_cons, List.drop_zero, List.reverse_cons, List.reverse_nil, List.nil_append, List.cons_append, List.map_cons, List.map_nil, List.sum_cons, List.sum_nil, List.length_cons, List.length_nil, Option.toList_some, Option.toList_none, true_and, and_true, false_and, and_false, true_implies, false_implies, implies_true, not_true_eq_false, not_false_eq_true, ne_eq, if_true, if_false, Bool.and_true, Bool.true_and, decide_true, decide_false, reduceIte, reduceCtorEq, Bool.and_self, Bool.and_eq_true, decide_eq_true_eq, and_self, true_or, or_true, false_or, or_false, Nat.zero_add, Nat.add_zero, eq_self, Nat.reduceEqDiff, Nat.reduceLeDiff, Nat.reduceLT, Nat.reduceAdd, Nat.reduceSub, Nat.reduceMul, LC_out hL, LM_out hM, s6, x6, xi6_1, xi6_2, xi6_3, xi6_4, xi6_5, xk6_1, xk6_2, xk6_3, xk6_4, xk6_5, x6', e1, e2]
  exact T3560 s6
end
