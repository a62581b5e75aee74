/-! ===== the model: attempts; both: sweeps and steps ===== -/
section
variable {S : xS} {I : xI} {J : xJ} {D : xDb} {R : xR} {b : Nat × Nat} {Q : xQ} {n m : Nat} {fi se dg : Nat → Nat} {sb : Nat → Nat → Nat}
def mI (I : xI) (z : xG) : xI := uI (uI I 300 6 z.2.2.1) 300 7 z.2.2.2
def mJ (J : xJ) (z : xG) : xJ := uJ (uJ J 200 3 (lN z.1)) 200 4 (lN z.2.1)
theorem mI_at (I : xI) (z : xG) (o k : Nat) : mI I z o k = if o = 300 ∧ k = 7 then z.2.2.2 else if o = 300 ∧ k = 6 then z.2.2.1 else I o k := rfl
theorem mJ_at (J : xJ) (z : xG) (o k : Nat) : mJ J z o k = if o = 200 ∧ k = 4 then lN z.2.1 else if o = 200 ∧ k = 3 then lN z.1 else J o k := rfl
theorem mJ_s (J : xJ) (z : xG) : mJ J z 200 3 = lN z.1 := rfl
theorem mJ_g (J : xJ) (z : xG) : mJ J z 200 4 = lN z.2.1 := rfl
theorem mI_6 (I : xI) (z : xG) (v : Int32) : uI (mI I z) 300 6 v = mI I (z.1, z.2.1, v, z.2.2.2) := by
  funext o k
  simp only [uI_at, mI_at]
  by_cases h : o = 300 ∧ k = 6
  · rw [if_pos h, if_neg (by omega), if_pos h]
  · rw [if_neg h, if_neg h, if_neg h]
theorem mI_7 (I : xI) (z : xG) (v : Int32) : uI (mI I z) 300 7 v = mI I (z.1, z.2.1, z.2.2.1, v) := by
  funext o k
  simp only [uI_at, mI_at]
  by_cases h : o = 300 ∧ k = 7
  · rw [if_pos h, if_pos h]
  · rw [if_neg h, if_neg h, if_neg h]
theorem mJ_4 (J : xJ) (z : xG) (g : Nat) : uJ (mJ J z) 200 4 (lN g) = mJ J (z.1, g, z.2.2.1, z.2.2.2) := by
  funext o k
  simp only [uJ_at, mJ_at]
  by_cases h : o = 200 ∧ k = 4
  · rw [if_pos h, if_pos h]
  · rw [if_neg h, if_neg h, if_neg h]
theorem mJ_3 (J : xJ) (z : xG) (s : Nat) : uJ (mJ J z) 200 3 (lN s) = mJ J (s, z.2.1, z.2.2.1, z.2.2.2) := by
  funext o k
  simp only [uJ_at, mJ_at]
  by_cases h : o = 200 ∧ k = 3
  · rw [if_pos h, if_neg (by omega), if_pos h]
  · rw [if_neg h, if_neg h, if_neg h]
theorem mI_CM {I : xI} {z : xG} (h : CM I n m fi se dg sb) : CM (mI I z) n m fi se dg sb := by
  obtain ⟨c1, c2, c3, c4, c5, c6⟩ := h
  exact ⟨c1, c2, c3, c4, c5, c6⟩
theorem R271 (hL : LM S R) (hG : GR n m fi se dg sb) (hC : CM I n m fi se dg sb) {a bb : Nat} (hA : I 300 2 = nI a) (hB : I 300 3 = nI bb) (ha : a < 2147483648) (h0 : 0 < bb) (hb : bb < 2147483648) (hr : I 300 5 = 0 ∨ I 300 5 = 1 ∨ I 300 5 = 2) {z : xG} (hs : z.1 < 2 ^ 64) (hg : z.2.1 < 2147483648) {t : Nat} (ht : t < n) :
    xRun xT 271 0 [(0, .ref 200), (1, .int (nI t))] [] (S, mI I z, mJ J z, D, R) b Q = Q (.ok (some (.int (if (tR (I 300 5) (dl (I 300 4) (fun k => I 300 (16 + k)) fi se dg sb z.1 t) a bb z.2.1).1 = true then 1 else 0)))) (S, mI I (tS (I 300 4) (fun k => I 300 (16 + k)) fi se dg sb (I 300 5) a bb t z), mJ J (tS (I 300 4) (fun k => I 300 (16 + k)) fi se dg sb (I 300 5) a bb t z), D, R) b := by
  have g1 := hG.2.1
  have eF : ∀ z : xG, mI I z 300 4 = I 300 4 := fun _ => rfl
  have eR : ∀ z : xG, mI I z 300 5 = I 300 5 := fun _ => rfl
  have eS : (fun k => mI I z 300 (16 + k)) = fun k => I 300 (16 + k) := by
    funext k
    rw [mI_at, if_neg (by omega), if_neg (by omega)]
  have e1 : (1 : Int64) = lN 1 := rfl
  have h257 := fun (Q : xQ) => R257 (I := mI I z) (J := mJ J z) (D := D) (b := (0, 0)) (Q := Q) hL hG (mI_CM hC) hs ht
  rw [eS, eF] at h257
  rw [e271_0]
  simp only [B271_0, xSeq, i_push, i_load, i_iload, i_lload, i_dload, i_aload, i_istore, i_astore, i_lstore, i_dstore, i_iinc, i_ii, i_iiz, i_ll, i_llz, i_lli, i_li, i_i, i_l, i_i2l, i_l2i, i_dup, i_dup2, i_dup2w, i_dupx1, i_pop, i_pop2, i_goto, i_ifc, i_icmp, i_getI, i_getL, i_getR, i_putI, i_putZ, i_putL, i_putR, i_aldI, i_aldB, i_aldL, i_aldD, i_astI, i_astL, i_astD, i_alen, i_ret, i_iret, i_zret, i_lret, i_fret, i_dret, i_aret, i_invS0, i_invV0, i_m2, i_m1, i_ml, i_obj, lk, lkp, stf1, stf2, Value.category, rV, xTo, lv_args, xCk, xCat, xRc, xAk, hg_S, hg_I, hg_J, hg_D, hg_R, hs_I, hs_J, hs_D, hs_R, uI_at, uJ_at, uD_at, uR_at, List.take_succ_cons, List.take_zero, List.drop_succ_cons, List.drop_zero, List.reverse_cons, List.reverse_nil, List.nil_append, List.cons_append, List.map_cons, List.map_nil, List.sum_cons, List.sum_nil, List.length_cons, List.length_nil, Option.toList_some, Option.toList_none, true_and, and_true, false_and, and_false, true_implies, false_implies, implies_true, not_true_eq_false, not_false_eq_true, ne_eq, if_true, if_false, Bool.and_true, Bool.true_and, decide_true, decide_false, reduceIte, reduceCtorEq, Bool.and_self, Bool.and_eq_true, decide_eq_true_eq, and_self, true_or, or_true, false_or, or_false, Nat.zero_add, Nat.add_zero, eq_self, Nat.reduceEqDiff, Nat.reduceLeDiff, Nat.reduceLT, Nat.reduceAdd, Nat.reduceSub, Nat.reduceMul, xi144_0, ix_0, xi144_1, ix_1, xi144_2, ix_2, xi144_3, ix_3, xi144_4, ix_4, xi144_5, ix_5, xi144_6, ix_6, xi144_7, ix_7, xi144_8, ix_8, xi144_9, ix_9, xi144_10, ix_10, LM_out hL, mJ_s, h257, mI_6, eR]
  have hAz : mI I (z.1, z.2.1, mI I z 300 6 + 1, z.2.2.2) 300 2 = nI a := hA
  have hBz : mI I (z.1, z.2.1, mI I z 300 6 + 1, z.2.2.2) 300 3 = nI bb := hB
  have h272 := fun (d : Nat) (hd : d < 2147483648) (Q : xQ) => R272 (S := S) (R := R) (J := mJ J z) (D := D) (b := (0, 0)) (Q := Q) (I := mI I (z.1, z.2.1, mI I z 300 6 + 1, z.2.2.2)) hL hAz hBz ha h0 hb hd (g := z.2.1) hg rfl
  generalize hd : dl (I 300 4) (fun k => I 300 (16 + k)) fi se dg sb z.1 t = d at *
  unfold tS tR
  rw [hd]
  have yes : ∀ (J' : xJ) (z' : xG), (J' = mJ J z') → xRun xT 271 52 [(0, .ref 200), (1, .int (nI t))] [] (S, mI I z', J', D, R) b Q = Q (.ok (some (.int 1))) (S, mI I (z'.1, z'.2.1, z'.2.2.1, z'.2.2.2 + 1), mJ J (z'.1 ^^^ 2 ^ t, z'.2.1, z'.2.2.1, z'.2.2.2), D, R) b := fun J' z' hz => by
    subst hz
    rw [e271_52]
    simp only [B271_52, xSeq, i_push, i_load, i_iload, i_lload, i_dload, i_aload, i_istore, i_astore, i_lstore, i_dstore, i_iinc, i_ii, i_iiz, i_ll, i_llz, i_lli, i_li, i_i, i_l, i_i2l, i_l2i, i_dup, i_dup2, i_dup2w, i_dupx1, i_pop, i_pop2, i_goto, i_ifc, i_icmp, i_getI, i_getL, i_getR, i_putI, i_putZ, i_putL, i_putR, i_aldI, i_aldB, i_aldL, i_aldD, i_astI, i_astL, i_astD, i_alen, i_ret, i_iret, i_zret, i_lret, i_fret, i_dret, i_aret, i_invS0, i_invV0, i_m2, i_m1, i_ml, i_obj, lk, lkp, stf1, stf2, Value.category, rV, xTo, lv_args, xCk, xCat, xRc, xAk, hg_S, hg_I, hg_J, hg_D, hg_R, hs_I, hs_J, hs_D, hs_R, uI_at, uJ_at, uD_at, uR_at, List.take_succ_cons, List.take_zero, List.drop_succ_cons, List.drop_zero, List.reverse_cons, List.reverse_nil, List.nil_append, List.cons_append, List.map_cons, List.map_nil, List.sum_cons, List.sum_nil, List.length_cons, List.length_nil, Option.toList_some, Option.toList_none, true_and, and_true, false_and, and_false, true_implies, false_implies, implies_true, not_true_eq_false, not_false_eq_true, ne_eq, if_true, if_false, Bool.and_true, Bool.true_and, decide_true, decide_false, reduceIte, reduceCtorEq, Bool.and_self, Bool.and_eq_true, decide_eq_true_eq, and_self, true_or, or_true, false_or, or_false, Nat.zero_add, Nat.add_zero, eq_self, Nat.reduceEqDiff, Nat.reduceLeDiff, Nat.reduceLT, Nat.reduceAdd, Nat.reduceSub, Nat.reduceMul, e271_57, B271_57, i1_0, e271_64, B271_64, xi144_0, ix_0, xi144_1, ix_1, xi144_2, ix_2, xi144_3, ix_3, xi144_4, ix_4, xi144_5, ix_5, xi144_6, ix_6, xi144_7, ix_7, xi144_8, ix_8, xi144_9, ix_9, xi144_10, ix_10, LM_out hL, mI_7, mJ_s, e1, q_shl 1 (show t < 64 by omega), q_xor, Nat.one_mul, mJ_3]
    rfl
  have no : ∀ (J' : xJ) (z' : xG), xRun xT 271 56 [(0, .ref 200), (1, .int (nI t))] [] (S, mI I z', J', D, R) b Q = Q (.ok (some (.int 0))) (S, mI I z', J', D, R) b := fun J' z' => by
    rw [e271_56]
    simp only [B271_56, xSeq, i_push, i_load, i_iload, i_lload, i_dload, i_aload, i_istore, i_astore, i_lstore, i_dstore, i_iinc, i_ii, i_iiz, i_ll, i_llz, i_lli, i_li, i_i, i_l, i_i2l, i_l2i, i_dup, i_dup2, i_dup2w, i_dupx1, i_pop, i_pop2, i_goto, i_ifc, i_icmp, i_getI, i_getL, i_getR, i_putI, i_putZ, i_putL, i_putR, i_aldI, i_aldB, i_aldL, i_aldD, i_astI, i_astL, i_astD, i_alen, i_ret, i_iret, i_zret, i_lret, i_fret, i_dret, i_aret, i_invS0, i_invV0, i_m2, i_m1, i_ml, i_obj, lk, lkp, stf1, stf2, Value.category, rV, xTo, lv_args, xCk, xCat, xRc, xAk, hg_S, hg_I, hg_J, hg_D, hg_R, hs_I, hs_J, hs_D, hs_R, uI_at, uJ_at, uD_at, uR_at, List.take_succ_cons, List.take_zero, List.drop_succ_cons, List.drop_zero, List.reverse_cons, List.reverse_nil, List.nil_append, List.cons_append, List.map_cons, List.map_nil, List.sum_cons, List.sum_nil, List.length_cons, List.length_nil, Option.toList_some, Option.toList_none, true_and, and_true, false_and, and_false, true_implies, false_implies, implies_true, not_true_eq_false, not_false_eq_true, ne_eq, if_true, if_false, Bool.and_true, Bool.true_and, decide_true, decide_false, reduceIte, reduceCtorEq, Bool.and_self, Bool.and_eq_true, decide_eq_true_eq, and_self, true_or, or_true, false_or, or_false, Nat.zero_add, Nat.add_zero, eq_self, Nat.reduceEqDiff, Nat.reduceLeDiff, Nat.reduceLT, Nat.reduceAdd, Nat.reduceSub, Nat.reduceMul, e271_57, B271_57]
  by_cases h1 : I 300 5 = 2 ∨ d ≤ 0
  · by_cases h2 : I 300 5 = 2
    · simp only [h1, h2, true_and, and_true, false_and, and_false, true_implies, false_implies, implies_true, not_true_eq_false, not_false_eq_true, ne_eq, if_true, if_false, Bool.and_true, Bool.true_and, decide_true, decide_false, reduceIte, reduceCtorEq, Bool.and_self, Bool.and_eq_true, decide_eq_true_eq, and_self, true_or, or_true, false_or, or_false, Nat.zero_add, Nat.add_zero, eq_self, Nat.reduceEqDiff, Nat.reduceLeDiff, Nat.reduceLT, Nat.reduceAdd, Nat.reduceSub, Nat.reduceMul]
      rw [yes (mJ J z) (z.1, z.2.1, mI I z 300 6 + 1, z.2.2.2) rfl]
      rfl
    · have h3 : d ≤ 0 := h1.resolve_left h2
      simp only [h1, h2, h3, xSeq, i_push, i_load, i_iload, i_lload, i_dload, i_aload, i_istore, i_astore, i_lstore, i_dstore, i_iinc, i_ii, i_iiz, i_ll, i_llz, i_lli, i_li, i_i, i_l, i_i2l, i_l2i, i_dup, i_dup2, i_dup2w, i_dupx1, i_pop, i_pop2, i_goto, i_ifc, i_icmp, i_getI, i_getL, i_getR, i_putI, i_putZ, i_putL, i_putR, i_aldI, i_aldB, i_aldL, i_aldD, i_astI, i_astL, i_astD, i_alen, i_ret, i_iret, i_zret, i_lret, i_fret, i_dret, i_aret, i_invS0, i_invV0, i_m2, i_m1, i_ml, i_obj, lk, lkp, stf1, stf2, Value.category, rV, xTo, lv_args, xCk, xCat, xRc, xAk, hg_S, hg_I, hg_J, hg_D, hg_R, hs_I, hs_J, hs_D, hs_R, uI_at, uJ_at, uD_at, uR_at, List.take_succ_cons, List.take_zero, List.drop_succ_cons, List.drop_zero, List.reverse_cons, List.reverse_nil, List.nil_append, List.cons_append, List.map_cons, List.map_nil, List.sum_cons, List.sum_nil, List.length_cons, List.length_nil, Option.toList_some, Option.toList_none, true_and, and_true, false_and, and_false, true_implies, false_implies, implies_true, not_true_eq_false, not_false_eq_true, ne_eq, if_true, if_false, Bool.and_true, Bool.true_and, decide_true, decide_false, reduceIte, reduceCtorEq, Bool.and_self, Bool.and_eq_true, decide_eq_true_eq, and_self, true_or, or_true, false_or, or_false, Nat.zero_add, Nat.add_zero, eq_self, Nat.reduceEqDiff, Nat.reduceLeDiff, Nat.reduceLT, Nat.reduceAdd, Nat.reduceSub, Nat.reduceMul]
      rw [yes (mJ J z) (z.1, z.2.1, mI I z 300 6 + 1, z.2.2.2) rfl]
      rfl
  · have h2 : ¬ I 300 5 = 2 := fun e => h1 (Or.inl e)
    have h3 : ¬ d ≤ 0 := fun e => h1 (Or.inr e)
    by_cases h4 : I 300 5 = 1
    · have h5 : ((1 : Int32) = 2) = False := eq_false (by decide)
      simp only [h3, h4, h5, i1_0, xSeq, i_push, i_load, i_iload, i_lload, i_dload, i_aload, i_istore, i_astore, i_lstore, i_dstore, i_iinc, i_ii, i_iiz, i_ll, i_llz, i_lli, i_li, i_i, i_l, i_i2l, i_l2i, i_dup, i_dup2, i_dup2w, i_dupx1, i_pop, i_pop2, i_goto, i_ifc, i_icmp, i_getI, i_getL, i_getR, i_putI, i_putZ, i_putL, i_putR, i_aldI, i_aldB, i_aldL, i_aldD, i_astI, i_astL, i_astD, i_alen, i_ret, i_iret, i_zret, i_lret, i_fret, i_dret, i_aret, i_invS0, i_invV0, i_m2, i_m1, i_ml, i_obj, lk, lkp, stf1, stf2, Value.category, rV, xTo, lv_args, xCk, xCat, xRc, xAk, hg_S, hg_I, hg_J, hg_D, hg_R, hs_I, hs_J, hs_D, hs_R, uI_at, uJ_at, uD_at, uR_at, List.take_succ_cons, List.take_zero, List.drop_succ_cons, List.drop_zero, List.reverse_cons, List.reverse_nil, List.nil_append, List.cons_append, List.map_cons, List.map_nil, List.sum_cons, List.sum_nil, List.length_cons, List.length_nil, Option.toList_some, Option.toList_none, true_and, and_true, false_and, and_false, true_implies, false_implies, implies_true, not_true_eq_false, not_false_eq_true, ne_eq, if_true, if_false, Bool.and_true, Bool.true_and, decide_true, decide_false, reduceIte, reduceCtorEq, Bool.and_self, Bool.and_eq_true, decide_eq_true_eq, and_self, true_or, or_true, false_or, or_false, Nat.zero_add, Nat.add_zero, eq_self, Nat.reduceEqDiff, Nat.reduceLeDiff, Nat.reduceLT, Nat.reduceAdd, Nat.reduceSub, Nat.reduceMul, no]
      rfl
    · have h5 : I 300 5 = 0 := by
        rcases hr with h | h | h
        · exact h
        · exact absurd h h4
        · exact absurd h h2
      have h6 : 0 < d := Int32.not_le.mp h3
      obtain ⟨h7, h8⟩ := i32_nI d h6
      have h9 := h272 d.toNatClampNeg h8
      rw [← h7] at h9
      have h10 : ((0 : Int32) = 2) = False := eq_false (by decide)
      simp only [h3, h5, h10, i0_1, xSeq, i_push, i_load, i_iload, i_lload, i_dload, i_aload, i_istore, i_astore, i_lstore, i_dstore, i_iinc, i_ii, i_iiz, i_ll, i_llz, i_lli, i_li, i_i, i_l, i_i2l, i_l2i, i_dup, i_dup2, i_dup2w, i_dupx1, i_pop, i_pop2, i_goto, i_ifc, i_icmp, i_getI, i_getL, i_getR, i_putI, i_putZ, i_putL, i_putR, i_aldI, i_aldB, i_aldL, i_aldD, i_astI, i_astL, i_astD, i_alen, i_ret, i_iret, i_zret, i_lret, i_fret, i_dret, i_aret, i_invS0, i_invV0, i_m2, i_m1, i_ml, i_obj, lk, lkp, stf1, stf2, Value.category, rV, xTo, lv_args, xCk, xCat, xRc, xAk, hg_S, hg_I, hg_J, hg_D, hg_R, hs_I, hs_J, hs_D, hs_R, uI_at, uJ_at, uD_at, uR_at, List.take_succ_cons, List.take_zero, List.drop_succ_cons, List.drop_zero, List.reverse_cons, List.reverse_nil, List.nil_append, List.cons_append, List.map_cons, List.map_nil, List.sum_cons, List.sum_nil, List.length_cons, List.length_nil, Option.toList_some, Option.toList_none, true_and, and_true, false_and, and_false, true_implies, false_implies, implies_true, not_true_eq_false, not_false_eq_true, ne_eq, if_true, if_false, Bool.and_true, Bool.true_and, decide_true, decide_false, reduceIte, reduceCtorEq, Bool.and_self, Bool.and_eq_true, decide_eq_true_eq, and_self, true_or, or_true, false_or, or_false, Nat.zero_add, Nat.add_zero, eq_self, Nat.reduceEqDiff, Nat.reduceLeDiff, Nat.reduceLT, Nat.reduceAdd, Nat.reduceSub, Nat.reduceMul, LM_out hL, h9]
      cases hp : (pd a bb d.toNatClampNeg z.2.1).1
      · simp only [xSeq, i_push, i_load, i_iload, i_lload, i_dload, i_aload, i_istore, i_astore, i_lstore, i_dstore, i_iinc, i_ii, i_iiz, i_ll, i_llz, i_lli, i_li, i_i, i_l, i_i2l, i_l2i, i_dup, i_dup2, i_dup2w, i_dupx1, i_pop, i_pop2, i_goto, i_ifc, i_icmp, i_getI, i_getL, i_getR, i_putI, i_putZ, i_putL, i_putR, i_aldI, i_aldB, i_aldL, i_aldD, i_astI, i_astL, i_astD, i_alen, i_ret, i_iret, i_zret, i_lret, i_fret, i_dret, i_aret, i_invS0, i_invV0, i_m2, i_m1, i_ml, i_obj, lk, lkp, stf1, stf2, Value.category, rV, xTo, lv_args, xCk, xCat, xRc, xAk, hg_S, hg_I, hg_J, hg_D, hg_R, hs_I, hs_J, hs_D, hs_R, uI_at, uJ_at, uD_at, uR_at, List.take_succ_cons, List.take_zero, List.drop_succ_cons, List.drop_zero, List.reverse_cons, List.reverse_nil, List.nil_append, List.cons_append, List.map_cons, List.map_nil, List.sum_cons, List.sum_nil, List.length_cons, List.length_nil, Option.toList_some, Option.toList_none, true_and, and_true, false_and, and_false, true_implies, false_implies, implies_true, not_true_eq_false, not_false_eq_true, ne_eq, if_true, if_false, Bool.and_true, Bool.true_and, decide_true, decide_false, reduceIte, reduceCtorEq, Bool.and_self, Bool.and_eq_true, decide_eq_true_eq, and_self, true_or, or_true, false_or, or_false, Nat.zero_add, Nat.add_zero, eq_self, Nat.reduceEqDiff, Nat.reduceLeDiff, Nat.reduceLT, Nat.reduceAdd, Nat.reduceSub, Nat.reduceMul, no, Bool.false_eq_true, mJ_4]
        rfl
      · simp only [xSeq, i_push, i_load, i_iload, i_lload, i_dload, i_aload, i_istore, i_astore, i_lstore, i_dstore, i_iinc, i_ii, i_iiz, i_ll, i_llz, i_lli, i_li, i_i, i_l, i_i2l, i_l2i, i_dup, i_dup2, i_dup2w, i_dupx1, i_pop, i_pop2, i_goto, i_ifc, i_icmp, i_getI, i_getL, i_getR, i_putI, i_putZ, i_putL, i_putR, i_aldI, i_aldB, i_aldL, i_aldD, i_astI, i_astL, i_astD, i_alen, i_ret, i_iret, i_zret, i_lret, i_fret, i_dret, i_aret, i_invS0, i_invV0, i_m2, i_m1, i_ml, i_obj, lk, lkp, stf1, stf2, Value.category, rV, xTo, lv_args, xCk, xCat, xRc, xAk, hg_S, hg_I, hg_J, hg_D, hg_R, hs_I, hs_J, hs_D, hs_R, uI_at, uJ_at, uD_at, uR_at, List.take_succ_cons, List.take_zero, List.drop_succ_cons, List.drop_zero, List.reverse_cons, List.reverse_nil, List.nil_append, List.cons_append, List.map_cons, List.map_nil, List.sum_cons, List.sum_nil, List.length_cons, List.length_nil, Option.toList_some, Option.toList_none, true_and, and_true, false_and, and_false, true_implies, false_implies, implies_true, not_true_eq_false, not_false_eq_true, ne_eq, if_true, if_false, Bool.and_true, Bool.true_and, decide_true, decide_false, reduceIte, reduceCtorEq, Bool.and_self, Bool.and_eq_true, decide_eq_true_eq, and_self, true_or, or_true, false_or, or_false, Nat.zero_add, Nat.add_zero, eq_self, Nat.reduceEqDiff, Nat.reduceLeDiff, Nat.reduceLT, Nat.reduceAdd, Nat.reduceSub, Nat.reduceMul, i1_0]
        refine (yes _ (z.1, (pd a bb d.toNatClampNeg z.2.1).2, mI I z 300 6 + 1, z.2.2.2) (mJ_4 J z _)).trans ?_
        rfl
/-- attempts at the sites from i on, j of them -/
def tW (F : Int32) (st : Nat → Int32) (fi se dg : Nat → Nat) (sb : Nat → Nat → Nat) (rule : Int32) (a bb : Nat) : Nat → Nat → xG → xG
  | 0, _, z => z
  | j + 1, i, z => tW F st fi se dg sb rule a bb j (i + 1) (tS F st fi se dg sb rule a bb i z)
/-- attempts at drawn sites -/
def tD (F : Int32) (st : Nat → Int32) (fi se dg : Nat → Nat) (sb : Nat → Nat → Nat) (rule : Int32) (a bb n : Nat) : Nat → xG → xG
  | 0, z => z
  | j + 1, z => tD F st fi se dg sb rule a bb n j (tS F st fi se dg sb rule a bb (dw z.2.1 n) (z.1, nx z.2.1, z.2.2.1, z.2.2.2))
theorem tR_lt {rule d : Int32} {a bb g : Nat} (h : g < 2147483648) : (tR rule d a bb g).2 < 2147483648 := by
  unfold tR
  split
  · exact h
  · split
    · exact h
    · exact pd_lt a bb _ g h
theorem tS_ok {F : Int32} {st : Nat → Int32} {rule : Int32} {a bb t : Nat} {z : xG} {N : Nat} (ht : t < N) (hs : z.1 < 2 ^ N) (hg : z.2.1 < 2147483648) : (tS F st fi se dg sb rule a bb t z).1 < 2 ^ N ∧ (tS F st fi se dg sb rule a bb t z).2.1 < 2147483648 := by
  unfold tS
  refine ⟨?_, tR_lt hg⟩
  show (if _ then _ else _) < _
  split
  · exact Nat.xor_lt_two_pow hs (Nat.pow_lt_pow_right (by decide) ht)
  · exact hs
theorem tS_fl {F : Int32} {st : Nat → Int32} {rule : Int32} {a bb t : Nat} {z : xG} : (tS F st fi se dg sb rule a bb t z).2.2.2 = z.2.2.2 + (if (tR rule (dl F st fi se dg sb z.1 t) a bb z.2.1).1 = true then 1 else 0) := by
  unfold tS
  show (if _ then _ else _) = _
  split
  · rfl
  · rw [Int32.add_zero]
theorem R85_2 (hL : LC S R) (hG : GR n m fi se dg sb) (hC : CL I n m fi se dg sb) {a bb : Nat} (hA : I 110 7 = nI a) (hB : I 110 8 = nI bb) (ha : a < 2147483648) (h0 : 0 < bb) (hb : bb < 2147483648) : ∀ (j i : Nat) (z : xG), i + j = n → z.1 < 2 ^ 64 → z.2.1 < 2147483648 →
    xRun xT 85 2 [(0, .ref 110), (1, .int (nI i))] [] (S, cI I z, cJ J z, D, R) b Q = Q (.ok none) (S, cI I (tW (I 110 6) (I 111) fi se dg sb (I 110 9) a bb j i z), cJ J (tW (I 110 6) (I 111) fi se dg sb (I 110 9) a bb j i z), D, R) b
  | 0, i, z, hi, hs, hg => by
    have e : i = n := by omega
    have g1 := hG.2.1
    have c1 : cI I z 102 2 = nI n := hC.1
    subst e
    rw [e85_2]
    simp only [B85_2, xSeq, i_push, i_load, i_iload, i_lload, i_dload, i_aload, i_istore, i_astore, i_lstore, i_dstore, i_iinc, i_ii, i_iiz, i_ll, i_llz, i_lli, i_li, i_i, i_l, i_i2l, i_l2i, i_dup, i_dup2, i_dup2w, i_dupx1, i_pop, i_pop2, i_goto, i_ifc, i_icmp, i_getI, i_getL, i_getR, i_putI, i_putZ, i_putL, i_putR, i_aldI, i_aldB, i_aldL, i_aldD, i_astI, i_astL, i_astD, i_alen, i_ret, i_iret, i_zret, i_lret, i_fret, i_dret, i_aret, i_invS0, i_invV0, i_m2, i_m1, i_ml, i_obj, lk, lkp, stf1, stf2, Value.category, rV, xTo, lv_args, xCk, xCat, xRc, xAk, hg_S, hg_I, hg_J, hg_D, hg_R, hs_I, hs_J, hs_D, hs_R, uI_at, uJ_at, uD_at, uR_at, List.take_succ_cons, List.take_zero, List.drop_succ_cons, List.drop_zero, List.reverse_cons, List.reverse_nil, List.nil_append, List.cons_append, List.map_cons, List.map_nil, List.sum_cons, List.sum_nil, List.length_cons, List.length_nil, Option.toList_some, Option.toList_none, true_and, and_true, false_and, and_false, true_implies, false_implies, implies_true, not_true_eq_false, not_false_eq_true, ne_eq, if_true, if_false, Bool.and_true, Bool.true_and, decide_true, decide_false, reduceIte, reduceCtorEq, Bool.and_self, Bool.and_eq_true, decide_eq_true_eq, and_self, true_or, or_true, false_or, or_false, Nat.zero_add, Nat.add_zero, eq_self, Nat.reduceEqDiff, Nat.reduceLeDiff, Nat.reduceLT, Nat.reduceAdd, Nat.reduceSub, Nat.reduceMul, LC_out hL, c1, nI_leP (show i < 2147483648 by omega) (show i < 2147483648 by omega), Nat.le_refl, e85_25, B85_25, tW]
  | j + 1, i, z, hi, hs, hg => by
    have g1 := hG.2.1
    have c1 : cI I z 102 2 = nI n := hC.1
    obtain ⟨k1, k2⟩ := tS_ok (F := I 110 6) (st := I 111) (fi := fi) (se := se) (dg := dg) (sb := sb) (rule := I 110 9) (a := a) (bb := bb) (z := z) (show i < 64 by omega) hs hg
    rw [e85_2]
    simp only [B85_2, xSeq, i_push, i_load, i_iload, i_lload, i_dload, i_aload, i_istore, i_astore, i_lstore, i_dstore, i_iinc, i_ii, i_iiz, i_ll, i_llz, i_lli, i_li, i_i, i_l, i_i2l, i_l2i, i_dup, i_dup2, i_dup2w, i_dupx1, i_pop, i_pop2, i_goto, i_ifc, i_icmp, i_getI, i_getL, i_getR, i_putI, i_putZ, i_putL, i_putR, i_aldI, i_aldB, i_aldL, i_aldD, i_astI, i_astL, i_astD, i_alen, i_ret, i_iret, i_zret, i_lret, i_fret, i_dret, i_aret, i_invS0, i_invV0, i_m2, i_m1, i_ml, i_obj, lk, lkp, stf1, stf2, Value.category, rV, xTo, lv_args, xCk, xCat, xRc, xAk, hg_S, hg_I, hg_J, hg_D, hg_R, hs_I, hs_J, hs_D, hs_R, uI_at, uJ_at, uD_at, uR_at, List.take_succ_cons, List.take_zero, List.drop_succ_cons, List.drop_zero, List.reverse_cons, List.reverse_nil, List.nil_append, List.cons_append, List.map_cons, List.map_nil, List.sum_cons, List.sum_nil, List.length_cons, List.length_nil, Option.toList_some, Option.toList_none, true_and, and_true, false_and, and_false, true_implies, false_implies, implies_true, not_true_eq_false, not_false_eq_true, ne_eq, if_true, if_false, Bool.and_true, Bool.true_and, decide_true, decide_false, reduceIte, reduceCtorEq, Bool.and_self, Bool.and_eq_true, decide_eq_true_eq, and_self, true_or, or_true, false_or, or_false, Nat.zero_add, Nat.add_zero, eq_self, Nat.reduceEqDiff, Nat.reduceLeDiff, Nat.reduceLT, Nat.reduceAdd, Nat.reduceSub, Nat.reduceMul, LC_out hL, c1, nI_leP (show n < 2147483648 by omega) (show i < 2147483648 by omega), show (n ≤ i) = False from eq_false (by omega), R81 (J := J) (D := D) hL hG hC hA hB ha h0 hb hs hg (show i < n by omega), nI_1, tW]
    exact R85_2 hL hG hC hA hB ha h0 hb j (i + 1) _ (by omega) k1 k2
theorem R276_4 (hL : LM S R) (hG : GR n m fi se dg sb) (hC : CM I n m fi se dg sb) {a bb : Nat} (hA : I 300 2 = nI a) (hB : I 300 3 = nI bb) (ha : a < 2147483648) (h0 : 0 < bb) (hb : bb < 2147483648) (hr : I 300 5 = 0 ∨ I 300 5 = 1 ∨ I 300 5 = 2) : ∀ (j i : Nat) (z : xG) (v : Int32), i + j = n → z.1 < 2 ^ 64 → z.2.1 < 2147483648 →
    xRun xT 276 4 [(0, .ref 200), (1, .int (z.2.2.2 - v)), (2, .int (nI i))] [] (S, mI I z, mJ J z, D, R) b Q = Q (.ok (some (.int ((tW (I 300 4) (fun k => I 300 (16 + k)) fi se dg sb (I 300 5) a bb j i z).2.2.2 - v)))) (S, mI I (tW (I 300 4) (fun k => I 300 (16 + k)) fi se dg sb (I 300 5) a bb j i z), mJ J (tW (I 300 4) (fun k => I 300 (16 + k)) fi se dg sb (I 300 5) a bb j i z), D, R) b
  | 0, i, z, v, hi, hs, hg => by
    have e : i = n := by omega
    have g1 := hG.2.1
    have c1 : mI I z 300 10 = nI n := hC.1
    subst e
    rw [e276_4]
    simp only [B276_4, xSeq, i_push, i_load, i_iload, i_lload, i_dload, i_aload, i_istore, i_astore, i_lstore, i_dstore, i_iinc, i_ii, i_iiz, i_ll, i_llz, i_lli, i_li, i_i, i_l, i_i2l, i_l2i, i_dup, i_dup2, i_dup2w, i_dupx1, i_pop, i_pop2, i_goto, i_ifc, i_icmp, i_getI, i_getL, i_getR, i_putI, i_putZ, i_putL, i_putR, i_aldI, i_aldB, i_aldL, i_aldD, i_astI, i_astL, i_astD, i_alen, i_ret, i_iret, i_zret, i_lret, i_fret, i_dret, i_aret, i_invS0, i_invV0, i_m2, i_m1, i_ml, i_obj, lk, lkp, stf1, stf2, Value.category, rV, xTo, lv_args, xCk, xCat, xRc, xAk, hg_S, hg_I, hg_J, hg_D, hg_R, hs_I, hs_J, hs_D, hs_R, uI_at, uJ_at, uD_at, uR_at, List.take_succ_cons, List.take_zero, List.drop_succ_cons, List.drop_zero, List.reverse_cons, List.reverse_nil, List.nil_append, List.cons_append, List.map_cons, List.map_nil, List.sum_cons, List.sum_nil, List.length_cons, List.length_nil, Option.toList_some, Option.toList_none, true_and, and_true, false_and, and_false, true_implies, false_implies, implies_true, not_true_eq_false, not_false_eq_true, ne_eq, if_true, if_false, Bool.and_true, Bool.true_and, decide_true, decide_false, reduceIte, reduceCtorEq, Bool.and_self, Bool.and_eq_true, decide_eq_true_eq, and_self, true_or, or_true, false_or, or_false, Nat.zero_add, Nat.add_zero, eq_self, Nat.reduceEqDiff, Nat.reduceLeDiff, Nat.reduceLT, Nat.reduceAdd, Nat.reduceSub, Nat.reduceMul, xi144_0, ix_0, xi144_1, ix_1, xi144_2, ix_2, xi144_3, ix_3, xi144_4, ix_4, xi144_5, ix_5, xi144_6, ix_6, xi144_7, ix_7, xi144_8, ix_8, xi144_9, ix_9, xi144_10, ix_10, LM_out hL, c1, nI_leP (show i < 2147483648 by omega) (show i < 2147483648 by omega), Nat.le_refl, e276_37, B276_37, tW]
  | j + 1, i, z, v, hi, hs, hg => by
    have g1 := hG.2.1
    have c1 : mI I z 300 10 = nI n := hC.1
    obtain ⟨k1, k2⟩ := tS_ok (F := I 300 4) (st := fun k => I 300 (16 + k)) (fi := fi) (se := se) (dg := dg) (sb := sb) (rule := I 300 5) (a := a) (bb := bb) (z := z) (show i < 64 by omega) hs hg
    have k3 := tS_fl (F := I 300 4) (st := fun k => I 300 (16 + k)) (fi := fi) (se := se) (dg := dg) (sb := sb) (rule := I 300 5) (a := a) (bb := bb) (z := z) (t := i)
    have ih := R276_4 hL hG hC hA hB ha h0 hb hr j (i + 1) (tS (I 300 4) (fun k => I 300 (16 + k)) fi se dg sb (I 300 5) a bb i z) v (by omega) k1 k2
    rw [k3] at ih
    rw [e276_4]
    simp only [B276_4, xSeq, i_push, i_load, i_iload, i_lload, i_dload, i_aload, i_istore, i_astore, i_lstore, i_dstore, i_iinc, i_ii, i_iiz, i_ll, i_llz, i_lli, i_li, i_i, i_l, i_i2l, i_l2i, i_dup, i_dup2, i_dup2w, i_dupx1, i_pop, i_pop2, i_goto, i_ifc, i_icmp, i_getI, i_getL, i_getR, i_putI, i_putZ, i_putL, i_putR, i_aldI, i_aldB, i_aldL, i_aldD, i_astI, i_astL, i_astD, i_alen, i_ret, i_iret, i_zret, i_lret, i_fret, i_dret, i_aret, i_invS0, i_invV0, i_m2, i_m1, i_ml, i_obj, lk, lkp, stf1, stf2, Value.category, rV, xTo, lv_args, xCk, xCat, xRc, xAk, hg_S, hg_I, hg_J, hg_D, hg_R, hs_I, hs_J, hs_D, hs_R, uI_at, uJ_at, uD_at, uR_at, List.take_succ_cons, List.take_zero, List.drop_succ_cons, List.drop_zero, List.reverse_cons, List.reverse_nil, List.nil_append, List.cons_append, List.map_cons, List.map_nil, List.sum_cons, List.sum_nil, List.length_cons, List.length_nil, Option.toList_some, Option.toList_none, true_and, and_true, false_and, and_false, true_implies, false_implies, implies_true, not_true_eq_false, not_false_eq_true, ne_eq, if_true, if_false, Bool.and_true, Bool.true_and, decide_true, decide_false, reduceIte, reduceCtorEq, Bool.and_self, Bool.and_eq_true, decide_eq_true_eq, and_self, true_or, or_true, false_or, or_false, Nat.zero_add, Nat.add_zero, eq_self, Nat.reduceEqDiff, Nat.reduceLeDiff, Nat.reduceLT, Nat.reduceAdd, Nat.reduceSub, Nat.reduceMul, xi144_0, ix_0, xi144_1, ix_1, xi144_2, ix_2, xi144_3, ix_3, xi144_4, ix_4, xi144_5, ix_5, xi144_6, ix_6, xi144_7, ix_7, xi144_8, ix_8, xi144_9, ix_9, xi144_10, ix_10, LM_out hL, c1, nI_leP (show n < 2147483648 by omega) (show i < 2147483648 by omega), show (n ≤ i) = False from eq_false (by omega), R271 (J := J) (D := D) hL hG hC hA hB ha h0 hb hr hs hg (show i < n by omega), nI_1, tW]
    by_cases h : (tR (I 300 5) (dl (I 300 4) (fun k => I 300 (16 + k)) fi se dg sb z.1 i) a bb z.2.1).1 = true
    · rw [if_pos h, show z.2.2.2 + 1 - v = z.2.2.2 - v + 1 by grind] at ih
      simp only [h, xSeq, i_push, i_load, i_iload, i_lload, i_dload, i_aload, i_istore, i_astore, i_lstore, i_dstore, i_iinc, i_ii, i_iiz, i_ll, i_llz, i_lli, i_li, i_i, i_l, i_i2l, i_l2i, i_dup, i_dup2, i_dup2w, i_dupx1, i_pop, i_pop2, i_goto, i_ifc, i_icmp, i_getI, i_getL, i_getR, i_putI, i_putZ, i_putL, i_putR, i_aldI, i_aldB, i_aldL, i_aldD, i_astI, i_astL, i_astD, i_alen, i_ret, i_iret, i_zret, i_lret, i_fret, i_dret, i_aret, i_invS0, i_invV0, i_m2, i_m1, i_ml, i_obj, lk, lkp, stf1, stf2, Value.category, rV, xTo, lv_args, xCk, xCat, xRc, xAk, hg_S, hg_I, hg_J, hg_D, hg_R, hs_I, hs_J, hs_D, hs_R, uI_at, uJ_at, uD_at, uR_at, List.take_succ_cons, List.take_zero, List.drop_succ_cons, List.drop_zero, List.reverse_cons, List.reverse_nil, List.nil_append, List.cons_append, List.map_cons, List.map_nil, List.sum_cons, List.sum_nil, List.length_cons, List.length_nil, Option.toList_some, Option.toList_none, true_and, and_true, false_and, and_false, true_implies, false_implies, implies_true, not_true_eq_false, not_false_eq_true, ne_eq, if_true, if_false, Bool.and_true, Bool.true_and, decide_true, decide_false, reduceIte, reduceCtorEq, Bool.and_self, Bool.and_eq_true, decide_eq_true_eq, and_self, true_or, or_true, false_or, or_false, Nat.zero_add, Nat.add_zero, eq_self, Nat.reduceEqDiff, Nat.reduceLeDiff, Nat.reduceLT, Nat.reduceAdd, Nat.reduceSub, Nat.reduceMul, i1_0, e276_29, B276_29, nI_1]
      exact ih
    · rw [if_neg h, show z.2.2.2 + 0 - v = z.2.2.2 - v + 0 by grind] at ih
      simp only [h, xSeq, i_push, i_load, i_iload, i_lload, i_dload, i_aload, i_istore, i_astore, i_lstore, i_dstore, i_iinc, i_ii, i_iiz, i_ll, i_llz, i_lli, i_li, i_i, i_l, i_i2l, i_l2i, i_dup, i_dup2, i_dup2w, i_dupx1, i_pop, i_pop2, i_goto, i_ifc, i_icmp, i_getI, i_getL, i_getR, i_putI, i_putZ, i_putL, i_putR, i_aldI, i_aldB, i_aldL, i_aldD, i_astI, i_astL, i_astD, i_alen, i_ret, i_iret, i_zret, i_lret, i_fret, i_dret, i_aret, i_invS0, i_invV0, i_m2, i_m1, i_ml, i_obj, lk, lkp, stf1, stf2, Value.category, rV, xTo, lv_args, xCk, xCat, xRc, xAk, hg_S, hg_I, hg_J, hg_D, hg_R, hs_I, hs_J, hs_D, hs_R, uI_at, uJ_at, uD_at, uR_at, List.take_succ_cons, List.take_zero, List.drop_succ_cons, List.drop_zero, List.reverse_cons, List.reverse_nil, List.nil_append, List.cons_append, List.map_cons, List.map_nil, List.sum_cons, List.sum_nil, List.length_cons, List.length_nil, Option.toList_some, Option.toList_none, true_and, and_true, false_and, and_false, true_implies, false_implies, implies_true, not_true_eq_false, not_false_eq_true, ne_eq, if_true, if_false, Bool.and_true, Bool.true_and, decide_true, decide_false, reduceIte, reduceCtorEq, Bool.and_self, Bool.and_eq_true, decide_eq_true_eq, and_self, true_or, or_true, false_or, or_false, Nat.zero_add, Nat.add_zero, eq_self, Nat.reduceEqDiff, Nat.reduceLeDiff, Nat.reduceLT, Nat.reduceAdd, Nat.reduceSub, Nat.reduceMul, e276_28, B276_28, e276_29, B276_29, nI_1, Bool.false_eq_true]
      exact ih
end
