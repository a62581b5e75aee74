/-! ===== bondMean ===== -/
section
variable {S : xS} {I : xI} {J : xJ} {D : xDb} {R : xR} {b : Nat × Nat} {Q : xQ} {n m : Nat} {fi se dg : Nat → Nat} {sb : Nat → Nat → Nat}
theorem al32_eq {c : UInt32} (h : isNaN32 c = false) {P : UInt32 → Prop} : (∀ v : UInt32, alike32 v c = true → P v) = P c := by
  apply propext
  constructor
  · intro k
    exact k c (by unfold alike32; simp)
  · intro k v hv
    unfold alike32 at hv
    rw [h] at hv
    have : v = c := by simpa using hv
    rw [this]
    exact k
theorem R131_4 (hL : LC S R) (hG : GR n m fi se dg sb) (hC : CL I n m fi se dg sb) {s : Nat} (hJ : J 110 4 = lN s) (hs : s < 2 ^ 64) : ∀ (j i : Nat), i + j = m → xRun xT 131 4 [(0, .ref 100), (1, .int (ps i (I 111) fi se s)), (2, .int (nI i))] [] (S, I, J, D, R) b Q = xRun xT 131 39 [(0, .ref 100), (1, .int (ps m (I 111) fi se s))] [] (S, I, J, D, R) b Q
  | 0, i, hi => by
    obtain ⟨g0, g1, g2, g3, g4, g5, g6⟩ := hG
    obtain ⟨c1, c2, c3, c4, c5, c6⟩ := hC
    have e : i = m := by omega
    subst e
    rw [e131_4]
    simp only [B131_4, xSeq, i_push, i_load, i_iload, i_lload, i_dload, i_aload, i_istore, i_astore, i_lstore, i_dstore, i_iinc, i_ii, i_iiz, i_ll, i_llz, i_lli, i_li, i_i, i_l, i_i2l, i_l2i, i_dup, i_dup2, i_dup2w, i_dupx1, i_pop, i_pop2, i_goto, i_ifc, i_icmp, i_getI, i_getL, i_getR, i_putI, i_putZ, i_putL, i_putR, i_aldI, i_aldB, i_aldL, i_aldD, i_astI, i_astL, i_astD, i_alen, i_ret, i_iret, i_zret, i_lret, i_fret, i_dret, i_aret, i_invS0, i_invV0, i_m2, i_m1, i_ml, i_obj, lk, lkp, stf1, stf2, Value.category, rV, xTo, lv_args, xCk, xCat, xRc, xAk, hg_S, hg_I, hg_J, hg_D, hg_R, hs_I, hs_J, hs_D, hs_R, uI_at, uJ_at, uD_at, uR_at, List.take_succ_cons, List.take_zero, List.drop_succ_cons, List.drop_zero, List.reverse_cons, List.reverse_nil, List.nil_append, List.cons_append, List.map_cons, List.map_nil, List.sum_cons, List.sum_nil, List.length_cons, List.length_nil, Option.toList_some, Option.toList_none, true_and, and_true, false_and, and_false, true_implies, false_implies, implies_true, not_true_eq_false, not_false_eq_true, ne_eq, if_true, if_false, Bool.and_true, Bool.true_and, decide_true, decide_false, reduceIte, reduceCtorEq, Bool.and_self, Bool.and_eq_true, decide_eq_true_eq, and_self, true_or, or_true, false_or, or_false, Nat.zero_add, Nat.add_zero, eq_self, Nat.reduceEqDiff, Nat.reduceLeDiff, Nat.reduceLT, Nat.reduceAdd, Nat.reduceSub, Nat.reduceMul, LC_out hL, c2, nI_leP (show i < 2147483648 by omega) (show i < 2147483648 by omega), Nat.le_refl]
  | j + 1, i, hi => by
    have ih := R131_4 hL hG hC hJ hs j (i + 1) (by omega)
    have r := fun (b : Nat × Nat) (Q : xQ) => R75 (J := J) (D := D) (b := b) (Q := Q) hL hG hC hs (show i < m by omega)
    obtain ⟨g0, g1, g2, g3, g4, g5, g6⟩ := hG
    obtain ⟨c1, c2, c3, c4, c5, c6⟩ := hC
    rw [ps, sm] at ih
    rw [e131_4]
    simp only [B131_4, xSeq, i_push, i_load, i_iload, i_lload, i_dload, i_aload, i_istore, i_astore, i_lstore, i_dstore, i_iinc, i_ii, i_iiz, i_ll, i_llz, i_lli, i_li, i_i, i_l, i_i2l, i_l2i, i_dup, i_dup2, i_dup2w, i_dupx1, i_pop, i_pop2, i_goto, i_ifc, i_icmp, i_getI, i_getL, i_getR, i_putI, i_putZ, i_putL, i_putR, i_aldI, i_aldB, i_aldL, i_aldD, i_astI, i_astL, i_astD, i_alen, i_ret, i_iret, i_zret, i_lret, i_fret, i_dret, i_aret, i_invS0, i_invV0, i_m2, i_m1, i_ml, i_obj, lk, lkp, stf1, stf2, Value.category, rV, xTo, lv_args, xCk, xCat, xRc, xAk, hg_S, hg_I, hg_J, hg_D, hg_R, hs_I, hs_J, hs_D, hs_R, uI_at, uJ_at, uD_at, uR_at, List.take_succ_cons, List.take_zero, List.drop_succ_cons, List.drop_zero, List.reverse_cons, List.reverse_nil, List.nil_append, List.cons_append, List.map_cons, List.map_nil, List.sum_cons, List.sum_nil, List.length_cons, List.length_nil, Option.toList_some, Option.toList_none, true_and, and_true, false_and, and_false, true_implies, false_implies, implies_true, not_true_eq_false, not_false_eq_true, ne_eq, if_true, if_false, Bool.and_true, Bool.true_and, decide_true, decide_false, reduceIte, reduceCtorEq, Bool.and_self, Bool.and_eq_true, decide_eq_true_eq, and_self, true_or, or_true, false_or, or_false, Nat.zero_add, Nat.add_zero, eq_self, Nat.reduceEqDiff, Nat.reduceLeDiff, Nat.reduceLT, Nat.reduceAdd, Nat.reduceSub, Nat.reduceMul, LC_out hL, c2, nI_leP (show m < 2147483648 by omega) (show i < 2147483648 by omega), show (m ≤ i) = False from eq_false (by omega), hJ, r, nI_1]
    exact ih
theorem R131_0 (hL : LC S R) (hG : GR n m fi se dg sb) (hC : CL I n m fi se dg sb) {s : Nat} (hJ : J 110 4 = lN s) (hs : s < 2 ^ 64) : xRun xT 131 0 [(0, .ref 100)] [] (S, I, J, D, R) b Q = xRun xT 131 39 [(0, .ref 100), (1, .int (ps m (I 111) fi se s))] [] (S, I, J, D, R) b Q := by
  rw [e131_0]
  simp only [B131_0, xSeq, i_push, i_load, i_iload, i_lload, i_dload, i_aload, i_istore, i_astore, i_lstore, i_dstore, i_iinc, i_ii, i_iiz, i_ll, i_llz, i_lli, i_li, i_i, i_l, i_i2l, i_l2i, i_dup, i_dup2, i_dup2w, i_dupx1, i_pop, i_pop2, i_goto, i_ifc, i_icmp, i_getI, i_getL, i_getR, i_putI, i_putZ, i_putL, i_putR, i_aldI, i_aldB, i_aldL, i_aldD, i_astI, i_astL, i_astD, i_alen, i_ret, i_iret, i_zret, i_lret, i_fret, i_dret, i_aret, i_invS0, i_invV0, i_m2, i_m1, i_ml, i_obj, lk, lkp, stf1, stf2, Value.category, rV, xTo, lv_args, xCk, xCat, xRc, xAk, hg_S, hg_I, hg_J, hg_D, hg_R, hs_I, hs_J, hs_D, hs_R, uI_at, uJ_at, uD_at, uR_at, List.take_succ_cons, List.take_zero, List.drop_succ_cons, List.drop_zero, List.reverse_cons, List.reverse_nil, List.nil_append, List.cons_append, List.map_cons, List.map_nil, List.sum_cons, List.sum_nil, List.length_cons, List.length_nil, Option.toList_some, Option.toList_none, true_and, and_true, false_and, and_false, true_implies, false_implies, implies_true, not_true_eq_false, not_false_eq_true, ne_eq, if_true, if_false, Bool.and_true, Bool.true_and, decide_true, decide_false, reduceIte, reduceCtorEq, Bool.and_self, Bool.and_eq_true, decide_eq_true_eq, and_self, true_or, or_true, false_or, or_false, Nat.zero_add, Nat.add_zero, eq_self, Nat.reduceEqDiff, Nat.reduceLeDiff, Nat.reduceLT, Nat.reduceAdd, Nat.reduceSub, Nat.reduceMul]
  exact R131_4 hL hG hC hJ hs m 0 (by omega)
theorem R263_9 (hL : LM S R) (hG : GR n m fi se dg sb) (hC : CM I n m fi se dg sb) {s : Nat} (hJ : J 200 3 = lN s) (hs : s < 2 ^ 64) : ∀ (j i : Nat), i + j = m → xRun xT 263 9 [(0, .ref 200), (1, .int (ps i (fun k => I 300 (16 + k)) fi se s)), (2, .int (nI i))] [] (S, I, J, D, R) b Q = xRun xT 263 38 [(0, .ref 200), (1, .int (ps m (fun k => I 300 (16 + k)) fi se s))] [] (S, I, J, D, R) b Q
  | 0, i, hi => by
    obtain ⟨g0, g1, g2, g3, g4, g5, g6⟩ := hG
    obtain ⟨c1, c2, c3, c4, c5, c6⟩ := hC
    have e : i = m := by omega
    subst e
    rw [e263_9]
    simp only [B263_9, xSeq, i_push, i_load, i_iload, i_lload, i_dload, i_aload, i_istore, i_astore, i_lstore, i_dstore, i_iinc, i_ii, i_iiz, i_ll, i_llz, i_lli, i_li, i_i, i_l, i_i2l, i_l2i, i_dup, i_dup2, i_dup2w, i_dupx1, i_pop, i_pop2, i_goto, i_ifc, i_icmp, i_getI, i_getL, i_getR, i_putI, i_putZ, i_putL, i_putR, i_aldI, i_aldB, i_aldL, i_aldD, i_astI, i_astL, i_astD, i_alen, i_ret, i_iret, i_zret, i_lret, i_fret, i_dret, i_aret, i_invS0, i_invV0, i_m2, i_m1, i_ml, i_obj, lk, lkp, stf1, stf2, Value.category, rV, xTo, lv_args, xCk, xCat, xRc, xAk, hg_S, hg_I, hg_J, hg_D, hg_R, hs_I, hs_J, hs_D, hs_R, uI_at, uJ_at, uD_at, uR_at, List.take_succ_cons, List.take_zero, List.drop_succ_cons, List.drop_zero, List.reverse_cons, List.reverse_nil, List.nil_append, List.cons_append, List.map_cons, List.map_nil, List.sum_cons, List.sum_nil, List.length_cons, List.length_nil, Option.toList_some, Option.toList_none, true_and, and_true, false_and, and_false, true_implies, false_implies, implies_true, not_true_eq_false, not_false_eq_true, ne_eq, if_true, if_false, Bool.and_true, Bool.true_and, decide_true, decide_false, reduceIte, reduceCtorEq, Bool.and_self, Bool.and_eq_true, decide_eq_true_eq, and_self, true_or, or_true, false_or, or_false, Nat.zero_add, Nat.add_zero, eq_self, Nat.reduceEqDiff, Nat.reduceLeDiff, Nat.reduceLT, Nat.reduceAdd, Nat.reduceSub, Nat.reduceMul, LM_out hL, xi144_0, ix_0, xi144_1, ix_1, xi144_2, ix_2, xi144_3, ix_3, xi144_4, ix_4, xi144_5, ix_5, xi144_6, ix_6, xi144_7, ix_7, xi144_8, ix_8, xi144_9, ix_9, xi144_10, ix_10, c2, nI_leP (show i < 2147483648 by omega) (show i < 2147483648 by omega), Nat.le_refl]
  | j + 1, i, hi => by
    have ih := R263_9 hL hG hC hJ hs j (i + 1) (by omega)
    have r := fun (b : Nat × Nat) (Q : xQ) => R237 (J := J) (D := D) (b := b) (Q := Q) hL hG hC hs (show i < m by omega)
    obtain ⟨g0, g1, g2, g3, g4, g5, g6⟩ := hG
    obtain ⟨c1, c2, c3, c4, c5, c6⟩ := hC
    rw [ps, sm] at ih
    rw [e263_9]
    simp only [B263_9, xSeq, i_push, i_load, i_iload, i_lload, i_dload, i_aload, i_istore, i_astore, i_lstore, i_dstore, i_iinc, i_ii, i_iiz, i_ll, i_llz, i_lli, i_li, i_i, i_l, i_i2l, i_l2i, i_dup, i_dup2, i_dup2w, i_dupx1, i_pop, i_pop2, i_goto, i_ifc, i_icmp, i_getI, i_getL, i_getR, i_putI, i_putZ, i_putL, i_putR, i_aldI, i_aldB, i_aldL, i_aldD, i_astI, i_astL, i_astD, i_alen, i_ret, i_iret, i_zret, i_lret, i_fret, i_dret, i_aret, i_invS0, i_invV0, i_m2, i_m1, i_ml, i_obj, lk, lkp, stf1, stf2, Value.category, rV, xTo, lv_args, xCk, xCat, xRc, xAk, hg_S, hg_I, hg_J, hg_D, hg_R, hs_I, hs_J, hs_D, hs_R, uI_at, uJ_at, uD_at, uR_at, List.take_succ_cons, List.take_zero, List.drop_succ_cons, List.drop_zero, List.reverse_cons, List.reverse_nil, List.nil_append, List.cons_append, List.map_cons, List.map_nil, List.sum_cons, List.sum_nil, List.length_cons, List.length_nil, Option.toList_some, Option.toList_none, true_and, and_true, false_and, and_false, true_implies, false_implies, implies_true, not_true_eq_false, not_false_eq_true, ne_eq, if_true, if_false, Bool.and_true, Bool.true_and, decide_true, decide_false, reduceIte, reduceCtorEq, Bool.and_self, Bool.and_eq_true, decide_eq_true_eq, and_self, true_or, or_true, false_or, or_false, Nat.zero_add, Nat.add_zero, eq_self, Nat.reduceEqDiff, Nat.reduceLeDiff, Nat.reduceLT, Nat.reduceAdd, Nat.reduceSub, Nat.reduceMul, LM_out hL, xi144_0, ix_0, xi144_1, ix_1, xi144_2, ix_2, xi144_3, ix_3, xi144_4, ix_4, xi144_5, ix_5, xi144_6, ix_6, xi144_7, ix_7, xi144_8, ix_8, xi144_9, ix_9, xi144_10, ix_10, c2, nI_leP (show m < 2147483648 by omega) (show i < 2147483648 by omega), show (m ≤ i) = False from eq_false (by omega), hJ, r, nI_1]
    exact ih
theorem R263_z (hL : LM S R) (hG : GR n m fi se dg sb) (hC : CM I n m fi se dg sb) {s : Nat} (hJ : J 200 3 = lN s) (hs : s < 2 ^ 64) : xRun xT 263 9 [(0, .ref 200), (1, .int 0), (2, .int 0)] [] (S, I, J, D, R) b Q = xRun xT 263 38 [(0, .ref 200), (1, .int (ps m (fun k => I 300 (16 + k)) fi se s))] [] (S, I, J, D, R) b Q := R263_9 hL hG hC hJ hs m 0 (by omega)
theorem ps_32 : ps 32 (fun _ => 1) (fE B4) (sE B4) 65535 = nI 32 := by decide +kernel
theorem ps_1 {st : Nat → Int32} (h : ∀ k, k < 32 → st k = 1) : ps 32 st (fE B4) (sE B4) 65535 = nI 32 := by
  rw [← ps_32]
  unfold ps
  exact sm_congr (fun k hk => by rw [h k hk])
theorem f1_n : isNaN32 (FP.fdiv (FP.i2f (nI 32)) (FP.i2f (nI 32))) = false := by decide +kernel
theorem f1_d : isNaN64 (FP.f2d (FP.fdiv (FP.i2f (nI 32)) (FP.i2f (nI 32)))) = false := by decide +kernel
theorem f1_c : Op.cmpValue (FP.dcmp (FP.f2d (FP.fdiv (FP.i2f (nI 32)) (FP.i2f (nI 32)))) (FP.f2d (FP.fdiv (FP.i2f (nI 32)) (FP.i2f (nI 32))))) .l = 0 := by decide +kernel
end
