/-! ===== chance ===== -/
section
variable {S : xS} {I : xI} {J : xJ} {D : xDb} {R : xR} {b : Nat × Nat} {Q : xQ} {n m : Nat} {fi se dg : Nat → Nat} {sb : Nat → Nat → Nat}
theorem al_eq {c : UInt64} (h : isNaN64 c = false) {P : UInt64 → Prop} : (∀ v : UInt64, alike64 v c = true → P v) = P c := by
  apply propext
  constructor
  · intro k
    exact k c (by unfold alike64; simp)
  · intro k v hv
    unfold alike64 at hv
    rw [h] at hv
    have : v = c := by simpa using hv
    rw [this]
    exact k
/-- the powers of one half -/
def hv2 : UInt64 := FP.ddiv (FP.i2d (nI 1)) (FP.i2d (nI 2))
def hpw : Nat → UInt64
  | 0 => FP.dconst1
  | i + 1 => FP.dmul (hpw i) hv2
theorem hv2_n : isNaN64 (FP.ddiv (FP.i2d (nI 1)) (FP.i2d (nI 2))) = false := by decide +kernel
theorem hpw_n : ∀ i, i < 8 → isNaN64 (FP.dmul (hpw i) (FP.ddiv (FP.i2d (nI 1)) (FP.i2d (nI 2)))) = false := by decide +kernel
theorem hpw_c : Op.cmpValue (FP.dcmp (hpw 8) (hpw 8)) .l = 0 := by decide +kernel
theorem dl_8 : ∀ t, t < 16 → dl 0 (fun _ => 1) (fE B4) (sE B4) (dE B4) (bE B4) 65535 t = nI 8 := by decide +kernel
theorem R185_40 (hL : LC S R) (h7 : I 110 7 = nI 1) (h8 : I 110 8 = nI 2) : ∀ (j i : Nat), i + j = 8 → xRun xT 185 40 [(0, .ref 100), (2, .int (nI 8)), (3, .double (hpw i)), (5, .int (nI i))] [] (S, I, J, D, R) b Q = Q (.ok (some (.double (hpw 8)))) (S, I, J, D, R) b
  | 0, i, hi => by
    have e : i = 8 := by omega
    subst e
    rw [e185_40]
    simp only [B185_40, xSeq, i_push, i_load, i_iload, i_lload, i_dload, i_aload, i_istore, i_astore, i_lstore, i_dstore, i_iinc, i_ii, i_iiz, i_ll, i_llz, i_lli, i_li, i_i, i_l, i_i2l, i_l2i, i_dup, i_dup2, i_dup2w, i_dupx1, i_pop, i_pop2, i_goto, i_ifc, i_icmp, i_getI, i_getL, i_getR, i_putI, i_putZ, i_putL, i_putR, i_aldI, i_aldB, i_aldL, i_aldD, i_astI, i_astL, i_astD, i_alen, i_ret, i_iret, i_zret, i_lret, i_fret, i_dret, i_aret, i_invS0, i_invV0, i_m2, i_m1, i_ml, i_obj, lk, lkp, stf1, stf2, Value.category, rV, xTo, lv_args, xCk, xCat, xRc, xAk, hg_S, hg_I, hg_J, hg_D, hg_R, hs_I, hs_J, hs_D, hs_R, uI_at, uJ_at, uD_at, uR_at, List.take_succ_cons, List.take_zero, List.drop_succ_cons, List.drop_zero, List.reverse_cons, List.reverse_nil, List.nil_append, List.cons_append, List.map_cons, List.map_nil, List.sum_cons, List.sum_nil, List.length_cons, List.length_nil, Option.toList_some, Option.toList_none, true_and, and_true, false_and, and_false, true_implies, false_implies, implies_true, not_true_eq_false, not_false_eq_true, ne_eq, if_true, if_false, Bool.and_true, Bool.true_and, decide_true, decide_false, reduceIte, reduceCtorEq, Bool.and_self, Bool.and_eq_true, decide_eq_true_eq, and_self, true_or, or_true, false_or, or_false, Nat.zero_add, Nat.add_zero, eq_self, Nat.reduceEqDiff, Nat.reduceLeDiff, Nat.reduceLT, Nat.reduceAdd, Nat.reduceSub, Nat.reduceMul, LC_out hL, nI_leP (show 8 < 2147483648 by decide) (show 8 < 2147483648 by decide), Nat.le_refl, e185_72, B185_72]
  | j + 1, i, hi => by
    have ih := R185_40 hL h7 h8 j (i + 1) (by omega)
    rw [hpw, hv2] at ih
    rw [e185_40]
    simp only [B185_40, xSeq, i_push, i_load, i_iload, i_lload, i_dload, i_aload, i_istore, i_astore, i_lstore, i_dstore, i_iinc, i_ii, i_iiz, i_ll, i_llz, i_lli, i_li, i_i, i_l, i_i2l, i_l2i, i_dup, i_dup2, i_dup2w, i_dupx1, i_pop, i_pop2, i_goto, i_ifc, i_icmp, i_getI, i_getL, i_getR, i_putI, i_putZ, i_putL, i_putR, i_aldI, i_aldB, i_aldL, i_aldD, i_astI, i_astL, i_astD, i_alen, i_ret, i_iret, i_zret, i_lret, i_fret, i_dret, i_aret, i_invS0, i_invV0, i_m2, i_m1, i_ml, i_obj, lk, lkp, stf1, stf2, Value.category, rV, xTo, lv_args, xCk, xCat, xRc, xAk, hg_S, hg_I, hg_J, hg_D, hg_R, hs_I, hs_J, hs_D, hs_R, uI_at, uJ_at, uD_at, uR_at, List.take_succ_cons, List.take_zero, List.drop_succ_cons, List.drop_zero, List.reverse_cons, List.reverse_nil, List.nil_append, List.cons_append, List.map_cons, List.map_nil, List.sum_cons, List.sum_nil, List.length_cons, List.length_nil, Option.toList_some, Option.toList_none, true_and, and_true, false_and, and_false, true_implies, false_implies, implies_true, not_true_eq_false, not_false_eq_true, ne_eq, if_true, if_false, Bool.and_true, Bool.true_and, decide_true, decide_false, reduceIte, reduceCtorEq, Bool.and_self, Bool.and_eq_true, decide_eq_true_eq, and_self, true_or, or_true, false_or, or_false, Nat.zero_add, Nat.add_zero, eq_self, Nat.reduceEqDiff, Nat.reduceLeDiff, Nat.reduceLT, Nat.reduceAdd, Nat.reduceSub, Nat.reduceMul, LC_out hL, nI_leP (show 8 < 2147483648 by decide) (show i < 2147483648 by omega), show (8 ≤ i) = False from eq_false (by omega), h7, h8, i_i2d, i_dd, al_eq hv2_n, al_eq (hpw_n i (by omega)), nI_1]
    exact ih
theorem R266_5 : ∀ (j i : Nat), i + j = 8 → xRun xT 266 5 [(0, .int (nI 8)), (1, .int (nI 1)), (2, .int (nI 2)), (3, .double (hpw i)), (5, .int (nI i))] [] (S, I, J, D, R) b Q = Q (.ok (some (.double (hpw 8)))) (S, I, J, D, R) b
  | 0, i, hi => by
    have e : i = 8 := by omega
    subst e
    rw [e266_5]
    simp only [B266_5, xSeq, i_push, i_load, i_iload, i_lload, i_dload, i_aload, i_istore, i_astore, i_lstore, i_dstore, i_iinc, i_ii, i_iiz, i_ll, i_llz, i_lli, i_li, i_i, i_l, i_i2l, i_l2i, i_dup, i_dup2, i_dup2w, i_dupx1, i_pop, i_pop2, i_goto, i_ifc, i_icmp, i_getI, i_getL, i_getR, i_putI, i_putZ, i_putL, i_putR, i_aldI, i_aldB, i_aldL, i_aldD, i_astI, i_astL, i_astD, i_alen, i_ret, i_iret, i_zret, i_lret, i_fret, i_dret, i_aret, i_invS0, i_invV0, i_m2, i_m1, i_ml, i_obj, lk, lkp, stf1, stf2, Value.category, rV, xTo, lv_args, xCk, xCat, xRc, xAk, hg_S, hg_I, hg_J, hg_D, hg_R, hs_I, hs_J, hs_D, hs_R, uI_at, uJ_at, uD_at, uR_at, List.take_succ_cons, List.take_zero, List.drop_succ_cons, List.drop_zero, List.reverse_cons, List.reverse_nil, List.nil_append, List.cons_append, List.map_cons, List.map_nil, List.sum_cons, List.sum_nil, List.length_cons, List.length_nil, Option.toList_some, Option.toList_none, true_and, and_true, false_and, and_false, true_implies, false_implies, implies_true, not_true_eq_false, not_false_eq_true, ne_eq, if_true, if_false, Bool.and_true, Bool.true_and, decide_true, decide_false, reduceIte, reduceCtorEq, Bool.and_self, Bool.and_eq_true, decide_eq_true_eq, and_self, true_or, or_true, false_or, or_false, Nat.zero_add, Nat.add_zero, eq_self, Nat.reduceEqDiff, Nat.reduceLeDiff, Nat.reduceLT, Nat.reduceAdd, Nat.reduceSub, Nat.reduceMul, nI_leP (show 8 < 2147483648 by decide) (show 8 < 2147483648 by decide), Nat.le_refl, e266_25, B266_25]
  | j + 1, i, hi => by
    have ih := R266_5 j (i + 1) (by omega)
    rw [hpw, hv2] at ih
    rw [e266_5]
    simp only [B266_5, xSeq, i_push, i_load, i_iload, i_lload, i_dload, i_aload, i_istore, i_astore, i_lstore, i_dstore, i_iinc, i_ii, i_iiz, i_ll, i_llz, i_lli, i_li, i_i, i_l, i_i2l, i_l2i, i_dup, i_dup2, i_dup2w, i_dupx1, i_pop, i_pop2, i_goto, i_ifc, i_icmp, i_getI, i_getL, i_getR, i_putI, i_putZ, i_putL, i_putR, i_aldI, i_aldB, i_aldL, i_aldD, i_astI, i_astL, i_astD, i_alen, i_ret, i_iret, i_zret, i_lret, i_fret, i_dret, i_aret, i_invS0, i_invV0, i_m2, i_m1, i_ml, i_obj, lk, lkp, stf1, stf2, Value.category, rV, xTo, lv_args, xCk, xCat, xRc, xAk, hg_S, hg_I, hg_J, hg_D, hg_R, hs_I, hs_J, hs_D, hs_R, uI_at, uJ_at, uD_at, uR_at, List.take_succ_cons, List.take_zero, List.drop_succ_cons, List.drop_zero, List.reverse_cons, List.reverse_nil, List.nil_append, List.cons_append, List.map_cons, List.map_nil, List.sum_cons, List.sum_nil, List.length_cons, List.length_nil, Option.toList_some, Option.toList_none, true_and, and_true, false_and, and_false, true_implies, false_implies, implies_true, not_true_eq_false, not_false_eq_true, ne_eq, if_true, if_false, Bool.and_true, Bool.true_and, decide_true, decide_false, reduceIte, reduceCtorEq, Bool.and_self, Bool.and_eq_true, decide_eq_true_eq, and_self, true_or, or_true, false_or, or_false, Nat.zero_add, Nat.add_zero, eq_self, Nat.reduceEqDiff, Nat.reduceLeDiff, Nat.reduceLT, Nat.reduceAdd, Nat.reduceSub, Nat.reduceMul, nI_leP (show 8 < 2147483648 by decide) (show i < 2147483648 by omega), show (8 ≤ i) = False from eq_false (by omega), i_i2d, i_dd, al_eq hv2_n, al_eq (hpw_n i (by omega)), nI_1]
    exact ih
theorem R266 : xRun xT 266 0 [(0, .int (nI 8)), (1, .int (nI 1)), (2, .int (nI 2))] [] (S, I, J, D, R) b Q = Q (.ok (some (.double (hpw 8)))) (S, I, J, D, R) b := by
  rw [e266_0]
  simp only [B266_0, xSeq, i_push, i_load, i_iload, i_lload, i_dload, i_aload, i_istore, i_astore, i_lstore, i_dstore, i_iinc, i_ii, i_iiz, i_ll, i_llz, i_lli, i_li, i_i, i_l, i_i2l, i_l2i, i_dup, i_dup2, i_dup2w, i_dupx1, i_pop, i_pop2, i_goto, i_ifc, i_icmp, i_getI, i_getL, i_getR, i_putI, i_putZ, i_putL, i_putR, i_aldI, i_aldB, i_aldL, i_aldD, i_astI, i_astL, i_astD, i_alen, i_ret, i_iret, i_zret, i_lret, i_fret, i_dret, i_aret, i_invS0, i_invV0, i_m2, i_m1, i_ml, i_obj, lk, lkp, stf1, stf2, Value.category, rV, xTo, lv_args, xCk, xCat, xRc, xAk, hg_S, hg_I, hg_J, hg_D, hg_R, hs_I, hs_J, hs_D, hs_R, uI_at, uJ_at, uD_at, uR_at, List.take_succ_cons, List.take_zero, List.drop_succ_cons, List.drop_zero, List.reverse_cons, List.reverse_nil, List.nil_append, List.cons_append, List.map_cons, List.map_nil, List.sum_cons, List.sum_nil, List.length_cons, List.length_nil, Option.toList_some, Option.toList_none, true_and, and_true, false_and, and_false, true_implies, false_implies, implies_true, not_true_eq_false, not_false_eq_true, ne_eq, if_true, if_false, Bool.and_true, Bool.true_and, decide_true, decide_false, reduceIte, reduceCtorEq, Bool.and_self, Bool.and_eq_true, decide_eq_true_eq, and_self, true_or, or_true, false_or, or_false, Nat.zero_add, Nat.add_zero, eq_self, Nat.reduceEqDiff, Nat.reduceLeDiff, Nat.reduceLT, Nat.reduceAdd, Nat.reduceSub, Nat.reduceMul]
  exact R266_5 8 0 rfl
theorem R185_35 (hL : LC S R) (h7 : I 110 7 = nI 1) (h8 : I 110 8 = nI 2) : xRun xT 185 35 [(0, .ref 100), (2, .int (nI 8))] [] (S, I, J, D, R) b Q = Q (.ok (some (.double (hpw 8)))) (S, I, J, D, R) b := by
  rw [e185_35]
  simp only [B185_35, xSeq, i_push, i_load, i_iload, i_lload, i_dload, i_aload, i_istore, i_astore, i_lstore, i_dstore, i_iinc, i_ii, i_iiz, i_ll, i_llz, i_lli, i_li, i_i, i_l, i_i2l, i_l2i, i_dup, i_dup2, i_dup2w, i_dupx1, i_pop, i_pop2, i_goto, i_ifc, i_icmp, i_getI, i_getL, i_getR, i_putI, i_putZ, i_putL, i_putR, i_aldI, i_aldB, i_aldL, i_aldD, i_astI, i_astL, i_astD, i_alen, i_ret, i_iret, i_zret, i_lret, i_fret, i_dret, i_aret, i_invS0, i_invV0, i_m2, i_m1, i_ml, i_obj, lk, lkp, stf1, stf2, Value.category, rV, xTo, lv_args, xCk, xCat, xRc, xAk, hg_S, hg_I, hg_J, hg_D, hg_R, hs_I, hs_J, hs_D, hs_R, uI_at, uJ_at, uD_at, uR_at, List.take_succ_cons, List.take_zero, List.drop_succ_cons, List.drop_zero, List.reverse_cons, List.reverse_nil, List.nil_append, List.cons_append, List.map_cons, List.map_nil, List.sum_cons, List.sum_nil, List.length_cons, List.length_nil, Option.toList_some, Option.toList_none, true_and, and_true, false_and, and_false, true_implies, false_implies, implies_true, not_true_eq_false, not_false_eq_true, ne_eq, if_true, if_false, Bool.and_true, Bool.true_and, decide_true, decide_false, reduceIte, reduceCtorEq, Bool.and_self, Bool.and_eq_true, decide_eq_true_eq, and_self, true_or, or_true, false_or, or_false, Nat.zero_add, Nat.add_zero, eq_self, Nat.reduceEqDiff, Nat.reduceLeDiff, Nat.reduceLT, Nat.reduceAdd, Nat.reduceSub, Nat.reduceMul]
  exact R185_40 hL h7 h8 8 0 rfl
end
/-! ===== bondMean ===== -/
section
variable {S : xS} {I : xI} {J : xJ} {D : xDb} {R : xR} {b : Nat × Nat} {Q : xQ} {n m : Nat} {fi se dg : Nat → Nat} {sb : Nat → Nat → Nat}
theorem al32_eq {c : UInt32} (h : isNaN32 c = false) {P : UInt32 → Prop} : (∀ v : UInt32, alike32 v c = true → P v) = P c := by
  apply propext
  constructor
  · intro k
    exact k c (by unfold alike32; simp)
  · intro k v hv
    unfold alike32 at hv
    rw [h] at hv
    have : v = c := by simpa using hv
    rw [this]
    exact k
theorem R131_4 (hL : LC S R) (hG : GR n m fi se dg sb) (hC : CL I n m fi se dg sb) {s : Nat} (hJ : J 110 4 = lN s) (hs : s < 2 ^ 64) : ∀ (j i : Nat), i + j = m → xRun xT 131 4 [(0, .ref 100), (1, .int (ps i (I 111) fi se s)), (2, .int (nI i))] [] (S, I, J, D, R) b Q = xRun xT 131 39 [(0, .ref 100), (1, .int (ps m (I 111) fi se s))] [] (S, I, J, D, R) b Q
  | 0, i, hi => by
    obtain ⟨g0, g1, g2, g3, g4, g5, g6⟩ := hG
    obtain ⟨c1, c2, c3, c4, c5, c6⟩ := hC
    have e : i = m := by omega
    subst e
    rw [e131_4]
    simp only [B131_4, xSeq, i_push, i_load, i_iload, i_lload, i_dload, i_aload, i_istore, i_astore, i_lstore, i_dstore, i_iinc, i_ii, i_iiz, i_ll, i_llz, i_lli, i_li, i_i, i_l, i_i2l, i_l2i, i_dup, i_dup2, i_dup2w, i_dupx1, i_pop, i_pop2, i_goto, i_ifc, i_icmp, i_getI, i_getL, i_getR, i_putI, i_putZ, i_putL, i_putR, i_aldI, i_aldB, i_aldL, i_aldD, i_astI, i_astL, i_astD, i_alen, i_ret, i_iret, i_zret, i_lret, i_fret, i_dret, i_aret, i_invS0, i_invV0, i_m2, i_m1, i_ml, i_obj, lk, lkp, stf1, stf2, Value.category, rV, xTo, lv_args, xCk, xCat, xRc, xAk, hg_S, hg_I, hg_J, hg_D, hg_R, hs_I, hs_J, hs_D, hs_R, uI_at, uJ_at, uD_at, uR_at, List.take_succ_cons, List.take_zero, List.drop_succ_cons, List.drop_zero, List.reverse_cons, List.reverse_nil, List.nil_append, List.cons_append, List.map_cons, List.map_nil, List.sum_cons, List.sum_nil, List.length_cons, List.length_nil, Option.toList_some, Option.toList_none, true_and, and_true, false_and, and_false, true_implies, false_implies, implies_true, not_true_eq_false, not_false_eq_true, ne_eq, if_true, if_false, Bool.and_true, Bool.true_and, decide_true, decide_false, reduceIte, reduceCtorEq, Bool.and_self, Bool.and_eq_true, decide_eq_true_eq, and_self, true_or, or_true, false_or, or_false, Nat.zero_add, Nat.add_zero, eq_self, Nat.reduceEqDiff, Nat.reduceLeDiff, Nat.reduceLT, Nat.reduceAdd, Nat.reduceSub, Nat.reduceMul, LC_out hL, c2, nI_leP (show i < 2147483648 by omega) (show i < 2147483648 by omega), Nat.le_refl]
  | j + 1, i, hi => by
    have ih := R131_4 hL hG hC hJ hs j (i + 1) (by omega)
    have r := fun (b : Nat × Nat) (Q : xQ) => R75 (J := J) (D := D) (b := b) (Q := Q) hL hG hC hs (show i < m by omega)
    obtain ⟨g0, g1, g2, g3, g4, g5, g6⟩ := hG
    obtain ⟨c1, c2, c3, c4, c5, c6⟩ := hC
    rw [ps, sm] at ih
    rw [e131_4]
    simp only [B131_4, xSeq, i_push, i_load, i_iload, i_lload, i_dload, i_aload, i_istore, i_astore, i_lstore, i_dstore, i_iinc, i_ii, i_iiz, i_ll, i_llz, i_lli, i_li, i_i, i_l, i_i2l, i_l2i, i_dup, i_dup2, i_dup2w, i_dupx1, i_pop, i_pop2, i_goto, i_ifc, i_icmp, i_getI, i_getL, i_getR, i_putI, i_putZ, i_putL, i_putR, i_aldI, i_aldB, i_aldL, i_aldD, i_astI, i_astL, i_astD, i_alen, i_ret, i_iret, i_zret, i_lret, i_fret, i_dret, i_aret, i_invS0, i_invV0, i_m2, i_m1, i_ml, i_obj, lk, lkp, stf1, stf2, Value.category, rV, xTo, lv_args, xCk, xCat, xRc, xAk, hg_S, hg_I, hg_J, hg_D, hg_R, hs_I, hs_J, hs_D, hs_R, uI_at, uJ_at, uD_at, uR_at, List.take_succ_cons, List.take_zero, List.drop_succ_cons, List.drop_zero, List.reverse_cons, List.reverse_nil, List.nil_append, List.cons_append, List.map_cons, List.map_nil, List.sum_cons, List.sum_nil, List.length_cons, List.length_nil, Option.toList_some, Option.toList_none, true_and, and_true, false_and, and_false, true_implies, false_implies, implies_true, not_true_eq_false, not_false_eq_true, ne_eq, if_true, if_false, Bool.and_true, Bool.true_and, decide_true, decide_false, reduceIte, reduceCtorEq, Bool.and_self, Bool.and_eq_true, decide_eq_true_eq, and_self, true_or, or_true, false_or, or_false, Nat.zero_add, Nat.add_zero, eq_self, Nat.reduceEqDiff, Nat.reduceLeDiff, Nat.reduceLT, Nat.reduceAdd, Nat.reduceSub, Nat.reduceMul, LC_out hL, c2, nI_leP (show m < 2147483648 by omega) (show i < 2147483648 by omega), show (m ≤ i) = False from eq_false (by omega), hJ, r, nI_1]
    exact ih
theorem R131_0 (hL : LC S R) (hG : GR n m fi se dg sb) (hC : CL I n m fi se dg sb) {s : Nat} (hJ : J 110 4 = lN s) (hs : s < 2 ^ 64) : xRun xT 131 0 [(0, .ref 100)] [] (S, I, J, D, R) b Q = xRun xT 131 39 [(0, .ref 100), (1, .int (ps m (I 111) fi se s))] [] (S, I, J, D, R) b Q := by
  rw [e131_0]
  simp only [B131_0, xSeq, i_push, i_load, i_iload, i_lload, i_dload, i_aload, i_istore, i_astore, i_lstore, i_dstore, i_iinc, i_ii, i_iiz, i_ll, i_llz, i_lli, i_li, i_i, i_l, i_i2l, i_l2i, i_dup, i_dup2, i_dup2w, i_dupx1, i_pop, i_pop2, i_goto, i_ifc, i_icmp, i_getI, i_getL, i_getR, i_putI, i_putZ, i_putL, i_putR, i_aldI, i_aldB, i_aldL, i_aldD, i_astI, i_astL, i_astD, i_alen, i_ret, i_iret, i_zret, i_lret, i_fret, i_dret, i_aret, i_invS0, i_invV0, i_m2, i_m1, i_ml, i_obj, lk, lkp, stf1, stf2, Value.category, rV, xTo, lv_args, xCk, xCat, xRc, xAk, hg_S, hg_I, hg_J, hg_D, hg_R, hs_I, hs_J, hs_D, hs_R, uI_at, uJ_at, uD_at, uR_at, List.take_succ_cons, List.take_zero, List.drop_succ_cons, List.drop_zero, List.reverse_cons, List.reverse_nil, List.nil_append, List.cons_append, List.map_cons, List.map_nil, List.sum_cons, List.sum_nil, List.length_cons, List.length_nil, Option.toList_some, Option.toList_none, true_and, and_true, false_and, and_false, true_implies, false_implies, implies_true, not_true_eq_false, not_false_eq_true, ne_eq, if_true, if_false, Bool.and_true, Bool.true_and, decide_true, decide_false, reduceIte, reduceCtorEq, Bool.and_self, Bool.and_eq_true, decide_eq_true_eq, and_self, true_or, or_true, false_or, or_false, Nat.zero_add, Nat.add_zero, eq_self, Nat.reduceEqDiff, Nat.reduceLeDiff, Nat.reduceLT, Nat.reduceAdd, Nat.reduceSub, Nat.reduceMul]
  exact R131_4 hL hG hC hJ hs m 0 (by omega)
theorem R263_9 (hL : LM S R) (hG : GR n m fi se dg sb) (hC : CM I n m fi se dg sb) {s : Nat} (hJ : J 200 3 = lN s) (hs : s < 2 ^ 64) : ∀ (j i : Nat), i + j = m → xRun xT 263 9 [(0, .ref 200), (1, .int (ps i (fun k => I 300 (16 + k)) fi se s)), (2, .int (nI i))] [] (S, I, J, D, R) b Q = xRun xT 263 38 [(0, .ref 200), (1, .int (ps m (fun k => I 300 (16 + k)) fi se s))] [] (S, I, J, D, R) b Q
  | 0, i, hi => by
    obtain ⟨g0, g1, g2, g3, g4, g5, g6⟩ := hG
    obtain ⟨c1, c2, c3, c4, c5, c6⟩ := hC
    have e : i = m := by omega
    subst e
    rw [e263_9]
    simp only [B263_9, xSeq, i_push, i_load, i_iload, i_lload, i_dload, i_aload, i_istore, i_astore, i_lstore, i_dstore, i_iinc, i_ii, i_iiz, i_ll, i_llz, i_lli, i_li, i_i, i_l, i_i2l, i_l2i, i_dup, i_dup2, i_dup2w, i_dupx1, i_pop, i_pop2, i_goto, i_ifc, i_icmp, i_getI, i_getL, i_getR, i_putI, i_putZ, i_putL, i_putR, i_aldI, i_aldB, i_aldL, i_aldD, i_astI, i_astL, i_astD, i_alen, i_ret, i_iret, i_zret, i_lret, i_fret, i_dret, i_aret, i_invS0, i_invV0, i_m2, i_m1, i_ml, i_obj, lk, lkp, stf1, stf2, Value.category, rV, xTo, lv_args, xCk, xCat, xRc, xAk, hg_S, hg_I, hg_J, hg_D, hg_R, hs_I, hs_J, hs_D, hs_R, uI_at, uJ_at, uD_at, uR_at, List.take_succ_cons, List.take_zero, List.drop_succ_cons, List.drop_zero, List.reverse_cons, List.reverse_nil, List.nil_append, List.cons_append, List.map_cons, List.map_nil, List.sum_cons, List.sum_nil, List.length_cons, List.length_nil, Option.toList_some, Option.toList_none, true_and, and_true, false_and, and_false, true_implies, false_implies, implies_true, not_true_eq_false, not_false_eq_true, ne_eq, if_true, if_false, Bool.and_true, Bool.true_and, decide_true, decide_false, reduceIte, reduceCtorEq, Bool.and_self, Bool.and_eq_true, decide_eq_true_eq, and_self, true_or, or_true, false_or, or_false, Nat.zero_add, Nat.add_zero, eq_self, Nat.reduceEqDiff, Nat.reduceLeDiff, Nat.reduceLT, Nat.reduceAdd, Nat.reduceSub, Nat.reduceMul, LM_out hL, xi144_0, ix_0, xi144_1, ix_1, xi144_2, ix_2, xi144_3, ix_3, xi144_4, ix_4, xi144_5, ix_5, xi144_6, ix_6, xi144_7, ix_7, xi144_8, ix_8, xi144_9, ix_9, xi144_10, ix_10, c2, nI_leP (show i < 2147483648 by omega) (show i < 2147483648 by omega), Nat.le_refl]
  | j + 1, i, hi => by
    have ih := R263_9 hL hG hC hJ hs j (i + 1) (by omega)
    have r := fun (b : Nat × Nat) (Q : xQ) => R237 (J := J) (D := D) (b := b) (Q := Q) hL hG hC hs (show i < m by omega)
    obtain ⟨g0, g1, g2, g3, g4, g5, g6⟩ := hG
    obtain ⟨c1, c2, c3, c4, c5, c6⟩ := hC
    rw [ps, sm] at ih
    rw [e263_9]
    simp only [B263_9, xSeq, i_push, i_load, i_iload, i_lload, i_dload, i_aload, i_istore, i_astore, i_lstore, i_dstore, i_iinc, i_ii, i_iiz, i_ll, i_llz, i_lli, i_li, i_i, i_l, i_i2l, i_l2i, i_dup, i_dup2, i_dup2w, i_dupx1, i_pop, i_pop2, i_goto, i_ifc, i_icmp, i_getI, i_getL, i_getR, i_putI, i_putZ, i_putL, i_putR, i_aldI, i_aldB, i_aldL, i_aldD, i_astI, i_astL, i_astD, i_alen, i_ret, i_iret, i_zret, i_lret, i_fret, i_dret, i_aret, i_invS0, i_invV0, i_m2, i_m1, i_ml, i_obj, lk, lkp, stf1, stf2, Value.category, rV, xTo, lv_args, xCk, xCat, xRc, xAk, hg_S, hg_I, hg_J, hg_D, hg_R, hs_I, hs_J, hs_D, hs_R, uI_at, uJ_at, uD_at, uR_at, List.take_succ_cons, List.take_zero, List.drop_succ_cons, List.drop_zero, List.reverse_cons, List.reverse_nil, List.nil_append, List.cons_append, List.map_cons, List.map_nil, List.sum_cons, List.sum_nil, List.length_cons, List.length_nil, Option.toList_some, Option.toList_none, true_and, and_true, false_and, and_false, true_implies, false_implies, implies_true, not_true_eq_false, not_false_eq_true, ne_eq, if_true, if_false, Bool.and_true, Bool.true_and, decide_true, decide_false, reduceIte, reduceCtorEq, Bool.and_self, Bool.and_eq_true, decide_eq_true_eq, and_self, true_or, or_true, false_or, or_false, Nat.zero_add, Nat.add_zero, eq_self, Nat.reduceEqDiff, Nat.reduceLeDiff, Nat.reduceLT, Nat.reduceAdd, Nat.reduceSub, Nat.reduceMul, LM_out hL, xi144_0, ix_0, xi144_1, ix_1, xi144_2, ix_2, xi144_3, ix_3, xi144_4, ix_4, xi144_5, ix_5, xi144_6, ix_6, xi144_7, ix_7, xi144_8, ix_8, xi144_9, ix_9, xi144_10, ix_10, c2, nI_leP (show m < 2147483648 by omega) (show i < 2147483648 by omega), show (m ≤ i) = False from eq_false (by omega), hJ, r, nI_1]
    exact ih
theorem R263_z (hL : LM S R) (hG : GR n m fi se dg sb) (hC : CM I n m fi se dg sb) {s : Nat} (hJ : J 200 3 = lN s) (hs : s < 2 ^ 64) : xRun xT 263 9 [(0, .ref 200), (1, .int 0), (2, .int 0)] [] (S, I, J, D, R) b Q = xRun xT 263 38 [(0, .ref 200), (1, .int (ps m (fun k => I 300 (16 + k)) fi se s))] [] (S, I, J, D, R) b Q := R263_9 hL hG hC hJ hs m 0 (by omega)
theorem ps_32 : ps 32 (fun _ => 1) (fE B4) (sE B4) 65535 = nI 32 := by decide +kernel
theorem ps_1 {st : Nat → Int32} (h : ∀ k, k < 32 → st k = 1) : ps 32 st (fE B4) (sE B4) 65535 = nI 32 := by
  rw [← ps_32]
  unfold ps
  exact sm_congr (fun k hk => by rw [h k hk])
theorem f1_n : isNaN32 (FP.fdiv (FP.i2f (nI 32)) (FP.i2f (nI 32))) = false := by decide +kernel
theorem f1_d : isNaN64 (FP.f2d (FP.fdiv (FP.i2f (nI 32)) (FP.i2f (nI 32)))) = false := by decide +kernel
theorem f1_c : Op.cmpValue (FP.dcmp (FP.f2d (FP.fdiv (FP.i2f (nI 32)) (FP.i2f (nI 32)))) (FP.f2d (FP.fdiv (FP.i2f (nI 32)) (FP.i2f (nI 32))))) .l = 0 := by decide +kernel
end
/-! ===== steps ===== -/
section
variable {S : xS} {I : xI} {J : xJ} {D : xDb} {R : xR} {b : Nat × Nat} {Q : xQ} {n m : Nat} {fi se dg : Nat → Nat} {sb : Nat → Nat → Nat}
theorem i32_ac (x y v : Int32) : x + y - v = x - v + y := by grind
theorem R162_s (hL : LC S R) (hG : GR n m fi se dg sb) (hC : CL I n m fi se dg sb) {a bb : Nat} (hA : I 110 7 = nI a) (hB : I 110 8 = nI bb) (ha : a < 2147483648) (h0 : 0 < bb) (hb : bb < 2147483648) {K i t' : Nat} {v : Int32} {z z' : xG} (hK : K < 2147483648) (hi : i < K) (hg : z.2.1 < 2147483648) (ez : uJ (cJ J z) 110 5 (lN (nx z.2.1)) = cJ J z') (eI : cI I z = cI I z') (et : dw z.2.1 n = t') (ht : t' < n) (hs : z'.1 < 2 ^ 64) (hg2 : z'.2.1 < 2147483648) :
    xRun xT 162 19 [(0, .ref 100), (1, .int (nI K)), (2, .int v), (3, .int (nI i))] [] (S, cI I z, cJ J z, D, R) b Q = xRun xT 162 19 [(0, .ref 100), (1, .int (nI K)), (2, .int v), (3, .int (nI (i + 1)))] [] (S, cI I (tS (I 110 6) (I 111) fi se dg sb (I 110 9) a bb t' z'), cJ J (tS (I 110 6) (I 111) fi se dg sb (I 110 9) a bb t' z'), D, R) b Q := by
  have hn := hG.2.1
  have c2 : cI I z 102 2 = nI n := hC.1
  have h84 : ∀ (b : Nat × Nat) (Q : xQ), xRun xT 84 0 [(0, .ref 110), (1, .int (nI n))] [] (S, cI I z, cJ J z, D, R) b Q = Q (.ok (some (.int (nI t')))) (S, cI I z', cJ J z', D, R) b := fun b Q => by
    rw [R84 (I := cI I z) (J := cJ J z) (D := D) hL hg rfl hG.1 (show n < 2147483648 by omega), ez, et, eI]
  have h81 := fun (b : Nat × Nat) (Q : xQ) => R81 (J := J) (D := D) (b := b) (Q := Q) hL hG hC hA hB ha h0 hb hs hg2 ht
  clear ez eI et
  rw [e162_19]
  simp only [B162_19, xSeq, i_push, i_load, i_iload, i_lload, i_dload, i_aload, i_istore, i_astore, i_lstore, i_dstore, i_iinc, i_ii, i_iiz, i_ll, i_llz, i_lli, i_li, i_i, i_l, i_i2l, i_l2i, i_dup, i_dup2, i_dup2w, i_dupx1, i_pop, i_pop2, i_goto, i_ifc, i_icmp, i_getI, i_getL, i_getR, i_putI, i_putZ, i_putL, i_putR, i_aldI, i_aldB, i_aldL, i_aldD, i_astI, i_astL, i_astD, i_alen, i_ret, i_iret, i_zret, i_lret, i_fret, i_dret, i_aret, i_invS0, i_invV0, i_m2, i_m1, i_ml, i_obj, lk, lkp, stf1, stf2, Value.category, rV, xTo, lv_args, xCk, xCat, xRc, xAk, hg_S, hg_I, hg_J, hg_D, hg_R, hs_I, hs_J, hs_D, hs_R, uI_at, uJ_at, uD_at, uR_at, List.take_succ_cons, List.take_zero, List.drop_succ_cons, List.drop_zero, List.reverse_cons, List.reverse_nil, List.nil_append, List.cons_append, List.map_cons, List.map_nil, List.sum_cons, List.sum_nil, List.length_cons, List.length_nil, Option.toList_some, Option.toList_none, true_and, and_true, false_and, and_false, true_implies, false_implies, implies_true, not_true_eq_false, not_false_eq_true, ne_eq, if_true, if_false, Bool.and_true, Bool.true_and, decide_true, decide_false, reduceIte, reduceCtorEq, Bool.and_self, Bool.and_eq_true, decide_eq_true_eq, and_self, true_or, or_true, false_or, or_false, Nat.zero_add, Nat.add_zero, eq_self, Nat.reduceEqDiff, Nat.reduceLeDiff, Nat.reduceLT, Nat.reduceAdd, Nat.reduceSub, Nat.reduceMul, nI_leP hK (show i < 2147483648 by omega), show (K ≤ i) = False from eq_false (by omega), LC_out hL, c2, h84, h81, nI_1]
theorem R162_19 (hL : LC S R) (hG : GR n m fi se dg sb) (hC : CL I n m fi se dg sb) {a bb : Nat} (hA : I 110 7 = nI a) (hB : I 110 8 = nI bb) (ha : a < 2147483648) (h0 : 0 < bb) (hb : bb < 2147483648) {K : Nat} (hK : K < 2147483648) {v : Int32} : ∀ (j i : Nat) (z : xG), i + j = K → z.1 < 2 ^ n → z.2.1 < 2147483648 →
    xRun xT 162 19 [(0, .ref 100), (1, .int (nI K)), (2, .int v), (3, .int (nI i))] [] (S, cI I z, cJ J z, D, R) b Q = Q (.ok (some (.int ((tD (I 110 6) (I 111) fi se dg sb (I 110 9) a bb n j z).2.2.2 - v)))) (S, cI I (tD (I 110 6) (I 111) fi se dg sb (I 110 9) a bb n j z), cJ J (tD (I 110 6) (I 111) fi se dg sb (I 110 9) a bb n j z), D, R) b
  | 0, i, z, hi, hs, hg => by
    have e : i = K := by omega
    subst e
    rw [e162_19]
    simp only [B162_19, xSeq, i_push, i_load, i_iload, i_lload, i_dload, i_aload, i_istore, i_astore, i_lstore, i_dstore, i_iinc, i_ii, i_iiz, i_ll, i_llz, i_lli, i_li, i_i, i_l, i_i2l, i_l2i, i_dup, i_dup2, i_dup2w, i_dupx1, i_pop, i_pop2, i_goto, i_ifc, i_icmp, i_getI, i_getL, i_getR, i_putI, i_putZ, i_putL, i_putR, i_aldI, i_aldB, i_aldL, i_aldD, i_astI, i_astL, i_astD, i_alen, i_ret, i_iret, i_zret, i_lret, i_fret, i_dret, i_aret, i_invS0, i_invV0, i_m2, i_m1, i_ml, i_obj, lk, lkp, stf1, stf2, Value.category, rV, xTo, lv_args, xCk, xCat, xRc, xAk, hg_S, hg_I, hg_J, hg_D, hg_R, hs_I, hs_J, hs_D, hs_R, uI_at, uJ_at, uD_at, uR_at, List.take_succ_cons, List.take_zero, List.drop_succ_cons, List.drop_zero, List.reverse_cons, List.reverse_nil, List.nil_append, List.cons_append, List.map_cons, List.map_nil, List.sum_cons, List.sum_nil, List.length_cons, List.length_nil, Option.toList_some, Option.toList_none, true_and, and_true, false_and, and_false, true_implies, false_implies, implies_true, not_true_eq_false, not_false_eq_true, ne_eq, if_true, if_false, Bool.and_true, Bool.true_and, decide_true, decide_false, reduceIte, reduceCtorEq, Bool.and_self, Bool.and_eq_true, decide_eq_true_eq, and_self, true_or, or_true, false_or, or_false, Nat.zero_add, Nat.add_zero, eq_self, Nat.reduceEqDiff, Nat.reduceLeDiff, Nat.reduceLT, Nat.reduceAdd, Nat.reduceSub, Nat.reduceMul, nI_leP hK hK, Nat.le_refl, e162_52, B162_52, LC_out hL, tD]
    rfl
  | j + 1, i, z, hi, hs, hg => by
    have h64 : z.1 < 2 ^ 64 := Nat.lt_of_lt_of_le hs (Nat.pow_le_pow_right (by decide) hG.2.1)
    have hd := dw_lt z.2.1 hG.1
    obtain ⟨k1, k2⟩ := tS_ok (F := I 110 6) (st := I 111) (fi := fi) (se := se) (dg := dg) (sb := sb) (rule := I 110 9) (a := a) (bb := bb) (N := n) (z := (z.1, nx z.2.1, z.2.2.1, z.2.2.2)) hd hs (nx_lt z.2.1)
    rw [R162_s (z' := (z.1, nx z.2.1, z.2.2.1, z.2.2.2)) (t' := dw z.2.1 n) hL hG hC hA hB ha h0 hb hK (by omega) hg (cJ_5 _ _ _) (cI_g I z z.1 (nx z.2.1)).symm rfl hd h64 (nx_lt z.2.1), tD]
    exact R162_19 hL hG hC hA hB ha h0 hb hK j (i + 1) _ (by omega) k1 k2
theorem R274_s (hL : LM S R) (hG : GR n m fi se dg sb) (hC : CM I n m fi se dg sb) {a bb : Nat} (hA : I 300 2 = nI a) (hB : I 300 3 = nI bb) (ha : a < 2147483648) (h0 : 0 < bb) (hb : bb < 2147483648) (hr : I 300 5 = 0 ∨ I 300 5 = 1 ∨ I 300 5 = 2) {K i t' : Nat} {v : Int32} {z z' : xG} (hK : K < 2147483648) (hi : i < K) (hg : z.2.1 < 2147483648) (ez : uJ (mJ J z) 200 4 (lN (nx z.2.1)) = mJ J z') (eI : mI I z = mI I z') (et : dw z.2.1 n = t') (ht : t' < n) (hs : z'.1 < 2 ^ 64) (hg2 : z'.2.1 < 2147483648) :
    xRun xT 274 36 [(0, .ref 200), (1, .int (nI K)), (2, .int v), (3, .int (nI i))] [] (S, mI I z, mJ J z, D, R) b Q = xRun xT 274 36 [(0, .ref 200), (1, .int (nI K)), (2, .int (v + (if (tR (I 300 5) (dl (I 300 4) (fun k => I 300 (16 + k)) fi se dg sb z'.1 t') a bb z'.2.1).1 = true then 1 else 0))), (3, .int (nI (i + 1)))] [] (S, mI I (tS (I 300 4) (fun k => I 300 (16 + k)) fi se dg sb (I 300 5) a bb t' z'), mJ J (tS (I 300 4) (fun k => I 300 (16 + k)) fi se dg sb (I 300 5) a bb t' z'), D, R) b Q := by
  have hn := hG.2.1
  have c2 : mI I z 300 10 = nI n := hC.1
  have h273 : ∀ (b : Nat × Nat) (Q : xQ), xRun xT 273 0 [(0, .ref 200), (1, .int (nI n))] [] (S, mI I z, mJ J z, D, R) b Q = Q (.ok (some (.int (nI t')))) (S, mI I z', mJ J z', D, R) b := fun b Q => by
    rw [R273 (I := mI I z) (J := mJ J z) (D := D) hL hg rfl hG.1 (show n < 2147483648 by omega), ez, et, eI]
  have h271 := fun (b : Nat × Nat) (Q : xQ) => R271 (J := J) (D := D) (b := b) (Q := Q) hL hG hC hA hB ha h0 hb hr hs hg2 ht
  clear ez eI et
  rw [e274_36]
  simp only [B274_36, xSeq, i_push, i_load, i_iload, i_lload, i_dload, i_aload, i_istore, i_astore, i_lstore, i_dstore, i_iinc, i_ii, i_iiz, i_ll, i_llz, i_lli, i_li, i_i, i_l, i_i2l, i_l2i, i_dup, i_dup2, i_dup2w, i_dupx1, i_pop, i_pop2, i_goto, i_ifc, i_icmp, i_getI, i_getL, i_getR, i_putI, i_putZ, i_putL, i_putR, i_aldI, i_aldB, i_aldL, i_aldD, i_astI, i_astL, i_astD, i_alen, i_ret, i_iret, i_zret, i_lret, i_fret, i_dret, i_aret, i_invS0, i_invV0, i_m2, i_m1, i_ml, i_obj, lk, lkp, stf1, stf2, Value.category, rV, xTo, lv_args, xCk, xCat, xRc, xAk, hg_S, hg_I, hg_J, hg_D, hg_R, hs_I, hs_J, hs_D, hs_R, uI_at, uJ_at, uD_at, uR_at, List.take_succ_cons, List.take_zero, List.drop_succ_cons, List.drop_zero, List.reverse_cons, List.reverse_nil, List.nil_append, List.cons_append, List.map_cons, List.map_nil, List.sum_cons, List.sum_nil, List.length_cons, List.length_nil, Option.toList_some, Option.toList_none, true_and, and_true, false_and, and_false, true_implies, false_implies, implies_true, not_true_eq_false, not_false_eq_true, ne_eq, if_true, if_false, Bool.and_true, Bool.true_and, decide_true, decide_false, reduceIte, reduceCtorEq, Bool.and_self, Bool.and_eq_true, decide_eq_true_eq, and_self, true_or, or_true, false_or, or_false, Nat.zero_add, Nat.add_zero, eq_self, Nat.reduceEqDiff, Nat.reduceLeDiff, Nat.reduceLT, Nat.reduceAdd, Nat.reduceSub, Nat.reduceMul, xi144_0, ix_0, xi144_1, ix_1, xi144_2, ix_2, xi144_3, ix_3, xi144_4, ix_4, xi144_5, ix_5, xi144_6, ix_6, xi144_7, ix_7, xi144_8, ix_8, xi144_9, ix_9, xi144_10, ix_10, nI_leP hK (show i < 2147483648 by omega), show (K ≤ i) = False from eq_false (by omega), LM_out hL, c2, h273, h271]
  cases (tR (I 300 5) (dl (I 300 4) (fun k => I 300 (16 + k)) fi se dg sb z'.1 t') a bb z'.2.1).1
  · simp only [xSeq, i_push, i_load, i_iload, i_lload, i_dload, i_aload, i_istore, i_astore, i_lstore, i_dstore, i_iinc, i_ii, i_iiz, i_ll, i_llz, i_lli, i_li, i_i, i_l, i_i2l, i_l2i, i_dup, i_dup2, i_dup2w, i_dupx1, i_pop, i_pop2, i_goto, i_ifc, i_icmp, i_getI, i_getL, i_getR, i_putI, i_putZ, i_putL, i_putR, i_aldI, i_aldB, i_aldL, i_aldD, i_astI, i_astL, i_astD, i_alen, i_ret, i_iret, i_zret, i_lret, i_fret, i_dret, i_aret, i_invS0, i_invV0, i_m2, i_m1, i_ml, i_obj, lk, lkp, stf1, stf2, Value.category, rV, xTo, lv_args, xCk, xCat, xRc, xAk, hg_S, hg_I, hg_J, hg_D, hg_R, hs_I, hs_J, hs_D, hs_R, uI_at, uJ_at, uD_at, uR_at, List.take_succ_cons, List.take_zero, List.drop_succ_cons, List.drop_zero, List.reverse_cons, List.reverse_nil, List.nil_append, List.cons_append, List.map_cons, List.map_nil, List.sum_cons, List.sum_nil, List.length_cons, List.length_nil, Option.toList_some, Option.toList_none, true_and, and_true, false_and, and_false, true_implies, false_implies, implies_true, not_true_eq_false, not_false_eq_true, ne_eq, if_true, if_false, Bool.and_true, Bool.true_and, decide_true, decide_false, reduceIte, reduceCtorEq, Bool.and_self, Bool.and_eq_true, decide_eq_true_eq, and_self, true_or, or_true, false_or, or_false, Nat.zero_add, Nat.add_zero, eq_self, Nat.reduceEqDiff, Nat.reduceLeDiff, Nat.reduceLT, Nat.reduceAdd, Nat.reduceSub, Nat.reduceMul, e274_64, B274_64, e274_65, B274_65, nI_1, Bool.false_eq_true]
  · simp only [xSeq, i_push, i_load, i_iload, i_lload, i_dload, i_aload, i_istore, i_astore, i_lstore, i_dstore, i_iinc, i_ii, i_iiz, i_ll, i_llz, i_lli, i_li, i_i, i_l, i_i2l, i_l2i, i_dup, i_dup2, i_dup2w, i_dupx1, i_pop, i_pop2, i_goto, i_ifc, i_icmp, i_getI, i_getL, i_getR, i_putI, i_putZ, i_putL, i_putR, i_aldI, i_aldB, i_aldL, i_aldD, i_astI, i_astL, i_astD, i_alen, i_ret, i_iret, i_zret, i_lret, i_fret, i_dret, i_aret, i_invS0, i_invV0, i_m2, i_m1, i_ml, i_obj, lk, lkp, stf1, stf2, Value.category, rV, xTo, lv_args, xCk, xCat, xRc, xAk, hg_S, hg_I, hg_J, hg_D, hg_R, hs_I, hs_J, hs_D, hs_R, uI_at, uJ_at, uD_at, uR_at, List.take_succ_cons, List.take_zero, List.drop_succ_cons, List.drop_zero, List.reverse_cons, List.reverse_nil, List.nil_append, List.cons_append, List.map_cons, List.map_nil, List.sum_cons, List.sum_nil, List.length_cons, List.length_nil, Option.toList_some, Option.toList_none, true_and, and_true, false_and, and_false, true_implies, false_implies, implies_true, not_true_eq_false, not_false_eq_true, ne_eq, if_true, if_false, Bool.and_true, Bool.true_and, decide_true, decide_false, reduceIte, reduceCtorEq, Bool.and_self, Bool.and_eq_true, decide_eq_true_eq, and_self, true_or, or_true, false_or, or_false, Nat.zero_add, Nat.add_zero, eq_self, Nat.reduceEqDiff, Nat.reduceLeDiff, Nat.reduceLT, Nat.reduceAdd, Nat.reduceSub, Nat.reduceMul, i1_0, e274_65, B274_65, nI_1]
end
/-! ===== steps of the model ===== -/
section
variable {S : xS} {I : xI} {J : xJ} {D : xDb} {R : xR} {b : Nat × Nat} {Q : xQ} {n m : Nat} {fi se dg : Nat → Nat} {sb : Nat → Nat → Nat}
theorem R274_t (hL : LM S R) (hG : GR n m fi se dg sb) (hC : CM I n m fi se dg sb) {a bb : Nat} (hA : I 300 2 = nI a) (hB : I 300 3 = nI bb) (ha : a < 2147483648) (h0 : 0 < bb) (hb : bb < 2147483648) (hr : I 300 5 = 0 ∨ I 300 5 = 1 ∨ I 300 5 = 2) {K i t' : Nat} {v : Int32} {z z' : xG} (hK : K < 2147483648) (hi : i < K) (hg : z.2.1 < 2147483648) (ez : uJ (mJ J z) 200 4 (lN (nx z.2.1)) = mJ J z') (eI : mI I z = mI I z') (et : dw z.2.1 n = t') (ht : t' < n) (hs : z'.1 < 2 ^ 64) (hg2 : z'.2.1 < 2147483648) (ew : z.2.2.2 = z'.2.2.2) :
    xRun xT 274 36 [(0, .ref 200), (1, .int (nI K)), (2, .int (z.2.2.2 - v)), (3, .int (nI i))] [] (S, mI I z, mJ J z, D, R) b Q = xRun xT 274 36 [(0, .ref 200), (1, .int (nI K)), (2, .int ((tS (I 300 4) (fun k => I 300 (16 + k)) fi se dg sb (I 300 5) a bb t' z').2.2.2 - v)), (3, .int (nI (i + 1)))] [] (S, mI I (tS (I 300 4) (fun k => I 300 (16 + k)) fi se dg sb (I 300 5) a bb t' z'), mJ J (tS (I 300 4) (fun k => I 300 (16 + k)) fi se dg sb (I 300 5) a bb t' z'), D, R) b Q := by
  rw [R274_s hL hG hC hA hB ha h0 hb hr hK hi hg ez eI et ht hs hg2, ew]
  have k := tS_fl (F := I 300 4) (st := fun k => I 300 (16 + k)) (fi := fi) (se := se) (dg := dg) (sb := sb) (rule := I 300 5) (a := a) (bb := bb) (z := z') (t := t')
  have h : (tS (I 300 4) (fun k => I 300 (16 + k)) fi se dg sb (I 300 5) a bb t' z').2.2.2 - v = z'.2.2.2 - v + (if (tR (I 300 5) (dl (I 300 4) (fun k => I 300 (16 + k)) fi se dg sb z'.1 t') a bb z'.2.1).1 = true then 1 else 0) := by
    rw [k, i32_ac]
  rw [h]
theorem tD_s (F : Int32) (st : Nat → Int32) (rule : Int32) (a bb j : Nat) (z : xG) : tD F st fi se dg sb rule a bb n (j + 1) z = tD F st fi se dg sb rule a bb n j (tS F st fi se dg sb rule a bb (dw z.2.1 n) (z.1, nx z.2.1, z.2.2.1, z.2.2.2)) := by rw [tD]
theorem x1 (J : xJ) (z : xG) : uJ (mJ J z) 200 4 (lN (nx z.2.1)) = mJ J (z.1, nx z.2.1, z.2.2.1, z.2.2.2) := mJ_4 J z (nx z.2.1)
theorem x2 (I : xI) (z : xG) : mI I z = mI I (z.1, nx z.2.1, z.2.2.1, z.2.2.2) := (mI_g I z z.1 (nx z.2.1)).symm
theorem mk4 (a g : Nat) (u v : Int32) : ∃ z : xG, z = (a, g, u, v) ∧ z.1 = a ∧ z.2.1 = g ∧ z.2.2.2 = v := ⟨_, rfl, rfl, rfl, rfl⟩
theorem R274_36 (hL : LM S R) (hG : GR n m fi se dg sb) (hC : CM I n m fi se dg sb) {a bb : Nat} (hA : I 300 2 = nI a) (hB : I 300 3 = nI bb) (ha : a < 2147483648) (h0 : 0 < bb) (hb : bb < 2147483648) (hr : I 300 5 = 0 ∨ I 300 5 = 1 ∨ I 300 5 = 2) {K : Nat} (hK : K < 2147483648) {v : Int32} : ∀ (j i : Nat) (z : xG), i + j = K → z.1 < 2 ^ n → z.2.1 < 2147483648 →
    xRun xT 274 36 [(0, .ref 200), (1, .int (nI K)), (2, .int (z.2.2.2 - v)), (3, .int (nI i))] [] (S, mI I z, mJ J z, D, R) b Q = Q (.ok (some (.int ((tD (I 300 4) (fun k => I 300 (16 + k)) fi se dg sb (I 300 5) a bb n j z).2.2.2 - v)))) (S, mI I (tD (I 300 4) (fun k => I 300 (16 + k)) fi se dg sb (I 300 5) a bb n j z), mJ J (tD (I 300 4) (fun k => I 300 (16 + k)) fi se dg sb (I 300 5) a bb n j z), D, R) b
  | 0, i, z, hi, hs, hg => by
    have e : i = K := by omega
    subst e
    rw [e274_36]
    simp only [B274_36, xSeq, i_push, i_load, i_iload, i_lload, i_dload, i_aload, i_istore, i_astore, i_lstore, i_dstore, i_iinc, i_ii, i_iiz, i_ll, i_llz, i_lli, i_li, i_i, i_l, i_i2l, i_l2i, i_dup, i_dup2, i_dup2w, i_dupx1, i_pop, i_pop2, i_goto, i_ifc, i_icmp, i_getI, i_getL, i_getR, i_putI, i_putZ, i_putL, i_putR, i_aldI, i_aldB, i_aldL, i_aldD, i_astI, i_astL, i_astD, i_alen, i_ret, i_iret, i_zret, i_lret, i_fret, i_dret, i_aret, i_invS0, i_invV0, i_m2, i_m1, i_ml, i_obj, lk, lkp, stf1, stf2, Value.category, rV, xTo, lv_args, xCk, xCat, xRc, xAk, hg_S, hg_I, hg_J, hg_D, hg_R, hs_I, hs_J, hs_D, hs_R, uI_at, uJ_at, uD_at, uR_at, List.take_succ_cons, List.take_zero, List.drop_succ_cons, List.drop_zero, List.reverse_cons, List.reverse_nil, List.nil_append, List.cons_append, List.map_cons, List.map_nil, List.sum_cons, List.sum_nil, List.length_cons, List.length_nil, Option.toList_some, Option.toList_none, true_and, and_true, false_and, and_false, true_implies, false_implies, implies_true, not_true_eq_false, not_false_eq_true, ne_eq, if_true, if_false, Bool.and_true, Bool.true_and, decide_true, decide_false, reduceIte, reduceCtorEq, Bool.and_self, Bool.and_eq_true, decide_eq_true_eq, and_self, true_or, or_true, false_or, or_false, Nat.zero_add, Nat.add_zero, eq_self, Nat.reduceEqDiff, Nat.reduceLeDiff, Nat.reduceLT, Nat.reduceAdd, Nat.reduceSub, Nat.reduceMul, nI_leP hK hK, Nat.le_refl, e274_73, B274_73, tD]
  | j + 1, i, z, hi, hs, hg => by
    have h64 : z.1 < 2 ^ 64 := Nat.lt_of_lt_of_le hs (Nat.pow_le_pow_right (by decide) hG.2.1)
    obtain ⟨z', hz, a1, a2, a3⟩ := mk4 z.1 (nx z.2.1) z.2.2.1 z.2.2.2
    have q1 : uJ (mJ J z) 200 4 (lN (nx z.2.1)) = mJ J z' := by rw [hz]; exact x1 J z
    have q2 : mI I z = mI I z' := by rw [hz]; exact x2 I z
    have q6 : tD (I 300 4) (fun k => I 300 (16 + k)) fi se dg sb (I 300 5) a bb n (j + 1) z = tD (I 300 4) (fun k => I 300 (16 + k)) fi se dg sb (I 300 5) a bb n j (tS (I 300 4) (fun k => I 300 (16 + k)) fi se dg sb (I 300 5) a bb (dw z.2.1 n) z') := by rw [hz]; exact tD_s _ _ _ _ _ _ _
    clear hz
    have q7 : z'.1 < 2 ^ 64 := by rw [a1]; exact h64
    have q8 : z'.1 < 2 ^ n := by rw [a1]; exact hs
    have q4 : z'.2.1 < 2147483648 := by rw [a2]; exact nx_lt _
    have qd := dw_lt z.2.1 hG.1
    obtain ⟨t', qt⟩ : ∃ t', dw z.2.1 n = t' := ⟨_, rfl⟩
    rw [qt] at q6 qd
    rw [q6]
    have e := R274_t (D := D) (b := b) (Q := Q) (v := v) hL hG hC hA hB ha h0 hb hr hK (show i < K by omega) hg q1 q2 qt qd q7 q4 a3.symm
    obtain ⟨k1, k2⟩ := tS_ok (F := I 300 4) (st := fun k => I 300 (16 + k)) (fi := fi) (se := se) (dg := dg) (sb := sb) (rule := I 300 5) (a := a) (bb := bb) (N := n) (z := z') qd q8 q4
    have ih := R274_36 hL hG hC hA hB ha h0 hb hr hK (v := v) j (i + 1) (tS (I 300 4) (fun k => I 300 (16 + k)) fi se dg sb (I 300 5) a bb t' z') (by omega) k1 k2
    exact e.trans ih
end
/-! ===== visited: printed by 99.visited.py ===== -/
section
section
variable {S : xS} {I : xI} {J : xJ} {D : xDb} {R : xR} {b : Nat × Nat} {Q : xQ} {n : Nat}
theorem R298_7 (hL : LM S R) (hn : (32768 : Int32) = nI n) (hn2 : n = 32768) : ∀ (j i : Nat) (f : Nat → Int32), i + j = n → xRun xT 298 7 [(0, .ref 200), (1, .int (nI i))] [] (S, rI I 342 (fill f 0 i), J, D, R) b Q = xRun xT 298 26 [(0, .ref 200)] [] (S, rI I 342 (fill f 0 n), J, D, R) b Q
  | 0, i, f, hi => by
    have e : i = n := by omega
    subst e
    rw [e298_7]
    simp only [B298_7, xSeq, i_push, i_load, i_iload, i_lload, i_dload, i_aload, i_istore, i_astore, i_lstore, i_dstore, i_iinc, i_ii, i_iiz, i_ll, i_llz, i_lli, i_li, i_i, i_l, i_i2l, i_l2i, i_dup, i_dup2, i_dup2w, i_dupx1, i_pop, i_pop2, i_goto, i_ifc, i_icmp, i_getI, i_getL, i_getR, i_putI, i_putZ, i_putL, i_putR, i_aldI, i_aldB, i_aldL, i_aldD, i_astI, i_astL, i_astD, i_alen, i_ret, i_iret, i_zret, i_lret, i_fret, i_dret, i_aret, i_invS0, i_invV0, i_m2, i_m1, i_ml, i_obj, lk, lkp, stf1, stf2, Value.category, rV, xTo, lv_args, xCk, xCat, xRc, xAk, hg_S, hg_I, hg_J, hg_D, hg_R, hs_I, hs_J, hs_D, hs_R, uI_at, uJ_at, uD_at, uR_at, List.take_succ_cons, List.take_zero, List.drop_succ_cons, List.drop_zero, List.reverse_cons, List.reverse_nil, List.nil_append, List.cons_append, List.map_cons, List.map_nil, List.sum_cons, List.sum_nil, List.length_cons, List.length_nil, Option.toList_some, Option.toList_none, true_and, and_true, false_and, and_false, true_implies, false_implies, implies_true, not_true_eq_false, not_false_eq_true, ne_eq, if_true, if_false, Bool.and_true, Bool.true_and, decide_true, decide_false, reduceIte, reduceCtorEq, Bool.and_self, Bool.and_eq_true, decide_eq_true_eq, and_self, true_or, or_true, false_or, or_false, Nat.zero_add, Nat.add_zero, eq_self, Nat.reduceEqDiff, Nat.reduceLeDiff, Nat.reduceLT, Nat.reduceAdd, Nat.reduceSub, Nat.reduceMul, xi144_0, ix_0, xi144_1, ix_1, xi144_2, ix_2, xi144_3, ix_3, xi144_4, ix_4, xi144_5, ix_5, xi144_6, ix_6, xi144_7, ix_7, xi144_8, ix_8, xi144_9, ix_9, xi144_10, ix_10, LM_out hL, rI_at, hn, nI_leP (show i < 2147483648 by omega) (show i < 2147483648 by omega), Nat.le_refl]
  | j + 1, i, f, hi => by
    rw [e298_7]
    simp only [B298_7, xSeq, i_push, i_load, i_iload, i_lload, i_dload, i_aload, i_istore, i_astore, i_lstore, i_dstore, i_iinc, i_ii, i_iiz, i_ll, i_llz, i_lli, i_li, i_i, i_l, i_i2l, i_l2i, i_dup, i_dup2, i_dup2w, i_dupx1, i_pop, i_pop2, i_goto, i_ifc, i_icmp, i_getI, i_getL, i_getR, i_putI, i_putZ, i_putL, i_putR, i_aldI, i_aldB, i_aldL, i_aldD, i_astI, i_astL, i_astD, i_alen, i_ret, i_iret, i_zret, i_lret, i_fret, i_dret, i_aret, i_invS0, i_invV0, i_m2, i_m1, i_ml, i_obj, lk, lkp, stf1, stf2, Value.category, rV, xTo, lv_args, xCk, xCat, xRc, xAk, hg_S, hg_I, hg_J, hg_D, hg_R, hs_I, hs_J, hs_D, hs_R, uI_at, uJ_at, uD_at, uR_at, List.take_succ_cons, List.take_zero, List.drop_succ_cons, List.drop_zero, List.reverse_cons, List.reverse_nil, List.nil_append, List.cons_append, List.map_cons, List.map_nil, List.sum_cons, List.sum_nil, List.length_cons, List.length_nil, Option.toList_some, Option.toList_none, true_and, and_true, false_and, and_false, true_implies, false_implies, implies_true, not_true_eq_false, not_false_eq_true, ne_eq, if_true, if_false, Bool.and_true, Bool.true_and, decide_true, decide_false, reduceIte, reduceCtorEq, Bool.and_self, Bool.and_eq_true, decide_eq_true_eq, and_self, true_or, or_true, false_or, or_false, Nat.zero_add, Nat.add_zero, eq_self, Nat.reduceEqDiff, Nat.reduceLeDiff, Nat.reduceLT, Nat.reduceAdd, Nat.reduceSub, Nat.reduceMul, xi144_0, ix_0, xi144_1, ix_1, xi144_2, ix_2, xi144_3, ix_3, xi144_4, ix_4, xi144_5, ix_5, xi144_6, ix_6, xi144_7, ix_7, xi144_8, ix_8, xi144_9, ix_9, xi144_10, ix_10, LM_out hL, rI_at, hn, nI_leP (show n < 2147483648 by omega) (show i < 2147483648 by omega), show (n ≤ i) = False from eq_false (by omega), nI_inP (show i < 32768 by omega) (by decide), nI_ix (show i < 2147483648 by omega), uI_rI, fill_up, nI_1]
    exact R298_7 hL hn hn2 j (i + 1) f (by omega)
theorem R298_z (hL : LM S R) : ∃ I', (∀ o k, o ≠ 342 → I' o k = I o k) ∧ ∀ (J : xJ) (D : xDb) (b : Nat × Nat) (Q : xQ), xRun xT 298 7 [(0, .ref 200), (1, .int 0)] [] (S, I, J, D, R) b Q = xRun xT 298 26 [(0, .ref 200)] [] (S, I', J, D, R) b Q := by
  obtain ⟨n, hn2⟩ : ∃ n : Nat, n = 32768 := ⟨_, rfl⟩
  have hn : (32768 : Int32) = nI n := by rw [hn2]; decide
  refine ⟨rI I 342 (fill (I 342) 0 n), fun o k h => by rw [rI_at, if_neg h], fun J D b Q => ?_⟩
  have h := R298_7 (I := I) (J := J) (D := D) (b := b) (Q := Q) hL hn hn2 n 0 (I 342) (by omega)
  rw [fill_0, rI_self] at h
  exact h
end
end
/-! ===== the model takes a sample ===== -/
section
variable {S : xS} {I : xI} {J : xJ} {D : xDb} {R : xR} {b : Nat × Nat} {Q : xQ} {n m : Nat} {fi se dg : Nat → Nat} {sb : Nat → Nat → Nat}
theorem R291 (hL : LM S R) (hG : GR n m fi se dg sb) (hC : CM I n m fi se dg sb) {s k : Nat} (hJ : J 200 3 = lN s) (hs : s < 2 ^ 64) (hk : I 300 9 = nI k) (hk2 : k < 10000) : xRun xT 291 0 [(0, .ref 200)] [] (S, I, J, D, R) b Q = Q (.ok none) (S, uI (uI (uI I 308 k (en (I 300 4) (fun k => I 300 (16 + k)) n m fi se s)) 309 k (mg n s)) 300 9 (nI (k + 1)), uJ J 310 k (lN s), D, R) b := by
  have h250 := fun (b : Nat × Nat) (Q : xQ) => R250 (S := S) (J := J) (D := D) (R := R) (b := b) (Q := Q) hL hG hC hs
  have h251 := fun (v : Int32) (b : Nat × Nat) (Q : xQ) => R251 (S := S) (I := uI I 308 k v) (J := J) (D := D) (R := R) (b := b) (Q := Q) hL (n := n) (by rw [uI_at, if_neg (by omega)]; exact hC.1) hG.2.1 hs
  rw [e291_0]
  simp only [B291_0, xSeq, i_push, i_load, i_iload, i_lload, i_dload, i_aload, i_istore, i_astore, i_lstore, i_dstore, i_iinc, i_ii, i_iiz, i_ll, i_llz, i_lli, i_li, i_i, i_l, i_i2l, i_l2i, i_dup, i_dup2, i_dup2w, i_dupx1, i_pop, i_pop2, i_goto, i_ifc, i_icmp, i_getI, i_getL, i_getR, i_putI, i_putZ, i_putL, i_putR, i_aldI, i_aldB, i_aldL, i_aldD, i_astI, i_astL, i_astD, i_alen, i_ret, i_iret, i_zret, i_lret, i_fret, i_dret, i_aret, i_invS0, i_invV0, i_m2, i_m1, i_ml, i_obj, lk, lkp, stf1, stf2, Value.category, rV, xTo, lv_args, xCk, xCat, xRc, xAk, hg_S, hg_I, hg_J, hg_D, hg_R, hs_I, hs_J, hs_D, hs_R, uI_at, uJ_at, uD_at, uR_at, List.take_succ_cons, List.take_zero, List.drop_succ_cons, List.drop_zero, List.reverse_cons, List.reverse_nil, List.nil_append, List.cons_append, List.map_cons, List.map_nil, List.sum_cons, List.sum_nil, List.length_cons, List.length_nil, Option.toList_some, Option.toList_none, true_and, and_true, false_and, and_false, true_implies, false_implies, implies_true, not_true_eq_false, not_false_eq_true, ne_eq, if_true, if_false, Bool.and_true, Bool.true_and, decide_true, decide_false, reduceIte, reduceCtorEq, Bool.and_self, Bool.and_eq_true, decide_eq_true_eq, and_self, true_or, or_true, false_or, or_false, Nat.zero_add, Nat.add_zero, eq_self, Nat.reduceEqDiff, Nat.reduceLeDiff, Nat.reduceLT, Nat.reduceAdd, Nat.reduceSub, Nat.reduceMul, xi144_0, ix_0, xi144_1, ix_1, xi144_2, ix_2, xi144_3, ix_3, xi144_4, ix_4, xi144_5, ix_5, xi144_6, ix_6, xi144_7, ix_7, xi144_8, ix_8, xi144_9, ix_9, xi144_10, ix_10, LM_out hL, hk, hJ, nI_inP (show k < 10000 by omega) (by decide), nI_ix (show k < 2147483648 by omega), h250, h251, nI_1]
end
/-! ===== room for the lab's samples ===== -/
section
variable {S : xS} {I : xI} {J : xJ} {D : xDb} {R : xR} {b : Nat × Nat} {Q : xQ}
theorem L40 {u : Nat} (hS : S 112 = (4, 0)) (hR : R 112 1 = some u) (hu : S u = (101, 0)) (h2 : (S 402).1 = 0) (h3 : (S 403).1 = 0) (b1 : 2 ≤ b.1) (b2 : 20000 ≤ b.2)
    (kk : ∀ S' I' J' D' R', (∀ o, o ≠ 402 → o ≠ 403 → S' o = S o) → S' 402 = (101, 10000) → S' 403 = (100, 10000) → (∀ o k, o ≠ 402 → o ≠ 403 → I' o k = I o k) → (∀ o k, o ≠ 402 → o ≠ 403 → J' o k = J o k) → (∀ o k, o ≠ 402 → o ≠ 403 → ¬ (o = 112 ∧ (k = 1 ∨ k = 2)) → R' o k = R o k) → R' 112 1 = some 402 → R' 112 2 = some 403 → Q (.ok none) (S', I', J', D', R') (b.1 - 1 - 1, b.2 - 10000 - 10000)) :
    xRun xT 40 0 [(0, .ref 112)] [] (S, I, J, D, R) b Q := by
  have z0 : ((0 : Int32) = 0) = True := eq_self 0
  rw [e40_0]
  simp only [B40_0, xSeq, i_push, i_load, i_iload, i_lload, i_dload, i_aload, i_istore, i_astore, i_lstore, i_dstore, i_iinc, i_ii, i_iiz, i_ll, i_llz, i_lli, i_li, i_i, i_l, i_i2l, i_l2i, i_dup, i_dup2, i_dup2w, i_dupx1, i_pop, i_pop2, i_goto, i_ifc, i_icmp, i_getI, i_getL, i_getR, i_putI, i_putZ, i_putL, i_putR, i_aldI, i_aldB, i_aldL, i_aldD, i_astI, i_astL, i_astD, i_alen, i_ret, i_iret, i_zret, i_lret, i_fret, i_dret, i_aret, i_invS0, i_invV0, i_m2, i_m1, i_ml, i_obj, lk, lkp, stf1, stf2, Value.category, rV, xTo, lv_args, xCk, xCat, xRc, xAk, hg_S, hg_I, hg_J, hg_D, hg_R, hs_I, hs_J, hs_D, hs_R, uI_at, uJ_at, uD_at, uR_at, List.take_succ_cons, List.take_zero, List.drop_succ_cons, List.drop_zero, List.reverse_cons, List.reverse_nil, List.nil_append, List.cons_append, List.map_cons, List.map_nil, List.sum_cons, List.sum_nil, List.length_cons, List.length_nil, Option.toList_some, Option.toList_none, true_and, and_true, false_and, and_false, true_implies, false_implies, implies_true, not_true_eq_false, not_false_eq_true, ne_eq, if_true, if_false, Bool.and_true, Bool.true_and, decide_true, decide_false, reduceIte, reduceCtorEq, Bool.and_self, Bool.and_eq_true, decide_eq_true_eq, and_self, true_or, or_true, false_or, or_false, Nat.zero_add, Nat.add_zero, eq_self, Nat.reduceEqDiff, Nat.reduceLeDiff, Nat.reduceLT, Nat.reduceAdd, Nat.reduceSub, Nat.reduceMul, hS, hR, hu, nI_0]
  refine w_newa 402 10000 (by decide) (by decide) (by decide) (by omega) (by omega) h2 (by decide) ?_
  simp only [xSeq, i_push, i_load, i_iload, i_lload, i_dload, i_aload, i_istore, i_astore, i_lstore, i_dstore, i_iinc, i_ii, i_iiz, i_ll, i_llz, i_lli, i_li, i_i, i_l, i_i2l, i_l2i, i_dup, i_dup2, i_dup2w, i_dupx1, i_pop, i_pop2, i_goto, i_ifc, i_icmp, i_getI, i_getL, i_getR, i_putI, i_putZ, i_putL, i_putR, i_aldI, i_aldB, i_aldL, i_aldD, i_astI, i_astL, i_astD, i_alen, i_ret, i_iret, i_zret, i_lret, i_fret, i_dret, i_aret, i_invS0, i_invV0, i_m2, i_m1, i_ml, i_obj, lk, lkp, stf1, stf2, Value.category, rV, xTo, lv_args, xCk, xCat, xRc, xAk, hg_S, hg_I, hg_J, hg_D, hg_R, hs_I, hs_J, hs_D, hs_R, uI_at, uJ_at, uD_at, uR_at, List.take_succ_cons, List.take_zero, List.drop_succ_cons, List.drop_zero, List.reverse_cons, List.reverse_nil, List.nil_append, List.cons_append, List.map_cons, List.map_nil, List.sum_cons, List.sum_nil, List.length_cons, List.length_nil, Option.toList_some, Option.toList_none, true_and, and_true, false_and, and_false, true_implies, false_implies, implies_true, not_true_eq_false, not_false_eq_true, ne_eq, if_true, if_false, Bool.and_true, Bool.true_and, decide_true, decide_false, reduceIte, reduceCtorEq, Bool.and_self, Bool.and_eq_true, decide_eq_true_eq, and_self, true_or, or_true, false_or, or_false, Nat.zero_add, Nat.add_zero, eq_self, Nat.reduceEqDiff, Nat.reduceLeDiff, Nat.reduceLT, Nat.reduceAdd, Nat.reduceSub, Nat.reduceMul, nF_at, zI_at, zJ_at, zD_at, zR_at, hS]
  refine w_newa 403 10000 (by decide) (by decide) (by decide) (by omega) (by omega) (by simp only [nF_at, true_and, and_true, false_and, and_false, true_implies, false_implies, implies_true, not_true_eq_false, not_false_eq_true, ne_eq, if_true, if_false, Bool.and_true, Bool.true_and, decide_true, decide_false, reduceIte, reduceCtorEq, Bool.and_self, Bool.and_eq_true, decide_eq_true_eq, and_self, true_or, or_true, false_or, or_false, Nat.zero_add, Nat.add_zero, eq_self, Nat.reduceEqDiff, Nat.reduceLeDiff, Nat.reduceLT, Nat.reduceAdd, Nat.reduceSub, Nat.reduceMul]; exact h3) (by decide) ?_
  simp only [xSeq, i_push, i_load, i_iload, i_lload, i_dload, i_aload, i_istore, i_astore, i_lstore, i_dstore, i_iinc, i_ii, i_iiz, i_ll, i_llz, i_lli, i_li, i_i, i_l, i_i2l, i_l2i, i_dup, i_dup2, i_dup2w, i_dupx1, i_pop, i_pop2, i_goto, i_ifc, i_icmp, i_getI, i_getL, i_getR, i_putI, i_putZ, i_putL, i_putR, i_aldI, i_aldB, i_aldL, i_aldD, i_astI, i_astL, i_astD, i_alen, i_ret, i_iret, i_zret, i_lret, i_fret, i_dret, i_aret, i_invS0, i_invV0, i_m2, i_m1, i_ml, i_obj, lk, lkp, stf1, stf2, Value.category, rV, xTo, lv_args, xCk, xCat, xRc, xAk, hg_S, hg_I, hg_J, hg_D, hg_R, hs_I, hs_J, hs_D, hs_R, uI_at, uJ_at, uD_at, uR_at, List.take_succ_cons, List.take_zero, List.drop_succ_cons, List.drop_zero, List.reverse_cons, List.reverse_nil, List.nil_append, List.cons_append, List.map_cons, List.map_nil, List.sum_cons, List.sum_nil, List.length_cons, List.length_nil, Option.toList_some, Option.toList_none, true_and, and_true, false_and, and_false, true_implies, false_implies, implies_true, not_true_eq_false, not_false_eq_true, ne_eq, if_true, if_false, Bool.and_true, Bool.true_and, decide_true, decide_false, reduceIte, reduceCtorEq, Bool.and_self, Bool.and_eq_true, decide_eq_true_eq, and_self, true_or, or_true, false_or, or_false, Nat.zero_add, Nat.add_zero, eq_self, Nat.reduceEqDiff, Nat.reduceLeDiff, Nat.reduceLT, Nat.reduceAdd, Nat.reduceSub, Nat.reduceMul, nF_at, zI_at, zJ_at, zD_at, zR_at, hS]
  rw [e40_26]
  simp only [B40_26, xSeq, i_push, i_load, i_iload, i_lload, i_dload, i_aload, i_istore, i_astore, i_lstore, i_dstore, i_iinc, i_ii, i_iiz, i_ll, i_llz, i_lli, i_li, i_i, i_l, i_i2l, i_l2i, i_dup, i_dup2, i_dup2w, i_dupx1, i_pop, i_pop2, i_goto, i_ifc, i_icmp, i_getI, i_getL, i_getR, i_putI, i_putZ, i_putL, i_putR, i_aldI, i_aldB, i_aldL, i_aldD, i_astI, i_astL, i_astD, i_alen, i_ret, i_iret, i_zret, i_lret, i_fret, i_dret, i_aret, i_invS0, i_invV0, i_m2, i_m1, i_ml, i_obj, lk, lkp, stf1, stf2, Value.category, rV, xTo, lv_args, xCk, xCat, xRc, xAk, hg_S, hg_I, hg_J, hg_D, hg_R, hs_I, hs_J, hs_D, hs_R, uI_at, uJ_at, uD_at, uR_at, List.take_succ_cons, List.take_zero, List.drop_succ_cons, List.drop_zero, List.reverse_cons, List.reverse_nil, List.nil_append, List.cons_append, List.map_cons, List.map_nil, List.sum_cons, List.sum_nil, List.length_cons, List.length_nil, Option.toList_some, Option.toList_none, true_and, and_true, false_and, and_false, true_implies, false_implies, implies_true, not_true_eq_false, not_false_eq_true, ne_eq, if_true, if_false, Bool.and_true, Bool.true_and, decide_true, decide_false, reduceIte, reduceCtorEq, Bool.and_self, Bool.and_eq_true, decide_eq_true_eq, and_self, true_or, or_true, false_or, or_false, Nat.zero_add, Nat.add_zero, eq_self, Nat.reduceEqDiff, Nat.reduceLeDiff, Nat.reduceLT, Nat.reduceAdd, Nat.reduceSub, Nat.reduceMul]
  refine kk _ _ _ _ _ (fun o a c => ?_) ?_ ?_ (fun o k a c => ?_) (fun o k a c => ?_) (fun o k a c e => ?_) ?_ ?_
  · simp only [nF_at, if_neg a, if_neg c]
  · simp only [nF_at, true_and, and_true, false_and, and_false, true_implies, false_implies, implies_true, not_true_eq_false, not_false_eq_true, ne_eq, if_true, if_false, Bool.and_true, Bool.true_and, decide_true, decide_false, reduceIte, reduceCtorEq, Bool.and_self, Bool.and_eq_true, decide_eq_true_eq, and_self, true_or, or_true, false_or, or_false, Nat.zero_add, Nat.add_zero, eq_self, Nat.reduceEqDiff, Nat.reduceLeDiff, Nat.reduceLT, Nat.reduceAdd, Nat.reduceSub, Nat.reduceMul]
  · simp only [nF_at, true_and, and_true, false_and, and_false, true_implies, false_implies, implies_true, not_true_eq_false, not_false_eq_true, ne_eq, if_true, if_false, Bool.and_true, Bool.true_and, decide_true, decide_false, reduceIte, reduceCtorEq, Bool.and_self, Bool.and_eq_true, decide_eq_true_eq, and_self, true_or, or_true, false_or, or_false, Nat.zero_add, Nat.add_zero, eq_self, Nat.reduceEqDiff, Nat.reduceLeDiff, Nat.reduceLT, Nat.reduceAdd, Nat.reduceSub, Nat.reduceMul]
  · simp only [zI_at, if_neg a, if_neg c]
  · simp only [zJ_at, if_neg a, if_neg c]
  · have e1 : (o = 112 ∧ k = 1) = False := eq_false (fun h => e ⟨h.1, Or.inl h.2⟩)
    have e2 : (o = 112 ∧ k = 2) = False := eq_false (fun h => e ⟨h.1, Or.inr h.2⟩)
    simp only [uR_at, zR_at, if_neg a, if_neg c, e1, e2, if_false]
  · simp only [uR_at, zR_at, true_and, and_true, false_and, and_false, true_implies, false_implies, implies_true, not_true_eq_false, not_false_eq_true, ne_eq, if_true, if_false, Bool.and_true, Bool.true_and, decide_true, decide_false, reduceIte, reduceCtorEq, Bool.and_self, Bool.and_eq_true, decide_eq_true_eq, and_self, true_or, or_true, false_or, or_false, Nat.zero_add, Nat.add_zero, eq_self, Nat.reduceEqDiff, Nat.reduceLeDiff, Nat.reduceLT, Nat.reduceAdd, Nat.reduceSub, Nat.reduceMul]
  · simp only [uR_at, zR_at, true_and, and_true, false_and, and_false, true_implies, false_implies, implies_true, not_true_eq_false, not_false_eq_true, ne_eq, if_true, if_false, Bool.and_true, Bool.true_and, decide_true, decide_false, reduceIte, reduceCtorEq, Bool.and_self, Bool.and_eq_true, decide_eq_true_eq, and_self, true_or, or_true, false_or, or_false, Nat.zero_add, Nat.add_zero, eq_self, Nat.reduceEqDiff, Nat.reduceLeDiff, Nat.reduceLT, Nat.reduceAdd, Nat.reduceSub, Nat.reduceMul]
end
/-! ===== the lab's first sample ===== -/
section
variable {S : xS} {I : xI} {J : xJ} {D : xDb} {R : xR} {b : Nat × Nat} {Q : xQ}
theorem L41 {u : Nat} {v : Int64} {e : Int32} (hS : S 112 = (4, 0)) (hR : R 112 1 = some u) (hu : S u = (101, 0)) (h2 : (S 402).1 = 0) (h3 : (S 403).1 = 0) (b1 : 2 ≤ b.1) (b2 : 20000 ≤ b.2) (hI : I 112 0 = 0)
    (kk : ∀ S' I' J' D' R', (∀ o, o ≠ 402 → o ≠ 403 → S' o = S o) → S' 402 = (101, 10000) → S' 403 = (100, 10000) → (∀ o k, o ≠ 402 → o ≠ 403 → ¬ (o = 112 ∧ k = 0) → I' o k = I o k) → I' 112 0 = 1 → I' 403 0 = e → (∀ o k, o ≠ 402 → o ≠ 403 → J' o k = J o k) → J' 402 0 = v → (∀ o k, o ≠ 402 → o ≠ 403 → ¬ (o = 112 ∧ (k = 1 ∨ k = 2)) → R' o k = R o k) → R' 112 1 = some 402 → R' 112 2 = some 403 → Q (.ok none) (S', I', J', D', R') (b.1 - 2, b.2 - 20000)) :
    xRun xT 41 0 [(0, .ref 112), (1, .long v), (3, .int e)] [] (S, I, J, D, R) b Q := by
  rw [e41_0]
  simp only [B41_0, xSeq, i_push, i_load, i_iload, i_lload, i_dload, i_aload, i_istore, i_astore, i_lstore, i_dstore, i_iinc, i_ii, i_iiz, i_ll, i_llz, i_lli, i_li, i_i, i_l, i_i2l, i_l2i, i_dup, i_dup2, i_dup2w, i_dupx1, i_pop, i_pop2, i_goto, i_ifc, i_icmp, i_getI, i_getL, i_getR, i_putI, i_putZ, i_putL, i_putR, i_aldI, i_aldB, i_aldL, i_aldD, i_astI, i_astL, i_astD, i_alen, i_ret, i_iret, i_zret, i_lret, i_fret, i_dret, i_aret, i_invS0, i_invV0, i_m2, i_m1, i_ml, i_obj, lk, lkp, stf1, stf2, Value.category, rV, xTo, lv_args, xCk, xCat, xRc, xAk, hg_S, hg_I, hg_J, hg_D, hg_R, hs_I, hs_J, hs_D, hs_R, uI_at, uJ_at, uD_at, uR_at, List.take_succ_cons, List.take_zero, List.drop_succ_cons, List.drop_zero, List.reverse_cons, List.reverse_nil, List.nil_append, List.cons_append, List.map_cons, List.map_nil, List.sum_cons, List.sum_nil, List.length_cons, List.length_nil, Option.toList_some, Option.toList_none, true_and, and_true, false_and, and_false, true_implies, false_implies, implies_true, not_true_eq_false, not_false_eq_true, ne_eq, if_true, if_false, Bool.and_true, Bool.true_and, decide_true, decide_false, reduceIte, reduceCtorEq, Bool.and_self, Bool.and_eq_true, decide_eq_true_eq, and_self, true_or, or_true, false_or, or_false, Nat.zero_add, Nat.add_zero, eq_self, Nat.reduceEqDiff, Nat.reduceLeDiff, Nat.reduceLT, Nat.reduceAdd, Nat.reduceSub, Nat.reduceMul]
  refine w_invVA (mc := 2) (ms := 20000) b1 b2 rfl (by simp only [xSeq, i_push, i_load, i_iload, i_lload, i_dload, i_aload, i_istore, i_astore, i_lstore, i_dstore, i_iinc, i_ii, i_iiz, i_ll, i_llz, i_lli, i_li, i_i, i_l, i_i2l, i_l2i, i_dup, i_dup2, i_dup2w, i_dupx1, i_pop, i_pop2, i_goto, i_ifc, i_icmp, i_getI, i_getL, i_getR, i_putI, i_putZ, i_putL, i_putR, i_aldI, i_aldB, i_aldL, i_aldD, i_astI, i_astL, i_astD, i_alen, i_ret, i_iret, i_zret, i_lret, i_fret, i_dret, i_aret, i_invS0, i_invV0, i_m2, i_m1, i_ml, i_obj, lk, lkp, stf1, stf2, Value.category, rV, xTo, lv_args, xCk, xCat, xRc, xAk, hg_S, hg_I, hg_J, hg_D, hg_R, hs_I, hs_J, hs_D, hs_R, uI_at, uJ_at, uD_at, uR_at, List.take_succ_cons, List.take_zero, List.drop_succ_cons, List.drop_zero, List.reverse_cons, List.reverse_nil, List.nil_append, List.cons_append, List.map_cons, List.map_nil, List.sum_cons, List.sum_nil, List.length_cons, List.length_nil, Option.toList_some, Option.toList_none, true_and, and_true, false_and, and_false, true_implies, false_implies, implies_true, not_true_eq_false, not_false_eq_true, ne_eq, if_true, if_false, Bool.and_true, Bool.true_and, decide_true, decide_false, reduceIte, reduceCtorEq, Bool.and_self, Bool.and_eq_true, decide_eq_true_eq, and_self, true_or, or_true, false_or, or_false, Nat.zero_add, Nat.add_zero, eq_self, Nat.reduceEqDiff, Nat.reduceLeDiff, Nat.reduceLT, Nat.reduceAdd, Nat.reduceSub, Nat.reduceMul, hS]) ?_
  simp only [xSeq, i_push, i_load, i_iload, i_lload, i_dload, i_aload, i_istore, i_astore, i_lstore, i_dstore, i_iinc, i_ii, i_iiz, i_ll, i_llz, i_lli, i_li, i_i, i_l, i_i2l, i_l2i, i_dup, i_dup2, i_dup2w, i_dupx1, i_pop, i_pop2, i_goto, i_ifc, i_icmp, i_getI, i_getL, i_getR, i_putI, i_putZ, i_putL, i_putR, i_aldI, i_aldB, i_aldL, i_aldD, i_astI, i_astL, i_astD, i_alen, i_ret, i_iret, i_zret, i_lret, i_fret, i_dret, i_aret, i_invS0, i_invV0, i_m2, i_m1, i_ml, i_obj, lk, lkp, stf1, stf2, Value.category, rV, xTo, lv_args, xCk, xCat, xRc, xAk, hg_S, hg_I, hg_J, hg_D, hg_R, hs_I, hs_J, hs_D, hs_R, uI_at, uJ_at, uD_at, uR_at, List.take_succ_cons, List.take_zero, List.drop_succ_cons, List.drop_zero, List.reverse_cons, List.reverse_nil, List.nil_append, List.cons_append, List.map_cons, List.map_nil, List.sum_cons, List.sum_nil, List.length_cons, List.length_nil, Option.toList_some, Option.toList_none, true_and, and_true, false_and, and_false, true_implies, false_implies, implies_true, not_true_eq_false, not_false_eq_true, ne_eq, if_true, if_false, Bool.and_true, Bool.true_and, decide_true, decide_false, reduceIte, reduceCtorEq, Bool.and_self, Bool.and_eq_true, decide_eq_true_eq, and_self, true_or, or_true, false_or, or_false, Nat.zero_add, Nat.add_zero, eq_self, Nat.reduceEqDiff, Nat.reduceLeDiff, Nat.reduceLT, Nat.reduceAdd, Nat.reduceSub, Nat.reduceMul]
  refine L40 hS hR hu h2 h3 (by decide) (by decide) (fun S' I' J' D' R' s1 s2 s3 i1 j1 r1 r2 r3 => ?_)
  have t1 : S' 112 = (4, 0) := (s1 112 (by decide) (by decide)).trans hS
  have t2 : I' 112 0 = 0 := (i1 112 0 (by decide) (by decide)).trans hI
  have t3 : ((10000 : Int32) ≤ 0) = False := eq_false (by decide)
  have t4 : xIn 0 10000 = True := xi0 (by decide) (by decide)
  have t5 : (0 : Int32) + 1 = 1 := by decide
  simp only [xSeq, i_push, i_load, i_iload, i_lload, i_dload, i_aload, i_istore, i_astore, i_lstore, i_dstore, i_iinc, i_ii, i_iiz, i_ll, i_llz, i_lli, i_li, i_i, i_l, i_i2l, i_l2i, i_dup, i_dup2, i_dup2w, i_dupx1, i_pop, i_pop2, i_goto, i_ifc, i_icmp, i_getI, i_getL, i_getR, i_putI, i_putZ, i_putL, i_putR, i_aldI, i_aldB, i_aldL, i_aldD, i_astI, i_astL, i_astD, i_alen, i_ret, i_iret, i_zret, i_lret, i_fret, i_dret, i_aret, i_invS0, i_invV0, i_m2, i_m1, i_ml, i_obj, lk, lkp, stf1, stf2, Value.category, rV, xTo, lv_args, xCk, xCat, xRc, xAk, hg_S, hg_I, hg_J, hg_D, hg_R, hs_I, hs_J, hs_D, hs_R, uI_at, uJ_at, uD_at, uR_at, List.take_succ_cons, List.take_zero, List.drop_succ_cons, List.drop_zero, List.reverse_cons, List.reverse_nil, List.nil_append, List.cons_append, List.map_cons, List.map_nil, List.sum_cons, List.sum_nil, List.length_cons, List.length_nil, Option.toList_some, Option.toList_none, true_and, and_true, false_and, and_false, true_implies, false_implies, implies_true, not_true_eq_false, not_false_eq_true, ne_eq, if_true, if_false, Bool.and_true, Bool.true_and, decide_true, decide_false, reduceIte, reduceCtorEq, Bool.and_self, Bool.and_eq_true, decide_eq_true_eq, and_self, true_or, or_true, false_or, or_false, Nat.zero_add, Nat.add_zero, eq_self, Nat.reduceEqDiff, Nat.reduceLeDiff, Nat.reduceLT, Nat.reduceAdd, Nat.reduceSub, Nat.reduceMul, t1, t2, t3, t4, t5, r2, r3, s2, s3, ix_0]
  rw [e41_44]
  simp only [B41_44, xSeq, i_push, i_load, i_iload, i_lload, i_dload, i_aload, i_istore, i_astore, i_lstore, i_dstore, i_iinc, i_ii, i_iiz, i_ll, i_llz, i_lli, i_li, i_i, i_l, i_i2l, i_l2i, i_dup, i_dup2, i_dup2w, i_dupx1, i_pop, i_pop2, i_goto, i_ifc, i_icmp, i_getI, i_getL, i_getR, i_putI, i_putZ, i_putL, i_putR, i_aldI, i_aldB, i_aldL, i_aldD, i_astI, i_astL, i_astD, i_alen, i_ret, i_iret, i_zret, i_lret, i_fret, i_dret, i_aret, i_invS0, i_invV0, i_m2, i_m1, i_ml, i_obj, lk, lkp, stf1, stf2, Value.category, rV, xTo, lv_args, xCk, xCat, xRc, xAk, hg_S, hg_I, hg_J, hg_D, hg_R, hs_I, hs_J, hs_D, hs_R, uI_at, uJ_at, uD_at, uR_at, List.take_succ_cons, List.take_zero, List.drop_succ_cons, List.drop_zero, List.reverse_cons, List.reverse_nil, List.nil_append, List.cons_append, List.map_cons, List.map_nil, List.sum_cons, List.sum_nil, List.length_cons, List.length_nil, Option.toList_some, Option.toList_none, true_and, and_true, false_and, and_false, true_implies, false_implies, implies_true, not_true_eq_false, not_false_eq_true, ne_eq, if_true, if_false, Bool.and_true, Bool.true_and, decide_true, decide_false, reduceIte, reduceCtorEq, Bool.and_self, Bool.and_eq_true, decide_eq_true_eq, and_self, true_or, or_true, false_or, or_false, Nat.zero_add, Nat.add_zero, eq_self, Nat.reduceEqDiff, Nat.reduceLeDiff, Nat.reduceLT, Nat.reduceAdd, Nat.reduceSub, Nat.reduceMul]
  refine kk _ _ _ _ _ s1 s2 s3 (fun o k a c f => ?_) ?_ ?_ (fun o k a c => ?_) ?_ r1 r2 r3
  · have e2 : (o = 112 ∧ k = 0) = False := eq_false f
    have e3 : (o = 403 ∧ k = 0) = False := eq_false (fun h => c h.1)
    simp only [uI_at, e2, e3, if_false]
    exact i1 o k a c
  · simp only [uI_at, true_and, and_true, false_and, and_false, true_implies, false_implies, implies_true, not_true_eq_false, not_false_eq_true, ne_eq, if_true, if_false, Bool.and_true, Bool.true_and, decide_true, decide_false, reduceIte, reduceCtorEq, Bool.and_self, Bool.and_eq_true, decide_eq_true_eq, and_self, true_or, or_true, false_or, or_false, Nat.zero_add, Nat.add_zero, eq_self, Nat.reduceEqDiff, Nat.reduceLeDiff, Nat.reduceLT, Nat.reduceAdd, Nat.reduceSub, Nat.reduceMul]
  · simp only [uI_at, true_and, and_true, false_and, and_false, true_implies, false_implies, implies_true, not_true_eq_false, not_false_eq_true, ne_eq, if_true, if_false, Bool.and_true, Bool.true_and, decide_true, decide_false, reduceIte, reduceCtorEq, Bool.and_self, Bool.and_eq_true, decide_eq_true_eq, and_self, true_or, or_true, false_or, or_false, Nat.zero_add, Nat.add_zero, eq_self, Nat.reduceEqDiff, Nat.reduceLeDiff, Nat.reduceLT, Nat.reduceAdd, Nat.reduceSub, Nat.reduceMul]
  · have e3 : (o = 402 ∧ k = 0) = False := eq_false (fun h => a h.1)
    simp only [uJ_at, e3, if_false]
    exact j1 o k a c
  · simp only [uJ_at, true_and, and_true, false_and, and_false, true_implies, false_implies, implies_true, not_true_eq_false, not_false_eq_true, ne_eq, if_true, if_false, Bool.and_true, Bool.true_and, decide_true, decide_false, reduceIte, reduceCtorEq, Bool.and_self, Bool.and_eq_true, decide_eq_true_eq, and_self, true_or, or_true, false_or, or_false, Nat.zero_add, Nat.add_zero, eq_self, Nat.reduceEqDiff, Nat.reduceLeDiff, Nat.reduceLT, Nat.reduceAdd, Nat.reduceSub, Nat.reduceMul]
end
/-! ===== shapes behind new things ===== -/
section
variable {S S' : xS} {R R' : xR}
theorem LC_f (hL : LC S R) (hs : ∀ o, o < 402 → S' o = S o) (hr : ∀ o k, o < 402 → ¬ (o = 112 ∧ (k = 1 ∨ k = 2)) → R' o k = R o k) : LC S' R' := by
  unfold LC
  repeat' apply And.intro
  all_goals first
    | (rw [hs _ (by decide)]; simp only [LC_out hL])
    | (rw [hr _ _ (by decide) (by decide)]; simp only [LC_out hL])
theorem LM_f (hL : LM S R) (hs : ∀ o, o < 402 → S' o = S o) (hr : ∀ o k, o < 402 → ¬ (o = 112 ∧ (k = 1 ∨ k = 2)) → R' o k = R o k) : LM S' R' := by
  unfold LM
  repeat' apply And.intro
  all_goals first
    | (rw [hs _ (by decide)]; simp only [LM_out hL])
    | (rw [hr _ _ (by decide) (by decide)]; simp only [LM_out hL])
end
/-! ===== sums within bounds ===== -/
section
theorem i32_addT {a c : Int32} {x y : Int} (ha : -x ≤ a.toInt ∧ a.toInt ≤ x) (hc : -y ≤ c.toInt ∧ c.toInt ≤ y) (h : x + y < 2147483648) : (a + c).toInt = a.toInt + c.toInt := by
  rw [Int32.toInt_add]
  exact Int.bmod_eq_of_le (by omega) (by omega)
theorem sm_bd {f : Nat → Int32} {K : Int} (hK : 0 ≤ K) : ∀ n : Nat, (∀ k, k < n → -K ≤ (f k).toInt ∧ (f k).toInt ≤ K) → (n : Int) * K < 2147483648 → -((n : Int) * K) ≤ (sm f n).toInt ∧ (sm f n).toInt ≤ (n : Int) * K
  | 0, _, _ => by
    rw [sm]
    simp
  | n + 1, h, hb => by
    have e : ((n + 1 : Nat) : Int) * K = (n : Int) * K + K := by rw [Int.natCast_add, Int.add_mul]; simp
    rw [e] at hb ⊢
    have ih := sm_bd hK n (fun k hk => h k (Nat.lt_succ_of_lt hk)) (by omega)
    have h1 := h n (Nat.lt_succ_self n)
    rw [sm, i32_addT ih h1 hb]
    omega
theorem sg_bd (a : Bool) : (-1 : Int) ≤ (sg a).toInt ∧ (sg a).toInt ≤ 1 := by cases a <;> decide
theorem i32_negT {a : Int32} (h : -2147483648 < a.toInt) : (-a).toInt = -a.toInt := by
  have h2 := Int32.toInt_lt a
  rw [Int32.toInt_neg]
  exact Int.bmod_eq_of_le (by omega) (by omega)
theorem pr_bd {st : Int32} (h : -3 ≤ st.toInt ∧ st.toInt ≤ 3) (a c : Bool) : (-3 : Int) ≤ (pr st a c).toInt ∧ (pr st a c).toInt ≤ 3 := by
  unfold pr
  split
  · exact h
  · rw [i32_negT (by omega)]
    omega
theorem mul_sg_bd {F : Int32} (h : -3 ≤ F.toInt ∧ F.toInt ≤ 3) (a : Bool) : (-3 : Int) ≤ (F * sg a).toInt ∧ (F * sg a).toInt ≤ 3 := by
  cases a
  · rw [show F * sg false = -F by simp [sg, Int32.mul_neg]]
    rw [i32_negT (by omega)]
    omega
  · rw [show F * sg true = F by simp [sg]]
    exact h
theorem mulT {F a : Int32} {x y : Int} (h : -x ≤ F.toInt ∧ F.toInt ≤ x) (ha : -y ≤ a.toInt ∧ a.toInt ≤ y) (h0 : 0 ≤ x) (h1 : 0 ≤ y) (hb : x * y < 2147483648) : (F * a).toInt = F.toInt * a.toInt ∧ -(x * y) ≤ (F * a).toInt ∧ (F * a).toInt ≤ x * y := by
  have k1 : F.toInt * a.toInt ≤ x * y := by
    by_cases g : 0 ≤ F.toInt
    · exact Int.le_trans (Int.mul_le_mul_of_nonneg_left ha.2 g) (Int.mul_le_mul_of_nonneg_right h.2 h1)
    · have e : F.toInt * a.toInt = (-F.toInt) * (-a.toInt) := by rw [Int.neg_mul_neg]
      rw [e]
      exact Int.le_trans (Int.mul_le_mul_of_nonneg_left (show -a.toInt ≤ y by omega) (by omega)) (Int.mul_le_mul_of_nonneg_right (by omega) h1)
  have k2 : -(x * y) ≤ F.toInt * a.toInt := by
    have : -(F.toInt * a.toInt) ≤ x * y := by
      by_cases g : 0 ≤ F.toInt
      · have e : -(F.toInt * a.toInt) = F.toInt * (-a.toInt) := by rw [Int.mul_neg]
        rw [e]
        exact Int.le_trans (Int.mul_le_mul_of_nonneg_left (show -a.toInt ≤ y by omega) g) (Int.mul_le_mul_of_nonneg_right h.2 h1)
      · have e : -(F.toInt * a.toInt) = (-F.toInt) * a.toInt := by rw [Int.neg_mul]
        rw [e]
        exact Int.le_trans (Int.mul_le_mul_of_nonneg_left ha.2 (by omega)) (Int.mul_le_mul_of_nonneg_right (by omega) h1)
    omega
  have e : (F * a).toInt = F.toInt * a.toInt := by
    rw [Int32.toInt_mul]
    exact Int.bmod_eq_of_le (by omega) (by omega)
  rw [e]
  exact ⟨rfl, k2, k1⟩
variable {n m : Nat} {fi se dg : Nat → Nat} {sb : Nat → Nat → Nat}
/-- strengths and field as the document allows -/
def SB (F : Int32) (st : Nat → Int32) (m : Nat) : Prop := (-3 ≤ F.toInt ∧ F.toInt ≤ 3) ∧ ∀ k, k < m → -3 ≤ (st k).toInt ∧ (st k).toInt ≤ 3
theorem SB_1 {F : Int32} {st : Nat → Int32} (h0 : F = 0) (h : ∀ k, k < 32 → st k = 1) : SB F st 32 := by
  refine ⟨?_, fun k hk => ?_⟩
  · rw [h0]; decide
  · rw [h k hk]; decide
theorem en_bd {F : Int32} {st : Nat → Int32} (hs : SB F st m) (hn : n ≤ 64) (hm : m ≤ 128) (s : Nat) : -576 ≤ (en F st n m fi se s).toInt ∧ (en F st n m fi se s).toInt ≤ 576 := by
  have h1 : -(n * 1 : Int) ≤ (mg n s).toInt ∧ (mg n s).toInt ≤ (n * 1 : Int) := sm_bd (K := 1) (by decide) n (fun k _ => sg_bd _) (by omega)
  have h2 : -(m * 3 : Int) ≤ (ps m st fi se s).toInt ∧ (ps m st fi se s).toInt ≤ (m * 3 : Int) := sm_bd (K := 3) (by decide) m (fun k hk => pr_bd (hs.2 k hk) _ _) (by omega)
  have h3 := mulT (x := 3) (y := 64) hs.1 (show -64 ≤ (mg n s).toInt ∧ (mg n s).toInt ≤ 64 by omega) (by decide) (by decide) (by decide)
  unfold en
  have h4 := i32_addT (x := 192) (y := 384) (show -192 ≤ (F * mg n s).toInt ∧ (F * mg n s).toInt ≤ 192 by omega) (show -384 ≤ (ps m st fi se s).toInt ∧ (ps m st fi se s).toInt ≤ 384 by omega) (by decide)
  rw [i32_negT (by omega)]
  omega
theorem dl_bd {F : Int32} {st : Nat → Int32} (hs : SB F st m) (hG : GR n m fi se dg sb) (s : Nat) {t : Nat} (ht : t < n) : -30 ≤ (dl F st fi se dg sb s t).toInt ∧ (dl F st fi se dg sb s t).toInt ≤ 30 := by
  have hd := hG.2.2.2.2.2.1 t ht
  have h2 : -(dg t * 3 : Int) ≤ (sm (fun i => pr (st (sb t i)) (s.testBit (fi (sb t i))) (s.testBit (se (sb t i)))) (dg t)).toInt ∧ (sm (fun i => pr (st (sb t i)) (s.testBit (fi (sb t i))) (s.testBit (se (sb t i)))) (dg t)).toInt ≤ (dg t * 3 : Int) := sm_bd (K := 3) (by decide) (dg t) (fun i hi => pr_bd (hs.2 _ (hG.2.2.2.2.2.2 t i ht hi)) _ _) (by omega)
  have h1 := mul_sg_bd hs.1 (s.testBit t)
  unfold dl
  have h4 := i32_addT (x := 3) (y := 12) h1 (show -12 ≤ (sm (fun i => pr (st (sb t i)) (s.testBit (fi (sb t i))) (s.testBit (se (sb t i)))) (dg t)).toInt ∧ (sm (fun i => pr (st (sb t i)) (s.testBit (fi (sb t i))) (s.testBit (se (sb t i)))) (dg t)).toInt ≤ 12 by omega) (by decide)
  have h5 := mulT (F := 2) (x := 2) (y := 15) (by decide) (show -15 ≤ (F * sg (s.testBit t) + sm (fun i => pr (st (sb t i)) (s.testBit (fi (sb t i))) (s.testBit (se (sb t i)))) (dg t)).toInt ∧ (F * sg (s.testBit t) + sm (fun i => pr (st (sb t i)) (s.testBit (fi (sb t i))) (s.testBit (se (sb t i)))) (dg t)).toInt ≤ 15 by omega) (by decide) (by decide) (by decide)
  exact h5.2
/-- the flip that lowers most, of the first i sites: by how much; the configuration behind it -/
def bs (d : Nat → Int32) (c : Nat) : Nat → Int32 × Nat
  | 0 => (0, c)
  | i + 1 => if d i < (bs d c i).1 then (d i, c ^^^ 2 ^ i) else bs d c i
/-- by how much; its site -/
def bm (d : Nat → Int32) : Nat → Int32 × Int32
  | 0 => (0, -1)
  | i + 1 => if d i < (bm d i).1 then (d i, nI i) else bm d i
theorem bs_lt {d : Nat → Int32} {c : Nat} : ∀ {i : Nat}, c < 2 ^ i → True := fun _ => trivial
theorem bs_bm (d : Nat → Int32) (c : Nat) : ∀ i, (∃ k, k < i ∧ bm d i = (d k, nI k) ∧ bs d c i = (d k, c ^^^ 2 ^ k) ∧ d k < 0) ∨ (bm d i = (0, -1) ∧ bs d c i = (0, c))
  | 0 => Or.inr ⟨rfl, rfl⟩
  | i + 1 => by
    rcases bs_bm d c i with ⟨k, h1, h2, h3, h4⟩ | ⟨h2, h3⟩
    · rw [bm, bs, h2, h3]
      by_cases h : d i < d k
      · rw [if_pos h, if_pos h]
        exact Or.inl ⟨i, Nat.lt_succ_self i, rfl, rfl, Int32.lt_trans h h4⟩
      · rw [if_neg h, if_neg h]
        exact Or.inl ⟨k, Nat.lt_succ_of_lt h1, rfl, rfl, h4⟩
    · rw [bm, bs, h2, h3]
      by_cases h : d i < 0
      · rw [if_pos h, if_pos h]
        exact Or.inl ⟨i, Nat.lt_succ_self i, rfl, rfl, h⟩
      · rw [if_neg h, if_neg h]
        exact Or.inr ⟨rfl, rfl⟩
theorem xor_ne (c k : Nat) : c ^^^ 2 ^ k ≠ c := fun h => by
  have e := bit_x c k k
  rw [h] at e
  cases hb : c.testBit k <;> simp [hb] at e
/-- a descent of at most r flips -/
def ds (f : Nat → Nat) : Nat → Nat → Nat × Nat
  | 0, c => (c, 0)
  | r + 1, c => if f c = c then (c, 0) else ((ds f r (f c)).1, (ds f r (f c)).2 + 1)
theorem ds_lt (f : Nat → Nat) {N : Nat} (hf : ∀ c, c < N → f c < N) : ∀ r c, c < N → (ds f r c).1 < N
  | 0, c, h => h
  | r + 1, c, h => by
    rw [ds]
    split
    · exact h
    · exact ds_lt f hf r _ (hf c h)
theorem ds_le (f : Nat → Nat) : ∀ r c, (ds f r c).2 ≤ r
  | 0, _ => Nat.le_refl _
  | r + 1, c => by
    have := ds_le f r (f c)
    rw [ds]
    split
    · omega
    · show (ds f r (f c)).2 + 1 ≤ r + 1
      omega
/-- the next configuration of a descent -/
def nc (F : Int32) (st : Nat → Int32) (n : Nat) (fi se dg : Nat → Nat) (sb : Nat → Nat → Nat) (c : Nat) : Nat := (bs (dl F st fi se dg sb c) c n).2
theorem bs_b {d : Nat → Int32} {c N : Nat} (hc : c < 2 ^ N) {i : Nat} (hi : i ≤ N) : (bs d c i).2 < 2 ^ N := by
  rcases bs_bm d c i with ⟨k, h1, h2, h3, h4⟩ | ⟨h2, h3⟩
  · rw [h3]
    exact Nat.xor_lt_two_pow hc (Nat.pow_lt_pow_right (by decide) (by omega))
  · rw [h3]
    exact hc
/-- how far a configuration can go down -/
def mu (F : Int32) (st : Nat → Int32) (n m : Nat) (fi se : Nat → Nat) (c : Nat) : Nat := ((en F st n m fi se c).toInt + 576).toNat
theorem mu_nc {F : Int32} {st : Nat → Int32} (hs : SB F st m) (hG : GR n m fi se dg sb) (hN : GN n m fi se dg sb) {c : Nat} (h : nc F st n fi se dg sb c ≠ c) : mu F st n m fi se (nc F st n fi se dg sb c) < mu F st n m fi se c := by
  unfold nc at h ⊢
  rcases bs_bm (dl F st fi se dg sb c) c n with ⟨k, h1, h2, h3, h4⟩ | ⟨h2, h3⟩
  · rw [h3]
    show mu F st n m fi se (c ^^^ 2 ^ k) < mu F st n m fi se c
    have e := en_x hN F st c k h1
    have b1 := en_bd (fi := fi) (se := se) hs hG.2.1 hG.2.2.1 c
    have b2 := en_bd (fi := fi) (se := se) hs hG.2.1 hG.2.2.1 (c ^^^ 2 ^ k)
    have b3 := dl_bd hs hG c h1
    have e2 := i32_addT (x := 576) (y := 30) b1 b3 (by decide)
    rw [← e] at e2
    have h5 := Int32.lt_iff_toInt_lt.mp h4
    have h6 : (0 : Int32).toInt = 0 := rfl
    unfold mu
    omega
  · rw [h3] at h
    exact absurd rfl h
end
/-! ===== descents ===== -/
section
variable {S : xS} {I : xI} {J : xJ} {D : xDb} {R : xR} {b : Nat × Nat} {Q : xQ} {n m : Nat} {fi se dg : Nat → Nat} {sb : Nat → Nat → Nat}
theorem q_1shlL {t : Nat} (h : t < 64) : jLshl 1 (nI t) = lN (2 ^ t) := by rw [show (1 : Int64) = lN 1 from rfl, q_shl 1 h, Nat.one_mul]
theorem R93_8 (hL : LC S R) (hG : GR n m fi se dg sb) (hC : CL I n m fi se dg sb) {c : Nat} (hc : c < 2 ^ 64) : ∀ (j i : Nat), i + j = n → xRun xT 93 8 [(0, .ref 110), (1, .long (lN c)), (3, .int (bs (dl (I 110 6) (I 111) fi se dg sb c) c i).1), (4, .long (lN (bs (dl (I 110 6) (I 111) fi se dg sb c) c i).2)), (6, .int (nI i))] [] (S, I, J, D, R) b Q = Q (.ok (some (.long (lN (nc (I 110 6) (I 111) n fi se dg sb c))))) (S, I, J, D, R) b
  | 0, i, hi => by
    have g1 := hG.2.1
    have c1 := hC.1
    have e : i = n := by omega
    subst e
    rw [e93_8]
    simp only [B93_8, xSeq, i_push, i_load, i_iload, i_lload, i_dload, i_aload, i_istore, i_astore, i_lstore, i_dstore, i_iinc, i_ii, i_iiz, i_ll, i_llz, i_lli, i_li, i_i, i_l, i_i2l, i_l2i, i_dup, i_dup2, i_dup2w, i_dupx1, i_pop, i_pop2, i_goto, i_ifc, i_icmp, i_getI, i_getL, i_getR, i_putI, i_putZ, i_putL, i_putR, i_aldI, i_aldB, i_aldL, i_aldD, i_astI, i_astL, i_astD, i_alen, i_ret, i_iret, i_zret, i_lret, i_fret, i_dret, i_aret, i_invS0, i_invV0, i_m2, i_m1, i_ml, i_obj, lk, lkp, stf1, stf2, Value.category, rV, xTo, lv_args, xCk, xCat, xRc, xAk, hg_S, hg_I, hg_J, hg_D, hg_R, hs_I, hs_J, hs_D, hs_R, uI_at, uJ_at, uD_at, uR_at, List.take_succ_cons, List.take_zero, List.drop_succ_cons, List.drop_zero, List.reverse_cons, List.reverse_nil, List.nil_append, List.cons_append, List.map_cons, List.map_nil, List.sum_cons, List.sum_nil, List.length_cons, List.length_nil, Option.toList_some, Option.toList_none, true_and, and_true, false_and, and_false, true_implies, false_implies, implies_true, not_true_eq_false, not_false_eq_true, ne_eq, if_true, if_false, Bool.and_true, Bool.true_and, decide_true, decide_false, reduceIte, reduceCtorEq, Bool.and_self, Bool.and_eq_true, decide_eq_true_eq, and_self, true_or, or_true, false_or, or_false, Nat.zero_add, Nat.add_zero, eq_self, Nat.reduceEqDiff, Nat.reduceLeDiff, Nat.reduceLT, Nat.reduceAdd, Nat.reduceSub, Nat.reduceMul, LC_out hL, c1, nI_leP (show i < 2147483648 by omega) (show i < 2147483648 by omega), Nat.le_refl, e93_52, B93_52, nc]
  | j + 1, i, hi => by
    have g1 := hG.2.1
    have c1 := hC.1
    have ih := R93_8 hL hG hC hc j (i + 1) (by omega)
    rw [bs] at ih
    rw [e93_8]
    simp only [B93_8, xSeq, i_push, i_load, i_iload, i_lload, i_dload, i_aload, i_istore, i_astore, i_lstore, i_dstore, i_iinc, i_ii, i_iiz, i_ll, i_llz, i_lli, i_li, i_i, i_l, i_i2l, i_l2i, i_dup, i_dup2, i_dup2w, i_dupx1, i_pop, i_pop2, i_goto, i_ifc, i_icmp, i_getI, i_getL, i_getR, i_putI, i_putZ, i_putL, i_putR, i_aldI, i_aldB, i_aldL, i_aldD, i_astI, i_astL, i_astD, i_alen, i_ret, i_iret, i_zret, i_lret, i_fret, i_dret, i_aret, i_invS0, i_invV0, i_m2, i_m1, i_ml, i_obj, lk, lkp, stf1, stf2, Value.category, rV, xTo, lv_args, xCk, xCat, xRc, xAk, hg_S, hg_I, hg_J, hg_D, hg_R, hs_I, hs_J, hs_D, hs_R, uI_at, uJ_at, uD_at, uR_at, List.take_succ_cons, List.take_zero, List.drop_succ_cons, List.drop_zero, List.reverse_cons, List.reverse_nil, List.nil_append, List.cons_append, List.map_cons, List.map_nil, List.sum_cons, List.sum_nil, List.length_cons, List.length_nil, Option.toList_some, Option.toList_none, true_and, and_true, false_and, and_false, true_implies, false_implies, implies_true, not_true_eq_false, not_false_eq_true, ne_eq, if_true, if_false, Bool.and_true, Bool.true_and, decide_true, decide_false, reduceIte, reduceCtorEq, Bool.and_self, Bool.and_eq_true, decide_eq_true_eq, and_self, true_or, or_true, false_or, or_false, Nat.zero_add, Nat.add_zero, eq_self, Nat.reduceEqDiff, Nat.reduceLeDiff, Nat.reduceLT, Nat.reduceAdd, Nat.reduceSub, Nat.reduceMul, LC_out hL, c1, nI_leP (show n < 2147483648 by omega) (show i < 2147483648 by omega), show (n ≤ i) = False from eq_false (by omega), R76 hL hG hC hc (show i < n by omega), q_1shlL (show i < 64 by omega), q_xor, e93_46, B93_46, nI_1]
    by_cases h : dl (I 110 6) (I 111) fi se dg sb c i < (bs (dl (I 110 6) (I 111) fi se dg sb c) c i).1
    · rw [if_pos h] at ih
      simp only [show ((bs (dl (I 110 6) (I 111) fi se dg sb c) c i).1 ≤ dl (I 110 6) (I 111) fi se dg sb c i) = False from eq_false (Int32.not_le.mpr h), true_and, and_true, false_and, and_false, true_implies, false_implies, implies_true, not_true_eq_false, not_false_eq_true, ne_eq, if_true, if_false, Bool.and_true, Bool.true_and, decide_true, decide_false, reduceIte, reduceCtorEq, Bool.and_self, Bool.and_eq_true, decide_eq_true_eq, and_self, true_or, or_true, false_or, or_false, Nat.zero_add, Nat.add_zero, eq_self, Nat.reduceEqDiff, Nat.reduceLeDiff, Nat.reduceLT, Nat.reduceAdd, Nat.reduceSub, Nat.reduceMul]
      exact ih
    · rw [if_neg h] at ih
      simp only [show ((bs (dl (I 110 6) (I 111) fi se dg sb c) c i).1 ≤ dl (I 110 6) (I 111) fi se dg sb c i) = True from eq_true (Int32.not_lt.mp h), true_and, and_true, false_and, and_false, true_implies, false_implies, implies_true, not_true_eq_false, not_false_eq_true, ne_eq, if_true, if_false, Bool.and_true, Bool.true_and, decide_true, decide_false, reduceIte, reduceCtorEq, Bool.and_self, Bool.and_eq_true, decide_eq_true_eq, and_self, true_or, or_true, false_or, or_false, Nat.zero_add, Nat.add_zero, eq_self, Nat.reduceEqDiff, Nat.reduceLeDiff, Nat.reduceLT, Nat.reduceAdd, Nat.reduceSub, Nat.reduceMul]
      exact ih
theorem R93 (hL : LC S R) (hG : GR n m fi se dg sb) (hC : CL I n m fi se dg sb) {c : Nat} (hc : c < 2 ^ 64) : xRun xT 93 0 [(0, .ref 110), (1, .long (lN c))] [] (S, I, J, D, R) b Q = Q (.ok (some (.long (lN (nc (I 110 6) (I 111) n fi se dg sb c))))) (S, I, J, D, R) b := by
  rw [e93_0]
  simp only [B93_0, xSeq, i_push, i_load, i_iload, i_lload, i_dload, i_aload, i_istore, i_astore, i_lstore, i_dstore, i_iinc, i_ii, i_iiz, i_ll, i_llz, i_lli, i_li, i_i, i_l, i_i2l, i_l2i, i_dup, i_dup2, i_dup2w, i_dupx1, i_pop, i_pop2, i_goto, i_ifc, i_icmp, i_getI, i_getL, i_getR, i_putI, i_putZ, i_putL, i_putR, i_aldI, i_aldB, i_aldL, i_aldD, i_astI, i_astL, i_astD, i_alen, i_ret, i_iret, i_zret, i_lret, i_fret, i_dret, i_aret, i_invS0, i_invV0, i_m2, i_m1, i_ml, i_obj, lk, lkp, stf1, stf2, Value.category, rV, xTo, lv_args, xCk, xCat, xRc, xAk, hg_S, hg_I, hg_J, hg_D, hg_R, hs_I, hs_J, hs_D, hs_R, uI_at, uJ_at, uD_at, uR_at, List.take_succ_cons, List.take_zero, List.drop_succ_cons, List.drop_zero, List.reverse_cons, List.reverse_nil, List.nil_append, List.cons_append, List.map_cons, List.map_nil, List.sum_cons, List.sum_nil, List.length_cons, List.length_nil, Option.toList_some, Option.toList_none, true_and, and_true, false_and, and_false, true_implies, false_implies, implies_true, not_true_eq_false, not_false_eq_true, ne_eq, if_true, if_false, Bool.and_true, Bool.true_and, decide_true, decide_false, reduceIte, reduceCtorEq, Bool.and_self, Bool.and_eq_true, decide_eq_true_eq, and_self, true_or, or_true, false_or, or_false, Nat.zero_add, Nat.add_zero, eq_self, Nat.reduceEqDiff, Nat.reduceLeDiff, Nat.reduceLT, Nat.reduceAdd, Nat.reduceSub, Nat.reduceMul]
  exact R93_8 hL hG hC hc n 0 (by omega)
theorem lN_cmp {a c : Nat} (ha : a < 2 ^ 64) (hc : c < 2 ^ 64) : (lg_cmp (lN a) (lN c) = 0) = (a = c) := by
  have e : (lN a = lN c) = (a = c) := propext ⟨fun h => by
    have h2 : (lN a).toBitVec.toNat = (lN c).toBitVec.toNat := by rw [h]
    rwa [q_tn ha, q_tn hc] at h2, fun h => by rw [h]⟩
  rw [← e]
  unfold lg_cmp
  by_cases h : lN a = lN c
  · rw [h, if_neg Int64.lt_irrefl, if_pos rfl]
    simp
  · rw [if_neg h]
    split
    · exact propext ⟨fun k => absurd k (by decide), fun k => absurd k h⟩
    · exact propext ⟨fun k => absurd k (by decide), fun k => absurd k h⟩
theorem nc_lt {F : Int32} {st : Nat → Int32} {c : Nat} (hc : c < 2 ^ n) : nc F st n fi se dg sb c < 2 ^ n := bs_b hc (Nat.le_refl n)
theorem R183_13 (hL : LC S R) (hG : GR n m fi se dg sb) (hC : CL I n m fi se dg sb) : ∀ (j i k c : Nat), i + j = 100000 → c < 2 ^ n → xRun xT 183 13 [(0, .ref 100), (3, .long (lN c)), (5, .int (nI k)), (6, .int (nI i))] [] (S, I, J, D, R) b Q = Q (.ok (some (.int (nI (k + (ds (nc (I 110 6) (I 111) n fi se dg sb) j c).2))))) (S, I, J, D, R) b
  | 0, i, k, c, hi, hc => by
    have e : i = 100000 := by omega
    rw [e183_13]
    simp only [B183_13, xSeq, i_push, i_load, i_iload, i_lload, i_dload, i_aload, i_istore, i_astore, i_lstore, i_dstore, i_iinc, i_ii, i_iiz, i_ll, i_llz, i_lli, i_li, i_i, i_l, i_i2l, i_l2i, i_dup, i_dup2, i_dup2w, i_dupx1, i_pop, i_pop2, i_goto, i_ifc, i_icmp, i_getI, i_getL, i_getR, i_putI, i_putZ, i_putL, i_putR, i_aldI, i_aldB, i_aldL, i_aldD, i_astI, i_astL, i_astD, i_alen, i_ret, i_iret, i_zret, i_lret, i_fret, i_dret, i_aret, i_invS0, i_invV0, i_m2, i_m1, i_ml, i_obj, lk, lkp, stf1, stf2, Value.category, rV, xTo, lv_args, xCk, xCat, xRc, xAk, hg_S, hg_I, hg_J, hg_D, hg_R, hs_I, hs_J, hs_D, hs_R, uI_at, uJ_at, uD_at, uR_at, List.take_succ_cons, List.take_zero, List.drop_succ_cons, List.drop_zero, List.reverse_cons, List.reverse_nil, List.nil_append, List.cons_append, List.map_cons, List.map_nil, List.sum_cons, List.sum_nil, List.length_cons, List.length_nil, Option.toList_some, Option.toList_none, true_and, and_true, false_and, and_false, true_implies, false_implies, implies_true, not_true_eq_false, not_false_eq_true, ne_eq, if_true, if_false, Bool.and_true, Bool.true_and, decide_true, decide_false, reduceIte, reduceCtorEq, Bool.and_self, Bool.and_eq_true, decide_eq_true_eq, and_self, true_or, or_true, false_or, or_false, Nat.zero_add, Nat.add_zero, eq_self, Nat.reduceEqDiff, Nat.reduceLeDiff, Nat.reduceLT, Nat.reduceAdd, Nat.reduceSub, Nat.reduceMul, show ((100000 : Int32) ≤ nI i) = True from eq_true (by rw [e]; decide), e183_53, B183_53, ds]
  | j + 1, i, k, c, hi, hc => by
    have h64 : c < 2 ^ 64 := Nat.lt_of_lt_of_le hc (Nat.pow_le_pow_right (by decide) hG.2.1)
    have hc2 := nc_lt (F := I 110 6) (st := I 111) (fi := fi) (se := se) (dg := dg) (sb := sb) hc
    have h642 := Nat.lt_of_lt_of_le hc2 (Nat.pow_le_pow_right (show 0 < 2 by decide) hG.2.1)
    have ih := R183_13 hL hG hC j (i + 1) (k + 1) (nc (I 110 6) (I 111) n fi se dg sb c) (by omega) hc2
    rw [e183_13]
    simp only [B183_13, xSeq, i_push, i_load, i_iload, i_lload, i_dload, i_aload, i_istore, i_astore, i_lstore, i_dstore, i_iinc, i_ii, i_iiz, i_ll, i_llz, i_lli, i_li, i_i, i_l, i_i2l, i_l2i, i_dup, i_dup2, i_dup2w, i_dupx1, i_pop, i_pop2, i_goto, i_ifc, i_icmp, i_getI, i_getL, i_getR, i_putI, i_putZ, i_putL, i_putR, i_aldI, i_aldB, i_aldL, i_aldD, i_astI, i_astL, i_astD, i_alen, i_ret, i_iret, i_zret, i_lret, i_fret, i_dret, i_aret, i_invS0, i_invV0, i_m2, i_m1, i_ml, i_obj, lk, lkp, stf1, stf2, Value.category, rV, xTo, lv_args, xCk, xCat, xRc, xAk, hg_S, hg_I, hg_J, hg_D, hg_R, hs_I, hs_J, hs_D, hs_R, uI_at, uJ_at, uD_at, uR_at, List.take_succ_cons, List.take_zero, List.drop_succ_cons, List.drop_zero, List.reverse_cons, List.reverse_nil, List.nil_append, List.cons_append, List.map_cons, List.map_nil, List.sum_cons, List.sum_nil, List.length_cons, List.length_nil, Option.toList_some, Option.toList_none, true_and, and_true, false_and, and_false, true_implies, false_implies, implies_true, not_true_eq_false, not_false_eq_true, ne_eq, if_true, if_false, Bool.and_true, Bool.true_and, decide_true, decide_false, reduceIte, reduceCtorEq, Bool.and_self, Bool.and_eq_true, decide_eq_true_eq, and_self, true_or, or_true, false_or, or_false, Nat.zero_add, Nat.add_zero, eq_self, Nat.reduceEqDiff, Nat.reduceLeDiff, Nat.reduceLT, Nat.reduceAdd, Nat.reduceSub, Nat.reduceMul, show ((100000 : Int32) ≤ nI i) = False from eq_false (by rw [show (100000 : Int32) = nI 100000 from rfl]; exact nI_ge (by omega) (by decide)), LC_out hL, R93 hL hG hC h64, lN_cmp h642 h64, ds]
    by_cases h : nc (I 110 6) (I 111) n fi se dg sb c = c
    · simp only [h, true_and, and_true, false_and, and_false, true_implies, false_implies, implies_true, not_true_eq_false, not_false_eq_true, ne_eq, if_true, if_false, Bool.and_true, Bool.true_and, decide_true, decide_false, reduceIte, reduceCtorEq, Bool.and_self, Bool.and_eq_true, decide_eq_true_eq, and_self, true_or, or_true, false_or, or_false, Nat.zero_add, Nat.add_zero, eq_self, Nat.reduceEqDiff, Nat.reduceLeDiff, Nat.reduceLT, Nat.reduceAdd, Nat.reduceSub, Nat.reduceMul, e183_53, B183_53, xSeq, i_push, i_load, i_iload, i_lload, i_dload, i_aload, i_istore, i_astore, i_lstore, i_dstore, i_iinc, i_ii, i_iiz, i_ll, i_llz, i_lli, i_li, i_i, i_l, i_i2l, i_l2i, i_dup, i_dup2, i_dup2w, i_dupx1, i_pop, i_pop2, i_goto, i_ifc, i_icmp, i_getI, i_getL, i_getR, i_putI, i_putZ, i_putL, i_putR, i_aldI, i_aldB, i_aldL, i_aldD, i_astI, i_astL, i_astD, i_alen, i_ret, i_iret, i_zret, i_lret, i_fret, i_dret, i_aret, i_invS0, i_invV0, i_m2, i_m1, i_ml, i_obj, lk, lkp, stf1, stf2, Value.category, rV, xTo, lv_args, xCk, xCat, xRc, xAk, hg_S, hg_I, hg_J, hg_D, hg_R, hs_I, hs_J, hs_D, hs_R, uI_at, uJ_at, uD_at, uR_at, List.take_succ_cons, List.take_zero, List.drop_succ_cons, List.drop_zero, List.reverse_cons, List.reverse_nil, List.nil_append, List.cons_append, List.map_cons, List.map_nil, List.sum_cons, List.sum_nil, List.length_cons, List.length_nil, Option.toList_some, Option.toList_none]
    · simp only [h, true_and, and_true, false_and, and_false, true_implies, false_implies, implies_true, not_true_eq_false, not_false_eq_true, ne_eq, if_true, if_false, Bool.and_true, Bool.true_and, decide_true, decide_false, reduceIte, reduceCtorEq, Bool.and_self, Bool.and_eq_true, decide_eq_true_eq, and_self, true_or, or_true, false_or, or_false, Nat.zero_add, Nat.add_zero, eq_self, Nat.reduceEqDiff, Nat.reduceLeDiff, Nat.reduceLT, Nat.reduceAdd, Nat.reduceSub, Nat.reduceMul, e183_41, B183_41, xSeq, i_push, i_load, i_iload, i_lload, i_dload, i_aload, i_istore, i_astore, i_lstore, i_dstore, i_iinc, i_ii, i_iiz, i_ll, i_llz, i_lli, i_li, i_i, i_l, i_i2l, i_l2i, i_dup, i_dup2, i_dup2w, i_dupx1, i_pop, i_pop2, i_goto, i_ifc, i_icmp, i_getI, i_getL, i_getR, i_putI, i_putZ, i_putL, i_putR, i_aldI, i_aldB, i_aldL, i_aldD, i_astI, i_astL, i_astD, i_alen, i_ret, i_iret, i_zret, i_lret, i_fret, i_dret, i_aret, i_invS0, i_invV0, i_m2, i_m1, i_ml, i_obj, lk, lkp, stf1, stf2, Value.category, rV, xTo, lv_args, xCk, xCat, xRc, xAk, hg_S, hg_I, hg_J, hg_D, hg_R, hs_I, hs_J, hs_D, hs_R, uI_at, uJ_at, uD_at, uR_at, List.take_succ_cons, List.take_zero, List.drop_succ_cons, List.drop_zero, List.reverse_cons, List.reverse_nil, List.nil_append, List.cons_append, List.map_cons, List.map_nil, List.sum_cons, List.sum_nil, List.length_cons, List.length_nil, Option.toList_some, Option.toList_none, nI_1]
      rw [show k + ((ds (nc (I 110 6) (I 111) n fi se dg sb) j (nc (I 110 6) (I 111) n fi se dg sb c)).2 + 1) = k + 1 + (ds (nc (I 110 6) (I 111) n fi se dg sb) j (nc (I 110 6) (I 111) n fi se dg sb c)).2 by omega]
      exact ih
theorem R183_z (hL : LC S R) (hG : GR n m fi se dg sb) (hC : CL I n m fi se dg sb) {c : Nat} (hc : c < 2 ^ n) : xRun xT 183 13 [(0, .ref 100), (3, .long (lN c)), (5, .int 0), (6, .int 0)] [] (S, I, J, D, R) b Q = Q (.ok (some (.int (nI (ds (nc (I 110 6) (I 111) n fi se dg sb) 100000 c).2)))) (S, I, J, D, R) b := by
  obtain ⟨r, hr⟩ : ∃ r : Nat, r = 100000 := ⟨_, rfl⟩
  have h := R183_13 (J := J) (D := D) (b := b) (Q := Q) hL hG hC r 0 0 c (by omega) hc
  rw [Nat.zero_add, nI_0, hr] at h
  exact h
theorem R188_10 (hL : LC S R) (hG : GR n m fi se dg sb) (hC : CL I n m fi se dg sb) : ∀ (j i c : Nat), i + j = 100000 → c < 2 ^ n → xRun xT 188 10 [(0, .ref 100), (3, .long (lN c)), (5, .int (nI i))] [] (S, I, J, D, R) b Q = Q (.ok (some (.long (lN (ds (nc (I 110 6) (I 111) n fi se dg sb) j c).1)))) (S, I, J, D, R) b
  | 0, i, c, hi, hc => by
    have e : i = 100000 := by omega
    rw [e188_10]
    simp only [B188_10, xSeq, i_push, i_load, i_iload, i_lload, i_dload, i_aload, i_istore, i_astore, i_lstore, i_dstore, i_iinc, i_ii, i_iiz, i_ll, i_llz, i_lli, i_li, i_i, i_l, i_i2l, i_l2i, i_dup, i_dup2, i_dup2w, i_dupx1, i_pop, i_pop2, i_goto, i_ifc, i_icmp, i_getI, i_getL, i_getR, i_putI, i_putZ, i_putL, i_putR, i_aldI, i_aldB, i_aldL, i_aldD, i_astI, i_astL, i_astD, i_alen, i_ret, i_iret, i_zret, i_lret, i_fret, i_dret, i_aret, i_invS0, i_invV0, i_m2, i_m1, i_ml, i_obj, lk, lkp, stf1, stf2, Value.category, rV, xTo, lv_args, xCk, xCat, xRc, xAk, hg_S, hg_I, hg_J, hg_D, hg_R, hs_I, hs_J, hs_D, hs_R, uI_at, uJ_at, uD_at, uR_at, List.take_succ_cons, List.take_zero, List.drop_succ_cons, List.drop_zero, List.reverse_cons, List.reverse_nil, List.nil_append, List.cons_append, List.map_cons, List.map_nil, List.sum_cons, List.sum_nil, List.length_cons, List.length_nil, Option.toList_some, Option.toList_none, true_and, and_true, false_and, and_false, true_implies, false_implies, implies_true, not_true_eq_false, not_false_eq_true, ne_eq, if_true, if_false, Bool.and_true, Bool.true_and, decide_true, decide_false, reduceIte, reduceCtorEq, Bool.and_self, Bool.and_eq_true, decide_eq_true_eq, and_self, true_or, or_true, false_or, or_false, Nat.zero_add, Nat.add_zero, eq_self, Nat.reduceEqDiff, Nat.reduceLeDiff, Nat.reduceLT, Nat.reduceAdd, Nat.reduceSub, Nat.reduceMul, show ((100000 : Int32) ≤ nI i) = True from eq_true (by rw [e]; decide), e188_47, B188_47, ds]
  | j + 1, i, c, hi, hc => by
    have h64 : c < 2 ^ 64 := Nat.lt_of_lt_of_le hc (Nat.pow_le_pow_right (by decide) hG.2.1)
    have hc2 := nc_lt (F := I 110 6) (st := I 111) (fi := fi) (se := se) (dg := dg) (sb := sb) hc
    have h642 := Nat.lt_of_lt_of_le hc2 (Nat.pow_le_pow_right (show 0 < 2 by decide) hG.2.1)
    have ih := R188_10 hL hG hC j (i + 1) (nc (I 110 6) (I 111) n fi se dg sb c) (by omega) hc2
    rw [e188_10]
    simp only [B188_10, xSeq, i_push, i_load, i_iload, i_lload, i_dload, i_aload, i_istore, i_astore, i_lstore, i_dstore, i_iinc, i_ii, i_iiz, i_ll, i_llz, i_lli, i_li, i_i, i_l, i_i2l, i_l2i, i_dup, i_dup2, i_dup2w, i_dupx1, i_pop, i_pop2, i_goto, i_ifc, i_icmp, i_getI, i_getL, i_getR, i_putI, i_putZ, i_putL, i_putR, i_aldI, i_aldB, i_aldL, i_aldD, i_astI, i_astL, i_astD, i_alen, i_ret, i_iret, i_zret, i_lret, i_fret, i_dret, i_aret, i_invS0, i_invV0, i_m2, i_m1, i_ml, i_obj, lk, lkp, stf1, stf2, Value.category, rV, xTo, lv_args, xCk, xCat, xRc, xAk, hg_S, hg_I, hg_J, hg_D, hg_R, hs_I, hs_J, hs_D, hs_R, uI_at, uJ_at, uD_at, uR_at, List.take_succ_cons, List.take_zero, List.drop_succ_cons, List.drop_zero, List.reverse_cons, List.reverse_nil, List.nil_append, List.cons_append, List.map_cons, List.map_nil, List.sum_cons, List.sum_nil, List.length_cons, List.length_nil, Option.toList_some, Option.toList_none, true_and, and_true, false_and, and_false, true_implies, false_implies, implies_true, not_true_eq_false, not_false_eq_true, ne_eq, if_true, if_false, Bool.and_true, Bool.true_and, decide_true, decide_false, reduceIte, reduceCtorEq, Bool.and_self, Bool.and_eq_true, decide_eq_true_eq, and_self, true_or, or_true, false_or, or_false, Nat.zero_add, Nat.add_zero, eq_self, Nat.reduceEqDiff, Nat.reduceLeDiff, Nat.reduceLT, Nat.reduceAdd, Nat.reduceSub, Nat.reduceMul, show ((100000 : Int32) ≤ nI i) = False from eq_false (by rw [show (100000 : Int32) = nI 100000 from rfl]; exact nI_ge (by omega) (by decide)), LC_out hL, R93 hL hG hC h64, lN_cmp h642 h64, ds]
    by_cases h : nc (I 110 6) (I 111) n fi se dg sb c = c
    · simp only [h, true_and, and_true, false_and, and_false, true_implies, false_implies, implies_true, not_true_eq_false, not_false_eq_true, ne_eq, if_true, if_false, Bool.and_true, Bool.true_and, decide_true, decide_false, reduceIte, reduceCtorEq, Bool.and_self, Bool.and_eq_true, decide_eq_true_eq, and_self, true_or, or_true, false_or, or_false, Nat.zero_add, Nat.add_zero, eq_self, Nat.reduceEqDiff, Nat.reduceLeDiff, Nat.reduceLT, Nat.reduceAdd, Nat.reduceSub, Nat.reduceMul, e188_47, B188_47, xSeq, i_push, i_load, i_iload, i_lload, i_dload, i_aload, i_istore, i_astore, i_lstore, i_dstore, i_iinc, i_ii, i_iiz, i_ll, i_llz, i_lli, i_li, i_i, i_l, i_i2l, i_l2i, i_dup, i_dup2, i_dup2w, i_dupx1, i_pop, i_pop2, i_goto, i_ifc, i_icmp, i_getI, i_getL, i_getR, i_putI, i_putZ, i_putL, i_putR, i_aldI, i_aldB, i_aldL, i_aldD, i_astI, i_astL, i_astD, i_alen, i_ret, i_iret, i_zret, i_lret, i_fret, i_dret, i_aret, i_invS0, i_invV0, i_m2, i_m1, i_ml, i_obj, lk, lkp, stf1, stf2, Value.category, rV, xTo, lv_args, xCk, xCat, xRc, xAk, hg_S, hg_I, hg_J, hg_D, hg_R, hs_I, hs_J, hs_D, hs_R, uI_at, uJ_at, uD_at, uR_at, List.take_succ_cons, List.take_zero, List.drop_succ_cons, List.drop_zero, List.reverse_cons, List.reverse_nil, List.nil_append, List.cons_append, List.map_cons, List.map_nil, List.sum_cons, List.sum_nil, List.length_cons, List.length_nil, Option.toList_some, Option.toList_none]
    · simp only [h, true_and, and_true, false_and, and_false, true_implies, false_implies, implies_true, not_true_eq_false, not_false_eq_true, ne_eq, if_true, if_false, Bool.and_true, Bool.true_and, decide_true, decide_false, reduceIte, reduceCtorEq, Bool.and_self, Bool.and_eq_true, decide_eq_true_eq, and_self, true_or, or_true, false_or, or_false, Nat.zero_add, Nat.add_zero, eq_self, Nat.reduceEqDiff, Nat.reduceLeDiff, Nat.reduceLT, Nat.reduceAdd, Nat.reduceSub, Nat.reduceMul, e188_38, B188_38, xSeq, i_push, i_load, i_iload, i_lload, i_dload, i_aload, i_istore, i_astore, i_lstore, i_dstore, i_iinc, i_ii, i_iiz, i_ll, i_llz, i_lli, i_li, i_i, i_l, i_i2l, i_l2i, i_dup, i_dup2, i_dup2w, i_dupx1, i_pop, i_pop2, i_goto, i_ifc, i_icmp, i_getI, i_getL, i_getR, i_putI, i_putZ, i_putL, i_putR, i_aldI, i_aldB, i_aldL, i_aldD, i_astI, i_astL, i_astD, i_alen, i_ret, i_iret, i_zret, i_lret, i_fret, i_dret, i_aret, i_invS0, i_invV0, i_m2, i_m1, i_ml, i_obj, lk, lkp, stf1, stf2, Value.category, rV, xTo, lv_args, xCk, xCat, xRc, xAk, hg_S, hg_I, hg_J, hg_D, hg_R, hs_I, hs_J, hs_D, hs_R, uI_at, uJ_at, uD_at, uR_at, List.take_succ_cons, List.take_zero, List.drop_succ_cons, List.drop_zero, List.reverse_cons, List.reverse_nil, List.nil_append, List.cons_append, List.map_cons, List.map_nil, List.sum_cons, List.sum_nil, List.length_cons, List.length_nil, Option.toList_some, Option.toList_none, nI_1]
      exact ih
theorem R188_z (hL : LC S R) (hG : GR n m fi se dg sb) (hC : CL I n m fi se dg sb) {c : Nat} (hc : c < 2 ^ n) : xRun xT 188 10 [(0, .ref 100), (3, .long (lN c)), (5, .int 0)] [] (S, I, J, D, R) b Q = Q (.ok (some (.long (lN (ds (nc (I 110 6) (I 111) n fi se dg sb) 100000 c).1)))) (S, I, J, D, R) b := by
  obtain ⟨r, hr⟩ : ∃ r : Nat, r = 100000 := ⟨_, rfl⟩
  have h := R188_10 (J := J) (D := D) (b := b) (Q := Q) hL hG hC r 0 c (by omega) hc
  rw [nI_0, hr] at h
  exact h
theorem R268_18 (hL : LM S R) (hG : GR n m fi se dg sb) (hC : CM I n m fi se dg sb) {c : Nat} (hc : c < 2 ^ 64) (hJ : J 200 39 = lN c) : ∀ (j i : Nat), i + j = n → xRun xT 268 18 [(0, .ref 200), (3, .int (bm (dl (I 300 4) (fun k => I 300 (16 + k)) fi se dg sb c) i).2), (4, .int (bm (dl (I 300 4) (fun k => I 300 (16 + k)) fi se dg sb c) i).1), (5, .int (nI i))] [] (S, I, J, D, R) b Q = xRun xT 268 65 [(0, .ref 200), (3, .int (bm (dl (I 300 4) (fun k => I 300 (16 + k)) fi se dg sb c) n).2)] [] (S, I, J, D, R) b Q
  | 0, i, hi => by
    have g1 := hG.2.1
    have c1 := hC.1
    have e : i = n := by omega
    subst e
    rw [e268_18]
    simp only [B268_18, xSeq, i_push, i_load, i_iload, i_lload, i_dload, i_aload, i_istore, i_astore, i_lstore, i_dstore, i_iinc, i_ii, i_iiz, i_ll, i_llz, i_lli, i_li, i_i, i_l, i_i2l, i_l2i, i_dup, i_dup2, i_dup2w, i_dupx1, i_pop, i_pop2, i_goto, i_ifc, i_icmp, i_getI, i_getL, i_getR, i_putI, i_putZ, i_putL, i_putR, i_aldI, i_aldB, i_aldL, i_aldD, i_astI, i_astL, i_astD, i_alen, i_ret, i_iret, i_zret, i_lret, i_fret, i_dret, i_aret, i_invS0, i_invV0, i_m2, i_m1, i_ml, i_obj, lk, lkp, stf1, stf2, Value.category, rV, xTo, lv_args, xCk, xCat, xRc, xAk, hg_S, hg_I, hg_J, hg_D, hg_R, hs_I, hs_J, hs_D, hs_R, uI_at, uJ_at, uD_at, uR_at, List.take_succ_cons, List.take_zero, List.drop_succ_cons, List.drop_zero, List.reverse_cons, List.reverse_nil, List.nil_append, List.cons_append, List.map_cons, List.map_nil, List.sum_cons, List.sum_nil, List.length_cons, List.length_nil, Option.toList_some, Option.toList_none, true_and, and_true, false_and, and_false, true_implies, false_implies, implies_true, not_true_eq_false, not_false_eq_true, ne_eq, if_true, if_false, Bool.and_true, Bool.true_and, decide_true, decide_false, reduceIte, reduceCtorEq, Bool.and_self, Bool.and_eq_true, decide_eq_true_eq, and_self, true_or, or_true, false_or, or_false, Nat.zero_add, Nat.add_zero, eq_self, Nat.reduceEqDiff, Nat.reduceLeDiff, Nat.reduceLT, Nat.reduceAdd, Nat.reduceSub, Nat.reduceMul, LM_out hL, xi144_0, ix_0, xi144_1, ix_1, xi144_2, ix_2, xi144_3, ix_3, xi144_4, ix_4, xi144_5, ix_5, xi144_6, ix_6, xi144_7, ix_7, xi144_8, ix_8, xi144_9, ix_9, xi144_10, ix_10, c1, nI_leP (show i < 2147483648 by omega) (show i < 2147483648 by omega), Nat.le_refl]
  | j + 1, i, hi => by
    have g1 := hG.2.1
    have c1 := hC.1
    have ih := R268_18 hL hG hC hc hJ j (i + 1) (by omega)
    rw [bm] at ih
    rw [e268_18]
    simp only [B268_18, xSeq, i_push, i_load, i_iload, i_lload, i_dload, i_aload, i_istore, i_astore, i_lstore, i_dstore, i_iinc, i_ii, i_iiz, i_ll, i_llz, i_lli, i_li, i_i, i_l, i_i2l, i_l2i, i_dup, i_dup2, i_dup2w, i_dupx1, i_pop, i_pop2, i_goto, i_ifc, i_icmp, i_getI, i_getL, i_getR, i_putI, i_putZ, i_putL, i_putR, i_aldI, i_aldB, i_aldL, i_aldD, i_astI, i_astL, i_astD, i_alen, i_ret, i_iret, i_zret, i_lret, i_fret, i_dret, i_aret, i_invS0, i_invV0, i_m2, i_m1, i_ml, i_obj, lk, lkp, stf1, stf2, Value.category, rV, xTo, lv_args, xCk, xCat, xRc, xAk, hg_S, hg_I, hg_J, hg_D, hg_R, hs_I, hs_J, hs_D, hs_R, uI_at, uJ_at, uD_at, uR_at, List.take_succ_cons, List.take_zero, List.drop_succ_cons, List.drop_zero, List.reverse_cons, List.reverse_nil, List.nil_append, List.cons_append, List.map_cons, List.map_nil, List.sum_cons, List.sum_nil, List.length_cons, List.length_nil, Option.toList_some, Option.toList_none, true_and, and_true, false_and, and_false, true_implies, false_implies, implies_true, not_true_eq_false, not_false_eq_true, ne_eq, if_true, if_false, Bool.and_true, Bool.true_and, decide_true, decide_false, reduceIte, reduceCtorEq, Bool.and_self, Bool.and_eq_true, decide_eq_true_eq, and_self, true_or, or_true, false_or, or_false, Nat.zero_add, Nat.add_zero, eq_self, Nat.reduceEqDiff, Nat.reduceLeDiff, Nat.reduceLT, Nat.reduceAdd, Nat.reduceSub, Nat.reduceMul, LM_out hL, xi144_0, ix_0, xi144_1, ix_1, xi144_2, ix_2, xi144_3, ix_3, xi144_4, ix_4, xi144_5, ix_5, xi144_6, ix_6, xi144_7, ix_7, xi144_8, ix_8, xi144_9, ix_9, xi144_10, ix_10, c1, hJ, nI_leP (show n < 2147483648 by omega) (show i < 2147483648 by omega), show (n ≤ i) = False from eq_false (by omega), R257 hL hG hC hc (show i < n by omega), e268_52, B268_52, e268_59, B268_59, nI_1]
    by_cases h : dl (I 300 4) (fun k => I 300 (16 + k)) fi se dg sb c i < (bm (dl (I 300 4) (fun k => I 300 (16 + k)) fi se dg sb c) i).1
    · rw [if_pos h] at ih
      simp only [h, true_and, and_true, false_and, and_false, true_implies, false_implies, implies_true, not_true_eq_false, not_false_eq_true, ne_eq, if_true, if_false, Bool.and_true, Bool.true_and, decide_true, decide_false, reduceIte, reduceCtorEq, Bool.and_self, Bool.and_eq_true, decide_eq_true_eq, and_self, true_or, or_true, false_or, or_false, Nat.zero_add, Nat.add_zero, eq_self, Nat.reduceEqDiff, Nat.reduceLeDiff, Nat.reduceLT, Nat.reduceAdd, Nat.reduceSub, Nat.reduceMul]
      exact ih
    · rw [if_neg h] at ih
      simp only [h, true_and, and_true, false_and, and_false, true_implies, false_implies, implies_true, not_true_eq_false, not_false_eq_true, ne_eq, if_true, if_false, Bool.and_true, Bool.true_and, decide_true, decide_false, reduceIte, reduceCtorEq, Bool.and_self, Bool.and_eq_true, decide_eq_true_eq, and_self, true_or, or_true, false_or, or_false, Nat.zero_add, Nat.add_zero, eq_self, Nat.reduceEqDiff, Nat.reduceLeDiff, Nat.reduceLT, Nat.reduceAdd, Nat.reduceSub, Nat.reduceMul]
      exact ih
theorem R268_10 (hL : LM S R) (hG : GR n m fi se dg sb) (hN : GN n m fi se dg sb) (hC : CM I n m fi se dg sb) (hs : SB (I 300 4) (fun k => I 300 (16 + k)) m) : ∀ (r k c : Nat), c < 2 ^ n → mu (I 300 4) (fun k => I 300 (16 + k)) n m fi se c < r → xRun xT 268 10 [(0, .ref 200)] [] (S, uI I 200 38 (nI k), uJ J 200 39 (lN c), D, R) b Q = Q (.ok none) (S, uI I 200 38 (nI (k + (ds (nc (I 300 4) (fun k => I 300 (16 + k)) n fi se dg sb) r c).2)), uJ J 200 39 (lN (ds (nc (I 300 4) (fun k => I 300 (16 + k)) n fi se dg sb) r c).1), D, R) b
  | 0, k, c, hc, hm => absurd hm (Nat.not_lt_zero _)
  | r + 1, k, c, hc, hm => by
    have h64 : c < 2 ^ 64 := Nat.lt_of_lt_of_le hc (Nat.pow_le_pow_right (by decide) hG.2.1)
    have hc2 := nc_lt (F := I 300 4) (st := fun k => I 300 (16 + k)) (fi := fi) (se := se) (dg := dg) (sb := sb) hc
    have h18 := R268_18 (I := uI I 200 38 (nI k)) (J := uJ J 200 39 (lN c)) (D := D) (b := b) (Q := Q) hL hG (CM_u hC (by decide)) h64 (by simp only [uJ_at, true_and, and_true, false_and, and_false, true_implies, false_implies, implies_true, not_true_eq_false, not_false_eq_true, ne_eq, if_true, if_false, Bool.and_true, Bool.true_and, decide_true, decide_false, reduceIte, reduceCtorEq, Bool.and_self, Bool.and_eq_true, decide_eq_true_eq, and_self, true_or, or_true, false_or, or_false, Nat.zero_add, Nat.add_zero, eq_self, Nat.reduceEqDiff, Nat.reduceLeDiff, Nat.reduceLT, Nat.reduceAdd, Nat.reduceSub, Nat.reduceMul]) n 0 (by omega)
    rw [nI_0] at h18
    have eF : uI I 200 38 (nI k) 300 4 = I 300 4 := rfl
    have eS : (fun j => uI I 200 38 (nI k) 300 (16 + j)) = fun j => I 300 (16 + j) := rfl
    rw [eF, eS, bm] at h18
    rw [e268_10]
    simp only [B268_10, xSeq, i_push, i_load, i_iload, i_lload, i_dload, i_aload, i_istore, i_astore, i_lstore, i_dstore, i_iinc, i_ii, i_iiz, i_ll, i_llz, i_lli, i_li, i_i, i_l, i_i2l, i_l2i, i_dup, i_dup2, i_dup2w, i_dupx1, i_pop, i_pop2, i_goto, i_ifc, i_icmp, i_getI, i_getL, i_getR, i_putI, i_putZ, i_putL, i_putR, i_aldI, i_aldB, i_aldL, i_aldD, i_astI, i_astL, i_astD, i_alen, i_ret, i_iret, i_zret, i_lret, i_fret, i_dret, i_aret, i_invS0, i_invV0, i_m2, i_m1, i_ml, i_obj, lk, lkp, stf1, stf2, Value.category, rV, xTo, lv_args, xCk, xCat, xRc, xAk, hg_S, hg_I, hg_J, hg_D, hg_R, hs_I, hs_J, hs_D, hs_R, uI_at, uJ_at, uD_at, uR_at, List.take_succ_cons, List.take_zero, List.drop_succ_cons, List.drop_zero, List.reverse_cons, List.reverse_nil, List.nil_append, List.cons_append, List.map_cons, List.map_nil, List.sum_cons, List.sum_nil, List.length_cons, List.length_nil, Option.toList_some, Option.toList_none, true_and, and_true, false_and, and_false, true_implies, false_implies, implies_true, not_true_eq_false, not_false_eq_true, ne_eq, if_true, if_false, Bool.and_true, Bool.true_and, decide_true, decide_false, reduceIte, reduceCtorEq, Bool.and_self, Bool.and_eq_true, decide_eq_true_eq, and_self, true_or, or_true, false_or, or_false, Nat.zero_add, Nat.add_zero, eq_self, Nat.reduceEqDiff, Nat.reduceLeDiff, Nat.reduceLT, Nat.reduceAdd, Nat.reduceSub, Nat.reduceMul, h18, e268_65, B268_65]
    rcases bs_bm (dl (I 300 4) (fun k => I 300 (16 + k)) fi se dg sb c) c n with ⟨t, h1, h2, h3, h4⟩ | ⟨h2, h3⟩
    · have e1 : nc (I 300 4) (fun k => I 300 (16 + k)) n fi se dg sb c = c ^^^ 2 ^ t := by unfold nc; rw [h3]
      have h5 : nc (I 300 4) (fun k => I 300 (16 + k)) n fi se dg sb c ≠ c := by rw [e1]; exact xor_ne c t
      have h6 := mu_nc hs hG hN h5
      have ih := R268_10 hL hG hN hC hs r (k + 1) _ hc2 (by omega)
      have h7 : (nI t = -1) = False := eq_false (fun e => by
        have := congrArg Int32.toInt e
        rw [nI_toInt (by have := hG.2.1; omega)] at this
        have h9 : (-1 : Int32).toInt = -1 := rfl
        omega)
      simp only [h2, h7, ne_eq, not_false_eq_true, xSeq, i_push, i_load, i_iload, i_lload, i_dload, i_aload, i_istore, i_astore, i_lstore, i_dstore, i_iinc, i_ii, i_iiz, i_ll, i_llz, i_lli, i_li, i_i, i_l, i_i2l, i_l2i, i_dup, i_dup2, i_dup2w, i_dupx1, i_pop, i_pop2, i_goto, i_ifc, i_icmp, i_getI, i_getL, i_getR, i_putI, i_putZ, i_putL, i_putR, i_aldI, i_aldB, i_aldL, i_aldD, i_astI, i_astL, i_astD, i_alen, i_ret, i_iret, i_zret, i_lret, i_fret, i_dret, i_aret, i_invS0, i_invV0, i_m2, i_m1, i_ml, i_obj, lk, lkp, stf1, stf2, Value.category, rV, xTo, lv_args, xCk, xCat, xRc, xAk, hg_S, hg_I, hg_J, hg_D, hg_R, hs_I, hs_J, hs_D, hs_R, uI_at, uJ_at, uD_at, uR_at, List.take_succ_cons, List.take_zero, List.drop_succ_cons, List.drop_zero, List.reverse_cons, List.reverse_nil, List.nil_append, List.cons_append, List.map_cons, List.map_nil, List.sum_cons, List.sum_nil, List.length_cons, List.length_nil, Option.toList_some, Option.toList_none, true_and, and_true, false_and, and_false, true_implies, false_implies, implies_true, not_true_eq_false, not_false_eq_true, ne_eq, if_true, if_false, Bool.and_true, Bool.true_and, decide_true, decide_false, reduceIte, reduceCtorEq, Bool.and_self, Bool.and_eq_true, decide_eq_true_eq, and_self, true_or, or_true, false_or, or_false, Nat.zero_add, Nat.add_zero, eq_self, Nat.reduceEqDiff, Nat.reduceLeDiff, Nat.reduceLT, Nat.reduceAdd, Nat.reduceSub, Nat.reduceMul, e268_71, B268_71, LM_out hL, q_1shlL (show t < 64 by have := hG.2.1; omega), q_xor, nI_1, uI_uI, uJ_uJ]
      rw [ds, if_neg h5, ← e1]
      show xRun xT 268 10 [(0, .ref 200)] [] (S, uI I 200 38 (nI (k + 1)), uJ J 200 39 (lN (nc (I 300 4) (fun k => I 300 (16 + k)) n fi se dg sb c)), D, R) b Q = _
      rw [ih]
      show Q (.ok none) (S, uI I 200 38 (nI (k + 1 + (ds (nc (I 300 4) (fun k => I 300 (16 + k)) n fi se dg sb) r (nc (I 300 4) (fun k => I 300 (16 + k)) n fi se dg sb c)).2)), uJ J 200 39 (lN (ds (nc (I 300 4) (fun k => I 300 (16 + k)) n fi se dg sb) r (nc (I 300 4) (fun k => I 300 (16 + k)) n fi se dg sb c)).1), D, R) b = _
      rw [show k + 1 + (ds (nc (I 300 4) (fun k => I 300 (16 + k)) n fi se dg sb) r (nc (I 300 4) (fun k => I 300 (16 + k)) n fi se dg sb c)).2 = k + ((ds (nc (I 300 4) (fun k => I 300 (16 + k)) n fi se dg sb) r (nc (I 300 4) (fun k => I 300 (16 + k)) n fi se dg sb c)).2 + 1) by omega]
    · have e1 : nc (I 300 4) (fun k => I 300 (16 + k)) n fi se dg sb c = c := by unfold nc; rw [h3]
      simp only [h2, ne_eq, not_true_eq_false, xSeq, i_push, i_load, i_iload, i_lload, i_dload, i_aload, i_istore, i_astore, i_lstore, i_dstore, i_iinc, i_ii, i_iiz, i_ll, i_llz, i_lli, i_li, i_i, i_l, i_i2l, i_l2i, i_dup, i_dup2, i_dup2w, i_dupx1, i_pop, i_pop2, i_goto, i_ifc, i_icmp, i_getI, i_getL, i_getR, i_putI, i_putZ, i_putL, i_putR, i_aldI, i_aldB, i_aldL, i_aldD, i_astI, i_astL, i_astD, i_alen, i_ret, i_iret, i_zret, i_lret, i_fret, i_dret, i_aret, i_invS0, i_invV0, i_m2, i_m1, i_ml, i_obj, lk, lkp, stf1, stf2, Value.category, rV, xTo, lv_args, xCk, xCat, xRc, xAk, hg_S, hg_I, hg_J, hg_D, hg_R, hs_I, hs_J, hs_D, hs_R, uI_at, uJ_at, uD_at, uR_at, List.take_succ_cons, List.take_zero, List.drop_succ_cons, List.drop_zero, List.reverse_cons, List.reverse_nil, List.nil_append, List.cons_append, List.map_cons, List.map_nil, List.sum_cons, List.sum_nil, List.length_cons, List.length_nil, Option.toList_some, Option.toList_none, true_and, and_true, false_and, and_false, true_implies, false_implies, implies_true, not_true_eq_false, not_false_eq_true, ne_eq, if_true, if_false, Bool.and_true, Bool.true_and, decide_true, decide_false, reduceIte, reduceCtorEq, Bool.and_self, Bool.and_eq_true, decide_eq_true_eq, and_self, true_or, or_true, false_or, or_false, Nat.zero_add, Nat.add_zero, eq_self, Nat.reduceEqDiff, Nat.reduceLeDiff, Nat.reduceLT, Nat.reduceAdd, Nat.reduceSub, Nat.reduceMul, ds, e1]
theorem R268 (hL : LM S R) (hG : GR n m fi se dg sb) (hN : GN n m fi se dg sb) (hC : CM I n m fi se dg sb) (hs : SB (I 300 4) (fun k => I 300 (16 + k)) m) {c : Nat} (hc : c < 2 ^ n) : xRun xT 268 0 [(0, .ref 200), (1, .long (lN c))] [] (S, I, J, D, R) b Q = Q (.ok none) (S, uI I 200 38 (nI (ds (nc (I 300 4) (fun k => I 300 (16 + k)) n fi se dg sb) 100000 c).2), uJ J 200 39 (lN (ds (nc (I 300 4) (fun k => I 300 (16 + k)) n fi se dg sb) 100000 c).1), D, R) b := by
  have b1 := en_bd (fi := fi) (se := se) hs hG.2.1 hG.2.2.1 c
  have hm : mu (I 300 4) (fun k => I 300 (16 + k)) n m fi se c < 100000 := by
    unfold mu
    omega
  obtain ⟨r, hr⟩ : ∃ r : Nat, r = 100000 := ⟨_, rfl⟩
  rw [← hr] at hm ⊢
  have h := R268_10 (J := J) (D := D) (b := b) (Q := Q) hL hG hN hC hs r 0 c hc hm
  rw [Nat.zero_add, nI_0] at h
  rw [e268_0]
  simp only [B268_0, xSeq, i_push, i_load, i_iload, i_lload, i_dload, i_aload, i_istore, i_astore, i_lstore, i_dstore, i_iinc, i_ii, i_iiz, i_ll, i_llz, i_lli, i_li, i_i, i_l, i_i2l, i_l2i, i_dup, i_dup2, i_dup2w, i_dupx1, i_pop, i_pop2, i_goto, i_ifc, i_icmp, i_getI, i_getL, i_getR, i_putI, i_putZ, i_putL, i_putR, i_aldI, i_aldB, i_aldL, i_aldD, i_astI, i_astL, i_astD, i_alen, i_ret, i_iret, i_zret, i_lret, i_fret, i_dret, i_aret, i_invS0, i_invV0, i_m2, i_m1, i_ml, i_obj, lk, lkp, stf1, stf2, Value.category, rV, xTo, lv_args, xCk, xCat, xRc, xAk, hg_S, hg_I, hg_J, hg_D, hg_R, hs_I, hs_J, hs_D, hs_R, uI_at, uJ_at, uD_at, uR_at, List.take_succ_cons, List.take_zero, List.drop_succ_cons, List.drop_zero, List.reverse_cons, List.reverse_nil, List.nil_append, List.cons_append, List.map_cons, List.map_nil, List.sum_cons, List.sum_nil, List.length_cons, List.length_nil, Option.toList_some, Option.toList_none, true_and, and_true, false_and, and_false, true_implies, false_implies, implies_true, not_true_eq_false, not_false_eq_true, ne_eq, if_true, if_false, Bool.and_true, Bool.true_and, decide_true, decide_false, reduceIte, reduceCtorEq, Bool.and_self, Bool.and_eq_true, decide_eq_true_eq, and_self, true_or, or_true, false_or, or_false, Nat.zero_add, Nat.add_zero, eq_self, Nat.reduceEqDiff, Nat.reduceLeDiff, Nat.reduceLT, Nat.reduceAdd, Nat.reduceSub, Nat.reduceMul, LM_out hL]
  exact h
end
/-! ===== descents: printed by 99h.dcases.py ===== -/
section
theorem bs_congr {d e : Nat → Int32} {c : Nat} : ∀ {i : Nat}, (∀ k, k < i → d k = e k) → bs d c i = bs e c i
  | 0, _ => rfl
  | i + 1, h => by rw [bs, bs, bs_congr (fun k hk => h k (Nat.lt_succ_of_lt hk)), h i (Nat.lt_succ_self i)]
theorem nc_congr {F : Int32} {st st' : Nat → Int32} {n m : Nat} {fi se dg : Nat → Nat} {sb : Nat → Nat → Nat} (hG : GR n m fi se dg sb) (h : ∀ k, k < m → st k = st' k) : nc F st n fi se dg sb = nc F st' n fi se dg sb := by
  funext c
  unfold nc
  rw [bs_congr (fun k hk => dl_congr hG c hk h)]
end
/-! ===== appendInput ===== -/
section
variable {S : xS} {I : xI} {J : xJ} {D : xDb} {R : xR} {b : Nat × Nat} {Q : xQ}
def p1B (I : xI) (k : Nat) (v : Int32) : xI := uI (uI I 101 k v) 100 1 (nI (k + 1))
def bW (w sh : Int32) : Int32 := vp_nar .byte (jI2b (jShr w sh))
theorem p1B_at (I : xI) (k : Nat) (v : Int32) (o j : Nat) : p1B I k v o j = if o = 100 ∧ j = 1 then nI (k + 1) else if o = 101 ∧ j = k then v else I o j := rfl
theorem R119_3 (hL : LC S R) {k : Nat} (h1 : I 100 1 = nI k) (hk : k < 600) {w sh : Int32} (hs : (sh < 0) = False) : xRun xT 119 3 [(0, .ref 100), (1, .int w), (2, .int sh)] [] (S, I, J, D, R) b Q = xRun xT 119 3 [(0, .ref 100), (1, .int w), (2, .int (sh + -8))] [] (S, p1B I k (bW w sh), J, D, R) b Q := by
  rw [e119_3]
  simp only [B119_3, xSeq, i_push, i_load, i_iload, i_lload, i_dload, i_aload, i_istore, i_astore, i_lstore, i_dstore, i_iinc, i_ii, i_iiz, i_ll, i_llz, i_lli, i_li, i_i, i_l, i_i2l, i_l2i, i_dup, i_dup2, i_dup2w, i_dupx1, i_pop, i_pop2, i_goto, i_ifc, i_icmp, i_getI, i_getL, i_getR, i_putI, i_putZ, i_putL, i_putR, i_aldI, i_aldB, i_aldL, i_aldD, i_astI, i_astL, i_astD, i_alen, i_ret, i_iret, i_zret, i_lret, i_fret, i_dret, i_aret, i_invS0, i_invV0, i_m2, i_m1, i_ml, i_obj, lk, lkp, stf1, stf2, Value.category, rV, xTo, lv_args, xCk, xCat, xRc, xAk, hg_S, hg_I, hg_J, hg_D, hg_R, hs_I, hs_J, hs_D, hs_R, uI_at, uJ_at, uD_at, uR_at, List.take_succ_cons, List.take_zero, List.drop_succ_cons, List.drop_zero, List.reverse_cons, List.reverse_nil, List.nil_append, List.cons_append, List.map_cons, List.map_nil, List.sum_cons, List.sum_nil, List.length_cons, List.length_nil, Option.toList_some, Option.toList_none, true_and, and_true, false_and, and_false, true_implies, false_implies, implies_true, not_true_eq_false, not_false_eq_true, ne_eq, if_true, if_false, Bool.and_true, Bool.true_and, decide_true, decide_false, reduceIte, reduceCtorEq, Bool.and_self, Bool.and_eq_true, decide_eq_true_eq, and_self, true_or, or_true, false_or, or_false, Nat.zero_add, Nat.add_zero, eq_self, Nat.reduceEqDiff, Nat.reduceLeDiff, Nat.reduceLT, Nat.reduceAdd, Nat.reduceSub, Nat.reduceMul, LC_out hL, h1, hs, nI_leP (show 600 < 2147483648 by decide) (show k < 2147483648 by omega), show (600 ≤ k) = False from eq_false (by omega), nI_inP hk (by decide), nI_ix (show k < 2147483648 by omega), e119_42, B119_42, nI_1, show ((100 ≤ 103 ∧ 103 < 106) ∨ 103 = 107 ∨ 103 = 108) = True from eq_true (by decide)]
  rfl
/-- a word written -/
def pW (I : xI) (k : Nat) (w : Int32) : xI := p1B (p1B (p1B (p1B I k (bW w 24)) (k + 1) (bW w (24 + -8))) (k + 1 + 1) (bW w (24 + -8 + -8))) (k + 1 + 1 + 1) (bW w (24 + -8 + -8 + -8))
theorem pW_n (I : xI) (k : Nat) (w : Int32) : pW I k w 100 1 = nI (k + 4) := rfl
theorem pW_fr (I : xI) (k : Nat) (w : Int32) {o j : Nat} (h : o ≠ 101) (h2 : ¬ (o = 100 ∧ j = 1)) : pW I k w o j = I o j := by
  have e1 : (o = 101) = False := eq_false h
  have e2 : (o = 100 ∧ j = 1) = False := eq_false h2
  unfold pW
  simp only [p1B_at, e1, e2, false_and, if_false]
theorem p1B_n (I : xI) (k : Nat) (v : Int32) : p1B I k v 100 1 = nI (k + 1) := rfl
theorem R119 (hL : LC S R) {k : Nat} (h1 : I 100 1 = nI k) (hk : k + 4 ≤ 600) {w : Int32} : xRun xT 119 0 [(0, .ref 100), (1, .int w)] [] (S, I, J, D, R) b Q = Q (.ok none) (S, pW I k w, J, D, R) b := by
  rw [e119_0]
  simp only [B119_0, xSeq, i_push, i_load, i_iload, i_lload, i_dload, i_aload, i_istore, i_astore, i_lstore, i_dstore, i_iinc, i_ii, i_iiz, i_ll, i_llz, i_lli, i_li, i_i, i_l, i_i2l, i_l2i, i_dup, i_dup2, i_dup2w, i_dupx1, i_pop, i_pop2, i_goto, i_ifc, i_icmp, i_getI, i_getL, i_getR, i_putI, i_putZ, i_putL, i_putR, i_aldI, i_aldB, i_aldL, i_aldD, i_astI, i_astL, i_astD, i_alen, i_ret, i_iret, i_zret, i_lret, i_fret, i_dret, i_aret, i_invS0, i_invV0, i_m2, i_m1, i_ml, i_obj, lk, lkp, stf1, stf2, Value.category, rV, xTo, lv_args, xCk, xCat, xRc, xAk, hg_S, hg_I, hg_J, hg_D, hg_R, hs_I, hs_J, hs_D, hs_R, uI_at, uJ_at, uD_at, uR_at, List.take_succ_cons, List.take_zero, List.drop_succ_cons, List.drop_zero, List.reverse_cons, List.reverse_nil, List.nil_append, List.cons_append, List.map_cons, List.map_nil, List.sum_cons, List.sum_nil, List.length_cons, List.length_nil, Option.toList_some, Option.toList_none, true_and, and_true, false_and, and_false, true_implies, false_implies, implies_true, not_true_eq_false, not_false_eq_true, ne_eq, if_true, if_false, Bool.and_true, Bool.true_and, decide_true, decide_false, reduceIte, reduceCtorEq, Bool.and_self, Bool.and_eq_true, decide_eq_true_eq, and_self, true_or, or_true, false_or, or_false, Nat.zero_add, Nat.add_zero, eq_self, Nat.reduceEqDiff, Nat.reduceLeDiff, Nat.reduceLT, Nat.reduceAdd, Nat.reduceSub, Nat.reduceMul]
  rw [R119_3 hL h1 (by omega) (by decide), R119_3 hL (p1B_n _ _ _) (by omega) (by decide), R119_3 hL (p1B_n _ _ _) (by omega) (by decide), R119_3 hL (p1B_n _ _ _) (by omega) (by decide), e119_3]
  simp only [B119_3, xSeq, i_push, i_load, i_iload, i_lload, i_dload, i_aload, i_istore, i_astore, i_lstore, i_dstore, i_iinc, i_ii, i_iiz, i_ll, i_llz, i_lli, i_li, i_i, i_l, i_i2l, i_l2i, i_dup, i_dup2, i_dup2w, i_dupx1, i_pop, i_pop2, i_goto, i_ifc, i_icmp, i_getI, i_getL, i_getR, i_putI, i_putZ, i_putL, i_putR, i_aldI, i_aldB, i_aldL, i_aldD, i_astI, i_astL, i_astD, i_alen, i_ret, i_iret, i_zret, i_lret, i_fret, i_dret, i_aret, i_invS0, i_invV0, i_m2, i_m1, i_ml, i_obj, lk, lkp, stf1, stf2, Value.category, rV, xTo, lv_args, xCk, xCat, xRc, xAk, hg_S, hg_I, hg_J, hg_D, hg_R, hs_I, hs_J, hs_D, hs_R, uI_at, uJ_at, uD_at, uR_at, List.take_succ_cons, List.take_zero, List.drop_succ_cons, List.drop_zero, List.reverse_cons, List.reverse_nil, List.nil_append, List.cons_append, List.map_cons, List.map_nil, List.sum_cons, List.sum_nil, List.length_cons, List.length_nil, Option.toList_some, Option.toList_none, true_and, and_true, false_and, and_false, true_implies, false_implies, implies_true, not_true_eq_false, not_false_eq_true, ne_eq, if_true, if_false, Bool.and_true, Bool.true_and, decide_true, decide_false, reduceIte, reduceCtorEq, Bool.and_self, Bool.and_eq_true, decide_eq_true_eq, and_self, true_or, or_true, false_or, or_false, Nat.zero_add, Nat.add_zero, eq_self, Nat.reduceEqDiff, Nat.reduceLeDiff, Nat.reduceLT, Nat.reduceAdd, Nat.reduceSub, Nat.reduceMul, show ((24 : Int32) + -8 + -8 + -8 + -8 < 0) = True from eq_true (by decide), e119_48, B119_48]
  rfl
def pWs (I : xI) (k : Nat) (v w x y z : Int32) : xI := pW (pW (pW (pW (pW I k v) (k + 4) w) (k + 4 + 4) x) (k + 4 + 4 + 4) y) (k + 4 + 4 + 4 + 4) z
theorem R118 (hL : LC S R) {k : Nat} (h1 : I 100 1 = nI k) (hk : k + 20 ≤ 600) {v w x y z : Int32} : xRun xT 118 0 [(0, .ref 100), (1, .int v), (2, .int w), (3, .int x), (4, .int y), (5, .int z)] [] (S, I, J, D, R) b Q = Q (.ok (some (.int (nI (k + 20))))) (S, pWs I k v w x y z, J, D, R) b := by
  have e1 := fun (b : Nat × Nat) (Q : xQ) => R119 (J := J) (D := D) (b := b) (Q := Q) hL h1 (by omega) (w := v)
  have e2 := fun (b : Nat × Nat) (Q : xQ) => R119 (J := J) (D := D) (b := b) (Q := Q) hL (pW_n I k v) (by omega) (w := w)
  have e3 := fun (b : Nat × Nat) (Q : xQ) => R119 (J := J) (D := D) (b := b) (Q := Q) hL (pW_n (pW I k v) (k + 4) w) (by omega) (w := x)
  have e4 := fun (b : Nat × Nat) (Q : xQ) => R119 (J := J) (D := D) (b := b) (Q := Q) hL (pW_n (pW (pW I k v) (k + 4) w) (k + 4 + 4) x) (by omega) (w := y)
  have e5 := fun (b : Nat × Nat) (Q : xQ) => R119 (J := J) (D := D) (b := b) (Q := Q) hL (pW_n (pW (pW (pW I k v) (k + 4) w) (k + 4 + 4) x) (k + 4 + 4 + 4) y) (by omega) (w := z)
  rw [e118_0]
  simp only [B118_0, xSeq, i_push, i_load, i_iload, i_lload, i_dload, i_aload, i_istore, i_astore, i_lstore, i_dstore, i_iinc, i_ii, i_iiz, i_ll, i_llz, i_lli, i_li, i_i, i_l, i_i2l, i_l2i, i_dup, i_dup2, i_dup2w, i_dupx1, i_pop, i_pop2, i_goto, i_ifc, i_icmp, i_getI, i_getL, i_getR, i_putI, i_putZ, i_putL, i_putR, i_aldI, i_aldB, i_aldL, i_aldD, i_astI, i_astL, i_astD, i_alen, i_ret, i_iret, i_zret, i_lret, i_fret, i_dret, i_aret, i_invS0, i_invV0, i_m2, i_m1, i_ml, i_obj, lk, lkp, stf1, stf2, Value.category, rV, xTo, lv_args, xCk, xCat, xRc, xAk, hg_S, hg_I, hg_J, hg_D, hg_R, hs_I, hs_J, hs_D, hs_R, uI_at, uJ_at, uD_at, uR_at, List.take_succ_cons, List.take_zero, List.drop_succ_cons, List.drop_zero, List.reverse_cons, List.reverse_nil, List.nil_append, List.cons_append, List.map_cons, List.map_nil, List.sum_cons, List.sum_nil, List.length_cons, List.length_nil, Option.toList_some, Option.toList_none, true_and, and_true, false_and, and_false, true_implies, false_implies, implies_true, not_true_eq_false, not_false_eq_true, ne_eq, if_true, if_false, Bool.and_true, Bool.true_and, decide_true, decide_false, reduceIte, reduceCtorEq, Bool.and_self, Bool.and_eq_true, decide_eq_true_eq, and_self, true_or, or_true, false_or, or_false, Nat.zero_add, Nat.add_zero, eq_self, Nat.reduceEqDiff, Nat.reduceLeDiff, Nat.reduceLT, Nat.reduceAdd, Nat.reduceSub, Nat.reduceMul, LC_out hL, h1, show (nI k ≤ 580) = True from eq_true ((nI_leI (by omega) (by decide)).mpr (show k ≤ 580 by omega))]
  rw [e118_12]
  simp only [B118_12, xSeq, i_push, i_load, i_iload, i_lload, i_dload, i_aload, i_istore, i_astore, i_lstore, i_dstore, i_iinc, i_ii, i_iiz, i_ll, i_llz, i_lli, i_li, i_i, i_l, i_i2l, i_l2i, i_dup, i_dup2, i_dup2w, i_dupx1, i_pop, i_pop2, i_goto, i_ifc, i_icmp, i_getI, i_getL, i_getR, i_putI, i_putZ, i_putL, i_putR, i_aldI, i_aldB, i_aldL, i_aldD, i_astI, i_astL, i_astD, i_alen, i_ret, i_iret, i_zret, i_lret, i_fret, i_dret, i_aret, i_invS0, i_invV0, i_m2, i_m1, i_ml, i_obj, lk, lkp, stf1, stf2, Value.category, rV, xTo, lv_args, xCk, xCat, xRc, xAk, hg_S, hg_I, hg_J, hg_D, hg_R, hs_I, hs_J, hs_D, hs_R, uI_at, uJ_at, uD_at, uR_at, List.take_succ_cons, List.take_zero, List.drop_succ_cons, List.drop_zero, List.reverse_cons, List.reverse_nil, List.nil_append, List.cons_append, List.map_cons, List.map_nil, List.sum_cons, List.sum_nil, List.length_cons, List.length_nil, Option.toList_some, Option.toList_none, true_and, and_true, false_and, and_false, true_implies, false_implies, implies_true, not_true_eq_false, not_false_eq_true, ne_eq, if_true, if_false, Bool.and_true, Bool.true_and, decide_true, decide_false, reduceIte, reduceCtorEq, Bool.and_self, Bool.and_eq_true, decide_eq_true_eq, and_self, true_or, or_true, false_or, or_false, Nat.zero_add, Nat.add_zero, eq_self, Nat.reduceEqDiff, Nat.reduceLeDiff, Nat.reduceLT, Nat.reduceAdd, Nat.reduceSub, Nat.reduceMul, LC_out hL, e1, e2, e3, e4, e5, pW_n]
  rfl
def q1B (I : xI) (k : Nat) (v : Int32) : xI := uI (uI I 320 k v) 200 21 (nI (k + 1))
def cW (w sh : Int32) : Int32 := jShr w sh &&& 255
theorem q1B_at (I : xI) (k : Nat) (v : Int32) (o j : Nat) : q1B I k v o j = if o = 200 ∧ j = 21 then nI (k + 1) else if o = 320 ∧ j = k then v else I o j := rfl
theorem R203_3 (hL : LM S R) {k : Nat} (h1 : I 200 21 = nI k) (hk : k < 600) {w sh : Int32} (hs : (sh < 0) = False) : xRun xT 203 3 [(0, .ref 200), (1, .int w), (2, .int sh)] [] (S, I, J, D, R) b Q = xRun xT 203 3 [(0, .ref 200), (1, .int w), (2, .int (sh + -8))] [] (S, q1B I k (cW w sh), J, D, R) b Q := by
  rw [e203_3]
  simp only [B203_3, xSeq, i_push, i_load, i_iload, i_lload, i_dload, i_aload, i_istore, i_astore, i_lstore, i_dstore, i_iinc, i_ii, i_iiz, i_ll, i_llz, i_lli, i_li, i_i, i_l, i_i2l, i_l2i, i_dup, i_dup2, i_dup2w, i_dupx1, i_pop, i_pop2, i_goto, i_ifc, i_icmp, i_getI, i_getL, i_getR, i_putI, i_putZ, i_putL, i_putR, i_aldI, i_aldB, i_aldL, i_aldD, i_astI, i_astL, i_astD, i_alen, i_ret, i_iret, i_zret, i_lret, i_fret, i_dret, i_aret, i_invS0, i_invV0, i_m2, i_m1, i_ml, i_obj, lk, lkp, stf1, stf2, Value.category, rV, xTo, lv_args, xCk, xCat, xRc, xAk, hg_S, hg_I, hg_J, hg_D, hg_R, hs_I, hs_J, hs_D, hs_R, uI_at, uJ_at, uD_at, uR_at, List.take_succ_cons, List.take_zero, List.drop_succ_cons, List.drop_zero, List.reverse_cons, List.reverse_nil, List.nil_append, List.cons_append, List.map_cons, List.map_nil, List.sum_cons, List.sum_nil, List.length_cons, List.length_nil, Option.toList_some, Option.toList_none, true_and, and_true, false_and, and_false, true_implies, false_implies, implies_true, not_true_eq_false, not_false_eq_true, ne_eq, if_true, if_false, Bool.and_true, Bool.true_and, decide_true, decide_false, reduceIte, reduceCtorEq, Bool.and_self, Bool.and_eq_true, decide_eq_true_eq, and_self, true_or, or_true, false_or, or_false, Nat.zero_add, Nat.add_zero, eq_self, Nat.reduceEqDiff, Nat.reduceLeDiff, Nat.reduceLT, Nat.reduceAdd, Nat.reduceSub, Nat.reduceMul, LM_out hL, h1, hs, nI_inP hk (by decide), nI_ix (show k < 2147483648 by omega), nI_1]
  rfl
def qW (I : xI) (k : Nat) (w : Int32) : xI := q1B (q1B (q1B (q1B I k (cW w 24)) (k + 1) (cW w (24 + -8))) (k + 1 + 1) (cW w (24 + -8 + -8))) (k + 1 + 1 + 1) (cW w (24 + -8 + -8 + -8))
theorem qW_n (I : xI) (k : Nat) (w : Int32) : qW I k w 200 21 = nI (k + 4) := rfl
theorem q1B_n (I : xI) (k : Nat) (v : Int32) : q1B I k v 200 21 = nI (k + 1) := rfl
theorem R203 (hL : LM S R) {k : Nat} (h1 : I 200 21 = nI k) (hk : k + 4 ≤ 600) {w : Int32} : xRun xT 203 0 [(0, .ref 200), (1, .int w)] [] (S, I, J, D, R) b Q = Q (.ok none) (S, qW I k w, J, D, R) b := by
  rw [e203_0]
  simp only [B203_0, xSeq, i_push, i_load, i_iload, i_lload, i_dload, i_aload, i_istore, i_astore, i_lstore, i_dstore, i_iinc, i_ii, i_iiz, i_ll, i_llz, i_lli, i_li, i_i, i_l, i_i2l, i_l2i, i_dup, i_dup2, i_dup2w, i_dupx1, i_pop, i_pop2, i_goto, i_ifc, i_icmp, i_getI, i_getL, i_getR, i_putI, i_putZ, i_putL, i_putR, i_aldI, i_aldB, i_aldL, i_aldD, i_astI, i_astL, i_astD, i_alen, i_ret, i_iret, i_zret, i_lret, i_fret, i_dret, i_aret, i_invS0, i_invV0, i_m2, i_m1, i_ml, i_obj, lk, lkp, stf1, stf2, Value.category, rV, xTo, lv_args, xCk, xCat, xRc, xAk, hg_S, hg_I, hg_J, hg_D, hg_R, hs_I, hs_J, hs_D, hs_R, uI_at, uJ_at, uD_at, uR_at, List.take_succ_cons, List.take_zero, List.drop_succ_cons, List.drop_zero, List.reverse_cons, List.reverse_nil, List.nil_append, List.cons_append, List.map_cons, List.map_nil, List.sum_cons, List.sum_nil, List.length_cons, List.length_nil, Option.toList_some, Option.toList_none, true_and, and_true, false_and, and_false, true_implies, false_implies, implies_true, not_true_eq_false, not_false_eq_true, ne_eq, if_true, if_false, Bool.and_true, Bool.true_and, decide_true, decide_false, reduceIte, reduceCtorEq, Bool.and_self, Bool.and_eq_true, decide_eq_true_eq, and_self, true_or, or_true, false_or, or_false, Nat.zero_add, Nat.add_zero, eq_self, Nat.reduceEqDiff, Nat.reduceLeDiff, Nat.reduceLT, Nat.reduceAdd, Nat.reduceSub, Nat.reduceMul]
  rw [R203_3 hL h1 (by omega) (by decide), R203_3 hL (q1B_n _ _ _) (by omega) (by decide), R203_3 hL (q1B_n _ _ _) (by omega) (by decide), R203_3 hL (q1B_n _ _ _) (by omega) (by decide), e203_3]
  simp only [B203_3, xSeq, i_push, i_load, i_iload, i_lload, i_dload, i_aload, i_istore, i_astore, i_lstore, i_dstore, i_iinc, i_ii, i_iiz, i_ll, i_llz, i_lli, i_li, i_i, i_l, i_i2l, i_l2i, i_dup, i_dup2, i_dup2w, i_dupx1, i_pop, i_pop2, i_goto, i_ifc, i_icmp, i_getI, i_getL, i_getR, i_putI, i_putZ, i_putL, i_putR, i_aldI, i_aldB, i_aldL, i_aldD, i_astI, i_astL, i_astD, i_alen, i_ret, i_iret, i_zret, i_lret, i_fret, i_dret, i_aret, i_invS0, i_invV0, i_m2, i_m1, i_ml, i_obj, lk, lkp, stf1, stf2, Value.category, rV, xTo, lv_args, xCk, xCat, xRc, xAk, hg_S, hg_I, hg_J, hg_D, hg_R, hs_I, hs_J, hs_D, hs_R, uI_at, uJ_at, uD_at, uR_at, List.take_succ_cons, List.take_zero, List.drop_succ_cons, List.drop_zero, List.reverse_cons, List.reverse_nil, List.nil_append, List.cons_append, List.map_cons, List.map_nil, List.sum_cons, List.sum_nil, List.length_cons, List.length_nil, Option.toList_some, Option.toList_none, true_and, and_true, false_and, and_false, true_implies, false_implies, implies_true, not_true_eq_false, not_false_eq_true, ne_eq, if_true, if_false, Bool.and_true, Bool.true_and, decide_true, decide_false, reduceIte, reduceCtorEq, Bool.and_self, Bool.and_eq_true, decide_eq_true_eq, and_self, true_or, or_true, false_or, or_false, Nat.zero_add, Nat.add_zero, eq_self, Nat.reduceEqDiff, Nat.reduceLeDiff, Nat.reduceLT, Nat.reduceAdd, Nat.reduceSub, Nat.reduceMul, show ((24 : Int32) + -8 + -8 + -8 + -8 < 0) = True from eq_true (by decide), e203_39, B203_39]
  rfl
def qWs (I : xI) (k : Nat) (v w x y z : Int32) : xI := qW (qW (qW (qW (qW I k v) (k + 4) w) (k + 4 + 4) x) (k + 4 + 4 + 4) y) (k + 4 + 4 + 4 + 4) z
theorem R202 (hL : LM S R) {k : Nat} (h1 : I 200 21 = nI k) (hk : k + 20 ≤ 600) {v w x y z : Int32} : xRun xT 202 0 [(0, .ref 200), (1, .int v), (2, .int w), (3, .int x), (4, .int y), (5, .int z)] [] (S, I, J, D, R) b Q = Q (.ok (some (.int (nI (k + 20))))) (S, qWs (uI I 200 19 0) k v w x y z, J, D, R) b := by
  have h0 : uI I 200 19 0 200 21 = nI k := h1
  have e1 := fun (b : Nat × Nat) (Q : xQ) => R203 (J := J) (D := D) (b := b) (Q := Q) hL h0 (by omega) (w := v)
  have e2 := fun (b : Nat × Nat) (Q : xQ) => R203 (J := J) (D := D) (b := b) (Q := Q) hL (qW_n (uI I 200 19 0) k v) (by omega) (w := w)
  have e3 := fun (b : Nat × Nat) (Q : xQ) => R203 (J := J) (D := D) (b := b) (Q := Q) hL (qW_n (qW (uI I 200 19 0) k v) (k + 4) w) (by omega) (w := x)
  have e4 := fun (b : Nat × Nat) (Q : xQ) => R203 (J := J) (D := D) (b := b) (Q := Q) hL (qW_n (qW (qW (uI I 200 19 0) k v) (k + 4) w) (k + 4 + 4) x) (by omega) (w := y)
  have e5 := fun (b : Nat × Nat) (Q : xQ) => R203 (J := J) (D := D) (b := b) (Q := Q) hL (qW_n (qW (qW (qW (uI I 200 19 0) k v) (k + 4) w) (k + 4 + 4) x) (k + 4 + 4 + 4) y) (by omega) (w := z)
  rw [e202_0]
  simp only [B202_0, xSeq, i_push, i_load, i_iload, i_lload, i_dload, i_aload, i_istore, i_astore, i_lstore, i_dstore, i_iinc, i_ii, i_iiz, i_ll, i_llz, i_lli, i_li, i_i, i_l, i_i2l, i_l2i, i_dup, i_dup2, i_dup2w, i_dupx1, i_pop, i_pop2, i_goto, i_ifc, i_icmp, i_getI, i_getL, i_getR, i_putI, i_putZ, i_putL, i_putR, i_aldI, i_aldB, i_aldL, i_aldD, i_astI, i_astL, i_astD, i_alen, i_ret, i_iret, i_zret, i_lret, i_fret, i_dret, i_aret, i_invS0, i_invV0, i_m2, i_m1, i_ml, i_obj, lk, lkp, stf1, stf2, Value.category, rV, xTo, lv_args, xCk, xCat, xRc, xAk, hg_S, hg_I, hg_J, hg_D, hg_R, hs_I, hs_J, hs_D, hs_R, uI_at, uJ_at, uD_at, uR_at, List.take_succ_cons, List.take_zero, List.drop_succ_cons, List.drop_zero, List.reverse_cons, List.reverse_nil, List.nil_append, List.cons_append, List.map_cons, List.map_nil, List.sum_cons, List.sum_nil, List.length_cons, List.length_nil, Option.toList_some, Option.toList_none, true_and, and_true, false_and, and_false, true_implies, false_implies, implies_true, not_true_eq_false, not_false_eq_true, ne_eq, if_true, if_false, Bool.and_true, Bool.true_and, decide_true, decide_false, reduceIte, reduceCtorEq, Bool.and_self, Bool.and_eq_true, decide_eq_true_eq, and_self, true_or, or_true, false_or, or_false, Nat.zero_add, Nat.add_zero, eq_self, Nat.reduceEqDiff, Nat.reduceLeDiff, Nat.reduceLT, Nat.reduceAdd, Nat.reduceSub, Nat.reduceMul, LM_out hL, h1, show nI k + 20 ≤ 600 from by rw [show (20 : Int32) = nI 20 from rfl, nI_add]; exact (nI_leI (by omega) (by decide)).mpr hk]
  rw [e202_20]
  simp only [B202_20, xSeq, i_push, i_load, i_iload, i_lload, i_dload, i_aload, i_istore, i_astore, i_lstore, i_dstore, i_iinc, i_ii, i_iiz, i_ll, i_llz, i_lli, i_li, i_i, i_l, i_i2l, i_l2i, i_dup, i_dup2, i_dup2w, i_dupx1, i_pop, i_pop2, i_goto, i_ifc, i_icmp, i_getI, i_getL, i_getR, i_putI, i_putZ, i_putL, i_putR, i_aldI, i_aldB, i_aldL, i_aldD, i_astI, i_astL, i_astD, i_alen, i_ret, i_iret, i_zret, i_lret, i_fret, i_dret, i_aret, i_invS0, i_invV0, i_m2, i_m1, i_ml, i_obj, lk, lkp, stf1, stf2, Value.category, rV, xTo, lv_args, xCk, xCat, xRc, xAk, hg_S, hg_I, hg_J, hg_D, hg_R, hs_I, hs_J, hs_D, hs_R, uI_at, uJ_at, uD_at, uR_at, List.take_succ_cons, List.take_zero, List.drop_succ_cons, List.drop_zero, List.reverse_cons, List.reverse_nil, List.nil_append, List.cons_append, List.map_cons, List.map_nil, List.sum_cons, List.sum_nil, List.length_cons, List.length_nil, Option.toList_some, Option.toList_none, true_and, and_true, false_and, and_false, true_implies, false_implies, implies_true, not_true_eq_false, not_false_eq_true, ne_eq, if_true, if_false, Bool.and_true, Bool.true_and, decide_true, decide_false, reduceIte, reduceCtorEq, Bool.and_self, Bool.and_eq_true, decide_eq_true_eq, and_self, true_or, or_true, false_or, or_false, Nat.zero_add, Nat.add_zero, eq_self, Nat.reduceEqDiff, Nat.reduceLeDiff, Nat.reduceLT, Nat.reduceAdd, Nat.reduceSub, Nat.reduceMul, LM_out hL, e1, e2, e3, e4, e5, qW_n]
  rfl
end
