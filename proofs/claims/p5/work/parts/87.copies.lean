/-! ===== copies ===== -/
section
variable {S : xS} {I : xI} {J : xJ} {D : xDb} {R : xR} {b : Nat × Nat} {Q : xQ} {n m : Nat} {fi se dg : Nat → Nat} {sb : Nat → Nat → Nat}
theorem CL_k {I I' : xI} (hC : CL I n m fi se dg sb) (h : ∀ o k, 102 ≤ o → o ≤ 108 → I' o k = I o k) : CL I' n m fi se dg sb := by
  obtain ⟨c1, c2, c3, c4, c5, c6⟩ := hC
  refine ⟨?_, ?_, fun k hk => ?_, fun k hk => ?_, fun s hs => ?_, fun s i hs hi => ?_⟩
  · rw [h _ _ (by decide) (by decide)]; exact c1
  · rw [h _ _ (by decide) (by decide)]; exact c2
  · rw [h _ _ (by decide) (by decide)]; exact c3 k hk
  · rw [h _ _ (by decide) (by decide)]; exact c4 k hk
  · rw [h _ _ (by decide) (by decide)]; exact c5 s hs
  · rw [h _ _ (by decide) (by decide)]; exact c6 s i hs hi
theorem CM_k {I I' : xI} (hC : CM I n m fi se dg sb) (h : ∀ o k, o = 300 ∨ 314 ≤ o ∧ o ≤ 317 → I' o k = I o k) : CM I' n m fi se dg sb := by
  obtain ⟨c1, c2, c3, c4, c5, c6⟩ := hC
  refine ⟨?_, ?_, fun k hk => ?_, fun k hk => ?_, fun s hs => ?_, fun s i hs hi => ?_⟩
  · rw [h _ _ (by decide)]; exact c1
  · rw [h _ _ (by decide)]; exact c2
  · rw [h _ _ (by decide)]; exact c3 k hk
  · rw [h _ _ (by decide)]; exact c4 k hk
  · rw [h _ _ (by decide)]; exact c5 s hs
  · rw [h _ _ (by decide)]; exact c6 s i hs hi
/-- row a with its first i entries from row z -/
def cpr (I : xI) (z a i : Nat) : xI := rI I a (fun k => if k < i then I z k else I a k)
theorem cpr_at (I : xI) (z a i o k : Nat) : cpr I z a i o k = if o = a then (if k < i then I z k else I a k) else I o k := rfl
theorem cpr_0 (I : xI) (z a : Nat) : cpr I z a 0 = I := by
  funext o k
  rw [cpr_at]
  by_cases e : o = a
  · rw [if_pos e, if_neg (Nat.not_lt_zero k), e]
  · rw [if_neg e]
theorem cpr_s (I : xI) (z a i : Nat) : uI (cpr I z a i) a i (I z i) = cpr I z a (i + 1) := by
  funext o k
  rw [uI_at, cpr_at, cpr_at]
  by_cases e : o = a
  · by_cases f : k = i
    · rw [if_pos ⟨e, f⟩, if_pos e, if_pos (by omega), f]
    · rw [if_neg (fun h => f h.2), if_pos e, if_pos e]
      by_cases g : k < i
      · rw [if_pos g, if_pos (by omega)]
      · rw [if_neg g, if_neg (by omega)]
  · rw [if_neg (fun h => e h.1), if_neg e, if_neg e]
theorem hs_cpI (z a l : Nat) : cpI (S, I, J, D, R) z a 0 0 l = (S, cpr I z a l, J, D, R) := by
  have : (fun o k => if o = a ∧ 0 ≤ k ∧ k < 0 + l then I z (0 + (k - 0)) else I o k) = cpr I z a l := by
    funext o k
    rw [cpr_at]
    by_cases e : o = a
    · by_cases f : k < l
      · rw [if_pos ⟨e, Nat.zero_le k, by omega⟩, if_pos e, if_pos f, Nat.zero_add, Nat.sub_zero]
      · rw [if_neg (fun h => f (by omega)), if_pos e, if_neg f, e]
    · rw [if_neg (fun h => e h.1), if_neg e]
  rw [← this]
  rfl
theorem w_copyI {P : xP} {K : xK} {l : xL} {st : List Value} {z a n k j : Nat} (h1 : xCat st ≤ 8) (h2 : S z = (100, k)) (h3 : S a = (100, j)) (hk : n ≤ k) (hj : n ≤ j) (hn : n < 2147483648) (hK : K l st (S, cpr I z a n, J, D, R) b) : i_copy 100 P Q K l (.int (nI n) :: .int 0 :: .ref a :: .int 0 :: .ref z :: st) (S, I, J, D, R) b := by
  refine ⟨h1, ?_, ?_, by decide, by decide, nI_pos hn, ?_, ?_, fun i _ => rfl, ?_⟩
  · rw [hg_S, h2]
  · rw [hg_S, h3]
  · rw [hg_S, h2, nI_ix hn, ix_0, Nat.zero_add]; exact hk
  · rw [hg_S, h3, nI_ix hn, ix_0, Nat.zero_add]; exact hj
  · rw [if_neg (by decide), nI_ix hn, ix_0, hs_cpI]; exact hK
theorem R207_2 {z a n k j : Nat} (h2 : S z = (100, k)) (h3 : S a = (100, j)) (hza : z ≠ a) (hk : n ≤ k) (hj : n ≤ j) (hk2 : k < 2147483648) (hj2 : j < 2147483648) : ∀ (u i : Nat), i + u = n → xRun xT 207 2 [(0, .ref z), (1, .ref a), (2, .int (nI n)), (3, .int (nI i))] [] (S, cpr I z a i, J, D, R) b Q = Q (.ok none) (S, cpr I z a n, J, D, R) b
  | 0, i, hi => by
    have e : i = n := by omega
    subst e
    rw [e207_2]
    simp only [B207_2, xSeq, i_push, i_load, i_iload, i_lload, i_dload, i_aload, i_istore, i_astore, i_lstore, i_dstore, i_iinc, i_ii, i_iiz, i_ll, i_llz, i_lli, i_li, i_i, i_l, i_i2l, i_l2i, i_dup, i_dup2, i_dup2w, i_dupx1, i_pop, i_pop2, i_goto, i_ifc, i_icmp, i_getI, i_getL, i_getR, i_putI, i_putZ, i_putL, i_putR, i_aldI, i_aldB, i_aldL, i_aldD, i_astI, i_astL, i_astD, i_alen, i_ret, i_iret, i_zret, i_lret, i_fret, i_dret, i_aret, i_invS0, i_invV0, i_m2, i_m1, i_ml, i_obj, lk, lkp, stf1, stf2, Value.category, rV, xTo, lv_args, xCk, xCat, xRc, xAk, hg_S, hg_I, hg_J, hg_D, hg_R, hs_I, hs_J, hs_D, hs_R, uI_at, uJ_at, uD_at, uR_at, List.take_succ_cons, List.take_zero, List.drop_succ_cons, List.drop_zero, List.reverse_cons, List.reverse_nil, List.nil_append, List.cons_append, List.map_cons, List.map_nil, List.sum_cons, List.sum_nil, List.length_cons, List.length_nil, Option.toList_some, Option.toList_none, true_and, and_true, false_and, and_false, true_implies, false_implies, implies_true, not_true_eq_false, not_false_eq_true, ne_eq, if_true, if_false, Bool.and_true, Bool.true_and, decide_true, decide_false, reduceIte, reduceCtorEq, Bool.and_self, Bool.and_eq_true, decide_eq_true_eq, and_self, true_or, or_true, false_or, or_false, Nat.zero_add, Nat.add_zero, eq_self, Nat.reduceEqDiff, Nat.reduceLeDiff, Nat.reduceLT, Nat.reduceAdd, Nat.reduceSub, Nat.reduceMul, nI_leP (show i < 2147483648 by omega) (show i < 2147483648 by omega), Nat.le_refl, e207_19, B207_19]
  | u + 1, i, hi => by
    have ih := R207_2 h2 h3 hza hk hj hk2 hj2 u (i + 1) (by omega)
    rw [e207_2]
    simp only [B207_2, xSeq, i_push, i_load, i_iload, i_lload, i_dload, i_aload, i_istore, i_astore, i_lstore, i_dstore, i_iinc, i_ii, i_iiz, i_ll, i_llz, i_lli, i_li, i_i, i_l, i_i2l, i_l2i, i_dup, i_dup2, i_dup2w, i_dupx1, i_pop, i_pop2, i_goto, i_ifc, i_icmp, i_getI, i_getL, i_getR, i_putI, i_putZ, i_putL, i_putR, i_aldI, i_aldB, i_aldL, i_aldD, i_astI, i_astL, i_astD, i_alen, i_ret, i_iret, i_zret, i_lret, i_fret, i_dret, i_aret, i_invS0, i_invV0, i_m2, i_m1, i_ml, i_obj, lk, lkp, stf1, stf2, Value.category, rV, xTo, lv_args, xCk, xCat, xRc, xAk, hg_S, hg_I, hg_J, hg_D, hg_R, hs_I, hs_J, hs_D, hs_R, uI_at, uJ_at, uD_at, uR_at, List.take_succ_cons, List.take_zero, List.drop_succ_cons, List.drop_zero, List.reverse_cons, List.reverse_nil, List.nil_append, List.cons_append, List.map_cons, List.map_nil, List.sum_cons, List.sum_nil, List.length_cons, List.length_nil, Option.toList_some, Option.toList_none, true_and, and_true, false_and, and_false, true_implies, false_implies, implies_true, not_true_eq_false, not_false_eq_true, ne_eq, if_true, if_false, Bool.and_true, Bool.true_and, decide_true, decide_false, reduceIte, reduceCtorEq, Bool.and_self, Bool.and_eq_true, decide_eq_true_eq, and_self, true_or, or_true, false_or, or_false, Nat.zero_add, Nat.add_zero, eq_self, Nat.reduceEqDiff, Nat.reduceLeDiff, Nat.reduceLT, Nat.reduceAdd, Nat.reduceSub, Nat.reduceMul, h2, h3, nI_leP (show n < 2147483648 by omega) (show i < 2147483648 by omega), show (n ≤ i) = False from eq_false (by omega), nI_inP (show i < k by omega) hk2, nI_inP (show i < j by omega) hj2, nI_ix (show i < 2147483648 by omega), show cpr I z a i z i = I z i from by rw [cpr_at, if_neg hza], cpr_s, nI_1]
    exact ih
theorem R207 {z a n k j : Nat} (h2 : S z = (100, k)) (h3 : S a = (100, j)) (hza : z ≠ a) (hk : n ≤ k) (hj : n ≤ j) (hk2 : k < 2147483648) (hj2 : j < 2147483648) : xRun xT 207 0 [(0, .ref z), (1, .ref a), (2, .int (nI n))] [] (S, I, J, D, R) b Q = Q (.ok none) (S, cpr I z a n, J, D, R) b := by
  have h := R207_2 (I := I) (J := J) (D := D) (R := R) (b := b) (Q := Q) h2 h3 hza hk hj hk2 hj2 n 0 (by omega)
  rw [cpr_0] at h
  rw [e207_0]
  simp only [B207_0, xSeq, i_push, i_load, i_iload, i_lload, i_dload, i_aload, i_istore, i_astore, i_lstore, i_dstore, i_iinc, i_ii, i_iiz, i_ll, i_llz, i_lli, i_li, i_i, i_l, i_i2l, i_l2i, i_dup, i_dup2, i_dup2w, i_dupx1, i_pop, i_pop2, i_goto, i_ifc, i_icmp, i_getI, i_getL, i_getR, i_putI, i_putZ, i_putL, i_putR, i_aldI, i_aldB, i_aldL, i_aldD, i_astI, i_astL, i_astD, i_alen, i_ret, i_iret, i_zret, i_lret, i_fret, i_dret, i_aret, i_invS0, i_invV0, i_m2, i_m1, i_ml, i_obj, lk, lkp, stf1, stf2, Value.category, rV, xTo, lv_args, xCk, xCat, xRc, xAk, hg_S, hg_I, hg_J, hg_D, hg_R, hs_I, hs_J, hs_D, hs_R, uI_at, uJ_at, uD_at, uR_at, List.take_succ_cons, List.take_zero, List.drop_succ_cons, List.drop_zero, List.reverse_cons, List.reverse_nil, List.nil_append, List.cons_append, List.map_cons, List.map_nil, List.sum_cons, List.sum_nil, List.length_cons, List.length_nil, Option.toList_some, Option.toList_none, true_and, and_true, false_and, and_false, true_implies, false_implies, implies_true, not_true_eq_false, not_false_eq_true, ne_eq, if_true, if_false, Bool.and_true, Bool.true_and, decide_true, decide_false, reduceIte, reduceCtorEq, Bool.and_self, Bool.and_eq_true, decide_eq_true_eq, and_self, true_or, or_true, false_or, or_false, Nat.zero_add, Nat.add_zero, eq_self, Nat.reduceEqDiff, Nat.reduceLeDiff, Nat.reduceLT, Nat.reduceAdd, Nat.reduceSub, Nat.reduceMul]
  exact h
theorem R207z {z a : Nat} : xRun xT 207 0 [(0, .ref z), (1, .ref a), (2, .int 0)] [] (S, I, J, D, R) b Q = Q (.ok none) (S, I, J, D, R) b := by
  rw [e207_0]
  simp only [B207_0, xSeq, i_push, i_load, i_iload, i_lload, i_dload, i_aload, i_istore, i_astore, i_lstore, i_dstore, i_iinc, i_ii, i_iiz, i_ll, i_llz, i_lli, i_li, i_i, i_l, i_i2l, i_l2i, i_dup, i_dup2, i_dup2w, i_dupx1, i_pop, i_pop2, i_goto, i_ifc, i_icmp, i_getI, i_getL, i_getR, i_putI, i_putZ, i_putL, i_putR, i_aldI, i_aldB, i_aldL, i_aldD, i_astI, i_astL, i_astD, i_alen, i_ret, i_iret, i_zret, i_lret, i_fret, i_dret, i_aret, i_invS0, i_invV0, i_m2, i_m1, i_ml, i_obj, lk, lkp, stf1, stf2, Value.category, rV, xTo, lv_args, xCk, xCat, xRc, xAk, hg_S, hg_I, hg_J, hg_D, hg_R, hs_I, hs_J, hs_D, hs_R, uI_at, uJ_at, uD_at, uR_at, List.take_succ_cons, List.take_zero, List.drop_succ_cons, List.drop_zero, List.reverse_cons, List.reverse_nil, List.nil_append, List.cons_append, List.map_cons, List.map_nil, List.sum_cons, List.sum_nil, List.length_cons, List.length_nil, Option.toList_some, Option.toList_none, true_and, and_true, false_and, and_false, true_implies, false_implies, implies_true, not_true_eq_false, not_false_eq_true, ne_eq, if_true, if_false, Bool.and_true, Bool.true_and, decide_true, decide_false, reduceIte, reduceCtorEq, Bool.and_self, Bool.and_eq_true, decide_eq_true_eq, and_self, true_or, or_true, false_or, or_false, Nat.zero_add, Nat.add_zero, eq_self, Nat.reduceEqDiff, Nat.reduceLeDiff, Nat.reduceLT, Nat.reduceAdd, Nat.reduceSub, Nat.reduceMul]
  rw [e207_2]
  simp only [B207_2, xSeq, i_push, i_load, i_iload, i_lload, i_dload, i_aload, i_istore, i_astore, i_lstore, i_dstore, i_iinc, i_ii, i_iiz, i_ll, i_llz, i_lli, i_li, i_i, i_l, i_i2l, i_l2i, i_dup, i_dup2, i_dup2w, i_dupx1, i_pop, i_pop2, i_goto, i_ifc, i_icmp, i_getI, i_getL, i_getR, i_putI, i_putZ, i_putL, i_putR, i_aldI, i_aldB, i_aldL, i_aldD, i_astI, i_astL, i_astD, i_alen, i_ret, i_iret, i_zret, i_lret, i_fret, i_dret, i_aret, i_invS0, i_invV0, i_m2, i_m1, i_ml, i_obj, lk, lkp, stf1, stf2, Value.category, rV, xTo, lv_args, xCk, xCat, xRc, xAk, hg_S, hg_I, hg_J, hg_D, hg_R, hs_I, hs_J, hs_D, hs_R, uI_at, uJ_at, uD_at, uR_at, List.take_succ_cons, List.take_zero, List.drop_succ_cons, List.drop_zero, List.reverse_cons, List.reverse_nil, List.nil_append, List.cons_append, List.map_cons, List.map_nil, List.sum_cons, List.sum_nil, List.length_cons, List.length_nil, Option.toList_some, Option.toList_none, true_and, and_true, false_and, and_false, true_implies, false_implies, implies_true, not_true_eq_false, not_false_eq_true, ne_eq, if_true, if_false, Bool.and_true, Bool.true_and, decide_true, decide_false, reduceIte, reduceCtorEq, Bool.and_self, Bool.and_eq_true, decide_eq_true_eq, and_self, true_or, or_true, false_or, or_false, Nat.zero_add, Nat.add_zero, eq_self, Nat.reduceEqDiff, Nat.reduceLeDiff, Nat.reduceLT, Nat.reduceAdd, Nat.reduceSub, Nat.reduceMul, show ((0 : Int32) ≤ 0) = True from eq_true (by decide), e207_19, B207_19]
theorem R332z {z a : Nat} : xRun xT 332 0 [(0, .ref z), (1, .ref a), (2, .int 0)] [] (S, I, J, D, R) b Q = Q (.ok none) (S, I, J, D, R) b := by
  rw [e332_0]
  simp only [B332_0, xSeq, i_push, i_load, i_iload, i_lload, i_dload, i_aload, i_istore, i_astore, i_lstore, i_dstore, i_iinc, i_ii, i_iiz, i_ll, i_llz, i_lli, i_li, i_i, i_l, i_i2l, i_l2i, i_dup, i_dup2, i_dup2w, i_dupx1, i_pop, i_pop2, i_goto, i_ifc, i_icmp, i_getI, i_getL, i_getR, i_putI, i_putZ, i_putL, i_putR, i_aldI, i_aldB, i_aldL, i_aldD, i_astI, i_astL, i_astD, i_alen, i_ret, i_iret, i_zret, i_lret, i_fret, i_dret, i_aret, i_invS0, i_invV0, i_m2, i_m1, i_ml, i_obj, lk, lkp, stf1, stf2, Value.category, rV, xTo, lv_args, xCk, xCat, xRc, xAk, hg_S, hg_I, hg_J, hg_D, hg_R, hs_I, hs_J, hs_D, hs_R, uI_at, uJ_at, uD_at, uR_at, List.take_succ_cons, List.take_zero, List.drop_succ_cons, List.drop_zero, List.reverse_cons, List.reverse_nil, List.nil_append, List.cons_append, List.map_cons, List.map_nil, List.sum_cons, List.sum_nil, List.length_cons, List.length_nil, Option.toList_some, Option.toList_none, true_and, and_true, false_and, and_false, true_implies, false_implies, implies_true, not_true_eq_false, not_false_eq_true, ne_eq, if_true, if_false, Bool.and_true, Bool.true_and, decide_true, decide_false, reduceIte, reduceCtorEq, Bool.and_self, Bool.and_eq_true, decide_eq_true_eq, and_self, true_or, or_true, false_or, or_false, Nat.zero_add, Nat.add_zero, eq_self, Nat.reduceEqDiff, Nat.reduceLeDiff, Nat.reduceLT, Nat.reduceAdd, Nat.reduceSub, Nat.reduceMul]
  rw [e332_2]
  simp only [B332_2, xSeq, i_push, i_load, i_iload, i_lload, i_dload, i_aload, i_istore, i_astore, i_lstore, i_dstore, i_iinc, i_ii, i_iiz, i_ll, i_llz, i_lli, i_li, i_i, i_l, i_i2l, i_l2i, i_dup, i_dup2, i_dup2w, i_dupx1, i_pop, i_pop2, i_goto, i_ifc, i_icmp, i_getI, i_getL, i_getR, i_putI, i_putZ, i_putL, i_putR, i_aldI, i_aldB, i_aldL, i_aldD, i_astI, i_astL, i_astD, i_alen, i_ret, i_iret, i_zret, i_lret, i_fret, i_dret, i_aret, i_invS0, i_invV0, i_m2, i_m1, i_ml, i_obj, lk, lkp, stf1, stf2, Value.category, rV, xTo, lv_args, xCk, xCat, xRc, xAk, hg_S, hg_I, hg_J, hg_D, hg_R, hs_I, hs_J, hs_D, hs_R, uI_at, uJ_at, uD_at, uR_at, List.take_succ_cons, List.take_zero, List.drop_succ_cons, List.drop_zero, List.reverse_cons, List.reverse_nil, List.nil_append, List.cons_append, List.map_cons, List.map_nil, List.sum_cons, List.sum_nil, List.length_cons, List.length_nil, Option.toList_some, Option.toList_none, true_and, and_true, false_and, and_false, true_implies, false_implies, implies_true, not_true_eq_false, not_false_eq_true, ne_eq, if_true, if_false, Bool.and_true, Bool.true_and, decide_true, decide_false, reduceIte, reduceCtorEq, Bool.and_self, Bool.and_eq_true, decide_eq_true_eq, and_self, true_or, or_true, false_or, or_false, Nat.zero_add, Nat.add_zero, eq_self, Nat.reduceEqDiff, Nat.reduceLeDiff, Nat.reduceLT, Nat.reduceAdd, Nat.reduceSub, Nat.reduceMul, show ((0 : Int32) ≤ 0) = True from eq_true (by decide), e332_19, B332_19]
end
