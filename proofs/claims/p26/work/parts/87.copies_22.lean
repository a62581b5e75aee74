/-! ===== copies ===== -/
section
variable {S : xS} {I : xI} {J : xJ} {D : xDb} {R : xR} {b : Nat × Nat} {Q : xQ} {n m : Nat} {fi se dg : Nat → Nat} {sb : Nat → Nat → Nat}
theorem CL_k {I I' : xI} (hC : CL I n m fi se dg sb) (h : ∀ o k, 102 ≤ o → o ≤ 108 → I' o k = I o k) : CL I' n m fi se dg sb := by
  obtain ⟨c1, c2, c3, c4, c5, c6⟩ := hC
  refine ⟨?_, ?_, fun k hk => ?_, fun k hk => ?_, fun s hs => ?_, fun s i hs hi => ?_⟩
  · rw [h _ _ (by decide) (by decide)]; exact c1
  · rw [h _ _ (by decide) (by decide)]; exact c2
  · rw [h _ _ (by decide) (by decide)]; exact c3 k hk
  · rw [h _ _ (by decide) (by decide)]; exact c4 k hk
  · rw [h _ _ (by decide) (by decide)]; exact c5 s hs
  · rw [h _ _ (by decide) (by decide)]; exact c6 s i hs hi
theorem CM_k {I I' : xI} (hC : CM I n m fi se dg sb) (h : ∀ o k, o = 300 ∨ 314 ≤ o ∧ o ≤ 317 → I' o k = I o k) : CM I' n m fi se dg sb := by
  obtain ⟨c1, c2, c3, c4, c5, c6⟩ := hC
  refine ⟨?_, ?_, fun k hk => ?_, fun k hk => ?_, fun s hs => ?_, fun s i hs hi => ?_⟩
  · rw [h _ _ (by decide)]; exact c1
  · rw [h _ _ (by decide)]; exact c2
  · rw [h _ _ (by decide)]; exact c3 k hk
  · rw [h _ _ (by decide)]; exact c4 k hk
  · rw [h _ _ (by decide)]; exact c5 s hs
  · rw [h _ _ (by decide)]; exact c6 s i hs hi
/-- row a with its first i entries from row z -/
def cpr (I : xI) (z a i : Nat) : xI := rI I a (fun k => if k < i then I z k else I a k)
theorem cpr_at (I : xI) (z a i o k : Nat) : cpr I z a i o k = if o = a then (if k < i then I z k else I a k) else I o k := rfl
theorem cpr_0 (I : xI) (z a : Nat) : cpr I z a 0 = I := by
  funext o k
  rw [cpr_at]
  by_cases e : o = a
  · rw [if_pos e, if_neg (Nat.not_lt_zero k), e]
  · rw [if_neg e]
theorem cpr_s (I : xI) (z a i : Nat) : uI (cpr I z a i) a i (I z i) = cpr I z a (i + 1) := by
  funext o k
  rw [uI_at, cpr_at, cpr_at]
  by_cases e : o = a
  · by_cases f : k = i
    · rw [if_pos ⟨e, f⟩, if_pos e, if_pos (by omega), f]
    · rw [if_neg (fun h => f h.2), if_pos e, if_pos e]
      by_cases g : k < i
      · rw [if_pos g, if_pos (by omega)]
      · rw [if_neg g, if_neg (by omega)]
  · rw [if_neg (fun h => e h.1), if_neg e, if_neg e]
theorem hs_cpI (z a l : Nat) : cpI (S, I, J, D, R) z a 0 0 l = (S, cpr I z a l, J, D, R) := by
  have : (fun o k => if o = a ∧ 0 ≤ k ∧ k < 0 + l then I z (0 + (k - 0)) else I o k) = cpr I z a l := by
    funext o k
    rw [cpr_at]
    by_cases e : o = a
    · by_cases f : k < l
      · rw [if_pos ⟨e, Nat.zero_le k, by omega⟩, if_pos e, if_pos f, Nat.zero_add, Nat.sub_zero]
      · rw [if_neg (fun h => f (by omega)), if_pos e, if_neg f, e]
    · rw [if_neg (fun h => e h.1), if_neg e]
  rw [← this]
  rfl
theorem w_copyI {P : xP} {K : xK} {l : xL} {st : List Value} {z a n k j : Nat} (h1 : xCat st ≤ 8) (h2 : S z = (100, k)) (h3 : S a = (100, j)) (hk : n ≤ k) (hj : n ≤ j) (hn : n < 2147483648) (hK : K l st (S, cpr I z a n, J, D, R) b) : i_copy 100 P Q K l (.int (nI n) :: .int 0 :: .ref a :: .int 0 :: .ref z :: st) (S, I, J, D, R) b := by
  refine ⟨h1, ?_, ?_, by decide, by decide, nI_pos hn, ?_, ?_, fun i _ => rfl, ?_⟩
  · rw [hg_S, h2]
  · rw [hg_S, h3]
  · rw [hg_S, h2, nI_ix hn, ix_0, Nat.zero_add]; exact hk
  · rw [hg_S, h3, nI_ix hn, ix_0, Nat.zero_add]; exact hj
  · rw [if_neg (by decide), nI_ix hn, ix_0, hs_cpI]; exact hK
theorem R207_2 {z a n k j : Nat} (h2 : S z = (100, k)) (h3 : S a = (100, j)) (hza : z ≠ a) (hk : n ≤ k) (hj : n ≤ j) (hk2 : k < 2147483648) (hj2 : j < 2147483648) : ∀ (u i : Nat), i + u = n → xRun xT 207 2 [(0, .ref z), (1, .ref a), (2, .int (nI n)), (3, .int (nI i))] [] (S, cpr I z a i, J, D, R) b Q = Q (.ok none) (S, cpr I z a n, J, D, R) b
  | 0, i, hi => by
    have e : i = n := by omega
    subst e
    rw [e207_2]
    simp only [B207_2, xSeq, i_push, i_load, i_iload, i_lload, i_dload, i_aload, i_istore, i_astore, i_lstore, i_dstore, i_iinc, i_ii, i_iiz, i_ll, i_llz, i_lli, i_li, i_i, i_l, i_i2l, i_l2i, i_dup, i_dup2, i_dup2w, i_dupx1, i_pop, i_pop2, i_goto, i_ifc, i_icmp, i_getI, i_getL, i_getR, i_putI, i_putZ, i_putL, i_putR, i_aldI, i_aldB, i_aldL, i_aldD, i_astI, i_astL, i_astD, i_alen, i_ret, i_iret, i_zret, i_lret, i_fret, i_dret, i_aret, i_invS0, i_invV0, i_m2, i_m1, i_ml, i_obj, lk, lkp, stf1, stf2, Value.category, rV, xTo, lv_args, xCk, xCat, xRc, xAk, hg_S, hg_I, hg_J, hg_D, hg_R, hs_I, hs_J, hs_D, hs_R, uI_at, uJ_at, uD_at, uR_at, List.take_succ_cons, List.take_zero, List.drop_succ_cons, List.drop_zero, List.reverse_cons, List.reverse_nil, List.nil_append, List.cons_append, List.map_cons, List.map_nil, List.sum_cons, List.sum_nil, List.length_cons, List.length_nil, Option.toList_some, Option.toList_none, true_and, and_true, false_and, and_false, true_implies, false_implies, implies_true, not_true_eq_false, not_false_eq_true, ne_eq, if_true, if_false, Bool.and_true, Bool.true_and, decide_true, decide_false, reduceIte, reduceCtorEq, Bool.and_self, Bool.and_eq_true, decide_eq_true_eq, and_self, true_or, or_true, false_or, or_false, Nat.zero_add, Nat.add_zero, eq_self, Nat.reduceEqDiff, Nat.reduceLeDiff, Nat.reduceLT, Nat.reduceAdd, Nat.reduceSub, Nat.reduceMul, nI_leP (show i < 2147483648 by omega) (show i < 2147483648 by omega), Nat.le_refl, e207_19, B207_19]
  | u + 1, i, hi => by
    have ih := R207_2 h2 h3 hza hk hj hk2 hj2 u (i + 1) (by omega)
    rw [e207_2]
    simp only [B207_2, xSeq, i_push, i_load, i_iload, i_lload, i_dload, i_aload, i_istore, i_astore, i_lstore, i_dstore, i_iinc, i_ii, i_iiz, i_ll, i_llz, i_lli, i_li, i_i, i_l, i_i2l, i_l2i, i_dup, i_dup2, i_dup2w, i_dupx1, i_pop, i_pop2, i_goto, i_ifc, i_icmp, i_getI, i_getL, i_getR, i_putI, i_putZ, i_putL, i_putR, i_aldI, i_aldB, i_aldL, i_aldD, i_astI, i_astL, i_astD, i_alen, i_ret, i_iret, i_zret, i_lret, i_fret, i_dret, i_aret, i_invS0, i_invV0, i_m2, i_m1, i_ml, i_obj, lk, lkp, stf1, stf2, Value.category, rV, xTo, lv_args, xCk, xCat, xRc, xAk, hg_S, hg_I, hg_J, hg_D, hg_R, hs_I, hs_J, hs_D, hs_R, uI_at, uJ_at, uD_at, uR_at, List.take_succ_cons, List.take_zero, List.drop_succ_cons, List.drop_zero, List.reverse_cons, List.reverse_nil, List.nil_append, List.cons_append, List.map_cons, List.map_nil, List.sum_cons, List.sum_nil, List.length_cons, List.length_nil, Option.toList_some, Option.toList_none, true_and, and_true, false_and, and_false, true_implies, false_implies, implies_true, not_true_eq_false, not_false_eq_true, ne_eq, if_true, if_false, Bool.and_true, Bool.true_and, decide_true, decide_false, reduceIte, reduceCtorEq, Bool.and_self, Bool.and_eq_true, decide_eq_true_eq, and_self, true_or, or_true, false_or, or_false, Nat.zero_add, Nat.add_zero, eq_self, Nat.reduceEqDiff, Nat.reduceLeDiff, Nat.reduceLT, Nat.reduceAdd, Nat.reduceSub, Nat.reduceMul, h2, h3, nI_leP (show n < 2147483648 by omega) (show i < 2147483648 by omega), show (n ≤ i) = False from eq_false (by omega), nI_inP (show i < k by omega) hk2, nI_inP (show i < j by omega) hj2, nI_ix (show i < 2147483648 by omega), show cpr I z a i z i = I z i from by rw [cpr_at, if_neg hza], cpr_s, nI_1]
    exact ih
theorem R207 {z a n k j : Nat} (h2 : S z = (100, k)) (h3 : S a = (100, j)) (hza : z ≠ a) (hk : n ≤ k) (hj : n ≤ j) (hk2 : k < 2147483648) (hj2 : j < 2147483648) : xRun xT 207 0 [(0, .ref z), (1, .ref a), (2, .int (nI n))] [] (S, I, J, D, R) b Q = Q (.ok none) (S, cpr I z a n, J, D, R) b := by
  have h := R207_2 (I := I) (J := J) (D := D) (R := R) (b := b) (Q := Q) h2 h3 hza hk hj hk2 hj2 n 0 (by omega)
  rw [cpr_0] at h
  rw [e207_0]
  simp only [B207_0, xSeq, i_push, i_load, i_iload, i_lload, i_dload, i_aload, i_istore, i_astore, i_lstore, i_dstore, i_iinc, i_ii, i_iiz, i_ll, i_llz, i_lli, i_li, i_i, i_l, i_i2l, i_l2i, i_dup, i_dup2, i_dup2w, i_dupx1, i_pop, i_pop2, i_goto, i_ifc, i_icmp, i_getI, i_getL, i_getR, i_putI, i_putZ, i_putL, i_putR, i_aldI, i_aldB, i_aldL, i_aldD, i_astI, i_astL, i_astD, i_alen, i_ret, i_iret, i_zret, i_lret, i_fret, i_dret, i_aret, i_invS0, i_invV0, i_m2, i_m1, i_ml, i_obj, lk, lkp, stf1, stf2, Value.category, rV, xTo, lv_args, xCk, xCat, xRc, xAk, hg_S, hg_I, hg_J, hg_D, hg_R, hs_I, hs_J, hs_D, hs_R, uI_at, uJ_at, uD_at, uR_at, List.take_succ_cons, List.take_zero, List.drop_succ_cons, List.drop_zero, List.reverse_cons, List.reverse_nil, List.nil_append, List.cons_append, List.map_cons, List.map_nil, List.sum_cons, List.sum_nil, List.length_cons, List.length_nil, Option.toList_some, Option.toList_none, true_and, and_true, false_and, and_false, true_implies, false_implies, implies_true, not_true_eq_false, not_false_eq_true, ne_eq, if_true, if_false, Bool.and_true, Bool.true_and, decide_true, decide_false, reduceIte, reduceCtorEq, Bool.and_self, Bool.and_eq_true, decide_eq_true_eq, and_self, true_or, or_true, false_or, or_false, Nat.zero_add, Nat.add_zero, eq_self, Nat.reduceEqDiff, Nat.reduceLeDiff, Nat.reduceLT, Nat.reduceAdd, Nat.reduceSub, Nat.reduceMul]
  exact h
theorem R207z {z a : Nat} : xRun xT 207 0 [(0, .ref z), (1, .ref a), (2, .int 0)] [] (S, I, J, D, R) b Q = Q (.ok none) (S, I, J, D, R) b := by
  rw [e207_0]
  simp only [B207_0, xSeq, i_push, i_load, i_iload, i_lload, i_dload, i_aload, i_istore, i_astore, i_lstore, i_dstore, i_iinc, i_ii, i_iiz, i_ll, i_llz, i_lli, i_li, i_i, i_l, i_i2l, i_l2i, i_dup, i_dup2, i_dup2w, i_dupx1, i_pop, i_pop2, i_goto, i_ifc, i_icmp, i_getI, i_getL, i_getR, i_putI, i_putZ, i_putL, i_putR, i_aldI, i_aldB, i_aldL, i_aldD, i_astI, i_astL, i_astD, i_alen, i_ret, i_iret, i_zret, i_lret, i_fret, i_dret, i_aret, i_invS0, i_invV0, i_m2, i_m1, i_ml, i_obj, lk, lkp, stf1, stf2, Value.category, rV, xTo, lv_args, xCk, xCat, xRc, xAk, hg_S, hg_I, hg_J, hg_D, hg_R, hs_I, hs_J, hs_D, hs_R, uI_at, uJ_at, uD_at, uR_at, List.take_succ_cons, List.take_zero, List.drop_succ_cons, List.drop_zero, List.reverse_cons, List.reverse_nil, List.nil_append, List.cons_append, List.map_cons, List.map_nil, List.sum_cons, List.sum_nil, List.length_cons, List.length_nil, Option.toList_some, Option.toList_none, true_and, and_true, false_and, and_false, true_implies, false_implies, implies_true, not_true_eq_false, not_false_eq_true, ne_eq, if_true, if_false, Bool.and_true, Bool.true_and, decide_true, decide_false, reduceIte, reduceCtorEq, Bool.and_self, Bool.and_eq_true, decide_eq_true_eq, and_self, true_or, or_true, false_or, or_false, Nat.zero_add, Nat.add_zero, eq_self, Nat.reduceEqDiff, Nat.reduceLeDiff, Nat.reduceLT, Nat.reduceAdd, Nat.reduceSub, Nat.reduceMul]
  rw [e207_2]
  simp only [B207_2, xSeq, i_push, i_load, i_iload, i_lload, i_dload, i_aload, i_istore, i_astore, i_lstore, i_dstore, i_iinc, i_ii, i_iiz, i_ll, i_llz, i_lli, i_li, i_i, i_l, i_i2l, i_l2i, i_dup, i_dup2, i_dup2w, i_dupx1, i_pop, i_pop2, i_goto, i_ifc, i_icmp, i_getI, i_getL, i_getR, i_putI, i_putZ, i_putL, i_putR, i_aldI, i_aldB, i_aldL, i_aldD, i_astI, i_astL, i_astD, i_alen, i_ret, i_iret, i_zret, i_lret, i_fret, i_dret, i_aret, i_invS0, i_invV0, i_m2, i_m1, i_ml, i_obj, lk, lkp, stf1, stf2, Value.category, rV, xTo, lv_args, xCk, xCat, xRc, xAk, hg_S, hg_I, hg_J, hg_D, hg_R, hs_I, hs_J, hs_D, hs_R, uI_at, uJ_at, uD_at, uR_at, List.take_succ_cons, List.take_zero, List.drop_succ_cons, List.drop_zero, List.reverse_cons, List.reverse_nil, List.nil_append, List.cons_append, List.map_cons, List.map_nil, List.sum_cons, List.sum_nil, List.length_cons, List.length_nil, Option.toList_some, Option.toList_none, true_and, and_true, false_and, and_false, true_implies, false_implies, implies_true, not_true_eq_false, not_false_eq_true, ne_eq, if_true, if_false, Bool.and_true, Bool.true_and, decide_true, decide_false, reduceIte, reduceCtorEq, Bool.and_self, Bool.and_eq_true, decide_eq_true_eq, and_self, true_or, or_true, false_or, or_false, Nat.zero_add, Nat.add_zero, eq_self, Nat.reduceEqDiff, Nat.reduceLeDiff, Nat.reduceLT, Nat.reduceAdd, Nat.reduceSub, Nat.reduceMul, show ((0 : Int32) ≤ 0) = True from eq_true (by decide), e207_19, B207_19]
theorem R332z {z a : Nat} : xRun xT 332 0 [(0, .ref z), (1, .ref a), (2, .int 0)] [] (S, I, J, D, R) b Q = Q (.ok none) (S, I, J, D, R) b := by
  rw [e332_0]
  simp only [B332_0, xSeq, i_push, i_load, i_iload, i_lload, i_dload, i_aload, i_istore, i_astore, i_lstore, i_dstore, i_iinc, i_ii, i_iiz, i_ll, i_llz, i_lli, i_li, i_i, i_l, i_i2l, i_l2i, i_dup, i_dup2, i_dup2w, i_dupx1, i_pop, i_pop2, i_goto, i_ifc, i_icmp, i_getI, i_getL, i_getR, i_putI, i_putZ, i_putL, i_putR, i_aldI, i_aldB, i_aldL, i_aldD, i_astI, i_astL, i_astD, i_alen, i_ret, i_iret, i_zret, i_lret, i_fret, i_dret, i_aret, i_invS0, i_invV0, i_m2, i_m1, i_ml, i_obj, lk, lkp, stf1, stf2, Value.category, rV, xTo, lv_args, xCk, xCat, xRc, xAk, hg_S, hg_I, hg_J, hg_D, hg_R, hs_I, hs_J, hs_D, hs_R, uI_at, uJ_at, uD_at, uR_at, List.take_succ_cons, List.take_zero, List.drop_succ_cons, List.drop_zero, List.reverse_cons, List.reverse_nil, List.nil_append, List.cons_append, List.map_cons, List.map_nil, List.sum_cons, List.sum_nil, List.length_cons, List.length_nil, Option.toList_some, Option.toList_none, true_and, and_true, false_and, and_false, true_implies, false_implies, implies_true, not_true_eq_false, not_false_eq_true, ne_eq, if_true, if_false, Bool.and_true, Bool.true_and, decide_true, decide_false, reduceIte, reduceCtorEq, Bool.and_self, Bool.and_eq_true, decide_eq_true_eq, and_self, true_or, or_true, false_or, or_false, Nat.zero_add, Nat.add_zero, eq_self, Nat.reduceEqDiff, Nat.reduceLeDiff, Nat.reduceLT, Nat.reduceAdd, Nat.reduceSub, Nat.reduceMul]
  rw [e332_2]
  simp only [B332_2, xSeq, i_push, i_load, i_iload, i_lload, i_dload, i_aload, i_istore, i_astore, i_lstore, i_dstore, i_iinc, i_ii, i_iiz, i_ll, i_llz, i_lli, i_li, i_i, i_l, i_i2l, i_l2i, i_dup, i_dup2, i_dup2w, i_dupx1, i_pop, i_pop2, i_goto, i_ifc, i_icmp, i_getI, i_getL, i_getR, i_putI, i_putZ, i_putL, i_putR, i_aldI, i_aldB, i_aldL, i_aldD, i_astI, i_astL, i_astD, i_alen, i_ret, i_iret, i_zret, i_lret, i_fret, i_dret, i_aret, i_invS0, i_invV0, i_m2, i_m1, i_ml, i_obj, lk, lkp, stf1, stf2, Value.category, rV, xTo, lv_args, xCk, xCat, xRc, xAk, hg_S, hg_I, hg_J, hg_D, hg_R, hs_I, hs_J, hs_D, hs_R, uI_at, uJ_at, uD_at, uR_at, List.take_succ_cons, List.take_zero, List.drop_succ_cons, List.drop_zero, List.reverse_cons, List.reverse_nil, List.nil_append, List.cons_append, List.map_cons, List.map_nil, List.sum_cons, List.sum_nil, List.length_cons, List.length_nil, Option.toList_some, Option.toList_none, true_and, and_true, false_and, and_false, true_implies, false_implies, implies_true, not_true_eq_false, not_false_eq_true, ne_eq, if_true, if_false, Bool.and_true, Bool.true_and, decide_true, decide_false, reduceIte, reduceCtorEq, Bool.and_self, Bool.and_eq_true, decide_eq_true_eq, and_self, true_or, or_true, false_or, or_false, Nat.zero_add, Nat.add_zero, eq_self, Nat.reduceEqDiff, Nat.reduceLeDiff, Nat.reduceLT, Nat.reduceAdd, Nat.reduceSub, Nat.reduceMul, show ((0 : Int32) ≤ 0) = True from eq_true (by decide), e332_19, B332_19]
end
/-! ===== overlap ===== -/
section
variable {S : xS} {I : xI} {J : xJ} {D : xDb} {R : xR} {b : Nat × Nat} {Q : xQ} {n m : Nat} {fi se dg : Nat → Nat} {sb : Nat → Nat → Nat}
/-- what two configurations share at site i -/
def ovl (c s i : Nat) : Int32 := sg (c.testBit i) * sg (s.testBit i)
theorem sg_mul (a c : Bool) : sg a * sg c = - sg (a ^^ c) := by cases a <;> cases c <;> decide
theorem ovl_pop (c s : Nat) : ∀ n, sm (ovl c s) n = nI n - 2 * nI (pop n (c ^^^ s))
  | 0 => by simp [sm, pop, nI_0]
  | n + 1 => by
    have h := mg_pop (c ^^^ s) 
    have h1 := h n
    have h2 := h (n + 1)
    have ih := ovl_pop c s n
    have e : mg (n + 1) (c ^^^ s) = mg n (c ^^^ s) + sg ((c ^^^ s).testBit n) := rfl
    rw [sm, ih, ovl, sg_mul, ← Nat.testBit_xor]
    rw [h2, h1] at e
    grind
theorem R261_25 (hL : LM S R) (hC : I 300 10 = nI n) (hn : n ≤ 64) {c s : Nat} (hc : c < 2 ^ 64) (hs : s < 2 ^ 64) (hJ : J 200 3 = lN s) : ∀ (j i : Nat), i + j = n → xRun xT 261 25 [(0, .ref 200), (1, .long (lN c)), (3, .int (sm (ovl c s) i)), (4, .int (nI i))] [] (S, I, J, D, R) b Q = Q (.ok (some (.int (sm (ovl c s) n)))) (S, I, J, D, R) b
  | 0, i, hi => by
    have e : i = n := by omega
    subst e
    rw [e261_25]
    simp only [B261_25, xSeq, i_push, i_load, i_iload, i_lload, i_dload, i_aload, i_istore, i_astore, i_lstore, i_dstore, i_iinc, i_ii, i_iiz, i_ll, i_llz, i_lli, i_li, i_i, i_l, i_i2l, i_l2i, i_dup, i_dup2, i_dup2w, i_dupx1, i_pop, i_pop2, i_goto, i_ifc, i_icmp, i_getI, i_getL, i_getR, i_putI, i_putZ, i_putL, i_putR, i_aldI, i_aldB, i_aldL, i_aldD, i_astI, i_astL, i_astD, i_alen, i_ret, i_iret, i_zret, i_lret, i_fret, i_dret, i_aret, i_invS0, i_invV0, i_m2, i_m1, i_ml, i_obj, lk, lkp, stf1, stf2, Value.category, rV, xTo, lv_args, xCk, xCat, xRc, xAk, hg_S, hg_I, hg_J, hg_D, hg_R, hs_I, hs_J, hs_D, hs_R, uI_at, uJ_at, uD_at, uR_at, List.take_succ_cons, List.take_zero, List.drop_succ_cons, List.drop_zero, List.reverse_cons, List.reverse_nil, List.nil_append, List.cons_append, List.map_cons, List.map_nil, List.sum_cons, List.sum_nil, List.length_cons, List.length_nil, Option.toList_some, Option.toList_none, true_and, and_true, false_and, and_false, true_implies, false_implies, implies_true, not_true_eq_false, not_false_eq_true, ne_eq, if_true, if_false, Bool.and_true, Bool.true_and, decide_true, decide_false, reduceIte, reduceCtorEq, Bool.and_self, Bool.and_eq_true, decide_eq_true_eq, and_self, true_or, or_true, false_or, or_false, Nat.zero_add, Nat.add_zero, eq_self, Nat.reduceEqDiff, Nat.reduceLeDiff, Nat.reduceLT, Nat.reduceAdd, Nat.reduceSub, Nat.reduceMul, LM_out hL, xi144_0, ix_0, xi144_1, ix_1, xi144_2, ix_2, xi144_3, ix_3, xi144_4, ix_4, xi144_5, ix_5, xi144_6, ix_6, xi144_7, ix_7, xi144_8, ix_8, xi144_9, ix_9, xi144_10, ix_10, hC, nI_leP (show i < 2147483648 by omega) (show i < 2147483648 by omega), Nat.le_refl, e261_62, B261_62]
  | j + 1, i, hi => by
    have ih := R261_25 hL hC hn hc hs hJ j (i + 1) (by omega)
    rw [sm, ovl] at ih
    rw [e261_25]
    simp only [B261_25, xSeq, i_push, i_load, i_iload, i_lload, i_dload, i_aload, i_istore, i_astore, i_lstore, i_dstore, i_iinc, i_ii, i_iiz, i_ll, i_llz, i_lli, i_li, i_i, i_l, i_i2l, i_l2i, i_dup, i_dup2, i_dup2w, i_dupx1, i_pop, i_pop2, i_goto, i_ifc, i_icmp, i_getI, i_getL, i_getR, i_putI, i_putZ, i_putL, i_putR, i_aldI, i_aldB, i_aldL, i_aldD, i_astI, i_astL, i_astD, i_alen, i_ret, i_iret, i_zret, i_lret, i_fret, i_dret, i_aret, i_invS0, i_invV0, i_m2, i_m1, i_ml, i_obj, lk, lkp, stf1, stf2, Value.category, rV, xTo, lv_args, xCk, xCat, xRc, xAk, hg_S, hg_I, hg_J, hg_D, hg_R, hs_I, hs_J, hs_D, hs_R, uI_at, uJ_at, uD_at, uR_at, List.take_succ_cons, List.take_zero, List.drop_succ_cons, List.drop_zero, List.reverse_cons, List.reverse_nil, List.nil_append, List.cons_append, List.map_cons, List.map_nil, List.sum_cons, List.sum_nil, List.length_cons, List.length_nil, Option.toList_some, Option.toList_none, true_and, and_true, false_and, and_false, true_implies, false_implies, implies_true, not_true_eq_false, not_false_eq_true, ne_eq, if_true, if_false, Bool.and_true, Bool.true_and, decide_true, decide_false, reduceIte, reduceCtorEq, Bool.and_self, Bool.and_eq_true, decide_eq_true_eq, and_self, true_or, or_true, false_or, or_false, Nat.zero_add, Nat.add_zero, eq_self, Nat.reduceEqDiff, Nat.reduceLeDiff, Nat.reduceLT, Nat.reduceAdd, Nat.reduceSub, Nat.reduceMul, LM_out hL, xi144_0, ix_0, xi144_1, ix_1, xi144_2, ix_2, xi144_3, ix_3, xi144_4, ix_4, xi144_5, ix_5, xi144_6, ix_6, xi144_7, ix_7, xi144_8, ix_8, xi144_9, ix_9, xi144_10, ix_10, hC, nI_leP (show n < 2147483648 by omega) (show i < 2147483648 by omega), show (n ≤ i) = False from eq_false (by omega), R238 hc (show i < 64 by omega), hJ, R238 hs (show i < 64 by omega), nI_1]
    exact ih
theorem R261_20 (hL : LM S R) (hC : I 300 10 = nI n) (hn : n ≤ 64) {c s : Nat} (hc : c < 2 ^ 64) (hs : s < 2 ^ 64) (hJ : J 200 3 = lN s) : xRun xT 261 20 [(0, .ref 200), (1, .long (lN c))] [] (S, I, J, D, R) b Q = Q (.ok (some (.int (nI n - 2 * nI (pop n (c ^^^ s)))))) (S, I, J, D, R) b := by
  rw [e261_20]
  simp only [B261_20, xSeq, i_push, i_load, i_iload, i_lload, i_dload, i_aload, i_istore, i_astore, i_lstore, i_dstore, i_iinc, i_ii, i_iiz, i_ll, i_llz, i_lli, i_li, i_i, i_l, i_i2l, i_l2i, i_dup, i_dup2, i_dup2w, i_dupx1, i_pop, i_pop2, i_goto, i_ifc, i_icmp, i_getI, i_getL, i_getR, i_putI, i_putZ, i_putL, i_putR, i_aldI, i_aldB, i_aldL, i_aldD, i_astI, i_astL, i_astD, i_alen, i_ret, i_iret, i_zret, i_lret, i_fret, i_dret, i_aret, i_invS0, i_invV0, i_m2, i_m1, i_ml, i_obj, lk, lkp, stf1, stf2, Value.category, rV, xTo, lv_args, xCk, xCat, xRc, xAk, hg_S, hg_I, hg_J, hg_D, hg_R, hs_I, hs_J, hs_D, hs_R, uI_at, uJ_at, uD_at, uR_at, List.take_succ_cons, List.take_zero, List.drop_succ_cons, List.drop_zero, List.reverse_cons, List.reverse_nil, List.nil_append, List.cons_append, List.map_cons, List.map_nil, List.sum_cons, List.sum_nil, List.length_cons, List.length_nil, Option.toList_some, Option.toList_none, true_and, and_true, false_and, and_false, true_implies, false_implies, implies_true, not_true_eq_false, not_false_eq_true, ne_eq, if_true, if_false, Bool.and_true, Bool.true_and, decide_true, decide_false, reduceIte, reduceCtorEq, Bool.and_self, Bool.and_eq_true, decide_eq_true_eq, and_self, true_or, or_true, false_or, or_false, Nat.zero_add, Nat.add_zero, eq_self, Nat.reduceEqDiff, Nat.reduceLeDiff, Nat.reduceLT, Nat.reduceAdd, Nat.reduceSub, Nat.reduceMul, LM_out hL]
  rw [← ovl_pop]
  exact R261_25 hL hC hn hc hs hJ n 0 (by omega)
theorem pop_64 {n s : Nat} (hn : n ≤ 64) (hs : s < 2 ^ n) : pop 64 s = pop n s := by
  have := pop_up hs (64 - n)
  rw [show n + (64 - n) = 64 by omega] at this
  exact this
end
/-! ===== chance ===== -/
section
variable {S : xS} {I : xI} {J : xJ} {D : xDb} {R : xR} {b : Nat × Nat} {Q : xQ} {n m : Nat} {fi se dg : Nat → Nat} {sb : Nat → Nat → Nat}
theorem al_eq {c : UInt64} (h : isNaN64 c = false) {P : UInt64 → Prop} : (∀ v : UInt64, alike64 v c = true → P v) = P c := by
  apply propext
  constructor
  · intro k
    exact k c (by unfold alike64; simp)
  · intro k v hv
    unfold alike64 at hv
    rw [h] at hv
    have : v = c := by simpa using hv
    rw [this]
    exact k
/-- the powers of one half -/
def hv2 : UInt64 := FP.ddiv (FP.i2d (nI 1)) (FP.i2d (nI 2))
def hpw : Nat → UInt64
  | 0 => FP.dconst1
  | i + 1 => FP.dmul (hpw i) hv2
theorem hv2_n : isNaN64 (FP.ddiv (FP.i2d (nI 1)) (FP.i2d (nI 2))) = false := by decide +kernel
theorem hpw_n : ∀ i, i < 8 → isNaN64 (FP.dmul (hpw i) (FP.ddiv (FP.i2d (nI 1)) (FP.i2d (nI 2)))) = false := by decide +kernel
theorem hpw_c : Op.cmpValue (FP.dcmp (hpw 8) (hpw 8)) .l = 0 := by decide +kernel
theorem dl_8 : ∀ t, t < 16 → dl 0 (fun _ => 1) (fE B4) (sE B4) (dE B4) (bE B4) 65535 t = nI 8 := by decide +kernel
theorem R185_40 (hL : LC S R) (h7 : I 110 7 = nI 1) (h8 : I 110 8 = nI 2) : ∀ (j i : Nat), i + j = 8 → xRun xT 185 40 [(0, .ref 100), (2, .int (nI 8)), (3, .double (hpw i)), (5, .int (nI i))] [] (S, I, J, D, R) b Q = Q (.ok (some (.double (hpw 8)))) (S, I, J, D, R) b
  | 0, i, hi => by
    have e : i = 8 := by omega
    subst e
    rw [e185_40]
    simp only [B185_40, xSeq, i_push, i_load, i_iload, i_lload, i_dload, i_aload, i_istore, i_astore, i_lstore, i_dstore, i_iinc, i_ii, i_iiz, i_ll, i_llz, i_lli, i_li, i_i, i_l, i_i2l, i_l2i, i_dup, i_dup2, i_dup2w, i_dupx1, i_pop, i_pop2, i_goto, i_ifc, i_icmp, i_getI, i_getL, i_getR, i_putI, i_putZ, i_putL, i_putR, i_aldI, i_aldB, i_aldL, i_aldD, i_astI, i_astL, i_astD, i_alen, i_ret, i_iret, i_zret, i_lret, i_fret, i_dret, i_aret, i_invS0, i_invV0, i_m2, i_m1, i_ml, i_obj, lk, lkp, stf1, stf2, Value.category, rV, xTo, lv_args, xCk, xCat, xRc, xAk, hg_S, hg_I, hg_J, hg_D, hg_R, hs_I, hs_J, hs_D, hs_R, uI_at, uJ_at, uD_at, uR_at, List.take_succ_cons, List.take_zero, List.drop_succ_cons, List.drop_zero, List.reverse_cons, List.reverse_nil, List.nil_append, List.cons_append, List.map_cons, List.map_nil, List.sum_cons, List.sum_nil, List.length_cons, List.length_nil, Option.toList_some, Option.toList_none, true_and, and_true, false_and, and_false, true_implies, false_implies, implies_true, not_true_eq_false, not_false_eq_true, ne_eq, if_true, if_false, Bool.and_true, Bool.true_and, decide_true, decide_false, reduceIte, reduceCtorEq, Bool.and_self, Bool.and_eq_true, decide_eq_true_eq, and_self, true_or, or_true, false_or, or_false, Nat.zero_add, Nat.add_zero, eq_self, Nat.reduceEqDiff, Nat.reduceLeDiff, Nat.reduceLT, Nat.reduceAdd, Nat.reduceSub, Nat.reduceMul, LC_out hL, nI_leP (show 8 < 2147483648 by decide) (show 8 < 2147483648 by decide), Nat.le_refl, e185_72, B185_72]
  | j + 1, i, hi => by
    have ih := R185_40 hL h7 h8 j (i + 1) (by omega)
    rw [hpw, hv2] at ih
    rw [e185_40]
    simp only [B185_40, xSeq, i_push, i_load, i_iload, i_lload, i_dload, i_aload, i_istore, i_astore, i_lstore, i_dstore, i_iinc, i_ii, i_iiz, i_ll, i_llz, i_lli, i_li, i_i, i_l, i_i2l, i_l2i, i_dup, i_dup2, i_dup2w, i_dupx1, i_pop, i_pop2, i_goto, i_ifc, i_icmp, i_getI, i_getL, i_getR, i_putI, i_putZ, i_putL, i_putR, i_aldI, i_aldB, i_aldL, i_aldD, i_astI, i_astL, i_astD, i_alen, i_ret, i_iret, i_zret, i_lret, i_fret, i_dret, i_aret, i_invS0, i_invV0, i_m2, i_m1, i_ml, i_obj, lk, lkp, stf1, stf2, Value.category, rV, xTo, lv_args, xCk, xCat, xRc, xAk, hg_S, hg_I, hg_J, hg_D, hg_R, hs_I, hs_J, hs_D, hs_R, uI_at, uJ_at, uD_at, uR_at, List.take_succ_cons, List.take_zero, List.drop_succ_cons, List.drop_zero, List.reverse_cons, List.reverse_nil, List.nil_append, List.cons_append, List.map_cons, List.map_nil, List.sum_cons, List.sum_nil, List.length_cons, List.length_nil, Option.toList_some, Option.toList_none, true_and, and_true, false_and, and_false, true_implies, false_implies, implies_true, not_true_eq_false, not_false_eq_true, ne_eq, if_true, if_false, Bool.and_true, Bool.true_and, decide_true, decide_false, reduceIte, reduceCtorEq, Bool.and_self, Bool.and_eq_true, decide_eq_true_eq, and_self, true_or, or_true, false_or, or_false, Nat.zero_add, Nat.add_zero, eq_self, Nat.reduceEqDiff, Nat.reduceLeDiff, Nat.reduceLT, Nat.reduceAdd, Nat.reduceSub, Nat.reduceMul, LC_out hL, nI_leP (show 8 < 2147483648 by decide) (show i < 2147483648 by omega), show (8 ≤ i) = False from eq_false (by omega), h7, h8, i_i2d, i_dd, al_eq hv2_n, al_eq (hpw_n i (by omega)), nI_1]
    exact ih
theorem R266_5 : ∀ (j i : Nat), i + j = 8 → xRun xT 266 5 [(0, .int (nI 8)), (1, .int (nI 1)), (2, .int (nI 2)), (3, .double (hpw i)), (5, .int (nI i))] [] (S, I, J, D, R) b Q = Q (.ok (some (.double (hpw 8)))) (S, I, J, D, R) b
  | 0, i, hi => by
    have e : i = 8 := by omega
    subst e
    rw [e266_5]
    simp only [B266_5, xSeq, i_push, i_load, i_iload, i_lload, i_dload, i_aload, i_istore, i_astore, i_lstore, i_dstore, i_iinc, i_ii, i_iiz, i_ll, i_llz, i_lli, i_li, i_i, i_l, i_i2l, i_l2i, i_dup, i_dup2, i_dup2w, i_dupx1, i_pop, i_pop2, i_goto, i_ifc, i_icmp, i_getI, i_getL, i_getR, i_putI, i_putZ, i_putL, i_putR, i_aldI, i_aldB, i_aldL, i_aldD, i_astI, i_astL, i_astD, i_alen, i_ret, i_iret, i_zret, i_lret, i_fret, i_dret, i_aret, i_invS0, i_invV0, i_m2, i_m1, i_ml, i_obj, lk, lkp, stf1, stf2, Value.category, rV, xTo, lv_args, xCk, xCat, xRc, xAk, hg_S, hg_I, hg_J, hg_D, hg_R, hs_I, hs_J, hs_D, hs_R, uI_at, uJ_at, uD_at, uR_at, List.take_succ_cons, List.take_zero, List.drop_succ_cons, List.drop_zero, List.reverse_cons, List.reverse_nil, List.nil_append, List.cons_append, List.map_cons, List.map_nil, List.sum_cons, List.sum_nil, List.length_cons, List.length_nil, Option.toList_some, Option.toList_none, true_and, and_true, false_and, and_false, true_implies, false_implies, implies_true, not_true_eq_false, not_false_eq_true, ne_eq, if_true, if_false, Bool.and_true, Bool.true_and, decide_true, decide_false, reduceIte, reduceCtorEq, Bool.and_self, Bool.and_eq_true, decide_eq_true_eq, and_self, true_or, or_true, false_or, or_false, Nat.zero_add, Nat.add_zero, eq_self, Nat.reduceEqDiff, Nat.reduceLeDiff, Nat.reduceLT, Nat.reduceAdd, Nat.reduceSub, Nat.reduceMul, nI_leP (show 8 < 2147483648 by decide) (show 8 < 2147483648 by decide), Nat.le_refl, e266_25, B266_25]
  | j + 1, i, hi => by
    have ih := R266_5 j (i + 1) (by omega)
    rw [hpw, hv2] at ih
    rw [e266_5]
    simp only [B266_5, xSeq, i_push, i_load, i_iload, i_lload, i_dload, i_aload, i_istore, i_astore, i_lstore, i_dstore, i_iinc, i_ii, i_iiz, i_ll, i_llz, i_lli, i_li, i_i, i_l, i_i2l, i_l2i, i_dup, i_dup2, i_dup2w, i_dupx1, i_pop, i_pop2, i_goto, i_ifc, i_icmp, i_getI, i_getL, i_getR, i_putI, i_putZ, i_putL, i_putR, i_aldI, i_aldB, i_aldL, i_aldD, i_astI, i_astL, i_astD, i_alen, i_ret, i_iret, i_zret, i_lret, i_fret, i_dret, i_aret, i_invS0, i_invV0, i_m2, i_m1, i_ml, i_obj, lk, lkp, stf1, stf2, Value.category, rV, xTo, lv_args, xCk, xCat, xRc, xAk, hg_S, hg_I, hg_J, hg_D, hg_R, hs_I, hs_J, hs_D, hs_R, uI_at, uJ_at, uD_at, uR_at, List.take_succ_cons, List.take_zero, List.drop_succ_cons, List.drop_zero, List.reverse_cons, List.reverse_nil, List.nil_append, List.cons_append, List.map_cons, List.map_nil, List.sum_cons, List.sum_nil, List.length_cons, List.length_nil, Option.toList_some, Option.toList_none, true_and, and_true, false_and, and_false, true_implies, false_implies, implies_true, not_true_eq_false, not_false_eq_true, ne_eq, if_true, if_false, Bool.and_true, Bool.true_and, decide_true, decide_false, reduceIte, reduceCtorEq, Bool.and_self, Bool.and_eq_true, decide_eq_true_eq, and_self, true_or, or_true, false_or, or_false, Nat.zero_add, Nat.add_zero, eq_self, Nat.reduceEqDiff, Nat.reduceLeDiff, Nat.reduceLT, Nat.reduceAdd, Nat.reduceSub, Nat.reduceMul, nI_leP (show 8 < 2147483648 by decide) (show i < 2147483648 by omega), show (8 ≤ i) = False from eq_false (by omega), i_i2d, i_dd, al_eq hv2_n, al_eq (hpw_n i (by omega)), nI_1]
    exact ih
theorem R266 : xRun xT 266 0 [(0, .int (nI 8)), (1, .int (nI 1)), (2, .int (nI 2))] [] (S, I, J, D, R) b Q = Q (.ok (some (.double (hpw 8)))) (S, I, J, D, R) b := by
  rw [e266_0]
  simp only [B266_0, xSeq, i_push, i_load, i_iload, i_lload, i_dload, i_aload, i_istore, i_astore, i_lstore, i_dstore, i_iinc, i_ii, i_iiz, i_ll, i_llz, i_lli, i_li, i_i, i_l, i_i2l, i_l2i, i_dup, i_dup2, i_dup2w, i_dupx1, i_pop, i_pop2, i_goto, i_ifc, i_icmp, i_getI, i_getL, i_getR, i_putI, i_putZ, i_putL, i_putR, i_aldI, i_aldB, i_aldL, i_aldD, i_astI, i_astL, i_astD, i_alen, i_ret, i_iret, i_zret, i_lret, i_fret, i_dret, i_aret, i_invS0, i_invV0, i_m2, i_m1, i_ml, i_obj, lk, lkp, stf1, stf2, Value.category, rV, xTo, lv_args, xCk, xCat, xRc, xAk, hg_S, hg_I, hg_J, hg_D, hg_R, hs_I, hs_J, hs_D, hs_R, uI_at, uJ_at, uD_at, uR_at, List.take_succ_cons, List.take_zero, List.drop_succ_cons, List.drop_zero, List.reverse_cons, List.reverse_nil, List.nil_append, List.cons_append, List.map_cons, List.map_nil, List.sum_cons, List.sum_nil, List.length_cons, List.length_nil, Option.toList_some, Option.toList_none, true_and, and_true, false_and, and_false, true_implies, false_implies, implies_true, not_true_eq_false, not_false_eq_true, ne_eq, if_true, if_false, Bool.and_true, Bool.true_and, decide_true, decide_false, reduceIte, reduceCtorEq, Bool.and_self, Bool.and_eq_true, decide_eq_true_eq, and_self, true_or, or_true, false_or, or_false, Nat.zero_add, Nat.add_zero, eq_self, Nat.reduceEqDiff, Nat.reduceLeDiff, Nat.reduceLT, Nat.reduceAdd, Nat.reduceSub, Nat.reduceMul]
  exact R266_5 8 0 rfl
theorem R185_35 (hL : LC S R) (h7 : I 110 7 = nI 1) (h8 : I 110 8 = nI 2) : xRun xT 185 35 [(0, .ref 100), (2, .int (nI 8))] [] (S, I, J, D, R) b Q = Q (.ok (some (.double (hpw 8)))) (S, I, J, D, R) b := by
  rw [e185_35]
  simp only [B185_35, xSeq, i_push, i_load, i_iload, i_lload, i_dload, i_aload, i_istore, i_astore, i_lstore, i_dstore, i_iinc, i_ii, i_iiz, i_ll, i_llz, i_lli, i_li, i_i, i_l, i_i2l, i_l2i, i_dup, i_dup2, i_dup2w, i_dupx1, i_pop, i_pop2, i_goto, i_ifc, i_icmp, i_getI, i_getL, i_getR, i_putI, i_putZ, i_putL, i_putR, i_aldI, i_aldB, i_aldL, i_aldD, i_astI, i_astL, i_astD, i_alen, i_ret, i_iret, i_zret, i_lret, i_fret, i_dret, i_aret, i_invS0, i_invV0, i_m2, i_m1, i_ml, i_obj, lk, lkp, stf1, stf2, Value.category, rV, xTo, lv_args, xCk, xCat, xRc, xAk, hg_S, hg_I, hg_J, hg_D, hg_R, hs_I, hs_J, hs_D, hs_R, uI_at, uJ_at, uD_at, uR_at, List.take_succ_cons, List.take_zero, List.drop_succ_cons, List.drop_zero, List.reverse_cons, List.reverse_nil, List.nil_append, List.cons_append, List.map_cons, List.map_nil, List.sum_cons, List.sum_nil, List.length_cons, List.length_nil, Option.toList_some, Option.toList_none, true_and, and_true, false_and, and_false, true_implies, false_implies, implies_true, not_true_eq_false, not_false_eq_true, ne_eq, if_true, if_false, Bool.and_true, Bool.true_and, decide_true, decide_false, reduceIte, reduceCtorEq, Bool.and_self, Bool.and_eq_true, decide_eq_true_eq, and_self, true_or, or_true, false_or, or_false, Nat.zero_add, Nat.add_zero, eq_self, Nat.reduceEqDiff, Nat.reduceLeDiff, Nat.reduceLT, Nat.reduceAdd, Nat.reduceSub, Nat.reduceMul]
  exact R185_40 hL h7 h8 8 0 rfl
end
/-! ===== bondMean ===== -/
section
variable {S : xS} {I : xI} {J : xJ} {D : xDb} {R : xR} {b : Nat × Nat} {Q : xQ} {n m : Nat} {fi se dg : Nat → Nat} {sb : Nat → Nat → Nat}
theorem al32_eq {c : UInt32} (h : isNaN32 c = false) {P : UInt32 → Prop} : (∀ v : UInt32, alike32 v c = true → P v) = P c := by
  apply propext
  constructor
  · intro k
    exact k c (by unfold alike32; simp)
  · intro k v hv
    unfold alike32 at hv
    rw [h] at hv
    have : v = c := by simpa using hv
    rw [this]
    exact k
theorem R131_4 (hL : LC S R) (hG : GR n m fi se dg sb) (hC : CL I n m fi se dg sb) {s : Nat} (hJ : J 110 4 = lN s) (hs : s < 2 ^ 64) : ∀ (j i : Nat), i + j = m → xRun xT 131 4 [(0, .ref 100), (1, .int (ps i (I 111) fi se s)), (2, .int (nI i))] [] (S, I, J, D, R) b Q = xRun xT 131 39 [(0, .ref 100), (1, .int (ps m (I 111) fi se s))] [] (S, I, J, D, R) b Q
  | 0, i, hi => by
    obtain ⟨g0, g1, g2, g3, g4, g5, g6⟩ := hG
    obtain ⟨c1, c2, c3, c4, c5, c6⟩ := hC
    have e : i = m := by omega
    subst e
    rw [e131_4]
    simp only [B131_4, xSeq, i_push, i_load, i_iload, i_lload, i_dload, i_aload, i_istore, i_astore, i_lstore, i_dstore, i_iinc, i_ii, i_iiz, i_ll, i_llz, i_lli, i_li, i_i, i_l, i_i2l, i_l2i, i_dup, i_dup2, i_dup2w, i_dupx1, i_pop, i_pop2, i_goto, i_ifc, i_icmp, i_getI, i_getL, i_getR, i_putI, i_putZ, i_putL, i_putR, i_aldI, i_aldB, i_aldL, i_aldD, i_astI, i_astL, i_astD, i_alen, i_ret, i_iret, i_zret, i_lret, i_fret, i_dret, i_aret, i_invS0, i_invV0, i_m2, i_m1, i_ml, i_obj, lk, lkp, stf1, stf2, Value.category, rV, xTo, lv_args, xCk, xCat, xRc, xAk, hg_S, hg_I, hg_J, hg_D, hg_R, hs_I, hs_J, hs_D, hs_R, uI_at, uJ_at, uD_at, uR_at, List.take_succ_cons, List.take_zero, List.drop_succ_cons, List.drop_zero, List.reverse_cons, List.reverse_nil, List.nil_append, List.cons_append, List.map_cons, List.map_nil, List.sum_cons, List.sum_nil, List.length_cons, List.length_nil, Option.toList_some, Option.toList_none, true_and, and_true, false_and, and_false, true_implies, false_implies, implies_true, not_true_eq_false, not_false_eq_true, ne_eq, if_true, if_false, Bool.and_true, Bool.true_and, decide_true, decide_false, reduceIte, reduceCtorEq, Bool.and_self, Bool.and_eq_true, decide_eq_true_eq, and_self, true_or, or_true, false_or, or_false, Nat.zero_add, Nat.add_zero, eq_self, Nat.reduceEqDiff, Nat.reduceLeDiff, Nat.reduceLT, Nat.reduceAdd, Nat.reduceSub, Nat.reduceMul, LC_out hL, c2, nI_leP (show i < 2147483648 by omega) (show i < 2147483648 by omega), Nat.le_refl]
  | j + 1, i, hi => by
    have ih := R131_4 hL hG hC hJ hs j (i + 1) (by omega)
    have r := fun (b : Nat × Nat) (Q : xQ) => R75 (J := J) (D := D) (b := b) (Q := Q) hL hG hC hs (show i < m by omega)
    obtain ⟨g0, g1, g2, g3, g4, g5, g6⟩ := hG
    obtain ⟨c1, c2, c3, c4, c5, c6⟩ := hC
    rw [ps, sm] at ih
    rw [e131_4]
    simp only [B131_4, xSeq, i_push, i_load, i_iload, i_lload, i_dload, i_aload, i_istore, i_astore, i_lstore, i_dstore, i_iinc, i_ii, i_iiz, i_ll, i_llz, i_lli, i_li, i_i, i_l, i_i2l, i_l2i, i_dup, i_dup2, i_dup2w, i_dupx1, i_pop, i_pop2, i_goto, i_ifc, i_icmp, i_getI, i_getL, i_getR, i_putI, i_putZ, i_putL, i_putR, i_aldI, i_aldB, i_aldL, i_aldD, i_astI, i_astL, i_astD, i_alen, i_ret, i_iret, i_zret, i_lret, i_fret, i_dret, i_aret, i_invS0, i_invV0, i_m2, i_m1, i_ml, i_obj, lk, lkp, stf1, stf2, Value.category, rV, xTo, lv_args, xCk, xCat, xRc, xAk, hg_S, hg_I, hg_J, hg_D, hg_R, hs_I, hs_J, hs_D, hs_R, uI_at, uJ_at, uD_at, uR_at, List.take_succ_cons, List.take_zero, List.drop_succ_cons, List.drop_zero, List.reverse_cons, List.reverse_nil, List.nil_append, List.cons_append, List.map_cons, List.map_nil, List.sum_cons, List.sum_nil, List.length_cons, List.length_nil, Option.toList_some, Option.toList_none, true_and, and_true, false_and, and_false, true_implies, false_implies, implies_true, not_true_eq_false, not_false_eq_true, ne_eq, if_true, if_false, Bool.and_true, Bool.true_and, decide_true, decide_false, reduceIte, reduceCtorEq, Bool.and_self, Bool.and_eq_true, decide_eq_true_eq, and_self, true_or, or_true, false_or, or_false, Nat.zero_add, Nat.add_zero, eq_self, Nat.reduceEqDiff, Nat.reduceLeDiff, Nat.reduceLT, Nat.reduceAdd, Nat.reduceSub, Nat.reduceMul, LC_out hL, c2, nI_leP (show m < 2147483648 by omega) (show i < 2147483648 by omega), show (m ≤ i) = False from eq_false (by omega), hJ, r, nI_1]
    exact ih
theorem R131_0 (hL : LC S R) (hG : GR n m fi se dg sb) (hC : CL I n m fi se dg sb) {s : Nat} (hJ : J 110 4 = lN s) (hs : s < 2 ^ 64) : xRun xT 131 0 [(0, .ref 100)] [] (S, I, J, D, R) b Q = xRun xT 131 39 [(0, .ref 100), (1, .int (ps m (I 111) fi se s))] [] (S, I, J, D, R) b Q := by
  rw [e131_0]
  simp only [B131_0, xSeq, i_push, i_load, i_iload, i_lload, i_dload, i_aload, i_istore, i_astore, i_lstore, i_dstore, i_iinc, i_ii, i_iiz, i_ll, i_llz, i_lli, i_li, i_i, i_l, i_i2l, i_l2i, i_dup, i_dup2, i_dup2w, i_dupx1, i_pop, i_pop2, i_goto, i_ifc, i_icmp, i_getI, i_getL, i_getR, i_putI, i_putZ, i_putL, i_putR, i_aldI, i_aldB, i_aldL, i_aldD, i_astI, i_astL, i_astD, i_alen, i_ret, i_iret, i_zret, i_lret, i_fret, i_dret, i_aret, i_invS0, i_invV0, i_m2, i_m1, i_ml, i_obj, lk, lkp, stf1, stf2, Value.category, rV, xTo, lv_args, xCk, xCat, xRc, xAk, hg_S, hg_I, hg_J, hg_D, hg_R, hs_I, hs_J, hs_D, hs_R, uI_at, uJ_at, uD_at, uR_at, List.take_succ_cons, List.take_zero, List.drop_succ_cons, List.drop_zero, List.reverse_cons, List.reverse_nil, List.nil_append, List.cons_append, List.map_cons, List.map_nil, List.sum_cons, List.sum_nil, List.length_cons, List.length_nil, Option.toList_some, Option.toList_none, true_and, and_true, false_and, and_false, true_implies, false_implies, implies_true, not_true_eq_false, not_false_eq_true, ne_eq, if_true, if_false, Bool.and_true, Bool.true_and, decide_true, decide_false, reduceIte, reduceCtorEq, Bool.and_self, Bool.and_eq_true, decide_eq_true_eq, and_self, true_or, or_true, false_or, or_false, Nat.zero_add, Nat.add_zero, eq_self, Nat.reduceEqDiff, Nat.reduceLeDiff, Nat.reduceLT, Nat.reduceAdd, Nat.reduceSub, Nat.reduceMul]
  exact R131_4 hL hG hC hJ hs m 0 (by omega)
theorem R263_9 (hL : LM S R) (hG : GR n m fi se dg sb) (hC : CM I n m fi se dg sb) {s : Nat} (hJ : J 200 3 = lN s) (hs : s < 2 ^ 64) : ∀ (j i : Nat), i + j = m → xRun xT 263 9 [(0, .ref 200), (1, .int (ps i (fun k => I 300 (16 + k)) fi se s)), (2, .int (nI i))] [] (S, I, J, D, R) b Q = xRun xT 263 38 [(0, .ref 200), (1, .int (ps m (fun k => I 300 (16 + k)) fi se s))] [] (S, I, J, D, R) b Q
  | 0, i, hi => by
    obtain ⟨g0, g1, g2, g3, g4, g5, g6⟩ := hG
    obtain ⟨c1, c2, c3, c4, c5, c6⟩ := hC
    have e : i = m := by omega
    subst e
    rw [e263_9]
    simp only [B263_9, xSeq, i_push, i_load, i_iload, i_lload, i_dload, i_aload, i_istore, i_astore, i_lstore, i_dstore, i_iinc, i_ii, i_iiz, i_ll, i_llz, i_lli, i_li, i_i, i_l, i_i2l, i_l2i, i_dup, i_dup2, i_dup2w, i_dupx1, i_pop, i_pop2, i_goto, i_ifc, i_icmp, i_getI, i_getL, i_getR, i_putI, i_putZ, i_putL, i_putR, i_aldI, i_aldB, i_aldL, i_aldD, i_astI, i_astL, i_astD, i_alen, i_ret, i_iret, i_zret, i_lret, i_fret, i_dret, i_aret, i_invS0, i_invV0, i_m2, i_m1, i_ml, i_obj, lk, lkp, stf1, stf2, Value.category, rV, xTo, lv_args, xCk, xCat, xRc, xAk, hg_S, hg_I, hg_J, hg_D, hg_R, hs_I, hs_J, hs_D, hs_R, uI_at, uJ_at, uD_at, uR_at, List.take_succ_cons, List.take_zero, List.drop_succ_cons, List.drop_zero, List.reverse_cons, List.reverse_nil, List.nil_append, List.cons_append, List.map_cons, List.map_nil, List.sum_cons, List.sum_nil, List.length_cons, List.length_nil, Option.toList_some, Option.toList_none, true_and, and_true, false_and, and_false, true_implies, false_implies, implies_true, not_true_eq_false, not_false_eq_true, ne_eq, if_true, if_false, Bool.and_true, Bool.true_and, decide_true, decide_false, reduceIte, reduceCtorEq, Bool.and_self, Bool.and_eq_true, decide_eq_true_eq, and_self, true_or, or_true, false_or, or_false, Nat.zero_add, Nat.add_zero, eq_self, Nat.reduceEqDiff, Nat.reduceLeDiff, Nat.reduceLT, Nat.reduceAdd, Nat.reduceSub, Nat.reduceMul, LM_out hL, xi144_0, ix_0, xi144_1, ix_1, xi144_2, ix_2, xi144_3, ix_3, xi144_4, ix_4, xi144_5, ix_5, xi144_6, ix_6, xi144_7, ix_7, xi144_8, ix_8, xi144_9, ix_9, xi144_10, ix_10, c2, nI_leP (show i < 2147483648 by omega) (show i < 2147483648 by omega), Nat.le_refl]
  | j + 1, i, hi => by
    have ih := R263_9 hL hG hC hJ hs j (i + 1) (by omega)
    have r := fun (b : Nat × Nat) (Q : xQ) => R237 (J := J) (D := D) (b := b) (Q := Q) hL hG hC hs (show i < m by omega)
    obtain ⟨g0, g1, g2, g3, g4, g5, g6⟩ := hG
    obtain ⟨c1, c2, c3, c4, c5, c6⟩ := hC
    rw [ps, sm] at ih
    rw [e263_9]
    simp only [B263_9, xSeq, i_push, i_load, i_iload, i_lload, i_dload, i_aload, i_istore, i_astore, i_lstore, i_dstore, i_iinc, i_ii, i_iiz, i_ll, i_llz, i_lli, i_li, i_i, i_l, i_i2l, i_l2i, i_dup, i_dup2, i_dup2w, i_dupx1, i_pop, i_pop2, i_goto, i_ifc, i_icmp, i_getI, i_getL, i_getR, i_putI, i_putZ, i_putL, i_putR, i_aldI, i_aldB, i_aldL, i_aldD, i_astI, i_astL, i_astD, i_alen, i_ret, i_iret, i_zret, i_lret, i_fret, i_dret, i_aret, i_invS0, i_invV0, i_m2, i_m1, i_ml, i_obj, lk, lkp, stf1, stf2, Value.category, rV, xTo, lv_args, xCk, xCat, xRc, xAk, hg_S, hg_I, hg_J, hg_D, hg_R, hs_I, hs_J, hs_D, hs_R, uI_at, uJ_at, uD_at, uR_at, List.take_succ_cons, List.take_zero, List.drop_succ_cons, List.drop_zero, List.reverse_cons, List.reverse_nil, List.nil_append, List.cons_append, List.map_cons, List.map_nil, List.sum_cons, List.sum_nil, List.length_cons, List.length_nil, Option.toList_some, Option.toList_none, true_and, and_true, false_and, and_false, true_implies, false_implies, implies_true, not_true_eq_false, not_false_eq_true, ne_eq, if_true, if_false, Bool.and_true, Bool.true_and, decide_true, decide_false, reduceIte, reduceCtorEq, Bool.and_self, Bool.and_eq_true, decide_eq_true_eq, and_self, true_or, or_true, false_or, or_false, Nat.zero_add, Nat.add_zero, eq_self, Nat.reduceEqDiff, Nat.reduceLeDiff, Nat.reduceLT, Nat.reduceAdd, Nat.reduceSub, Nat.reduceMul, LM_out hL, xi144_0, ix_0, xi144_1, ix_1, xi144_2, ix_2, xi144_3, ix_3, xi144_4, ix_4, xi144_5, ix_5, xi144_6, ix_6, xi144_7, ix_7, xi144_8, ix_8, xi144_9, ix_9, xi144_10, ix_10, c2, nI_leP (show m < 2147483648 by omega) (show i < 2147483648 by omega), show (m ≤ i) = False from eq_false (by omega), hJ, r, nI_1]
    exact ih
theorem R263_z (hL : LM S R) (hG : GR n m fi se dg sb) (hC : CM I n m fi se dg sb) {s : Nat} (hJ : J 200 3 = lN s) (hs : s < 2 ^ 64) : xRun xT 263 9 [(0, .ref 200), (1, .int 0), (2, .int 0)] [] (S, I, J, D, R) b Q = xRun xT 263 38 [(0, .ref 200), (1, .int (ps m (fun k => I 300 (16 + k)) fi se s))] [] (S, I, J, D, R) b Q := R263_9 hL hG hC hJ hs m 0 (by omega)
theorem ps_32 : ps 32 (fun _ => 1) (fE B4) (sE B4) 65535 = nI 32 := by decide +kernel
theorem ps_1 {st : Nat → Int32} (h : ∀ k, k < 32 → st k = 1) : ps 32 st (fE B4) (sE B4) 65535 = nI 32 := by
  rw [← ps_32]
  unfold ps
  exact sm_congr (fun k hk => by rw [h k hk])
theorem f1_n : isNaN32 (FP.fdiv (FP.i2f (nI 32)) (FP.i2f (nI 32))) = false := by decide +kernel
theorem f1_d : isNaN64 (FP.f2d (FP.fdiv (FP.i2f (nI 32)) (FP.i2f (nI 32)))) = false := by decide +kernel
theorem f1_c : Op.cmpValue (FP.dcmp (FP.f2d (FP.fdiv (FP.i2f (nI 32)) (FP.i2f (nI 32)))) (FP.f2d (FP.fdiv (FP.i2f (nI 32)) (FP.i2f (nI 32))))) .l = 0 := by decide +kernel
end
/-! ===== steps ===== -/
section
variable {S : xS} {I : xI} {J : xJ} {D : xDb} {R : xR} {b : Nat × Nat} {Q : xQ} {n m : Nat} {fi se dg : Nat → Nat} {sb : Nat → Nat → Nat}
theorem i32_ac (x y v : Int32) : x + y - v = x - v + y := by grind
theorem R162_s (hL : LC S R) (hG : GR n m fi se dg sb) (hC : CL I n m fi se dg sb) {a bb : Nat} (hA : I 110 7 = nI a) (hB : I 110 8 = nI bb) (ha : a < 2147483648) (h0 : 0 < bb) (hb : bb < 2147483648) {K i t' : Nat} {v : Int32} {z z' : xG} (hK : K < 2147483648) (hi : i < K) (hg : z.2.1 < 2147483648) (ez : uJ (cJ J z) 110 5 (lN (nx z.2.1)) = cJ J z') (eI : cI I z = cI I z') (et : dw z.2.1 n = t') (ht : t' < n) (hs : z'.1 < 2 ^ 64) (hg2 : z'.2.1 < 2147483648) :
    xRun xT 162 19 [(0, .ref 100), (1, .int (nI K)), (2, .int v), (3, .int (nI i))] [] (S, cI I z, cJ J z, D, R) b Q = xRun xT 162 19 [(0, .ref 100), (1, .int (nI K)), (2, .int v), (3, .int (nI (i + 1)))] [] (S, cI I (tS (I 110 6) (I 111) fi se dg sb (I 110 9) a bb t' z'), cJ J (tS (I 110 6) (I 111) fi se dg sb (I 110 9) a bb t' z'), D, R) b Q := by
  have hn := hG.2.1
  have c2 : cI I z 102 2 = nI n := hC.1
  have h84 : ∀ (b : Nat × Nat) (Q : xQ), xRun xT 84 0 [(0, .ref 110), (1, .int (nI n))] [] (S, cI I z, cJ J z, D, R) b Q = Q (.ok (some (.int (nI t')))) (S, cI I z', cJ J z', D, R) b := fun b Q => by
    rw [R84 (I := cI I z) (J := cJ J z) (D := D) hL hg rfl hG.1 (show n < 2147483648 by omega), ez, et, eI]
  have h81 := fun (b : Nat × Nat) (Q : xQ) => R81 (J := J) (D := D) (b := b) (Q := Q) hL hG hC hA hB ha h0 hb hs hg2 ht
  clear ez eI et
  rw [e162_19]
  simp only [B162_19, xSeq, i_push, i_load, i_iload, i_lload, i_dload, i_aload, i_istore, i_astore, i_lstore, i_dstore, i_iinc, i_ii, i_iiz, i_ll, i_llz, i_lli, i_li, i_i, i_l, i_i2l, i_l2i, i_dup, i_dup2, i_dup2w, i_dupx1, i_pop, i_pop2, i_goto, i_ifc, i_icmp, i_getI, i_getL, i_getR, i_putI, i_putZ, i_putL, i_putR, i_aldI, i_aldB, i_aldL, i_aldD, i_astI, i_astL, i_astD, i_alen, i_ret, i_iret, i_zret, i_lret, i_fret, i_dret, i_aret, i_invS0, i_invV0, i_m2, i_m1, i_ml, i_obj, lk, lkp, stf1, stf2, Value.category, rV, xTo, lv_args, xCk, xCat, xRc, xAk, hg_S, hg_I, hg_J, hg_D, hg_R, hs_I, hs_J, hs_D, hs_R, uI_at, uJ_at, uD_at, uR_at, List.take_succ_cons, List.take_zero, List.drop_succ_cons, List.drop_zero, List.reverse_cons, List.reverse_nil, List.nil_append, List.cons_append, List.map_cons, List.map_nil, List.sum_cons, List.sum_nil, List.length_cons, List.length_nil, Option.toList_some, Option.toList_none, true_and, and_true, false_and, and_false, true_implies, false_implies, implies_true, not_true_eq_false, not_false_eq_true, ne_eq, if_true, if_false, Bool.and_true, Bool.true_and, decide_true, decide_false, reduceIte, reduceCtorEq, Bool.and_self, Bool.and_eq_true, decide_eq_true_eq, and_self, true_or, or_true, false_or, or_false, Nat.zero_add, Nat.add_zero, eq_self, Nat.reduceEqDiff, Nat.reduceLeDiff, Nat.reduceLT, Nat.reduceAdd, Nat.reduceSub, Nat.reduceMul, nI_leP hK (show i < 2147483648 by omega), show (K ≤ i) = False from eq_false (by omega), LC_out hL, c2, h84, h81, nI_1]
theorem R162_19 (hL : LC S R) (hG : GR n m fi se dg sb) (hC : CL I n m fi se dg sb) {a bb : Nat} (hA : I 110 7 = nI a) (hB : I 110 8 = nI bb) (ha : a < 2147483648) (h0 : 0 < bb) (hb : bb < 2147483648) {K : Nat} (hK : K < 2147483648) {v : Int32} : ∀ (j i : Nat) (z : xG), i + j = K → z.1 < 2 ^ n → z.2.1 < 2147483648 →
    xRun xT 162 19 [(0, .ref 100), (1, .int (nI K)), (2, .int v), (3, .int (nI i))] [] (S, cI I z, cJ J z, D, R) b Q = Q (.ok (some (.int ((tD (I 110 6) (I 111) fi se dg sb (I 110 9) a bb n j z).2.2.2 - v)))) (S, cI I (tD (I 110 6) (I 111) fi se dg sb (I 110 9) a bb n j z), cJ J (tD (I 110 6) (I 111) fi se dg sb (I 110 9) a bb n j z), D, R) b
  | 0, i, z, hi, hs, hg => by
    have e : i = K := by omega
    subst e
    rw [e162_19]
    simp only [B162_19, xSeq, i_push, i_load, i_iload, i_lload, i_dload, i_aload, i_istore, i_astore, i_lstore, i_dstore, i_iinc, i_ii, i_iiz, i_ll, i_llz, i_lli, i_li, i_i, i_l, i_i2l, i_l2i, i_dup, i_dup2, i_dup2w, i_dupx1, i_pop, i_pop2, i_goto, i_ifc, i_icmp, i_getI, i_getL, i_getR, i_putI, i_putZ, i_putL, i_putR, i_aldI, i_aldB, i_aldL, i_aldD, i_astI, i_astL, i_astD, i_alen, i_ret, i_iret, i_zret, i_lret, i_fret, i_dret, i_aret, i_invS0, i_invV0, i_m2, i_m1, i_ml, i_obj, lk, lkp, stf1, stf2, Value.category, rV, xTo, lv_args, xCk, xCat, xRc, xAk, hg_S, hg_I, hg_J, hg_D, hg_R, hs_I, hs_J, hs_D, hs_R, uI_at, uJ_at, uD_at, uR_at, List.take_succ_cons, List.take_zero, List.drop_succ_cons, List.drop_zero, List.reverse_cons, List.reverse_nil, List.nil_append, List.cons_append, List.map_cons, List.map_nil, List.sum_cons, List.sum_nil, List.length_cons, List.length_nil, Option.toList_some, Option.toList_none, true_and, and_true, false_and, and_false, true_implies, false_implies, implies_true, not_true_eq_false, not_false_eq_true, ne_eq, if_true, if_false, Bool.and_true, Bool.true_and, decide_true, decide_false, reduceIte, reduceCtorEq, Bool.and_self, Bool.and_eq_true, decide_eq_true_eq, and_self, true_or, or_true, false_or, or_false, Nat.zero_add, Nat.add_zero, eq_self, Nat.reduceEqDiff, Nat.reduceLeDiff, Nat.reduceLT, Nat.reduceAdd, Nat.reduceSub, Nat.reduceMul, nI_leP hK hK, Nat.le_refl, e162_52, B162_52, LC_out hL, tD]
    rfl
  | j + 1, i, z, hi, hs, hg => by
    have h64 : z.1 < 2 ^ 64 := Nat.lt_of_lt_of_le hs (Nat.pow_le_pow_right (by decide) hG.2.1)
    have hd := dw_lt z.2.1 hG.1
    obtain ⟨k1, k2⟩ := tS_ok (F := I 110 6) (st := I 111) (fi := fi) (se := se) (dg := dg) (sb := sb) (rule := I 110 9) (a := a) (bb := bb) (N := n) (z := (z.1, nx z.2.1, z.2.2.1, z.2.2.2)) hd hs (nx_lt z.2.1)
    rw [R162_s (z' := (z.1, nx z.2.1, z.2.2.1, z.2.2.2)) (t' := dw z.2.1 n) hL hG hC hA hB ha h0 hb hK (by omega) hg (cJ_5 _ _ _) (cI_g I z z.1 (nx z.2.1)).symm rfl hd h64 (nx_lt z.2.1), tD]
    exact R162_19 hL hG hC hA hB ha h0 hb hK j (i + 1) _ (by omega) k1 k2
theorem R274_s (hL : LM S R) (hG : GR n m fi se dg sb) (hC : CM I n m fi se dg sb) {a bb : Nat} (hA : I 300 2 = nI a) (hB : I 300 3 = nI bb) (ha : a < 2147483648) (h0 : 0 < bb) (hb : bb < 2147483648) (hr : I 300 5 = 0 ∨ I 300 5 = 1 ∨ I 300 5 = 2) {K i t' : Nat} {v : Int32} {z z' : xG} (hK : K < 2147483648) (hi : i < K) (hg : z.2.1 < 2147483648) (ez : uJ (mJ J z) 200 4 (lN (nx z.2.1)) = mJ J z') (eI : mI I z = mI I z') (et : dw z.2.1 n = t') (ht : t' < n) (hs : z'.1 < 2 ^ 64) (hg2 : z'.2.1 < 2147483648) :
    xRun xT 274 36 [(0, .ref 200), (1, .int (nI K)), (2, .int v), (3, .int (nI i))] [] (S, mI I z, mJ J z, D, R) b Q = xRun xT 274 36 [(0, .ref 200), (1, .int (nI K)), (2, .int (v + (if (tR (I 300 5) (dl (I 300 4) (fun k => I 300 (16 + k)) fi se dg sb z'.1 t') a bb z'.2.1).1 = true then 1 else 0))), (3, .int (nI (i + 1)))] [] (S, mI I (tS (I 300 4) (fun k => I 300 (16 + k)) fi se dg sb (I 300 5) a bb t' z'), mJ J (tS (I 300 4) (fun k => I 300 (16 + k)) fi se dg sb (I 300 5) a bb t' z'), D, R) b Q := by
  have hn := hG.2.1
  have c2 : mI I z 300 10 = nI n := hC.1
  have h273 : ∀ (b : Nat × Nat) (Q : xQ), xRun xT 273 0 [(0, .ref 200), (1, .int (nI n))] [] (S, mI I z, mJ J z, D, R) b Q = Q (.ok (some (.int (nI t')))) (S, mI I z', mJ J z', D, R) b := fun b Q => by
    rw [R273 (I := mI I z) (J := mJ J z) (D := D) hL hg rfl hG.1 (show n < 2147483648 by omega), ez, et, eI]
  have h271 := fun (b : Nat × Nat) (Q : xQ) => R271 (J := J) (D := D) (b := b) (Q := Q) hL hG hC hA hB ha h0 hb hr hs hg2 ht
  clear ez eI et
  rw [e274_36]
  simp only [B274_36, xSeq, i_push, i_load, i_iload, i_lload, i_dload, i_aload, i_istore, i_astore, i_lstore, i_dstore, i_iinc, i_ii, i_iiz, i_ll, i_llz, i_lli, i_li, i_i, i_l, i_i2l, i_l2i, i_dup, i_dup2, i_dup2w, i_dupx1, i_pop, i_pop2, i_goto, i_ifc, i_icmp, i_getI, i_getL, i_getR, i_putI, i_putZ, i_putL, i_putR, i_aldI, i_aldB, i_aldL, i_aldD, i_astI, i_astL, i_astD, i_alen, i_ret, i_iret, i_zret, i_lret, i_fret, i_dret, i_aret, i_invS0, i_invV0, i_m2, i_m1, i_ml, i_obj, lk, lkp, stf1, stf2, Value.category, rV, xTo, lv_args, xCk, xCat, xRc, xAk, hg_S, hg_I, hg_J, hg_D, hg_R, hs_I, hs_J, hs_D, hs_R, uI_at, uJ_at, uD_at, uR_at, List.take_succ_cons, List.take_zero, List.drop_succ_cons, List.drop_zero, List.reverse_cons, List.reverse_nil, List.nil_append, List.cons_append, List.map_cons, List.map_nil, List.sum_cons, List.sum_nil, List.length_cons, List.length_nil, Option.toList_some, Option.toList_none, true_and, and_true, false_and, and_false, true_implies, false_implies, implies_true, not_true_eq_false, not_false_eq_true, ne_eq, if_true, if_false, Bool.and_true, Bool.true_and, decide_true, decide_false, reduceIte, reduceCtorEq, Bool.and_self, Bool.and_eq_true, decide_eq_true_eq, and_self, true_or, or_true, false_or, or_false, Nat.zero_add, Nat.add_zero, eq_self, Nat.reduceEqDiff, Nat.reduceLeDiff, Nat.reduceLT, Nat.reduceAdd, Nat.reduceSub, Nat.reduceMul, xi144_0, ix_0, xi144_1, ix_1, xi144_2, ix_2, xi144_3, ix_3, xi144_4, ix_4, xi144_5, ix_5, xi144_6, ix_6, xi144_7, ix_7, xi144_8, ix_8, xi144_9, ix_9, xi144_10, ix_10, nI_leP hK (show i < 2147483648 by omega), show (K ≤ i) = False from eq_false (by omega), LM_out hL, c2, h273, h271]
  cases (tR (I 300 5) (dl (I 300 4) (fun k => I 300 (16 + k)) fi se dg sb z'.1 t') a bb z'.2.1).1
  · simp only [xSeq, i_push, i_load, i_iload, i_lload, i_dload, i_aload, i_istore, i_astore, i_lstore, i_dstore, i_iinc, i_ii, i_iiz, i_ll, i_llz, i_lli, i_li, i_i, i_l, i_i2l, i_l2i, i_dup, i_dup2, i_dup2w, i_dupx1, i_pop, i_pop2, i_goto, i_ifc, i_icmp, i_getI, i_getL, i_getR, i_putI, i_putZ, i_putL, i_putR, i_aldI, i_aldB, i_aldL, i_aldD, i_astI, i_astL, i_astD, i_alen, i_ret, i_iret, i_zret, i_lret, i_fret, i_dret, i_aret, i_invS0, i_invV0, i_m2, i_m1, i_ml, i_obj, lk, lkp, stf1, stf2, Value.category, rV, xTo, lv_args, xCk, xCat, xRc, xAk, hg_S, hg_I, hg_J, hg_D, hg_R, hs_I, hs_J, hs_D, hs_R, uI_at, uJ_at, uD_at, uR_at, List.take_succ_cons, List.take_zero, List.drop_succ_cons, List.drop_zero, List.reverse_cons, List.reverse_nil, List.nil_append, List.cons_append, List.map_cons, List.map_nil, List.sum_cons, List.sum_nil, List.length_cons, List.length_nil, Option.toList_some, Option.toList_none, true_and, and_true, false_and, and_false, true_implies, false_implies, implies_true, not_true_eq_false, not_false_eq_true, ne_eq, if_true, if_false, Bool.and_true, Bool.true_and, decide_true, decide_false, reduceIte, reduceCtorEq, Bool.and_self, Bool.and_eq_true, decide_eq_true_eq, and_self, true_or, or_true, false_or, or_false, Nat.zero_add, Nat.add_zero, eq_self, Nat.reduceEqDiff, Nat.reduceLeDiff, Nat.reduceLT, Nat.reduceAdd, Nat.reduceSub, Nat.reduceMul, e274_64, B274_64, e274_65, B274_65, nI_1, Bool.false_eq_true]
  · simp only [xSeq, i_push, i_load, i_iload, i_lload, i_dload, i_aload, i_istore, i_astore, i_lstore, i_dstore, i_iinc, i_ii, i_iiz, i_ll, i_llz, i_lli, i_li, i_i, i_l, i_i2l, i_l2i, i_dup, i_dup2, i_dup2w, i_dupx1, i_pop, i_pop2, i_goto, i_ifc, i_icmp, i_getI, i_getL, i_getR, i_putI, i_putZ, i_putL, i_putR, i_aldI, i_aldB, i_aldL, i_aldD, i_astI, i_astL, i_astD, i_alen, i_ret, i_iret, i_zret, i_lret, i_fret, i_dret, i_aret, i_invS0, i_invV0, i_m2, i_m1, i_ml, i_obj, lk, lkp, stf1, stf2, Value.category, rV, xTo, lv_args, xCk, xCat, xRc, xAk, hg_S, hg_I, hg_J, hg_D, hg_R, hs_I, hs_J, hs_D, hs_R, uI_at, uJ_at, uD_at, uR_at, List.take_succ_cons, List.take_zero, List.drop_succ_cons, List.drop_zero, List.reverse_cons, List.reverse_nil, List.nil_append, List.cons_append, List.map_cons, List.map_nil, List.sum_cons, List.sum_nil, List.length_cons, List.length_nil, Option.toList_some, Option.toList_none, true_and, and_true, false_and, and_false, true_implies, false_implies, implies_true, not_true_eq_false, not_false_eq_true, ne_eq, if_true, if_false, Bool.and_true, Bool.true_and, decide_true, decide_false, reduceIte, reduceCtorEq, Bool.and_self, Bool.and_eq_true, decide_eq_true_eq, and_self, true_or, or_true, false_or, or_false, Nat.zero_add, Nat.add_zero, eq_self, Nat.reduceEqDiff, Nat.reduceLeDiff, Nat.reduceLT, Nat.reduceAdd, Nat.reduceSub, Nat.reduceMul, i1_0, e274_65, B274_65, nI_1]
end
/-! ===== steps of the model ===== -/
section
variable {S : xS} {I : xI} {J : xJ} {D : xDb} {R : xR} {b : Nat × Nat} {Q : xQ} {n m : Nat} {fi se dg : Nat → Nat} {sb : Nat → Nat → Nat}
theorem R274_t (hL : LM S R) (hG : GR n m fi se dg sb) (hC : CM I n m fi se dg sb) {a bb : Nat} (hA : I 300 2 = nI a) (hB : I 300 3 = nI bb) (ha : a < 2147483648) (h0 : 0 < bb) (hb : bb < 2147483648) (hr : I 300 5 = 0 ∨ I 300 5 = 1 ∨ I 300 5 = 2) {K i t' : Nat} {v : Int32} {z z' : xG} (hK : K < 2147483648) (hi : i < K) (hg : z.2.1 < 2147483648) (ez : uJ (mJ J z) 200 4 (lN (nx z.2.1)) = mJ J z') (eI : mI I z = mI I z') (et : dw z.2.1 n = t') (ht : t' < n) (hs : z'.1 < 2 ^ 64) (hg2 : z'.2.1 < 2147483648) (ew : z.2.2.2 = z'.2.2.2) :
    xRun xT 274 36 [(0, .ref 200), (1, .int (nI K)), (2, .int (z.2.2.2 - v)), (3, .int (nI i))] [] (S, mI I z, mJ J z, D, R) b Q = xRun xT 274 36 [(0, .ref 200), (1, .int (nI K)), (2, .int ((tS (I 300 4) (fun k => I 300 (16 + k)) fi se dg sb (I 300 5) a bb t' z').2.2.2 - v)), (3, .int (nI (i + 1)))] [] (S, mI I (tS (I 300 4) (fun k => I 300 (16 + k)) fi se dg sb (I 300 5) a bb t' z'), mJ J (tS (I 300 4) (fun k => I 300 (16 + k)) fi se dg sb (I 300 5) a bb t' z'), D, R) b Q := by
  rw [R274_s hL hG hC hA hB ha h0 hb hr hK hi hg ez eI et ht hs hg2, ew]
  have k := tS_fl (F := I 300 4) (st := fun k => I 300 (16 + k)) (fi := fi) (se := se) (dg := dg) (sb := sb) (rule := I 300 5) (a := a) (bb := bb) (z := z') (t := t')
  have h : (tS (I 300 4) (fun k => I 300 (16 + k)) fi se dg sb (I 300 5) a bb t' z').2.2.2 - v = z'.2.2.2 - v + (if (tR (I 300 5) (dl (I 300 4) (fun k => I 300 (16 + k)) fi se dg sb z'.1 t') a bb z'.2.1).1 = true then 1 else 0) := by
    rw [k, i32_ac]
  rw [h]
theorem tD_s (F : Int32) (st : Nat → Int32) (rule : Int32) (a bb j : Nat) (z : xG) : tD F st fi se dg sb rule a bb n (j + 1) z = tD F st fi se dg sb rule a bb n j (tS F st fi se dg sb rule a bb (dw z.2.1 n) (z.1, nx z.2.1, z.2.2.1, z.2.2.2)) := by rw [tD]
theorem x1 (J : xJ) (z : xG) : uJ (mJ J z) 200 4 (lN (nx z.2.1)) = mJ J (z.1, nx z.2.1, z.2.2.1, z.2.2.2) := mJ_4 J z (nx z.2.1)
theorem x2 (I : xI) (z : xG) : mI I z = mI I (z.1, nx z.2.1, z.2.2.1, z.2.2.2) := (mI_g I z z.1 (nx z.2.1)).symm
theorem mk4 (a g : Nat) (u v : Int32) : ∃ z : xG, z = (a, g, u, v) ∧ z.1 = a ∧ z.2.1 = g ∧ z.2.2.2 = v := ⟨_, rfl, rfl, rfl, rfl⟩
theorem R274_36 (hL : LM S R) (hG : GR n m fi se dg sb) (hC : CM I n m fi se dg sb) {a bb : Nat} (hA : I 300 2 = nI a) (hB : I 300 3 = nI bb) (ha : a < 2147483648) (h0 : 0 < bb) (hb : bb < 2147483648) (hr : I 300 5 = 0 ∨ I 300 5 = 1 ∨ I 300 5 = 2) {K : Nat} (hK : K < 2147483648) {v : Int32} : ∀ (j i : Nat) (z : xG), i + j = K → z.1 < 2 ^ n → z.2.1 < 2147483648 →
    xRun xT 274 36 [(0, .ref 200), (1, .int (nI K)), (2, .int (z.2.2.2 - v)), (3, .int (nI i))] [] (S, mI I z, mJ J z, D, R) b Q = Q (.ok (some (.int ((tD (I 300 4) (fun k => I 300 (16 + k)) fi se dg sb (I 300 5) a bb n j z).2.2.2 - v)))) (S, mI I (tD (I 300 4) (fun k => I 300 (16 + k)) fi se dg sb (I 300 5) a bb n j z), mJ J (tD (I 300 4) (fun k => I 300 (16 + k)) fi se dg sb (I 300 5) a bb n j z), D, R) b
  | 0, i, z, hi, hs, hg => by
    have e : i = K := by omega
    subst e
    rw [e274_36]
    simp only [B274_36, xSeq, i_push, i_load, i_iload, i_lload, i_dload, i_aload, i_istore, i_astore, i_lstore, i_dstore, i_iinc, i_ii, i_iiz, i_ll, i_llz, i_lli, i_li, i_i, i_l, i_i2l, i_l2i, i_dup, i_dup2, i_dup2w, i_dupx1, i_pop, i_pop2, i_goto, i_ifc, i_icmp, i_getI, i_getL, i_getR, i_putI, i_putZ, i_putL, i_putR, i_aldI, i_aldB, i_aldL, i_aldD, i_astI, i_astL, i_astD, i_alen, i_ret, i_iret, i_zret, i_lret, i_fret, i_dret, i_aret, i_invS0, i_invV0, i_m2, i_m1, i_ml, i_obj, lk, lkp, stf1, stf2, Value.category, rV, xTo, lv_args, xCk, xCat, xRc, xAk, hg_S, hg_I, hg_J, hg_D, hg_R, hs_I, hs_J, hs_D, hs_R, uI_at, uJ_at, uD_at, uR_at, List.take_succ_cons, List.take_zero, List.drop_succ_cons, List.drop_zero, List.reverse_cons, List.reverse_nil, List.nil_append, List.cons_append, List.map_cons, List.map_nil, List.sum_cons, List.sum_nil, List.length_cons, List.length_nil, Option.toList_some, Option.toList_none, true_and, and_true, false_and, and_false, true_implies, false_implies, implies_true, not_true_eq_false, not_false_eq_true, ne_eq, if_true, if_false, Bool.and_true, Bool.true_and, decide_true, decide_false, reduceIte, reduceCtorEq, Bool.and_self, Bool.and_eq_true, decide_eq_true_eq, and_self, true_or, or_true, false_or, or_false, Nat.zero_add, Nat.add_zero, eq_self, Nat.reduceEqDiff, Nat.reduceLeDiff, Nat.reduceLT, Nat.reduceAdd, Nat.reduceSub, Nat.reduceMul, nI_leP hK hK, Nat.le_refl, e274_73, B274_73, tD]
  | j + 1, i, z, hi, hs, hg => by
    have h64 : z.1 < 2 ^ 64 := Nat.lt_of_lt_of_le hs (Nat.pow_le_pow_right (by decide) hG.2.1)
    obtain ⟨z', hz, a1, a2, a3⟩ := mk4 z.1 (nx z.2.1) z.2.2.1 z.2.2.2
    have q1 : uJ (mJ J z) 200 4 (lN (nx z.2.1)) = mJ J z' := by rw [hz]; exact x1 J z
    have q2 : mI I z = mI I z' := by rw [hz]; exact x2 I z
    have q6 : tD (I 300 4) (fun k => I 300 (16 + k)) fi se dg sb (I 300 5) a bb n (j + 1) z = tD (I 300 4) (fun k => I 300 (16 + k)) fi se dg sb (I 300 5) a bb n j (tS (I 300 4) (fun k => I 300 (16 + k)) fi se dg sb (I 300 5) a bb (dw z.2.1 n) z') := by rw [hz]; exact tD_s _ _ _ _ _ _ _
    clear hz
    have q7 : z'.1 < 2 ^ 64 := by rw [a1]; exact h64
    have q8 : z'.1 < 2 ^ n := by rw [a1]; exact hs
    have q4 : z'.2.1 < 2147483648 := by rw [a2]; exact nx_lt _
    have qd := dw_lt z.2.1 hG.1
    obtain ⟨t', qt⟩ : ∃ t', dw z.2.1 n = t' := ⟨_, rfl⟩
    rw [qt] at q6 qd
    rw [q6]
    have e := R274_t (D := D) (b := b) (Q := Q) (v := v) hL hG hC hA hB ha h0 hb hr hK (show i < K by omega) hg q1 q2 qt qd q7 q4 a3.symm
    obtain ⟨k1, k2⟩ := tS_ok (F := I 300 4) (st := fun k => I 300 (16 + k)) (fi := fi) (se := se) (dg := dg) (sb := sb) (rule := I 300 5) (a := a) (bb := bb) (N := n) (z := z') qd q8 q4
    have ih := R274_36 hL hG hC hA hB ha h0 hb hr hK (v := v) j (i + 1) (tS (I 300 4) (fun k => I 300 (16 + k)) fi se dg sb (I 300 5) a bb t' z') (by omega) k1 k2
    exact e.trans ih
end
/-! ===== visited: printed by 99.visited.py ===== -/
section
section
variable {S : xS} {I : xI} {J : xJ} {D : xDb} {R : xR} {b : Nat × Nat} {Q : xQ} {n : Nat}
theorem R298_7 (hL : LM S R) (hn : (32768 : Int32) = nI n) (hn2 : n = 32768) : ∀ (j i : Nat) (f : Nat → Int32), i + j = n → xRun xT 298 7 [(0, .ref 200), (1, .int (nI i))] [] (S, rI I 342 (fill f 0 i), J, D, R) b Q = xRun xT 298 26 [(0, .ref 200)] [] (S, rI I 342 (fill f 0 n), J, D, R) b Q
  | 0, i, f, hi => by
    have e : i = n := by omega
    subst e
    rw [e298_7]
    simp only [B298_7, xSeq, i_push, i_load, i_iload, i_lload, i_dload, i_aload, i_istore, i_astore, i_lstore, i_dstore, i_iinc, i_ii, i_iiz, i_ll, i_llz, i_lli, i_li, i_i, i_l, i_i2l, i_l2i, i_dup, i_dup2, i_dup2w, i_dupx1, i_pop, i_pop2, i_goto, i_ifc, i_icmp, i_getI, i_getL, i_getR, i_putI, i_putZ, i_putL, i_putR, i_aldI, i_aldB, i_aldL, i_aldD, i_astI, i_astL, i_astD, i_alen, i_ret, i_iret, i_zret, i_lret, i_fret, i_dret, i_aret, i_invS0, i_invV0, i_m2, i_m1, i_ml, i_obj, lk, lkp, stf1, stf2, Value.category, rV, xTo, lv_args, xCk, xCat, xRc, xAk, hg_S, hg_I, hg_J, hg_D, hg_R, hs_I, hs_J, hs_D, hs_R, uI_at, uJ_at, uD_at, uR_at, List.take_succ_cons, List.take_zero, List.drop_succ_cons, List.drop_zero, List.reverse_cons, List.reverse_nil, List.nil_append, List.cons_append, List.map_cons, List.map_nil, List.sum_cons, List.sum_nil, List.length_cons, List.length_nil, Option.toList_some, Option.toList_none, true_and, and_true, false_and, and_false, true_implies, false_implies, implies_true, not_true_eq_false, not_false_eq_true, ne_eq, if_true, if_false, Bool.and_true, Bool.true_and, decide_true, decide_false, reduceIte, reduceCtorEq, Bool.and_self, Bool.and_eq_true, decide_eq_true_eq, and_self, true_or, or_true, false_or, or_false, Nat.zero_add, Nat.add_zero, eq_self, Nat.reduceEqDiff, Nat.reduceLeDiff, Nat.reduceLT, Nat.reduceAdd, Nat.reduceSub, Nat.reduceMul, xi144_0, ix_0, xi144_1, ix_1, xi144_2, ix_2, xi144_3, ix_3, xi144_4, ix_4, xi144_5, ix_5, xi144_6, ix_6, xi144_7, ix_7, xi144_8, ix_8, xi144_9, ix_9, xi144_10, ix_10, LM_out hL, rI_at, hn, nI_leP (show i < 2147483648 by omega) (show i < 2147483648 by omega), Nat.le_refl]
  | j + 1, i, f, hi => by
    rw [e298_7]
    simp only [B298_7, xSeq, i_push, i_load, i_iload, i_lload, i_dload, i_aload, i_istore, i_astore, i_lstore, i_dstore, i_iinc, i_ii, i_iiz, i_ll, i_llz, i_lli, i_li, i_i, i_l, i_i2l, i_l2i, i_dup, i_dup2, i_dup2w, i_dupx1, i_pop, i_pop2, i_goto, i_ifc, i_icmp, i_getI, i_getL, i_getR, i_putI, i_putZ, i_putL, i_putR, i_aldI, i_aldB, i_aldL, i_aldD, i_astI, i_astL, i_astD, i_alen, i_ret, i_iret, i_zret, i_lret, i_fret, i_dret, i_aret, i_invS0, i_invV0, i_m2, i_m1, i_ml, i_obj, lk, lkp, stf1, stf2, Value.category, rV, xTo, lv_args, xCk, xCat, xRc, xAk, hg_S, hg_I, hg_J, hg_D, hg_R, hs_I, hs_J, hs_D, hs_R, uI_at, uJ_at, uD_at, uR_at, List.take_succ_cons, List.take_zero, List.drop_succ_cons, List.drop_zero, List.reverse_cons, List.reverse_nil, List.nil_append, List.cons_append, List.map_cons, List.map_nil, List.sum_cons, List.sum_nil, List.length_cons, List.length_nil, Option.toList_some, Option.toList_none, true_and, and_true, false_and, and_false, true_implies, false_implies, implies_true, not_true_eq_false, not_false_eq_true, ne_eq, if_true, if_false, Bool.and_true, Bool.true_and, decide_true, decide_false, reduceIte, reduceCtorEq, Bool.and_self, Bool.and_eq_true, decide_eq_true_eq, and_self, true_or, or_true, false_or, or_false, Nat.zero_add, Nat.add_zero, eq_self, Nat.reduceEqDiff, Nat.reduceLeDiff, Nat.reduceLT, Nat.reduceAdd, Nat.reduceSub, Nat.reduceMul, xi144_0, ix_0, xi144_1, ix_1, xi144_2, ix_2, xi144_3, ix_3, xi144_4, ix_4, xi144_5, ix_5, xi144_6, ix_6, xi144_7, ix_7, xi144_8, ix_8, xi144_9, ix_9, xi144_10, ix_10, LM_out hL, rI_at, hn, nI_leP (show n < 2147483648 by omega) (show i < 2147483648 by omega), show (n ≤ i) = False from eq_false (by omega), nI_inP (show i < 32768 by omega) (by decide), nI_ix (show i < 2147483648 by omega), uI_rI, fill_up, nI_1]
    exact R298_7 hL hn hn2 j (i + 1) f (by omega)
theorem R298_z (hL : LM S R) : ∃ I', (∀ o k, o ≠ 342 → I' o k = I o k) ∧ ∀ (J : xJ) (D : xDb) (b : Nat × Nat) (Q : xQ), xRun xT 298 7 [(0, .ref 200), (1, .int 0)] [] (S, I, J, D, R) b Q = xRun xT 298 26 [(0, .ref 200)] [] (S, I', J, D, R) b Q := by
  obtain ⟨n, hn2⟩ : ∃ n : Nat, n = 32768 := ⟨_, rfl⟩
  have hn : (32768 : Int32) = nI n := by rw [hn2]; decide
  refine ⟨rI I 342 (fill (I 342) 0 n), fun o k h => by rw [rI_at, if_neg h], fun J D b Q => ?_⟩
  have h := R298_7 (I := I) (J := J) (D := D) (b := b) (Q := Q) hL hn hn2 n 0 (I 342) (by omega)
  rw [fill_0, rI_self] at h
  exact h
end
end
/-! ===== the model takes a sample ===== -/
section
variable {S : xS} {I : xI} {J : xJ} {D : xDb} {R : xR} {b : Nat × Nat} {Q : xQ} {n m : Nat} {fi se dg : Nat → Nat} {sb : Nat → Nat → Nat}
theorem R291 (hL : LM S R) (hG : GR n m fi se dg sb) (hC : CM I n m fi se dg sb) {s k : Nat} (hJ : J 200 3 = lN s) (hs : s < 2 ^ 64) (hk : I 300 9 = nI k) (hk2 : k < 10000) : xRun xT 291 0 [(0, .ref 200)] [] (S, I, J, D, R) b Q = Q (.ok none) (S, uI (uI (uI I 308 k (en (I 300 4) (fun k => I 300 (16 + k)) n m fi se s)) 309 k (mg n s)) 300 9 (nI (k + 1)), uJ J 310 k (lN s), D, R) b := by
  have h250 := fun (b : Nat × Nat) (Q : xQ) => R250 (S := S) (J := J) (D := D) (R := R) (b := b) (Q := Q) hL hG hC hs
  have h251 := fun (v : Int32) (b : Nat × Nat) (Q : xQ) => R251 (S := S) (I := uI I 308 k v) (J := J) (D := D) (R := R) (b := b) (Q := Q) hL (n := n) (by rw [uI_at, if_neg (by omega)]; exact hC.1) hG.2.1 hs
  rw [e291_0]
  simp only [B291_0, xSeq, i_push, i_load, i_iload, i_lload, i_dload, i_aload, i_istore, i_astore, i_lstore, i_dstore, i_iinc, i_ii, i_iiz, i_ll, i_llz, i_lli, i_li, i_i, i_l, i_i2l, i_l2i, i_dup, i_dup2, i_dup2w, i_dupx1, i_pop, i_pop2, i_goto, i_ifc, i_icmp, i_getI, i_getL, i_getR, i_putI, i_putZ, i_putL, i_putR, i_aldI, i_aldB, i_aldL, i_aldD, i_astI, i_astL, i_astD, i_alen, i_ret, i_iret, i_zret, i_lret, i_fret, i_dret, i_aret, i_invS0, i_invV0, i_m2, i_m1, i_ml, i_obj, lk, lkp, stf1, stf2, Value.category, rV, xTo, lv_args, xCk, xCat, xRc, xAk, hg_S, hg_I, hg_J, hg_D, hg_R, hs_I, hs_J, hs_D, hs_R, uI_at, uJ_at, uD_at, uR_at, List.take_succ_cons, List.take_zero, List.drop_succ_cons, List.drop_zero, List.reverse_cons, List.reverse_nil, List.nil_append, List.cons_append, List.map_cons, List.map_nil, List.sum_cons, List.sum_nil, List.length_cons, List.length_nil, Option.toList_some, Option.toList_none, true_and, and_true, false_and, and_false, true_implies, false_implies, implies_true, not_true_eq_false, not_false_eq_true, ne_eq, if_true, if_false, Bool.and_true, Bool.true_and, decide_true, decide_false, reduceIte, reduceCtorEq, Bool.and_self, Bool.and_eq_true, decide_eq_true_eq, and_self, true_or, or_true, false_or, or_false, Nat.zero_add, Nat.add_zero, eq_self, Nat.reduceEqDiff, Nat.reduceLeDiff, Nat.reduceLT, Nat.reduceAdd, Nat.reduceSub, Nat.reduceMul, xi144_0, ix_0, xi144_1, ix_1, xi144_2, ix_2, xi144_3, ix_3, xi144_4, ix_4, xi144_5, ix_5, xi144_6, ix_6, xi144_7, ix_7, xi144_8, ix_8, xi144_9, ix_9, xi144_10, ix_10, LM_out hL, hk, hJ, nI_inP (show k < 10000 by omega) (by decide), nI_ix (show k < 2147483648 by omega), h250, h251, nI_1]
end
/-! ===== room for the lab's samples ===== -/
section
variable {S : xS} {I : xI} {J : xJ} {D : xDb} {R : xR} {b : Nat × Nat} {Q : xQ}
theorem L40 {u : Nat} (hS : S 112 = (4, 0)) (hR : R 112 1 = some u) (hu : S u = (101, 0)) (h2 : (S 402).1 = 0) (h3 : (S 403).1 = 0) (b1 : 2 ≤ b.1) (b2 : 20000 ≤ b.2)
    (kk : ∀ S' I' J' D' R', (∀ o, o ≠ 402 → o ≠ 403 → S' o = S o) → S' 402 = (101, 10000) → S' 403 = (100, 10000) → (∀ o k, o ≠ 402 → o ≠ 403 → I' o k = I o k) → (∀ o k, o ≠ 402 → o ≠ 403 → J' o k = J o k) → (∀ o k, o ≠ 402 → o ≠ 403 → ¬ (o = 112 ∧ (k = 1 ∨ k = 2)) → R' o k = R o k) → R' 112 1 = some 402 → R' 112 2 = some 403 → Q (.ok none) (S', I', J', D', R') (b.1 - 1 - 1, b.2 - 10000 - 10000)) :
    xRun xT 40 0 [(0, .ref 112)] [] (S, I, J, D, R) b Q := by
  have z0 : ((0 : Int32) = 0) = True := eq_self 0
  rw [e40_0]
  simp only [B40_0, xSeq, i_push, i_load, i_iload, i_lload, i_dload, i_aload, i_istore, i_astore, i_lstore, i_dstore, i_iinc, i_ii, i_iiz, i_ll, i_llz, i_lli, i_li, i_i, i_l, i_i2l, i_l2i, i_dup, i_dup2, i_dup2w, i_dupx1, i_pop, i_pop2, i_goto, i_ifc, i_icmp, i_getI, i_getL, i_getR, i_putI, i_putZ, i_putL, i_putR, i_aldI, i_aldB, i_aldL, i_aldD, i_astI, i_astL, i_astD, i_alen, i_ret, i_iret, i_zret, i_lret, i_fret, i_dret, i_aret, i_invS0, i_invV0, i_m2, i_m1, i_ml, i_obj, lk, lkp, stf1, stf2, Value.category, rV, xTo, lv_args, xCk, xCat, xRc, xAk, hg_S, hg_I, hg_J, hg_D, hg_R, hs_I, hs_J, hs_D, hs_R, uI_at, uJ_at, uD_at, uR_at, List.take_succ_cons, List.take_zero, List.drop_succ_cons, List.drop_zero, List.reverse_cons, List.reverse_nil, List.nil_append, List.cons_append, List.map_cons, List.map_nil, List.sum_cons, List.sum_nil, List.length_cons, List.length_nil, Option.toList_some, Option.toList_none, true_and, and_true, false_and, and_false, true_implies, false_implies, implies_true, not_true_eq_false, not_false_eq_true, ne_eq, if_true, if_false, Bool.and_true, Bool.true_and, decide_true, decide_false, reduceIte, reduceCtorEq, Bool.and_self, Bool.and_eq_true, decide_eq_true_eq, and_self, true_or, or_true, false_or, or_false, Nat.zero_add, Nat.add_zero, eq_self, Nat.reduceEqDiff, Nat.reduceLeDiff, Nat.reduceLT, Nat.reduceAdd, Nat.reduceSub, Nat.reduceMul, hS, hR, hu, nI_0]
  refine w_newa 402 10000 (by decide) (by decide) (by decide) (by omega) (by omega) h2 (by decide) ?_
  simp only [xSeq, i_push, i_load, i_iload, i_lload, i_dload, i_aload, i_istore, i_astore, i_lstore, i_dstore, i_iinc, i_ii, i_iiz, i_ll, i_llz, i_lli, i_li, i_i, i_l, i_i2l, i_l2i, i_dup, i_dup2, i_dup2w, i_dupx1, i_pop, i_pop2, i_goto, i_ifc, i_icmp, i_getI, i_getL, i_getR, i_putI, i_putZ, i_putL, i_putR, i_aldI, i_aldB, i_aldL, i_aldD, i_astI, i_astL, i_astD, i_alen, i_ret, i_iret, i_zret, i_lret, i_fret, i_dret, i_aret, i_invS0, i_invV0, i_m2, i_m1, i_ml, i_obj, lk, lkp, stf1, stf2, Value.category, rV, xTo, lv_args, xCk, xCat, xRc, xAk, hg_S, hg_I, hg_J, hg_D, hg_R, hs_I, hs_J, hs_D, hs_R, uI_at, uJ_at, uD_at, uR_at, List.take_succ_cons, List.take_zero, List.drop_succ_cons, List.drop_zero, List.reverse_cons, List.reverse_nil, List.nil_append, List.cons_append, List.map_cons, List.map_nil, List.sum_cons, List.sum_nil, List.length_cons, List.length_nil, Option.toList_some, Option.toList_none, true_and, and_true, false_and, and_false, true_implies, false_implies, implies_true, not_true_eq_false, not_false_eq_true, ne_eq, if_true, if_false, Bool.and_true, Bool.true_and, decide_true, decide_false, reduceIte, reduceCtorEq, Bool.and_self, Bool.and_eq_true, decide_eq_true_eq, and_self, true_or, or_true, false_or, or_false, Nat.zero_add, Nat.add_zero, eq_self, Nat.reduceEqDiff, Nat.reduceLeDiff, Nat.reduceLT, Nat.reduceAdd, Nat.reduceSub, Nat.reduceMul, nF_at, zI_at, zJ_at, zD_at, zR_at, hS]
  refine w_newa 403 10000 (by decide) (by decide) (by decide) (by omega) (by omega) (by simp only [nF_at, true_and, and_true, false_and, and_false, true_implies, false_implies, implies_true, not_true_eq_false, not_false_eq_true, ne_eq, if_true, if_false, Bool.and_true, Bool.true_and, decide_true, decide_false, reduceIte, reduceCtorEq, Bool.and_self, Bool.and_eq_true, decide_eq_true_eq, and_self, true_or, or_true, false_or, or_false, Nat.zero_add, Nat.add_zero, eq_self, Nat.reduceEqDiff, Nat.reduceLeDiff, Nat.reduceLT, Nat.reduceAdd, Nat.reduceSub, Nat.reduceMul]; exact h3) (by decide) ?_
  simp only [xSeq, i_push, i_load, i_iload, i_lload, i_dload, i_aload, i_istore, i_astore, i_lstore, i_dstore, i_iinc, i_ii, i_iiz, i_ll, i_llz, i_lli, i_li, i_i, i_l, i_i2l, i_l2i, i_dup, i_dup2, i_dup2w, i_dupx1, i_pop, i_pop2, i_goto, i_ifc, i_icmp, i_getI, i_getL, i_getR, i_putI, i_putZ, i_putL, i_putR, i_aldI, i_aldB, i_aldL, i_aldD, i_astI, i_astL, i_astD, i_alen, i_ret, i_iret, i_zret, i_lret, i_fret, i_dret, i_aret, i_invS0, i_invV0, i_m2, i_m1, i_ml, i_obj, lk, lkp, stf1, stf2, Value.category, rV, xTo, lv_args, xCk, xCat, xRc, xAk, hg_S, hg_I, hg_J, hg_D, hg_R, hs_I, hs_J, hs_D, hs_R, uI_at, uJ_at, uD_at, uR_at, List.take_succ_cons, List.take_zero, List.drop_succ_cons, List.drop_zero, List.reverse_cons, List.reverse_nil, List.nil_append, List.cons_append, List.map_cons, List.map_nil, List.sum_cons, List.sum_nil, List.length_cons, List.length_nil, Option.toList_some, Option.toList_none, true_and, and_true, false_and, and_false, true_implies, false_implies, implies_true, not_true_eq_false, not_false_eq_true, ne_eq, if_true, if_false, Bool.and_true, Bool.true_and, decide_true, decide_false, reduceIte, reduceCtorEq, Bool.and_self, Bool.and_eq_true, decide_eq_true_eq, and_self, true_or, or_true, false_or, or_false, Nat.zero_add, Nat.add_zero, eq_self, Nat.reduceEqDiff, Nat.reduceLeDiff, Nat.reduceLT, Nat.reduceAdd, Nat.reduceSub, Nat.reduceMul, nF_at, zI_at, zJ_at, zD_at, zR_at, hS]
  rw [e40_26]
  simp only [B40_26, xSeq, i_push, i_load, i_iload, i_lload, i_dload, i_aload, i_istore, i_astore, i_lstore, i_dstore, i_iinc, i_ii, i_iiz, i_ll, i_llz, i_lli, i_li, i_i, i_l, i_i2l, i_l2i, i_dup, i_dup2, i_dup2w, i_dupx1, i_pop, i_pop2, i_goto, i_ifc, i_icmp, i_getI, i_getL, i_getR, i_putI, i_putZ, i_putL, i_putR, i_aldI, i_aldB, i_aldL, i_aldD, i_astI, i_astL, i_astD, i_alen, i_ret, i_iret, i_zret, i_lret, i_fret, i_dret, i_aret, i_invS0, i_invV0, i_m2, i_m1, i_ml, i_obj, lk, lkp, stf1, stf2, Value.category, rV, xTo, lv_args, xCk, xCat, xRc, xAk, hg_S, hg_I, hg_J, hg_D, hg_R, hs_I, hs_J, hs_D, hs_R, uI_at, uJ_at, uD_at, uR_at, List.take_succ_cons, List.take_zero, List.drop_succ_cons, List.drop_zero, List.reverse_cons, List.reverse_nil, List.nil_append, List.cons_append, List.map_cons, List.map_nil, List.sum_cons, List.sum_nil, List.length_cons, List.length_nil, Option.toList_some, Option.toList_none, true_and, and_true, false_and, and_false, true_implies, false_implies, implies_true, not_true_eq_false, not_false_eq_true, ne_eq, if_true, if_false, Bool.and_true, Bool.true_and, decide_true, decide_false, reduceIte, reduceCtorEq, Bool.and_self, Bool.and_eq_true, decide_eq_true_eq, and_self, true_or, or_true, false_or, or_false, Nat.zero_add, Nat.add_zero, eq_self, Nat.reduceEqDiff, Nat.reduceLeDiff, Nat.reduceLT, Nat.reduceAdd, Nat.reduceSub, Nat.reduceMul]
  refine kk _ _ _ _ _ (fun o a c => ?_) ?_ ?_ (fun o k a c => ?_) (fun o k a c => ?_) (fun o k a c e => ?_) ?_ ?_
  · simp only [nF_at, if_neg a, if_neg c]
  · simp only [nF_at, true_and, and_true, false_and, and_false, true_implies, false_implies, implies_true, not_true_eq_false, not_false_eq_true, ne_eq, if_true, if_false, Bool.and_true, Bool.true_and, decide_true, decide_false, reduceIte, reduceCtorEq, Bool.and_self, Bool.and_eq_true, decide_eq_true_eq, and_self, true_or, or_true, false_or, or_false, Nat.zero_add, Nat.add_zero, eq_self, Nat.reduceEqDiff, Nat.reduceLeDiff, Nat.reduceLT, Nat.reduceAdd, Nat.reduceSub, Nat.reduceMul]
  · simp only [nF_at, true_and, and_true, false_and, and_false, true_implies, false_implies, implies_true, not_true_eq_false, not_false_eq_true, ne_eq, if_true, if_false, Bool.and_true, Bool.true_and, decide_true, decide_false, reduceIte, reduceCtorEq, Bool.and_self, Bool.and_eq_true, decide_eq_true_eq, and_self, true_or, or_true, false_or, or_false, Nat.zero_add, Nat.add_zero, eq_self, Nat.reduceEqDiff, Nat.reduceLeDiff, Nat.reduceLT, Nat.reduceAdd, Nat.reduceSub, Nat.reduceMul]
  · simp only [zI_at, if_neg a, if_neg c]
  · simp only [zJ_at, if_neg a, if_neg c]
  · have e1 : (o = 112 ∧ k = 1) = False := eq_false (fun h => e ⟨h.1, Or.inl h.2⟩)
    have e2 : (o = 112 ∧ k = 2) = False := eq_false (fun h => e ⟨h.1, Or.inr h.2⟩)
    simp only [uR_at, zR_at, if_neg a, if_neg c, e1, e2, if_false]
  · simp only [uR_at, zR_at, true_and, and_true, false_and, and_false, true_implies, false_implies, implies_true, not_true_eq_false, not_false_eq_true, ne_eq, if_true, if_false, Bool.and_true, Bool.true_and, decide_true, decide_false, reduceIte, reduceCtorEq, Bool.and_self, Bool.and_eq_true, decide_eq_true_eq, and_self, true_or, or_true, false_or, or_false, Nat.zero_add, Nat.add_zero, eq_self, Nat.reduceEqDiff, Nat.reduceLeDiff, Nat.reduceLT, Nat.reduceAdd, Nat.reduceSub, Nat.reduceMul]
  · simp only [uR_at, zR_at, true_and, and_true, false_and, and_false, true_implies, false_implies, implies_true, not_true_eq_false, not_false_eq_true, ne_eq, if_true, if_false, Bool.and_true, Bool.true_and, decide_true, decide_false, reduceIte, reduceCtorEq, Bool.and_self, Bool.and_eq_true, decide_eq_true_eq, and_self, true_or, or_true, false_or, or_false, Nat.zero_add, Nat.add_zero, eq_self, Nat.reduceEqDiff, Nat.reduceLeDiff, Nat.reduceLT, Nat.reduceAdd, Nat.reduceSub, Nat.reduceMul]
end
/-! ===== the lab's first sample ===== -/
section
variable {S : xS} {I : xI} {J : xJ} {D : xDb} {R : xR} {b : Nat × Nat} {Q : xQ}
theorem L41 {u : Nat} {v : Int64} {e : Int32} (hS : S 112 = (4, 0)) (hR : R 112 1 = some u) (hu : S u = (101, 0)) (h2 : (S 402).1 = 0) (h3 : (S 403).1 = 0) (b1 : 2 ≤ b.1) (b2 : 20000 ≤ b.2) (hI : I 112 0 = 0)
    (kk : ∀ S' I' J' D' R', (∀ o, o ≠ 402 → o ≠ 403 → S' o = S o) → S' 402 = (101, 10000) → S' 403 = (100, 10000) → (∀ o k, o ≠ 402 → o ≠ 403 → ¬ (o = 112 ∧ k = 0) → I' o k = I o k) → I' 112 0 = 1 → I' 403 0 = e → (∀ o k, o ≠ 402 → o ≠ 403 → J' o k = J o k) → J' 402 0 = v → (∀ o k, o ≠ 402 → o ≠ 403 → ¬ (o = 112 ∧ (k = 1 ∨ k = 2)) → R' o k = R o k) → R' 112 1 = some 402 → R' 112 2 = some 403 → Q (.ok none) (S', I', J', D', R') (b.1 - 2, b.2 - 20000)) :
    xRun xT 41 0 [(0, .ref 112), (1, .long v), (3, .int e)] [] (S, I, J, D, R) b Q := by
  rw [e41_0]
  simp only [B41_0, xSeq, i_push, i_load, i_iload, i_lload, i_dload, i_aload, i_istore, i_astore, i_lstore, i_dstore, i_iinc, i_ii, i_iiz, i_ll, i_llz, i_lli, i_li, i_i, i_l, i_i2l, i_l2i, i_dup, i_dup2, i_dup2w, i_dupx1, i_pop, i_pop2, i_goto, i_ifc, i_icmp, i_getI, i_getL, i_getR, i_putI, i_putZ, i_putL, i_putR, i_aldI, i_aldB, i_aldL, i_aldD, i_astI, i_astL, i_astD, i_alen, i_ret, i_iret, i_zret, i_lret, i_fret, i_dret, i_aret, i_invS0, i_invV0, i_m2, i_m1, i_ml, i_obj, lk, lkp, stf1, stf2, Value.category, rV, xTo, lv_args, xCk, xCat, xRc, xAk, hg_S, hg_I, hg_J, hg_D, hg_R, hs_I, hs_J, hs_D, hs_R, uI_at, uJ_at, uD_at, uR_at, List.take_succ_cons, List.take_zero, List.drop_succ_cons, List.drop_zero, List.reverse_cons, List.reverse_nil, List.nil_append, List.cons_append, List.map_cons, List.map_nil, List.sum_cons, List.sum_nil, List.length_cons, List.length_nil, Option.toList_some, Option.toList_none, true_and, and_true, false_and, and_false, true_implies, false_implies, implies_true, not_true_eq_false, not_false_eq_true, ne_eq, if_true, if_false, Bool.and_true, Bool.true_and, decide_true, decide_false, reduceIte, reduceCtorEq, Bool.and_self, Bool.and_eq_true, decide_eq_true_eq, and_self, true_or, or_true, false_or, or_false, Nat.zero_add, Nat.add_zero, eq_self, Nat.reduceEqDiff, Nat.reduceLeDiff, Nat.reduceLT, Nat.reduceAdd, Nat.reduceSub, Nat.reduceMul]
  refine w_invVA (mc := 2) (ms := 20000) b1 b2 rfl (by simp only [xSeq, i_push, i_load, i_iload, i_lload, i_dload, i_aload, i_istore, i_astore, i_lstore, i_dstore, i_iinc, i_ii, i_iiz, i_ll, i_llz, i_lli, i_li, i_i, i_l, i_i2l, i_l2i, i_dup, i_dup2, i_dup2w, i_dupx1, i_pop, i_pop2, i_goto, i_ifc, i_icmp, i_getI, i_getL, i_getR, i_putI, i_putZ, i_putL, i_putR, i_aldI, i_aldB, i_aldL, i_aldD, i_astI, i_astL, i_astD, i_alen, i_ret, i_iret, i_zret, i_lret, i_fret, i_dret, i_aret, i_invS0, i_invV0, i_m2, i_m1, i_ml, i_obj, lk, lkp, stf1, stf2, Value.category, rV, xTo, lv_args, xCk, xCat, xRc, xAk, hg_S, hg_I, hg_J, hg_D, hg_R, hs_I, hs_J, hs_D, hs_R, uI_at, uJ_at, uD_at, uR_at, List.take_succ_cons, List.take_zero, List.drop_succ_cons, List.drop_zero, List.reverse_cons, List.reverse_nil, List.nil_append, List.cons_append, List.map_cons, List.map_nil, List.sum_cons, List.sum_nil, List.length_cons, List.length_nil, Option.toList_some, Option.toList_none, true_and, and_true, false_and, and_false, true_implies, false_implies, implies_true, not_true_eq_false, not_false_eq_true, ne_eq, if_true, if_false, Bool.and_true, Bool.true_and, decide_true, decide_false, reduceIte, reduceCtorEq, Bool.and_self, Bool.and_eq_true, decide_eq_true_eq, and_self, true_or, or_true, false_or, or_false, Nat.zero_add, Nat.add_zero, eq_self, Nat.reduceEqDiff, Nat.reduceLeDiff, Nat.reduceLT, Nat.reduceAdd, Nat.reduceSub, Nat.reduceMul, hS]) ?_
  simp only [xSeq, i_push, i_load, i_iload, i_lload, i_dload, i_aload, i_istore, i_astore, i_lstore, i_dstore, i_iinc, i_ii, i_iiz, i_ll, i_llz, i_lli, i_li, i_i, i_l, i_i2l, i_l2i, i_dup, i_dup2, i_dup2w, i_dupx1, i_pop, i_pop2, i_goto, i_ifc, i_icmp, i_getI, i_getL, i_getR, i_putI, i_putZ, i_putL, i_putR, i_aldI, i_aldB, i_aldL, i_aldD, i_astI, i_astL, i_astD, i_alen, i_ret, i_iret, i_zret, i_lret, i_fret, i_dret, i_aret, i_invS0, i_invV0, i_m2, i_m1, i_ml, i_obj, lk, lkp, stf1, stf2, Value.category, rV, xTo, lv_args, xCk, xCat, xRc, xAk, hg_S, hg_I, hg_J, hg_D, hg_R, hs_I, hs_J, hs_D, hs_R, uI_at, uJ_at, uD_at, uR_at, List.take_succ_cons, List.take_zero, List.drop_succ_cons, List.drop_zero, List.reverse_cons, List.reverse_nil, List.nil_append, List.cons_append, List.map_cons, List.map_nil, List.sum_cons, List.sum_nil, List.length_cons, List.length_nil, Option.toList_some, Option.toList_none, true_and, and_true, false_and, and_false, true_implies, false_implies, implies_true, not_true_eq_false, not_false_eq_true, ne_eq, if_true, if_false, Bool.and_true, Bool.true_and, decide_true, decide_false, reduceIte, reduceCtorEq, Bool.and_self, Bool.and_eq_true, decide_eq_true_eq, and_self, true_or, or_true, false_or, or_false, Nat.zero_add, Nat.add_zero, eq_self, Nat.reduceEqDiff, Nat.reduceLeDiff, Nat.reduceLT, Nat.reduceAdd, Nat.reduceSub, Nat.reduceMul]
  refine L40 hS hR hu h2 h3 (by decide) (by decide) (fun S' I' J' D' R' s1 s2 s3 i1 j1 r1 r2 r3 => ?_)
  have t1 : S' 112 = (4, 0) := (s1 112 (by decide) (by decide)).trans hS
  have t2 : I' 112 0 = 0 := (i1 112 0 (by decide) (by decide)).trans hI
  have t3 : ((10000 : Int32) ≤ 0) = False := eq_false (by decide)
  have t4 : xIn 0 10000 = True := xi0 (by decide) (by decide)
  have t5 : (0 : Int32) + 1 = 1 := by decide
  simp only [xSeq, i_push, i_load, i_iload, i_lload, i_dload, i_aload, i_istore, i_astore, i_lstore, i_dstore, i_iinc, i_ii, i_iiz, i_ll, i_llz, i_lli, i_li, i_i, i_l, i_i2l, i_l2i, i_dup, i_dup2, i_dup2w, i_dupx1, i_pop, i_pop2, i_goto, i_ifc, i_icmp, i_getI, i_getL, i_getR, i_putI, i_putZ, i_putL, i_putR, i_aldI, i_aldB, i_aldL, i_aldD, i_astI, i_astL, i_astD, i_alen, i_ret, i_iret, i_zret, i_lret, i_fret, i_dret, i_aret, i_invS0, i_invV0, i_m2, i_m1, i_ml, i_obj, lk, lkp, stf1, stf2, Value.category, rV, xTo, lv_args, xCk, xCat, xRc, xAk, hg_S, hg_I, hg_J, hg_D, hg_R, hs_I, hs_J, hs_D, hs_R, uI_at, uJ_at, uD_at, uR_at, List.take_succ_cons, List.take_zero, List.drop_succ_cons, List.drop_zero, List.reverse_cons, List.reverse_nil, List.nil_append, List.cons_append, List.map_cons, List.map_nil, List.sum_cons, List.sum_nil, List.length_cons, List.length_nil, Option.toList_some, Option.toList_none, true_and, and_true, false_and, and_false, true_implies, false_implies, implies_true, not_true_eq_false, not_false_eq_true, ne_eq, if_true, if_false, Bool.and_true, Bool.true_and, decide_true, decide_false, reduceIte, reduceCtorEq, Bool.and_self, Bool.and_eq_true, decide_eq_true_eq, and_self, true_or, or_true, false_or, or_false, Nat.zero_add, Nat.add_zero, eq_self, Nat.reduceEqDiff, Nat.reduceLeDiff, Nat.reduceLT, Nat.reduceAdd, Nat.reduceSub, Nat.reduceMul, t1, t2, t3, t4, t5, r2, r3, s2, s3, ix_0]
  rw [e41_44]
  simp only [B41_44, xSeq, i_push, i_load, i_iload, i_lload, i_dload, i_aload, i_istore, i_astore, i_lstore, i_dstore, i_iinc, i_ii, i_iiz, i_ll, i_llz, i_lli, i_li, i_i, i_l, i_i2l, i_l2i, i_dup, i_dup2, i_dup2w, i_dupx1, i_pop, i_pop2, i_goto, i_ifc, i_icmp, i_getI, i_getL, i_getR, i_putI, i_putZ, i_putL, i_putR, i_aldI, i_aldB, i_aldL, i_aldD, i_astI, i_astL, i_astD, i_alen, i_ret, i_iret, i_zret, i_lret, i_fret, i_dret, i_aret, i_invS0, i_invV0, i_m2, i_m1, i_ml, i_obj, lk, lkp, stf1, stf2, Value.category, rV, xTo, lv_args, xCk, xCat, xRc, xAk, hg_S, hg_I, hg_J, hg_D, hg_R, hs_I, hs_J, hs_D, hs_R, uI_at, uJ_at, uD_at, uR_at, List.take_succ_cons, List.take_zero, List.drop_succ_cons, List.drop_zero, List.reverse_cons, List.reverse_nil, List.nil_append, List.cons_append, List.map_cons, List.map_nil, List.sum_cons, List.sum_nil, List.length_cons, List.length_nil, Option.toList_some, Option.toList_none, true_and, and_true, false_and, and_false, true_implies, false_implies, implies_true, not_true_eq_false, not_false_eq_true, ne_eq, if_true, if_false, Bool.and_true, Bool.true_and, decide_true, decide_false, reduceIte, reduceCtorEq, Bool.and_self, Bool.and_eq_true, decide_eq_true_eq, and_self, true_or, or_true, false_or, or_false, Nat.zero_add, Nat.add_zero, eq_self, Nat.reduceEqDiff, Nat.reduceLeDiff, Nat.reduceLT, Nat.reduceAdd, Nat.reduceSub, Nat.reduceMul]
  refine kk _ _ _ _ _ s1 s2 s3 (fun o k a c f => ?_) ?_ ?_ (fun o k a c => ?_) ?_ r1 r2 r3
  · have e2 : (o = 112 ∧ k = 0) = False := eq_false f
    have e3 : (o = 403 ∧ k = 0) = False := eq_false (fun h => c h.1)
    simp only [uI_at, e2, e3, if_false]
    exact i1 o k a c
  · simp only [uI_at, true_and, and_true, false_and, and_false, true_implies, false_implies, implies_true, not_true_eq_false, not_false_eq_true, ne_eq, if_true, if_false, Bool.and_true, Bool.true_and, decide_true, decide_false, reduceIte, reduceCtorEq, Bool.and_self, Bool.and_eq_true, decide_eq_true_eq, and_self, true_or, or_true, false_or, or_false, Nat.zero_add, Nat.add_zero, eq_self, Nat.reduceEqDiff, Nat.reduceLeDiff, Nat.reduceLT, Nat.reduceAdd, Nat.reduceSub, Nat.reduceMul]
  · simp only [uI_at, true_and, and_true, false_and, and_false, true_implies, false_implies, implies_true, not_true_eq_false, not_false_eq_true, ne_eq, if_true, if_false, Bool.and_true, Bool.true_and, decide_true, decide_false, reduceIte, reduceCtorEq, Bool.and_self, Bool.and_eq_true, decide_eq_true_eq, and_self, true_or, or_true, false_or, or_false, Nat.zero_add, Nat.add_zero, eq_self, Nat.reduceEqDiff, Nat.reduceLeDiff, Nat.reduceLT, Nat.reduceAdd, Nat.reduceSub, Nat.reduceMul]
  · have e3 : (o = 402 ∧ k = 0) = False := eq_false (fun h => a h.1)
    simp only [uJ_at, e3, if_false]
    exact j1 o k a c
  · simp only [uJ_at, true_and, and_true, false_and, and_false, true_implies, false_implies, implies_true, not_true_eq_false, not_false_eq_true, ne_eq, if_true, if_false, Bool.and_true, Bool.true_and, decide_true, decide_false, reduceIte, reduceCtorEq, Bool.and_self, Bool.and_eq_true, decide_eq_true_eq, and_self, true_or, or_true, false_or, or_false, Nat.zero_add, Nat.add_zero, eq_self, Nat.reduceEqDiff, Nat.reduceLeDiff, Nat.reduceLT, Nat.reduceAdd, Nat.reduceSub, Nat.reduceMul]
end
/-! ===== shapes behind new things ===== -/
section
variable {S S' : xS} {R R' : xR}
theorem LC_f (hL : LC S R) (hs : ∀ o, o < 402 → S' o = S o) (hr : ∀ o k, o < 402 → ¬ (o = 112 ∧ (k = 1 ∨ k = 2)) → R' o k = R o k) : LC S' R' := by
  unfold LC
  repeat' apply And.intro
  all_goals first
    | (rw [hs _ (by decide)]; simp only [LC_out hL])
    | (rw [hr _ _ (by decide) (by decide)]; simp only [LC_out hL])
theorem LM_f (hL : LM S R) (hs : ∀ o, o < 402 → S' o = S o) (hr : ∀ o k, o < 402 → ¬ (o = 112 ∧ (k = 1 ∨ k = 2)) → R' o k = R o k) : LM S' R' := by
  unfold LM
  repeat' apply And.intro
  all_goals first
    | (rw [hs _ (by decide)]; simp only [LM_out hL])
    | (rw [hr _ _ (by decide) (by decide)]; simp only [LM_out hL])
end
/-! ===== sums within bounds ===== -/
section
theorem i32_addT {a c : Int32} {x y : Int} (ha : -x ≤ a.toInt ∧ a.toInt ≤ x) (hc : -y ≤ c.toInt ∧ c.toInt ≤ y) (h : x + y < 2147483648) : (a + c).toInt = a.toInt + c.toInt := by
  rw [Int32.toInt_add]
  exact Int.bmod_eq_of_le (by omega) (by omega)
theorem sm_bd {f : Nat → Int32} {K : Int} (hK : 0 ≤ K) : ∀ n : Nat, (∀ k, k < n → -K ≤ (f k).toInt ∧ (f k).toInt ≤ K) → (n : Int) * K < 2147483648 → -((n : Int) * K) ≤ (sm f n).toInt ∧ (sm f n).toInt ≤ (n : Int) * K
  | 0, _, _ => by
    rw [sm]
    simp
  | n + 1, h, hb => by
    have e : ((n + 1 : Nat) : Int) * K = (n : Int) * K + K := by rw [Int.natCast_add, Int.add_mul]; simp
    rw [e] at hb ⊢
    have ih := sm_bd hK n (fun k hk => h k (Nat.lt_succ_of_lt hk)) (by omega)
    have h1 := h n (Nat.lt_succ_self n)
    rw [sm, i32_addT ih h1 hb]
    omega
theorem sg_bd (a : Bool) : (-1 : Int) ≤ (sg a).toInt ∧ (sg a).toInt ≤ 1 := by cases a <;> decide
theorem i32_negT {a : Int32} (h : -2147483648 < a.toInt) : (-a).toInt = -a.toInt := by
  have h2 := Int32.toInt_lt a
  rw [Int32.toInt_neg]
  exact Int.bmod_eq_of_le (by omega) (by omega)
theorem pr_bd {st : Int32} (h : -3 ≤ st.toInt ∧ st.toInt ≤ 3) (a c : Bool) : (-3 : Int) ≤ (pr st a c).toInt ∧ (pr st a c).toInt ≤ 3 := by
  unfold pr
  split
  · exact h
  · rw [i32_negT (by omega)]
    omega
theorem mul_sg_bd {F : Int32} (h : -3 ≤ F.toInt ∧ F.toInt ≤ 3) (a : Bool) : (-3 : Int) ≤ (F * sg a).toInt ∧ (F * sg a).toInt ≤ 3 := by
  cases a
  · rw [show F * sg false = -F by simp [sg, Int32.mul_neg]]
    rw [i32_negT (by omega)]
    omega
  · rw [show F * sg true = F by simp [sg]]
    exact h
theorem mulT {F a : Int32} {x y : Int} (h : -x ≤ F.toInt ∧ F.toInt ≤ x) (ha : -y ≤ a.toInt ∧ a.toInt ≤ y) (h0 : 0 ≤ x) (h1 : 0 ≤ y) (hb : x * y < 2147483648) : (F * a).toInt = F.toInt * a.toInt ∧ -(x * y) ≤ (F * a).toInt ∧ (F * a).toInt ≤ x * y := by
  have k1 : F.toInt * a.toInt ≤ x * y := by
    by_cases g : 0 ≤ F.toInt
    · exact Int.le_trans (Int.mul_le_mul_of_nonneg_left ha.2 g) (Int.mul_le_mul_of_nonneg_right h.2 h1)
    · have e : F.toInt * a.toInt = (-F.toInt) * (-a.toInt) := by rw [Int.neg_mul_neg]
      rw [e]
      exact Int.le_trans (Int.mul_le_mul_of_nonneg_left (show -a.toInt ≤ y by omega) (by omega)) (Int.mul_le_mul_of_nonneg_right (by omega) h1)
  have k2 : -(x * y) ≤ F.toInt * a.toInt := by
    have : -(F.toInt * a.toInt) ≤ x * y := by
      by_cases g : 0 ≤ F.toInt
      · have e : -(F.toInt * a.toInt) = F.toInt * (-a.toInt) := by rw [Int.mul_neg]
        rw [e]
        exact Int.le_trans (Int.mul_le_mul_of_nonneg_left (show -a.toInt ≤ y by omega) g) (Int.mul_le_mul_of_nonneg_right h.2 h1)
      · have e : -(F.toInt * a.toInt) = (-F.toInt) * a.toInt := by rw [Int.neg_mul]
        rw [e]
        exact Int.le_trans (Int.mul_le_mul_of_nonneg_left ha.2 (by omega)) (Int.mul_le_mul_of_nonneg_right (by omega) h1)
    omega
  have e : (F * a).toInt = F.toInt * a.toInt := by
    rw [Int32.toInt_mul]
    exact Int.bmod_eq_of_le (by omega) (by omega)
  rw [e]
  exact ⟨rfl, k2, k1⟩
variable {n m : Nat} {fi se dg : Nat → Nat} {sb : Nat → Nat → Nat}
/-- strengths and field as the document allows -/
def SB (F : Int32) (st : Nat → Int32) (m : Nat) : Prop := (-3 ≤ F.toInt ∧ F.toInt ≤ 3) ∧ ∀ k, k < m → -3 ≤ (st k).toInt ∧ (st k).toInt ≤ 3
theorem SB_1 {F : Int32} {st : Nat → Int32} (h0 : F = 0) (h : ∀ k, k < 32 → st k = 1) : SB F st 32 := by
  refine ⟨?_, fun k hk => ?_⟩
  · rw [h0]; decide
  · rw [h k hk]; decide
theorem en_bd {F : Int32} {st : Nat → Int32} (hs : SB F st m) (hn : n ≤ 64) (hm : m ≤ 128) (s : Nat) : -576 ≤ (en F st n m fi se s).toInt ∧ (en F st n m fi se s).toInt ≤ 576 := by
  have h1 : -(n * 1 : Int) ≤ (mg n s).toInt ∧ (mg n s).toInt ≤ (n * 1 : Int) := sm_bd (K := 1) (by decide) n (fun k _ => sg_bd _) (by omega)
  have h2 : -(m * 3 : Int) ≤ (ps m st fi se s).toInt ∧ (ps m st fi se s).toInt ≤ (m * 3 : Int) := sm_bd (K := 3) (by decide) m (fun k hk => pr_bd (hs.2 k hk) _ _) (by omega)
  have h3 := mulT (x := 3) (y := 64) hs.1 (show -64 ≤ (mg n s).toInt ∧ (mg n s).toInt ≤ 64 by omega) (by decide) (by decide) (by decide)
  unfold en
  have h4 := i32_addT (x := 192) (y := 384) (show -192 ≤ (F * mg n s).toInt ∧ (F * mg n s).toInt ≤ 192 by omega) (show -384 ≤ (ps m st fi se s).toInt ∧ (ps m st fi se s).toInt ≤ 384 by omega) (by decide)
  rw [i32_negT (by omega)]
  omega
theorem dl_bd {F : Int32} {st : Nat → Int32} (hs : SB F st m) (hG : GR n m fi se dg sb) (s : Nat) {t : Nat} (ht : t < n) : -30 ≤ (dl F st fi se dg sb s t).toInt ∧ (dl F st fi se dg sb s t).toInt ≤ 30 := by
  have hd := hG.2.2.2.2.2.1 t ht
  have h2 : -(dg t * 3 : Int) ≤ (sm (fun i => pr (st (sb t i)) (s.testBit (fi (sb t i))) (s.testBit (se (sb t i)))) (dg t)).toInt ∧ (sm (fun i => pr (st (sb t i)) (s.testBit (fi (sb t i))) (s.testBit (se (sb t i)))) (dg t)).toInt ≤ (dg t * 3 : Int) := sm_bd (K := 3) (by decide) (dg t) (fun i hi => pr_bd (hs.2 _ (hG.2.2.2.2.2.2 t i ht hi)) _ _) (by omega)
  have h1 := mul_sg_bd hs.1 (s.testBit t)
  unfold dl
  have h4 := i32_addT (x := 3) (y := 12) h1 (show -12 ≤ (sm (fun i => pr (st (sb t i)) (s.testBit (fi (sb t i))) (s.testBit (se (sb t i)))) (dg t)).toInt ∧ (sm (fun i => pr (st (sb t i)) (s.testBit (fi (sb t i))) (s.testBit (se (sb t i)))) (dg t)).toInt ≤ 12 by omega) (by decide)
  have h5 := mulT (F := 2) (x := 2) (y := 15) (by decide) (show -15 ≤ (F * sg (s.testBit t) + sm (fun i => pr (st (sb t i)) (s.testBit (fi (sb t i))) (s.testBit (se (sb t i)))) (dg t)).toInt ∧ (F * sg (s.testBit t) + sm (fun i => pr (st (sb t i)) (s.testBit (fi (sb t i))) (s.testBit (se (sb t i)))) (dg t)).toInt ≤ 15 by omega) (by decide) (by decide) (by decide)
  exact h5.2
/-- the flip that lowers most, of the first i sites: by how much; the configuration behind it -/
def bs (d : Nat → Int32) (c : Nat) : Nat → Int32 × Nat
  | 0 => (0, c)
  | i + 1 => if d i < (bs d c i).1 then (d i, c ^^^ 2 ^ i) else bs d c i
/-- by how much; its site -/
def bm (d : Nat → Int32) : Nat → Int32 × Int32
  | 0 => (0, -1)
  | i + 1 => if d i < (bm d i).1 then (d i, nI i) else bm d i
theorem bs_lt {d : Nat → Int32} {c : Nat} : ∀ {i : Nat}, c < 2 ^ i → True := fun _ => trivial
theorem bs_bm (d : Nat → Int32) (c : Nat) : ∀ i, (∃ k, k < i ∧ bm d i = (d k, nI k) ∧ bs d c i = (d k, c ^^^ 2 ^ k) ∧ d k < 0) ∨ (bm d i = (0, -1) ∧ bs d c i = (0, c))
  | 0 => Or.inr ⟨rfl, rfl⟩
  | i + 1 => by
    rcases bs_bm d c i with ⟨k, h1, h2, h3, h4⟩ | ⟨h2, h3⟩
    · rw [bm, bs, h2, h3]
      by_cases h : d i < d k
      · rw [if_pos h, if_pos h]
        exact Or.inl ⟨i, Nat.lt_succ_self i, rfl, rfl, Int32.lt_trans h h4⟩
      · rw [if_neg h, if_neg h]
        exact Or.inl ⟨k, Nat.lt_succ_of_lt h1, rfl, rfl, h4⟩
    · rw [bm, bs, h2, h3]
      by_cases h : d i < 0
      · rw [if_pos h, if_pos h]
        exact Or.inl ⟨i, Nat.lt_succ_self i, rfl, rfl, h⟩
      · rw [if_neg h, if_neg h]
        exact Or.inr ⟨rfl, rfl⟩
theorem xor_ne (c k : Nat) : c ^^^ 2 ^ k ≠ c := fun h => by
  have e := bit_x c k k
  rw [h] at e
  cases hb : c.testBit k <;> simp [hb] at e
/-- a descent of at most r flips -/
def ds (f : Nat → Nat) : Nat → Nat → Nat × Nat
  | 0, c => (c, 0)
  | r + 1, c => if f c = c then (c, 0) else ((ds f r (f c)).1, (ds f r (f c)).2 + 1)
theorem ds_lt (f : Nat → Nat) {N : Nat} (hf : ∀ c, c < N → f c < N) : ∀ r c, c < N → (ds f r c).1 < N
  | 0, c, h => h
  | r + 1, c, h => by
    rw [ds]
    split
    · exact h
    · exact ds_lt f hf r _ (hf c h)
theorem ds_le (f : Nat → Nat) : ∀ r c, (ds f r c).2 ≤ r
  | 0, _ => Nat.le_refl _
  | r + 1, c => by
    have := ds_le f r (f c)
    rw [ds]
    split
    · omega
    · show (ds f r (f c)).2 + 1 ≤ r + 1
      omega
/-- the next configuration of a descent -/
def nc (F : Int32) (st : Nat → Int32) (n : Nat) (fi se dg : Nat → Nat) (sb : Nat → Nat → Nat) (c : Nat) : Nat := (bs (dl F st fi se dg sb c) c n).2
theorem bs_b {d : Nat → Int32} {c N : Nat} (hc : c < 2 ^ N) {i : Nat} (hi : i ≤ N) : (bs d c i).2 < 2 ^ N := by
  rcases bs_bm d c i with ⟨k, h1, h2, h3, h4⟩ | ⟨h2, h3⟩
  · rw [h3]
    exact Nat.xor_lt_two_pow hc (Nat.pow_lt_pow_right (by decide) (by omega))
  · rw [h3]
    exact hc
/-- how far a configuration can go down -/
def mu (F : Int32) (st : Nat → Int32) (n m : Nat) (fi se : Nat → Nat) (c : Nat) : Nat := ((en F st n m fi se c).toInt + 576).toNat
theorem mu_nc {F : Int32} {st : Nat → Int32} (hs : SB F st m) (hG : GR n m fi se dg sb) (hN : GN n m fi se dg sb) {c : Nat} (h : nc F st n fi se dg sb c ≠ c) : mu F st n m fi se (nc F st n fi se dg sb c) < mu F st n m fi se c := by
  unfold nc at h ⊢
  rcases bs_bm (dl F st fi se dg sb c) c n with ⟨k, h1, h2, h3, h4⟩ | ⟨h2, h3⟩
  · rw [h3]
    show mu F st n m fi se (c ^^^ 2 ^ k) < mu F st n m fi se c
    have e := en_x hN F st c k h1
    have b1 := en_bd (fi := fi) (se := se) hs hG.2.1 hG.2.2.1 c
    have b2 := en_bd (fi := fi) (se := se) hs hG.2.1 hG.2.2.1 (c ^^^ 2 ^ k)
    have b3 := dl_bd hs hG c h1
    have e2 := i32_addT (x := 576) (y := 30) b1 b3 (by decide)
    rw [← e] at e2
    have h5 := Int32.lt_iff_toInt_lt.mp h4
    have h6 : (0 : Int32).toInt = 0 := rfl
    unfold mu
    omega
  · rw [h3] at h
    exact absurd rfl h
end
/-! ===== descents ===== -/
section
variable {S : xS} {I : xI} {J : xJ} {D : xDb} {R : xR} {b : Nat × Nat} {Q : xQ} {n m : Nat} {fi se dg : Nat → Nat} {sb : Nat → Nat → Nat}
theorem q_1shlL {t : Nat} (h : t < 64) : jLshl 1 (nI t) = lN (2 ^ t) := by rw [show (1 : Int64) = lN 1 from rfl, q_shl 1 h, Nat.one_mul]
theorem R93_8 (hL : LC S R) (hG : GR n m fi se dg sb) (hC : CL I n m fi se dg sb) {c : Nat} (hc : c < 2 ^ 64) : ∀ (j i : Nat), i + j = n → xRun xT 93 8 [(0, .ref 110), (1, .long (lN c)), (3, .int (bs (dl (I 110 6) (I 111) fi se dg sb c) c i).1), (4, .long (lN (bs (dl (I 110 6) (I 111) fi se dg sb c) c i).2)), (6, .int (nI i))] [] (S, I, J, D, R) b Q = Q (.ok (some (.long (lN (nc (I 110 6) (I 111) n fi se dg sb c))))) (S, I, J, D, R) b
  | 0, i, hi => by
    have g1 := hG.2.1
    have c1 := hC.1
    have e : i = n := by omega
    subst e
    rw [e93_8]
    simp only [B93_8, xSeq, i_push, i_load, i_iload, i_lload, i_dload, i_aload, i_istore, i_astore, i_lstore, i_dstore, i_iinc, i_ii, i_iiz, i_ll, i_llz, i_lli, i_li, i_i, i_l, i_i2l, i_l2i, i_dup, i_dup2, i_dup2w, i_dupx1, i_pop, i_pop2, i_goto, i_ifc, i_icmp, i_getI, i_getL, i_getR, i_putI, i_putZ, i_putL, i_putR, i_aldI, i_aldB, i_aldL, i_aldD, i_astI, i_astL, i_astD, i_alen, i_ret, i_iret, i_zret, i_lret, i_fret, i_dret, i_aret, i_invS0, i_invV0, i_m2, i_m1, i_ml, i_obj, lk, lkp, stf1, stf2, Value.category, rV, xTo, lv_args, xCk, xCat, xRc, xAk, hg_S, hg_I, hg_J, hg_D, hg_R, hs_I, hs_J, hs_D, hs_R, uI_at, uJ_at, uD_at, uR_at, List.take_succ_cons, List.take_zero, List.drop_succ_cons, List.drop_zero, List.reverse_cons, List.reverse_nil, List.nil_append, List.cons_append, List.map_cons, List.map_nil, List.sum_cons, List.sum_nil, List.length_cons, List.length_nil, Option.toList_some, Option.toList_none, true_and, and_true, false_and, and_false, true_implies, false_implies, implies_true, not_true_eq_false, not_false_eq_true, ne_eq, if_true, if_false, Bool.and_true, Bool.true_and, decide_true, decide_false, reduceIte, reduceCtorEq, Bool.and_self, Bool.and_eq_true, decide_eq_true_eq, and_self, true_or, or_true, false_or, or_false, Nat.zero_add, Nat.add_zero, eq_self, Nat.reduceEqDiff, Nat.reduceLeDiff, Nat.reduceLT, Nat.reduceAdd, Nat.reduceSub, Nat.reduceMul, LC_out hL, c1, nI_leP (show i < 2147483648 by omega) (show i < 2147483648 by omega), Nat.le_refl, e93_52, B93_52, nc]
  | j + 1, i, hi => by
    have g1 := hG.2.1
    have c1 := hC.1
    have ih := R93_8 hL hG hC hc j (i + 1) (by omega)
    rw [bs] at ih
    rw [e93_8]
    simp only [B93_8, xSeq, i_push, i_load, i_iload, i_lload, i_dload, i_aload, i_istore, i_astore, i_lstore, i_dstore, i_iinc, i_ii, i_iiz, i_ll, i_llz, i_lli, i_li, i_i, i_l, i_i2l, i_l2i, i_dup, i_dup2, i_dup2w, i_dupx1, i_pop, i_pop2, i_goto, i_ifc, i_icmp, i_getI, i_getL, i_getR, i_putI, i_putZ, i_putL, i_putR, i_aldI, i_aldB, i_aldL, i_aldD, i_astI, i_astL, i_astD, i_alen, i_ret, i_iret, i_zret, i_lret, i_fret, i_dret, i_aret, i_invS0, i_invV0, i_m2, i_m1, i_ml, i_obj, lk, lkp, stf1, stf2, Value.category, rV, xTo, lv_args, xCk, xCat, xRc, xAk, hg_S, hg_I, hg_J, hg_D, hg_R, hs_I, hs_J, hs_D, hs_R, uI_at, uJ_at, uD_at, uR_at, List.take_succ_cons, List.take_zero, List.drop_succ_cons, List.drop_zero, List.reverse_cons, List.reverse_nil, List.nil_append, List.cons_append, List.map_cons, List.map_nil, List.sum_cons, List.sum_nil, List.length_cons, List.length_nil, Option.toList_some, Option.toList_none, true_and, and_true, false_and, and_false, true_implies, false_implies, implies_true, not_true_eq_false, not_false_eq_true, ne_eq, if_true, if_false, Bool.and_true, Bool.true_and, decide_true, decide_false, reduceIte, reduceCtorEq, Bool.and_self, Bool.and_eq_true, decide_eq_true_eq, and_self, true_or, or_true, false_or, or_false, Nat.zero_add, Nat.add_zero, eq_self, Nat.reduceEqDiff, Nat.reduceLeDiff, Nat.reduceLT, Nat.reduceAdd, Nat.reduceSub, Nat.reduceMul, LC_out hL, c1, nI_leP (show n < 2147483648 by omega) (show i < 2147483648 by omega), show (n ≤ i) = False from eq_false (by omega), R76 hL hG hC hc (show i < n by omega), q_1shlL (show i < 64 by omega), q_xor, e93_46, B93_46, nI_1]
    by_cases h : dl (I 110 6) (I 111) fi se dg sb c i < (bs (dl (I 110 6) (I 111) fi se dg sb c) c i).1
    · rw [if_pos h] at ih
      simp only [show ((bs (dl (I 110 6) (I 111) fi se dg sb c) c i).1 ≤ dl (I 110 6) (I 111) fi se dg sb c i) = False from eq_false (Int32.not_le.mpr h), true_and, and_true, false_and, and_false, true_implies, false_implies, implies_true, not_true_eq_false, not_false_eq_true, ne_eq, if_true, if_false, Bool.and_true, Bool.true_and, decide_true, decide_false, reduceIte, reduceCtorEq, Bool.and_self, Bool.and_eq_true, decide_eq_true_eq, and_self, true_or, or_true, false_or, or_false, Nat.zero_add, Nat.add_zero, eq_self, Nat.reduceEqDiff, Nat.reduceLeDiff, Nat.reduceLT, Nat.reduceAdd, Nat.reduceSub, Nat.reduceMul]
      exact ih
    · rw [if_neg h] at ih
      simp only [show ((bs (dl (I 110 6) (I 111) fi se dg sb c) c i).1 ≤ dl (I 110 6) (I 111) fi se dg sb c i) = True from eq_true (Int32.not_lt.mp h), true_and, and_true, false_and, and_false, true_implies, false_implies, implies_true, not_true_eq_false, not_false_eq_true, ne_eq, if_true, if_false, Bool.and_true, Bool.true_and, decide_true, decide_false, reduceIte, reduceCtorEq, Bool.and_self, Bool.and_eq_true, decide_eq_true_eq, and_self, true_or, or_true, false_or, or_false, Nat.zero_add, Nat.add_zero, eq_self, Nat.reduceEqDiff, Nat.reduceLeDiff, Nat.reduceLT, Nat.reduceAdd, Nat.reduceSub, Nat.reduceMul]
      exact ih
theorem R93 (hL : LC S R) (hG : GR n m fi se dg sb) (hC : CL I n m fi se dg sb) {c : Nat} (hc : c < 2 ^ 64) : xRun xT 93 0 [(0, .ref 110), (1, .long (lN c))] [] (S, I, J, D, R) b Q = Q (.ok (some (.long (lN (nc (I 110 6) (I 111) n fi se dg sb c))))) (S, I, J, D, R) b := by
  rw [e93_0]
  simp only [B93_0, xSeq, i_push, i_load, i_iload, i_lload, i_dload, i_aload, i_istore, i_astore, i_lstore, i_dstore, i_iinc, i_ii, i_iiz, i_ll, i_llz, i_lli, i_li, i_i, i_l, i_i2l, i_l2i, i_dup, i_dup2, i_dup2w, i_dupx1, i_pop, i_pop2, i_goto, i_ifc, i_icmp, i_getI, i_getL, i_getR, i_putI, i_putZ, i_putL, i_putR, i_aldI, i_aldB, i_aldL, i_aldD, i_astI, i_astL, i_astD, i_alen, i_ret, i_iret, i_zret, i_lret, i_fret, i_dret, i_aret, i_invS0, i_invV0, i_m2, i_m1, i_ml, i_obj, lk, lkp, stf1, stf2, Value.category, rV, xTo, lv_args, xCk, xCat, xRc, xAk, hg_S, hg_I, hg_J, hg_D, hg_R, hs_I, hs_J, hs_D, hs_R, uI_at, uJ_at, uD_at, uR_at, List.take_succ_cons, List.take_zero, List.drop_succ_cons, List.drop_zero, List.reverse_cons, List.reverse_nil, List.nil_append, List.cons_append, List.map_cons, List.map_nil, List.sum_cons, List.sum_nil, List.length_cons, List.length_nil, Option.toList_some, Option.toList_none, true_and, and_true, false_and, and_false, true_implies, false_implies, implies_true, not_true_eq_false, not_false_eq_true, ne_eq, if_true, if_false, Bool.and_true, Bool.true_and, decide_true, decide_false, reduceIte, reduceCtorEq, Bool.and_self, Bool.and_eq_true, decide_eq_true_eq, and_self, true_or, or_true, false_or, or_false, Nat.zero_add, Nat.add_zero, eq_self, Nat.reduceEqDiff, Nat.reduceLeDiff, Nat.reduceLT, Nat.reduceAdd, Nat.reduceSub, Nat.reduceMul]
  exact R93_8 hL hG hC hc n 0 (by omega)
theorem lN_cmp {a c : Nat} (ha : a < 2 ^ 64) (hc : c < 2 ^ 64) : (lg_cmp (lN a) (lN c) = 0) = (a = c) := by
  have e : (lN a = lN c) = (a = c) := propext ⟨fun h => by
    have h2 : (lN a).toBitVec.toNat = (lN c).toBitVec.toNat := by rw [h]
    rwa [q_tn ha, q_tn hc] at h2, fun h => by rw [h]⟩
  rw [← e]
  unfold lg_cmp
  by_cases h : lN a = lN c
  · rw [h, if_neg Int64.lt_irrefl, if_pos rfl]
    simp
  · rw [if_neg h]
    split
    · exact propext ⟨fun k => absurd k (by decide), fun k => absurd k h⟩
    · exact propext ⟨fun k => absurd k (by decide), fun k => absurd k h⟩
theorem nc_lt {F : Int32} {st : Nat → Int32} {c : Nat} (hc : c < 2 ^ n) : nc F st n fi se dg sb c < 2 ^ n := bs_b hc (Nat.le_refl n)
theorem R183_13 (hL : LC S R) (hG : GR n m fi se dg sb) (hC : CL I n m fi se dg sb) : ∀ (j i k c : Nat), i + j = 100000 → c < 2 ^ n → xRun xT 183 13 [(0, .ref 100), (3, .long (lN c)), (5, .int (nI k)), (6, .int (nI i))] [] (S, I, J, D, R) b Q = Q (.ok (some (.int (nI (k + (ds (nc (I 110 6) (I 111) n fi se dg sb) j c).2))))) (S, I, J, D, R) b
  | 0, i, k, c, hi, hc => by
    have e : i = 100000 := by omega
    rw [e183_13]
    simp only [B183_13, xSeq, i_push, i_load, i_iload, i_lload, i_dload, i_aload, i_istore, i_astore, i_lstore, i_dstore, i_iinc, i_ii, i_iiz, i_ll, i_llz, i_lli, i_li, i_i, i_l, i_i2l, i_l2i, i_dup, i_dup2, i_dup2w, i_dupx1, i_pop, i_pop2, i_goto, i_ifc, i_icmp, i_getI, i_getL, i_getR, i_putI, i_putZ, i_putL, i_putR, i_aldI, i_aldB, i_aldL, i_aldD, i_astI, i_astL, i_astD, i_alen, i_ret, i_iret, i_zret, i_lret, i_fret, i_dret, i_aret, i_invS0, i_invV0, i_m2, i_m1, i_ml, i_obj, lk, lkp, stf1, stf2, Value.category, rV, xTo, lv_args, xCk, xCat, xRc, xAk, hg_S, hg_I, hg_J, hg_D, hg_R, hs_I, hs_J, hs_D, hs_R, uI_at, uJ_at, uD_at, uR_at, List.take_succ_cons, List.take_zero, List.drop_succ_cons, List.drop_zero, List.reverse_cons, List.reverse_nil, List.nil_append, List.cons_append, List.map_cons, List.map_nil, List.sum_cons, List.sum_nil, List.length_cons, List.length_nil, Option.toList_some, Option.toList_none, true_and, and_true, false_and, and_false, true_implies, false_implies, implies_true, not_true_eq_false, not_false_eq_true, ne_eq, if_true, if_false, Bool.and_true, Bool.true_and, decide_true, decide_false, reduceIte, reduceCtorEq, Bool.and_self, Bool.and_eq_true, decide_eq_true_eq, and_self, true_or, or_true, false_or, or_false, Nat.zero_add, Nat.add_zero, eq_self, Nat.reduceEqDiff, Nat.reduceLeDiff, Nat.reduceLT, Nat.reduceAdd, Nat.reduceSub, Nat.reduceMul, show ((100000 : Int32) ≤ nI i) = True from eq_true (by rw [e]; decide), e183_53, B183_53, ds]
  | j + 1, i, k, c, hi, hc => by
    have h64 : c < 2 ^ 64 := Nat.lt_of_lt_of_le hc (Nat.pow_le_pow_right (by decide) hG.2.1)
    have hc2 := nc_lt (F := I 110 6) (st := I 111) (fi := fi) (se := se) (dg := dg) (sb := sb) hc
    have h642 := Nat.lt_of_lt_of_le hc2 (Nat.pow_le_pow_right (show 0 < 2 by decide) hG.2.1)
    have ih := R183_13 hL hG hC j (i + 1) (k + 1) (nc (I 110 6) (I 111) n fi se dg sb c) (by omega) hc2
    rw [e183_13]
    simp only [B183_13, xSeq, i_push, i_load, i_iload, i_lload, i_dload, i_aload, i_istore, i_astore, i_lstore, i_dstore, i_iinc, i_ii, i_iiz, i_ll, i_llz, i_lli, i_li, i_i, i_l, i_i2l, i_l2i, i_dup, i_dup2, i_dup2w, i_dupx1, i_pop, i_pop2, i_goto, i_ifc, i_icmp, i_getI, i_getL, i_getR, i_putI, i_putZ, i_putL, i_putR, i_aldI, i_aldB, i_aldL, i_aldD, i_astI, i_astL, i_astD, i_alen, i_ret, i_iret, i_zret, i_lret, i_fret, i_dret, i_aret, i_invS0, i_invV0, i_m2, i_m1, i_ml, i_obj, lk, lkp, stf1, stf2, Value.category, rV, xTo, lv_args, xCk, xCat, xRc, xAk, hg_S, hg_I, hg_J, hg_D, hg_R, hs_I, hs_J, hs_D, hs_R, uI_at, uJ_at, uD_at, uR_at, List.take_succ_cons, List.take_zero, List.drop_succ_cons, List.drop_zero, List.reverse_cons, List.reverse_nil, List.nil_append, List.cons_append, List.map_cons, List.map_nil, List.sum_cons, List.sum_nil, List.length_cons, List.length_nil, Option.toList_some, Option.toList_none, true_and, and_true, false_and, and_false, true_implies, false_implies, implies_true, not_true_eq_false, not_false_eq_true, ne_eq, if_true, if_false, Bool.and_true, Bool.true_and, decide_true, decide_false, reduceIte, reduceCtorEq, Bool.and_self, Bool.and_eq_true, decide_eq_true_eq, and_self, true_or, or_true, false_or, or_false, Nat.zero_add, Nat.add_zero, eq_self, Nat.reduceEqDiff, Nat.reduceLeDiff, Nat.reduceLT, Nat.reduceAdd, Nat.reduceSub, Nat.reduceMul, show ((100000 : Int32) ≤ nI i) = False from eq_false (by rw [show (100000 : Int32) = nI 100000 from rfl]; exact nI_ge (by omega) (by decide)), LC_out hL, R93 hL hG hC h64, lN_cmp h642 h64, ds]
    by_cases h : nc (I 110 6) (I 111) n fi se dg sb c = c
    · simp only [h, true_and, and_true, false_and, and_false, true_implies, false_implies, implies_true, not_true_eq_false, not_false_eq_true, ne_eq, if_true, if_false, Bool.and_true, Bool.true_and, decide_true, decide_false, reduceIte, reduceCtorEq, Bool.and_self, Bool.and_eq_true, decide_eq_true_eq, and_self, true_or, or_true, false_or, or_false, Nat.zero_add, Nat.add_zero, eq_self, Nat.reduceEqDiff, Nat.reduceLeDiff, Nat.reduceLT, Nat.reduceAdd, Nat.reduceSub, Nat.reduceMul, e183_53, B183_53, xSeq, i_push, i_load, i_iload, i_lload, i_dload, i_aload, i_istore, i_astore, i_lstore, i_dstore, i_iinc, i_ii, i_iiz, i_ll, i_llz, i_lli, i_li, i_i, i_l, i_i2l, i_l2i, i_dup, i_dup2, i_dup2w, i_dupx1, i_pop, i_pop2, i_goto, i_ifc, i_icmp, i_getI, i_getL, i_getR, i_putI, i_putZ, i_putL, i_putR, i_aldI, i_aldB, i_aldL, i_aldD, i_astI, i_astL, i_astD, i_alen, i_ret, i_iret, i_zret, i_lret, i_fret, i_dret, i_aret, i_invS0, i_invV0, i_m2, i_m1, i_ml, i_obj, lk, lkp, stf1, stf2, Value.category, rV, xTo, lv_args, xCk, xCat, xRc, xAk, hg_S, hg_I, hg_J, hg_D, hg_R, hs_I, hs_J, hs_D, hs_R, uI_at, uJ_at, uD_at, uR_at, List.take_succ_cons, List.take_zero, List.drop_succ_cons, List.drop_zero, List.reverse_cons, List.reverse_nil, List.nil_append, List.cons_append, List.map_cons, List.map_nil, List.sum_cons, List.sum_nil, List.length_cons, List.length_nil, Option.toList_some, Option.toList_none]
    · simp only [h, true_and, and_true, false_and, and_false, true_implies, false_implies, implies_true, not_true_eq_false, not_false_eq_true, ne_eq, if_true, if_false, Bool.and_true, Bool.true_and, decide_true, decide_false, reduceIte, reduceCtorEq, Bool.and_self, Bool.and_eq_true, decide_eq_true_eq, and_self, true_or, or_true, false_or, or_false, Nat.zero_add, Nat.add_zero, eq_self, Nat.reduceEqDiff, Nat.reduceLeDiff, Nat.reduceLT, Nat.reduceAdd, Nat.reduceSub, Nat.reduceMul, e183_41, B183_41, xSeq, i_push, i_load, i_iload, i_lload, i_dload, i_aload, i_istore, i_astore, i_lstore, i_dstore, i_iinc, i_ii, i_iiz, i_ll, i_llz, i_lli, i_li, i_i, i_l, i_i2l, i_l2i, i_dup, i_dup2, i_dup2w, i_dupx1, i_pop, i_pop2, i_goto, i_ifc, i_icmp, i_getI, i_getL, i_getR, i_putI, i_putZ, i_putL, i_putR, i_aldI, i_aldB, i_aldL, i_aldD, i_astI, i_astL, i_astD, i_alen, i_ret, i_iret, i_zret, i_lret, i_fret, i_dret, i_aret, i_invS0, i_invV0, i_m2, i_m1, i_ml, i_obj, lk, lkp, stf1, stf2, Value.category, rV, xTo, lv_args, xCk, xCat, xRc, xAk, hg_S, hg_I, hg_J, hg_D, hg_R, hs_I, hs_J, hs_D, hs_R, uI_at, uJ_at, uD_at, uR_at, List.take_succ_cons, List.take_zero, List.drop_succ_cons, List.drop_zero, List.reverse_cons, List.reverse_nil, List.nil_append, List.cons_append, List.map_cons, List.map_nil, List.sum_cons, List.sum_nil, List.length_cons, List.length_nil, Option.toList_some, Option.toList_none, nI_1]
      rw [show k + ((ds (nc (I 110 6) (I 111) n fi se dg sb) j (nc (I 110 6) (I 111) n fi se dg sb c)).2 + 1) = k + 1 + (ds (nc (I 110 6) (I 111) n fi se dg sb) j (nc (I 110 6) (I 111) n fi se dg sb c)).2 by omega]
      exact ih
theorem R183_z (hL : LC S R) (hG : GR n m fi se dg sb) (hC : CL I n m fi se dg sb) {c : Nat} (hc : c < 2 ^ n) : xRun xT 183 13 [(0, .ref 100), (3, .long (lN c)), (5, .int 0), (6, .int 0)] [] (S, I, J, D, R) b Q = Q (.ok (some (.int (nI (ds (nc (I 110 6) (I 111) n fi se dg sb) 100000 c).2)))) (S, I, J, D, R) b := by
  obtain ⟨r, hr⟩ : ∃ r : Nat, r = 100000 := ⟨_, rfl⟩
  have h := R183_13 (J := J) (D := D) (b := b) (Q := Q) hL hG hC r 0 0 c (by omega) hc
  rw [Nat.zero_add, nI_0, hr] at h
  exact h
theorem R188_10 (hL : LC S R) (hG : GR n m fi se dg sb) (hC : CL I n m fi se dg sb) : ∀ (j i c : Nat), i + j = 100000 → c < 2 ^ n → xRun xT 188 10 [(0, .ref 100), (3, .long (lN c)), (5, .int (nI i))] [] (S, I, J, D, R) b Q = Q (.ok (some (.long (lN (ds (nc (I 110 6) (I 111) n fi se dg sb) j c).1)))) (S, I, J, D, R) b
  | 0, i, c, hi, hc => by
    have e : i = 100000 := by omega
    rw [e188_10]
    simp only [B188_10, xSeq, i_push, i_load, i_iload, i_lload, i_dload, i_aload, i_istore, i_astore, i_lstore, i_dstore, i_iinc, i_ii, i_iiz, i_ll, i_llz, i_lli, i_li, i_i, i_l, i_i2l, i_l2i, i_dup, i_dup2, i_dup2w, i_dupx1, i_pop, i_pop2, i_goto, i_ifc, i_icmp, i_getI, i_getL, i_getR, i_putI, i_putZ, i_putL, i_putR, i_aldI, i_aldB, i_aldL, i_aldD, i_astI, i_astL, i_astD, i_alen, i_ret, i_iret, i_zret, i_lret, i_fret, i_dret, i_aret, i_invS0, i_invV0, i_m2, i_m1, i_ml, i_obj, lk, lkp, stf1, stf2, Value.category, rV, xTo, lv_args, xCk, xCat, xRc, xAk, hg_S, hg_I, hg_J, hg_D, hg_R, hs_I, hs_J, hs_D, hs_R, uI_at, uJ_at, uD_at, uR_at, List.take_succ_cons, List.take_zero, List.drop_succ_cons, List.drop_zero, List.reverse_cons, List.reverse_nil, List.nil_append, List.cons_append, List.map_cons, List.map_nil, List.sum_cons, List.sum_nil, List.length_cons, List.length_nil, Option.toList_some, Option.toList_none, true_and, and_true, false_and, and_false, true_implies, false_implies, implies_true, not_true_eq_false, not_false_eq_true, ne_eq, if_true, if_false, Bool.and_true, Bool.true_and, decide_true, decide_false, reduceIte, reduceCtorEq, Bool.and_self, Bool.and_eq_true, decide_eq_true_eq, and_self, true_or, or_true, false_or, or_false, Nat.zero_add, Nat.add_zero, eq_self, Nat.reduceEqDiff, Nat.reduceLeDiff, Nat.reduceLT, Nat.reduceAdd, Nat.reduceSub, Nat.reduceMul, show ((100000 : Int32) ≤ nI i) = True from eq_true (by rw [e]; decide), e188_47, B188_47, ds]
  | j + 1, i, c, hi, hc => by
    have h64 : c < 2 ^ 64 := Nat.lt_of_lt_of_le hc (Nat.pow_le_pow_right (by decide) hG.2.1)
    have hc2 := nc_lt (F := I 110 6) (st := I 111) (fi := fi) (se := se) (dg := dg) (sb := sb) hc
    have h642 := Nat.lt_of_lt_of_le hc2 (Nat.pow_le_pow_right (show 0 < 2 by decide) hG.2.1)
    have ih := R188_10 hL hG hC j (i + 1) (nc (I 110 6) (I 111) n fi se dg sb c) (by omega) hc2
    rw [e188_10]
    simp only [B188_10, xSeq, i_push, i_load, i_iload, i_lload, i_dload, i_aload, i_istore, i_astore, i_lstore, i_dstore, i_iinc, i_ii, i_iiz, i_ll, i_llz, i_lli, i_li, i_i, i_l, i_i2l, i_l2i, i_dup, i_dup2, i_dup2w, i_dupx1, i_pop, i_pop2, i_goto, i_ifc, i_icmp, i_getI, i_getL, i_getR, i_putI, i_putZ, i_putL, i_putR, i_aldI, i_aldB, i_aldL, i_aldD, i_astI, i_astL, i_astD, i_alen, i_ret, i_iret, i_zret, i_lret, i_fret, i_dret, i_aret, i_invS0, i_invV0, i_m2, i_m1, i_ml, i_obj, lk, lkp, stf1, stf2, Value.category, rV, xTo, lv_args, xCk, xCat, xRc, xAk, hg_S, hg_I, hg_J, hg_D, hg_R, hs_I, hs_J, hs_D, hs_R, uI_at, uJ_at, uD_at, uR_at, List.take_succ_cons, List.take_zero, List.drop_succ_cons, List.drop_zero, List.reverse_cons, List.reverse_nil, List.nil_append, List.cons_append, List.map_cons, List.map_nil, List.sum_cons, List.sum_nil, List.length_cons, List.length_nil, Option.toList_some, Option.toList_none, true_and, and_true, false_and, and_false, true_implies, false_implies, implies_true, not_true_eq_false, not_false_eq_true, ne_eq, if_true, if_false, Bool.and_true, Bool.true_and, decide_true, decide_false, reduceIte, reduceCtorEq, Bool.and_self, Bool.and_eq_true, decide_eq_true_eq, and_self, true_or, or_true, false_or, or_false, Nat.zero_add, Nat.add_zero, eq_self, Nat.reduceEqDiff, Nat.reduceLeDiff, Nat.reduceLT, Nat.reduceAdd, Nat.reduceSub, Nat.reduceMul, show ((100000 : Int32) ≤ nI i) = False from eq_false (by rw [show (100000 : Int32) = nI 100000 from rfl]; exact nI_ge (by omega) (by decide)), LC_out hL, R93 hL hG hC h64, lN_cmp h642 h64, ds]
    by_cases h : nc (I 110 6) (I 111) n fi se dg sb c = c
    · simp only [h, true_and, and_true, false_and, and_false, true_implies, false_implies, implies_true, not_true_eq_false, not_false_eq_true, ne_eq, if_true, if_false, Bool.and_true, Bool.true_and, decide_true, decide_false, reduceIte, reduceCtorEq, Bool.and_self, Bool.and_eq_true, decide_eq_true_eq, and_self, true_or, or_true, false_or, or_false, Nat.zero_add, Nat.add_zero, eq_self, Nat.reduceEqDiff, Nat.reduceLeDiff, Nat.reduceLT, Nat.reduceAdd, Nat.reduceSub, Nat.reduceMul, e188_47, B188_47, xSeq, i_push, i_load, i_iload, i_lload, i_dload, i_aload, i_istore, i_astore, i_lstore, i_dstore, i_iinc, i_ii, i_iiz, i_ll, i_llz, i_lli, i_li, i_i, i_l, i_i2l, i_l2i, i_dup, i_dup2, i_dup2w, i_dupx1, i_pop, i_pop2, i_goto, i_ifc, i_icmp, i_getI, i_getL, i_getR, i_putI, i_putZ, i_putL, i_putR, i_aldI, i_aldB, i_aldL, i_aldD, i_astI, i_astL, i_astD, i_alen, i_ret, i_iret, i_zret, i_lret, i_fret, i_dret, i_aret, i_invS0, i_invV0, i_m2, i_m1, i_ml, i_obj, lk, lkp, stf1, stf2, Value.category, rV, xTo, lv_args, xCk, xCat, xRc, xAk, hg_S, hg_I, hg_J, hg_D, hg_R, hs_I, hs_J, hs_D, hs_R, uI_at, uJ_at, uD_at, uR_at, List.take_succ_cons, List.take_zero, List.drop_succ_cons, List.drop_zero, List.reverse_cons, List.reverse_nil, List.nil_append, List.cons_append, List.map_cons, List.map_nil, List.sum_cons, List.sum_nil, List.length_cons, List.length_nil, Option.toList_some, Option.toList_none]
    · simp only [h, true_and, and_true, false_and, and_false, true_implies, false_implies, implies_true, not_true_eq_false, not_false_eq_true, ne_eq, if_true, if_false, Bool.and_true, Bool.true_and, decide_true, decide_false, reduceIte, reduceCtorEq, Bool.and_self, Bool.and_eq_true, decide_eq_true_eq, and_self, true_or, or_true, false_or, or_false, Nat.zero_add, Nat.add_zero, eq_self, Nat.reduceEqDiff, Nat.reduceLeDiff, Nat.reduceLT, Nat.reduceAdd, Nat.reduceSub, Nat.reduceMul, e188_38, B188_38, xSeq, i_push, i_load, i_iload, i_lload, i_dload, i_aload, i_istore, i_astore, i_lstore, i_dstore, i_iinc, i_ii, i_iiz, i_ll, i_llz, i_lli, i_li, i_i, i_l, i_i2l, i_l2i, i_dup, i_dup2, i_dup2w, i_dupx1, i_pop, i_pop2, i_goto, i_ifc, i_icmp, i_getI, i_getL, i_getR, i_putI, i_putZ, i_putL, i_putR, i_aldI, i_aldB, i_aldL, i_aldD, i_astI, i_astL, i_astD, i_alen, i_ret, i_iret, i_zret, i_lret, i_fret, i_dret, i_aret, i_invS0, i_invV0, i_m2, i_m1, i_ml, i_obj, lk, lkp, stf1, stf2, Value.category, rV, xTo, lv_args, xCk, xCat, xRc, xAk, hg_S, hg_I, hg_J, hg_D, hg_R, hs_I, hs_J, hs_D, hs_R, uI_at, uJ_at, uD_at, uR_at, List.take_succ_cons, List.take_zero, List.drop_succ_cons, List.drop_zero, List.reverse_cons, List.reverse_nil, List.nil_append, List.cons_append, List.map_cons, List.map_nil, List.sum_cons, List.sum_nil, List.length_cons, List.length_nil, Option.toList_some, Option.toList_none, nI_1]
      exact ih
theorem R188_z (hL : LC S R) (hG : GR n m fi se dg sb) (hC : CL I n m fi se dg sb) {c : Nat} (hc : c < 2 ^ n) : xRun xT 188 10 [(0, .ref 100), (3, .long (lN c)), (5, .int 0)] [] (S, I, J, D, R) b Q = Q (.ok (some (.long (lN (ds (nc (I 110 6) (I 111) n fi se dg sb) 100000 c).1)))) (S, I, J, D, R) b := by
  obtain ⟨r, hr⟩ : ∃ r : Nat, r = 100000 := ⟨_, rfl⟩
  have h := R188_10 (J := J) (D := D) (b := b) (Q := Q) hL hG hC r 0 c (by omega) hc
  rw [nI_0, hr] at h
  exact h
theorem R268_18 (hL : LM S R) (hG : GR n m fi se dg sb) (hC : CM I n m fi se dg sb) {c : Nat} (hc : c < 2 ^ 64) (hJ : J 200 39 = lN c) : ∀ (j i : Nat), i + j = n → xRun xT 268 18 [(0, .ref 200), (3, .int (bm (dl (I 300 4) (fun k => I 300 (16 + k)) fi se dg sb c) i).2), (4, .int (bm (dl (I 300 4) (fun k => I 300 (16 + k)) fi se dg sb c) i).1), (5, .int (nI i))] [] (S, I, J, D, R) b Q = xRun xT 268 65 [(0, .ref 200), (3, .int (bm (dl (I 300 4) (fun k => I 300 (16 + k)) fi se dg sb c) n).2)] [] (S, I, J, D, R) b Q
  | 0, i, hi => by
    have g1 := hG.2.1
    have c1 := hC.1
    have e : i = n := by omega
    subst e
    rw [e268_18]
    simp only [B268_18, xSeq, i_push, i_load, i_iload, i_lload, i_dload, i_aload, i_istore, i_astore, i_lstore, i_dstore, i_iinc, i_ii, i_iiz, i_ll, i_llz, i_lli, i_li, i_i, i_l, i_i2l, i_l2i, i_dup, i_dup2, i_dup2w, i_dupx1, i_pop, i_pop2, i_goto, i_ifc, i_icmp, i_getI, i_getL, i_getR, i_putI, i_putZ, i_putL, i_putR, i_aldI, i_aldB, i_aldL, i_aldD, i_astI, i_astL, i_astD, i_alen, i_ret, i_iret, i_zret, i_lret, i_fret, i_dret, i_aret, i_invS0, i_invV0, i_m2, i_m1, i_ml, i_obj, lk, lkp, stf1, stf2, Value.category, rV, xTo, lv_args, xCk, xCat, xRc, xAk, hg_S, hg_I, hg_J, hg_D, hg_R, hs_I, hs_J, hs_D, hs_R, uI_at, uJ_at, uD_at, uR_at, List.take_succ_cons, List.take_zero, List.drop_succ_cons, List.drop_zero, List.reverse_cons, List.reverse_nil, List.nil_append, List.cons_append, List.map_cons, List.map_nil, List.sum_cons, List.sum_nil, List.length_cons, List.length_nil, Option.toList_some, Option.toList_none, true_and, and_true, false_and, and_false, true_implies, false_implies, implies_true, not_true_eq_false, not_false_eq_true, ne_eq, if_true, if_false, Bool.and_true, Bool.true_and, decide_true, decide_false, reduceIte, reduceCtorEq, Bool.and_self, Bool.and_eq_true, decide_eq_true_eq, and_self, true_or, or_true, false_or, or_false, Nat.zero_add, Nat.add_zero, eq_self, Nat.reduceEqDiff, Nat.reduceLeDiff, Nat.reduceLT, Nat.reduceAdd, Nat.reduceSub, Nat.reduceMul, LM_out hL, xi144_0, ix_0, xi144_1, ix_1, xi144_2, ix_2, xi144_3, ix_3, xi144_4, ix_4, xi144_5, ix_5, xi144_6, ix_6, xi144_7, ix_7, xi144_8, ix_8, xi144_9, ix_9, xi144_10, ix_10, c1, nI_leP (show i < 2147483648 by omega) (show i < 2147483648 by omega), Nat.le_refl]
  | j + 1, i, hi => by
    have g1 := hG.2.1
    have c1 := hC.1
    have ih := R268_18 hL hG hC hc hJ j (i + 1) (by omega)
    rw [bm] at ih
    rw [e268_18]
    simp only [B268_18, xSeq, i_push, i_load, i_iload, i_lload, i_dload, i_aload, i_istore, i_astore, i_lstore, i_dstore, i_iinc, i_ii, i_iiz, i_ll, i_llz, i_lli, i_li, i_i, i_l, i_i2l, i_l2i, i_dup, i_dup2, i_dup2w, i_dupx1, i_pop, i_pop2, i_goto, i_ifc, i_icmp, i_getI, i_getL, i_getR, i_putI, i_putZ, i_putL, i_putR, i_aldI, i_aldB, i_aldL, i_aldD, i_astI, i_astL, i_astD, i_alen, i_ret, i_iret, i_zret, i_lret, i_fret, i_dret, i_aret, i_invS0, i_invV0, i_m2, i_m1, i_ml, i_obj, lk, lkp, stf1, stf2, Value.category, rV, xTo, lv_args, xCk, xCat, xRc, xAk, hg_S, hg_I, hg_J, hg_D, hg_R, hs_I, hs_J, hs_D, hs_R, uI_at, uJ_at, uD_at, uR_at, List.take_succ_cons, List.take_zero, List.drop_succ_cons, List.drop_zero, List.reverse_cons, List.reverse_nil, List.nil_append, List.cons_append, List.map_cons, List.map_nil, List.sum_cons, List.sum_nil, List.length_cons, List.length_nil, Option.toList_some, Option.toList_none, true_and, and_true, false_and, and_false, true_implies, false_implies, implies_true, not_true_eq_false, not_false_eq_true, ne_eq, if_true, if_false, Bool.and_true, Bool.true_and, decide_true, decide_false, reduceIte, reduceCtorEq, Bool.and_self, Bool.and_eq_true, decide_eq_true_eq, and_self, true_or, or_true, false_or, or_false, Nat.zero_add, Nat.add_zero, eq_self, Nat.reduceEqDiff, Nat.reduceLeDiff, Nat.reduceLT, Nat.reduceAdd, Nat.reduceSub, Nat.reduceMul, LM_out hL, xi144_0, ix_0, xi144_1, ix_1, xi144_2, ix_2, xi144_3, ix_3, xi144_4, ix_4, xi144_5, ix_5, xi144_6, ix_6, xi144_7, ix_7, xi144_8, ix_8, xi144_9, ix_9, xi144_10, ix_10, c1, hJ, nI_leP (show n < 2147483648 by omega) (show i < 2147483648 by omega), show (n ≤ i) = False from eq_false (by omega), R257 hL hG hC hc (show i < n by omega), e268_52, B268_52, e268_59, B268_59, nI_1]
    by_cases h : dl (I 300 4) (fun k => I 300 (16 + k)) fi se dg sb c i < (bm (dl (I 300 4) (fun k => I 300 (16 + k)) fi se dg sb c) i).1
    · rw [if_pos h] at ih
      simp only [h, true_and, and_true, false_and, and_false, true_implies, false_implies, implies_true, not_true_eq_false, not_false_eq_true, ne_eq, if_true, if_false, Bool.and_true, Bool.true_and, decide_true, decide_false, reduceIte, reduceCtorEq, Bool.and_self, Bool.and_eq_true, decide_eq_true_eq, and_self, true_or, or_true, false_or, or_false, Nat.zero_add, Nat.add_zero, eq_self, Nat.reduceEqDiff, Nat.reduceLeDiff, Nat.reduceLT, Nat.reduceAdd, Nat.reduceSub, Nat.reduceMul]
      exact ih
    · rw [if_neg h] at ih
      simp only [h, true_and, and_true, false_and, and_false, true_implies, false_implies, implies_true, not_true_eq_false, not_false_eq_true, ne_eq, if_true, if_false, Bool.and_true, Bool.true_and, decide_true, decide_false, reduceIte, reduceCtorEq, Bool.and_self, Bool.and_eq_true, decide_eq_true_eq, and_self, true_or, or_true, false_or, or_false, Nat.zero_add, Nat.add_zero, eq_self, Nat.reduceEqDiff, Nat.reduceLeDiff, Nat.reduceLT, Nat.reduceAdd, Nat.reduceSub, Nat.reduceMul]
      exact ih
theorem R268_10 (hL : LM S R) (hG : GR n m fi se dg sb) (hN : GN n m fi se dg sb) (hC : CM I n m fi se dg sb) (hs : SB (I 300 4) (fun k => I 300 (16 + k)) m) : ∀ (r k c : Nat), c < 2 ^ n → mu (I 300 4) (fun k => I 300 (16 + k)) n m fi se c < r → xRun xT 268 10 [(0, .ref 200)] [] (S, uI I 200 38 (nI k), uJ J 200 39 (lN c), D, R) b Q = Q (.ok none) (S, uI I 200 38 (nI (k + (ds (nc (I 300 4) (fun k => I 300 (16 + k)) n fi se dg sb) r c).2)), uJ J 200 39 (lN (ds (nc (I 300 4) (fun k => I 300 (16 + k)) n fi se dg sb) r c).1), D, R) b
  | 0, k, c, hc, hm => absurd hm (Nat.not_lt_zero _)
  | r + 1, k, c, hc, hm => by
    have h64 : c < 2 ^ 64 := Nat.lt_of_lt_of_le hc (Nat.pow_le_pow_right (by decide) hG.2.1)
    have hc2 := nc_lt (F := I 300 4) (st := fun k => I 300 (16 + k)) (fi := fi) (se := se) (dg := dg) (sb := sb) hc
    have h18 := R268_18 (I := uI I 200 38 (nI k)) (J := uJ J 200 39 (lN c)) (D := D) (b := b) (Q := Q) hL hG (CM_u hC (by decide)) h64 (by simp only [uJ_at, true_and, and_true, false_and, and_false, true_implies, false_implies, implies_true, not_true_eq_false, not_false_eq_true, ne_eq, if_true, if_false, Bool.and_true, Bool.true_and, decide_true, decide_false, reduceIte, reduceCtorEq, Bool.and_self, Bool.and_eq_true, decide_eq_true_eq, and_self, true_or, or_true, false_or, or_false, Nat.zero_add, Nat.add_zero, eq_self, Nat.reduceEqDiff, Nat.reduceLeDiff, Nat.reduceLT, Nat.reduceAdd, Nat.reduceSub, Nat.reduceMul]) n 0 (by omega)
    rw [nI_0] at h18
    have eF : uI I 200 38 (nI k) 300 4 = I 300 4 := rfl
    have eS : (fun j => uI I 200 38 (nI k) 300 (16 + j)) = fun j => I 300 (16 + j) := rfl
    rw [eF, eS, bm] at h18
    rw [e268_10]
    simp only [B268_10, xSeq, i_push, i_load, i_iload, i_lload, i_dload, i_aload, i_istore, i_astore, i_lstore, i_dstore, i_iinc, i_ii, i_iiz, i_ll, i_llz, i_lli, i_li, i_i, i_l, i_i2l, i_l2i, i_dup, i_dup2, i_dup2w, i_dupx1, i_pop, i_pop2, i_goto, i_ifc, i_icmp, i_getI, i_getL, i_getR, i_putI, i_putZ, i_putL, i_putR, i_aldI, i_aldB, i_aldL, i_aldD, i_astI, i_astL, i_astD, i_alen, i_ret, i_iret, i_zret, i_lret, i_fret, i_dret, i_aret, i_invS0, i_invV0, i_m2, i_m1, i_ml, i_obj, lk, lkp, stf1, stf2, Value.category, rV, xTo, lv_args, xCk, xCat, xRc, xAk, hg_S, hg_I, hg_J, hg_D, hg_R, hs_I, hs_J, hs_D, hs_R, uI_at, uJ_at, uD_at, uR_at, List.take_succ_cons, List.take_zero, List.drop_succ_cons, List.drop_zero, List.reverse_cons, List.reverse_nil, List.nil_append, List.cons_append, List.map_cons, List.map_nil, List.sum_cons, List.sum_nil, List.length_cons, List.length_nil, Option.toList_some, Option.toList_none, true_and, and_true, false_and, and_false, true_implies, false_implies, implies_true, not_true_eq_false, not_false_eq_true, ne_eq, if_true, if_false, Bool.and_true, Bool.true_and, decide_true, decide_false, reduceIte, reduceCtorEq, Bool.and_self, Bool.and_eq_true, decide_eq_true_eq, and_self, true_or, or_true, false_or, or_false, Nat.zero_add, Nat.add_zero, eq_self, Nat.reduceEqDiff, Nat.reduceLeDiff, Nat.reduceLT, Nat.reduceAdd, Nat.reduceSub, Nat.reduceMul, h18, e268_65, B268_65]
    rcases bs_bm (dl (I 300 4) (fun k => I 300 (16 + k)) fi se dg sb c) c n with ⟨t, h1, h2, h3, h4⟩ | ⟨h2, h3⟩
    · have e1 : nc (I 300 4) (fun k => I 300 (16 + k)) n fi se dg sb c = c ^^^ 2 ^ t := by unfold nc; rw [h3]
      have h5 : nc (I 300 4) (fun k => I 300 (16 + k)) n fi se dg sb c ≠ c := by rw [e1]; exact xor_ne c t
      have h6 := mu_nc hs hG hN h5
      have ih := R268_10 hL hG hN hC hs r (k + 1) _ hc2 (by omega)
      have h7 : (nI t = -1) = False := eq_false (fun e => by
        have := congrArg Int32.toInt e
        rw [nI_toInt (by have := hG.2.1; omega)] at this
        have h9 : (-1 : Int32).toInt = -1 := rfl
        omega)
      simp only [h2, h7, ne_eq, not_false_eq_true, xSeq, i_push, i_load, i_iload, i_lload, i_dload, i_aload, i_istore, i_astore, i_lstore, i_dstore, i_iinc, i_ii, i_iiz, i_ll, i_llz, i_lli, i_li, i_i, i_l, i_i2l, i_l2i, i_dup, i_dup2, i_dup2w, i_dupx1, i_pop, i_pop2, i_goto, i_ifc, i_icmp, i_getI, i_getL, i_getR, i_putI, i_putZ, i_putL, i_putR, i_aldI, i_aldB, i_aldL, i_aldD, i_astI, i_astL, i_astD, i_alen, i_ret, i_iret, i_zret, i_lret, i_fret, i_dret, i_aret, i_invS0, i_invV0, i_m2, i_m1, i_ml, i_obj, lk, lkp, stf1, stf2, Value.category, rV, xTo, lv_args, xCk, xCat, xRc, xAk, hg_S, hg_I, hg_J, hg_D, hg_R, hs_I, hs_J, hs_D, hs_R, uI_at, uJ_at, uD_at, uR_at, List.take_succ_cons, List.take_zero, List.drop_succ_cons, List.drop_zero, List.reverse_cons, List.reverse_nil, List.nil_append, List.cons_append, List.map_cons, List.map_nil, List.sum_cons, List.sum_nil, List.length_cons, List.length_nil, Option.toList_some, Option.toList_none, true_and, and_true, false_and, and_false, true_implies, false_implies, implies_true, not_true_eq_false, not_false_eq_true, ne_eq, if_true, if_false, Bool.and_true, Bool.true_and, decide_true, decide_false, reduceIte, reduceCtorEq, Bool.and_self, Bool.and_eq_true, decide_eq_true_eq, and_self, true_or, or_true, false_or, or_false, Nat.zero_add, Nat.add_zero, eq_self, Nat.reduceEqDiff, Nat.reduceLeDiff, Nat.reduceLT, Nat.reduceAdd, Nat.reduceSub, Nat.reduceMul, e268_71, B268_71, LM_out hL, q_1shlL (show t < 64 by have := hG.2.1; omega), q_xor, nI_1, uI_uI, uJ_uJ]
      rw [ds, if_neg h5, ← e1]
      show xRun xT 268 10 [(0, .ref 200)] [] (S, uI I 200 38 (nI (k + 1)), uJ J 200 39 (lN (nc (I 300 4) (fun k => I 300 (16 + k)) n fi se dg sb c)), D, R) b Q = _
      rw [ih]
      show Q (.ok none) (S, uI I 200 38 (nI (k + 1 + (ds (nc (I 300 4) (fun k => I 300 (16 + k)) n fi se dg sb) r (nc (I 300 4) (fun k => I 300 (16 + k)) n fi se dg sb c)).2)), uJ J 200 39 (lN (ds (nc (I 300 4) (fun k => I 300 (16 + k)) n fi se dg sb) r (nc (I 300 4) (fun k => I 300 (16 + k)) n fi se dg sb c)).1), D, R) b = _
      rw [show k + 1 + (ds (nc (I 300 4) (fun k => I 300 (16 + k)) n fi se dg sb) r (nc (I 300 4) (fun k => I 300 (16 + k)) n fi se dg sb c)).2 = k + ((ds (nc (I 300 4) (fun k => I 300 (16 + k)) n fi se dg sb) r (nc (I 300 4) (fun k => I 300 (16 + k)) n fi se dg sb c)).2 + 1) by omega]
    · have e1 : nc (I 300 4) (fun k => I 300 (16 + k)) n fi se dg sb c = c := by unfold nc; rw [h3]
      simp only [h2, ne_eq, not_true_eq_false, xSeq, i_push, i_load, i_iload, i_lload, i_dload, i_aload, i_istore, i_astore, i_lstore, i_dstore, i_iinc, i_ii, i_iiz, i_ll, i_llz, i_lli, i_li, i_i, i_l, i_i2l, i_l2i, i_dup, i_dup2, i_dup2w, i_dupx1, i_pop, i_pop2, i_goto, i_ifc, i_icmp, i_getI, i_getL, i_getR, i_putI, i_putZ, i_putL, i_putR, i_aldI, i_aldB, i_aldL, i_aldD, i_astI, i_astL, i_astD, i_alen, i_ret, i_iret, i_zret, i_lret, i_fret, i_dret, i_aret, i_invS0, i_invV0, i_m2, i_m1, i_ml, i_obj, lk, lkp, stf1, stf2, Value.category, rV, xTo, lv_args, xCk, xCat, xRc, xAk, hg_S, hg_I, hg_J, hg_D, hg_R, hs_I, hs_J, hs_D, hs_R, uI_at, uJ_at, uD_at, uR_at, List.take_succ_cons, List.take_zero, List.drop_succ_cons, List.drop_zero, List.reverse_cons, List.reverse_nil, List.nil_append, List.cons_append, List.map_cons, List.map_nil, List.sum_cons, List.sum_nil, List.length_cons, List.length_nil, Option.toList_some, Option.toList_none, true_and, and_true, false_and, and_false, true_implies, false_implies, implies_true, not_true_eq_false, not_false_eq_true, ne_eq, if_true, if_false, Bool.and_true, Bool.true_and, decide_true, decide_false, reduceIte, reduceCtorEq, Bool.and_self, Bool.and_eq_true, decide_eq_true_eq, and_self, true_or, or_true, false_or, or_false, Nat.zero_add, Nat.add_zero, eq_self, Nat.reduceEqDiff, Nat.reduceLeDiff, Nat.reduceLT, Nat.reduceAdd, Nat.reduceSub, Nat.reduceMul, ds, e1]
theorem R268 (hL : LM S R) (hG : GR n m fi se dg sb) (hN : GN n m fi se dg sb) (hC : CM I n m fi se dg sb) (hs : SB (I 300 4) (fun k => I 300 (16 + k)) m) {c : Nat} (hc : c < 2 ^ n) : xRun xT 268 0 [(0, .ref 200), (1, .long (lN c))] [] (S, I, J, D, R) b Q = Q (.ok none) (S, uI I 200 38 (nI (ds (nc (I 300 4) (fun k => I 300 (16 + k)) n fi se dg sb) 100000 c).2), uJ J 200 39 (lN (ds (nc (I 300 4) (fun k => I 300 (16 + k)) n fi se dg sb) 100000 c).1), D, R) b := by
  have b1 := en_bd (fi := fi) (se := se) hs hG.2.1 hG.2.2.1 c
  have hm : mu (I 300 4) (fun k => I 300 (16 + k)) n m fi se c < 100000 := by
    unfold mu
    omega
  obtain ⟨r, hr⟩ : ∃ r : Nat, r = 100000 := ⟨_, rfl⟩
  rw [← hr] at hm ⊢
  have h := R268_10 (J := J) (D := D) (b := b) (Q := Q) hL hG hN hC hs r 0 c hc hm
  rw [Nat.zero_add, nI_0] at h
  rw [e268_0]
  simp only [B268_0, xSeq, i_push, i_load, i_iload, i_lload, i_dload, i_aload, i_istore, i_astore, i_lstore, i_dstore, i_iinc, i_ii, i_iiz, i_ll, i_llz, i_lli, i_li, i_i, i_l, i_i2l, i_l2i, i_dup, i_dup2, i_dup2w, i_dupx1, i_pop, i_pop2, i_goto, i_ifc, i_icmp, i_getI, i_getL, i_getR, i_putI, i_putZ, i_putL, i_putR, i_aldI, i_aldB, i_aldL, i_aldD, i_astI, i_astL, i_astD, i_alen, i_ret, i_iret, i_zret, i_lret, i_fret, i_dret, i_aret, i_invS0, i_invV0, i_m2, i_m1, i_ml, i_obj, lk, lkp, stf1, stf2, Value.category, rV, xTo, lv_args, xCk, xCat, xRc, xAk, hg_S, hg_I, hg_J, hg_D, hg_R, hs_I, hs_J, hs_D, hs_R, uI_at, uJ_at, uD_at, uR_at, List.take_succ_cons, List.take_zero, List.drop_succ_cons, List.drop_zero, List.reverse_cons, List.reverse_nil, List.nil_append, List.cons_append, List.map_cons, List.map_nil, List.sum_cons, List.sum_nil, List.length_cons, List.length_nil, Option.toList_some, Option.toList_none, true_and, and_true, false_and, and_false, true_implies, false_implies, implies_true, not_true_eq_false, not_false_eq_true, ne_eq, if_true, if_false, Bool.and_true, Bool.true_and, decide_true, decide_false, reduceIte, reduceCtorEq, Bool.and_self, Bool.and_eq_true, decide_eq_true_eq, and_self, true_or, or_true, false_or, or_false, Nat.zero_add, Nat.add_zero, eq_self, Nat.reduceEqDiff, Nat.reduceLeDiff, Nat.reduceLT, Nat.reduceAdd, Nat.reduceSub, Nat.reduceMul, LM_out hL]
  exact h
end
/-! ===== descents: printed by 99h.dcases.py ===== -/
section
theorem bs_congr {d e : Nat → Int32} {c : Nat} : ∀ {i : Nat}, (∀ k, k < i → d k = e k) → bs d c i = bs e c i
  | 0, _ => rfl
  | i + 1, h => by rw [bs, bs, bs_congr (fun k hk => h k (Nat.lt_succ_of_lt hk)), h i (Nat.lt_succ_self i)]
theorem nc_congr {F : Int32} {st st' : Nat → Int32} {n m : Nat} {fi se dg : Nat → Nat} {sb : Nat → Nat → Nat} (hG : GR n m fi se dg sb) (h : ∀ k, k < m → st k = st' k) : nc F st n fi se dg sb = nc F st' n fi se dg sb := by
  funext c
  unfold nc
  rw [bs_congr (fun k hk => dl_congr hG c hk h)]
end
/-! ===== appendInput ===== -/
section
variable {S : xS} {I : xI} {J : xJ} {D : xDb} {R : xR} {b : Nat × Nat} {Q : xQ}
def p1B (I : xI) (k : Nat) (v : Int32) : xI := uI (uI I 101 k v) 100 1 (nI (k + 1))
def bW (w sh : Int32) : Int32 := vp_nar .byte (jI2b (jShr w sh))
theorem p1B_at (I : xI) (k : Nat) (v : Int32) (o j : Nat) : p1B I k v o j = if o = 100 ∧ j = 1 then nI (k + 1) else if o = 101 ∧ j = k then v else I o j := rfl
theorem R119_3 (hL : LC S R) {k : Nat} (h1 : I 100 1 = nI k) (hk : k < 600) {w sh : Int32} (hs : (sh < 0) = False) : xRun xT 119 3 [(0, .ref 100), (1, .int w), (2, .int sh)] [] (S, I, J, D, R) b Q = xRun xT 119 3 [(0, .ref 100), (1, .int w), (2, .int (sh + -8))] [] (S, p1B I k (bW w sh), J, D, R) b Q := by
  rw [e119_3]
  simp only [B119_3, xSeq, i_push, i_load, i_iload, i_lload, i_dload, i_aload, i_istore, i_astore, i_lstore, i_dstore, i_iinc, i_ii, i_iiz, i_ll, i_llz, i_lli, i_li, i_i, i_l, i_i2l, i_l2i, i_dup, i_dup2, i_dup2w, i_dupx1, i_pop, i_pop2, i_goto, i_ifc, i_icmp, i_getI, i_getL, i_getR, i_putI, i_putZ, i_putL, i_putR, i_aldI, i_aldB, i_aldL, i_aldD, i_astI, i_astL, i_astD, i_alen, i_ret, i_iret, i_zret, i_lret, i_fret, i_dret, i_aret, i_invS0, i_invV0, i_m2, i_m1, i_ml, i_obj, lk, lkp, stf1, stf2, Value.category, rV, xTo, lv_args, xCk, xCat, xRc, xAk, hg_S, hg_I, hg_J, hg_D, hg_R, hs_I, hs_J, hs_D, hs_R, uI_at, uJ_at, uD_at, uR_at, List.take_succ_cons, List.take_zero, List.drop_succ_cons, List.drop_zero, List.reverse_cons, List.reverse_nil, List.nil_append, List.cons_append, List.map_cons, List.map_nil, List.sum_cons, List.sum_nil, List.length_cons, List.length_nil, Option.toList_some, Option.toList_none, true_and, and_true, false_and, and_false, true_implies, false_implies, implies_true, not_true_eq_false, not_false_eq_true, ne_eq, if_true, if_false, Bool.and_true, Bool.true_and, decide_true, decide_false, reduceIte, reduceCtorEq, Bool.and_self, Bool.and_eq_true, decide_eq_true_eq, and_self, true_or, or_true, false_or, or_false, Nat.zero_add, Nat.add_zero, eq_self, Nat.reduceEqDiff, Nat.reduceLeDiff, Nat.reduceLT, Nat.reduceAdd, Nat.reduceSub, Nat.reduceMul, LC_out hL, h1, hs, nI_leP (show 600 < 2147483648 by decide) (show k < 2147483648 by omega), show (600 ≤ k) = False from eq_false (by omega), nI_inP hk (by decide), nI_ix (show k < 2147483648 by omega), e119_42, B119_42, nI_1, show ((100 ≤ 103 ∧ 103 < 106) ∨ 103 = 107 ∨ 103 = 108) = True from eq_true (by decide)]
  rfl
/-- a word written -/
def pW (I : xI) (k : Nat) (w : Int32) : xI := p1B (p1B (p1B (p1B I k (bW w 24)) (k + 1) (bW w (24 + -8))) (k + 1 + 1) (bW w (24 + -8 + -8))) (k + 1 + 1 + 1) (bW w (24 + -8 + -8 + -8))
theorem pW_n (I : xI) (k : Nat) (w : Int32) : pW I k w 100 1 = nI (k + 4) := rfl
theorem pW_fr (I : xI) (k : Nat) (w : Int32) {o j : Nat} (h : o ≠ 101) (h2 : ¬ (o = 100 ∧ j = 1)) : pW I k w o j = I o j := by
  have e1 : (o = 101) = False := eq_false h
  have e2 : (o = 100 ∧ j = 1) = False := eq_false h2
  unfold pW
  simp only [p1B_at, e1, e2, false_and, if_false]
theorem p1B_n (I : xI) (k : Nat) (v : Int32) : p1B I k v 100 1 = nI (k + 1) := rfl
theorem R119 (hL : LC S R) {k : Nat} (h1 : I 100 1 = nI k) (hk : k + 4 ≤ 600) {w : Int32} : xRun xT 119 0 [(0, .ref 100), (1, .int w)] [] (S, I, J, D, R) b Q = Q (.ok none) (S, pW I k w, J, D, R) b := by
  rw [e119_0]
  simp only [B119_0, xSeq, i_push, i_load, i_iload, i_lload, i_dload, i_aload, i_istore, i_astore, i_lstore, i_dstore, i_iinc, i_ii, i_iiz, i_ll, i_llz, i_lli, i_li, i_i, i_l, i_i2l, i_l2i, i_dup, i_dup2, i_dup2w, i_dupx1, i_pop, i_pop2, i_goto, i_ifc, i_icmp, i_getI, i_getL, i_getR, i_putI, i_putZ, i_putL, i_putR, i_aldI, i_aldB, i_aldL, i_aldD, i_astI, i_astL, i_astD, i_alen, i_ret, i_iret, i_zret, i_lret, i_fret, i_dret, i_aret, i_invS0, i_invV0, i_m2, i_m1, i_ml, i_obj, lk, lkp, stf1, stf2, Value.category, rV, xTo, lv_args, xCk, xCat, xRc, xAk, hg_S, hg_I, hg_J, hg_D, hg_R, hs_I, hs_J, hs_D, hs_R, uI_at, uJ_at, uD_at, uR_at, List.take_succ_cons, List.take_zero, List.drop_succ_cons, List.drop_zero, List.reverse_cons, List.reverse_nil, List.nil_append, List.cons_append, List.map_cons, List.map_nil, List.sum_cons, List.sum_nil, List.length_cons, List.length_nil, Option.toList_some, Option.toList_none, true_and, and_true, false_and, and_false, true_implies, false_implies, implies_true, not_true_eq_false, not_false_eq_true, ne_eq, if_true, if_false, Bool.and_true, Bool.true_and, decide_true, decide_false, reduceIte, reduceCtorEq, Bool.and_self, Bool.and_eq_true, decide_eq_true_eq, and_self, true_or, or_true, false_or, or_false, Nat.zero_add, Nat.add_zero, eq_self, Nat.reduceEqDiff, Nat.reduceLeDiff, Nat.reduceLT, Nat.reduceAdd, Nat.reduceSub, Nat.reduceMul]
  rw [R119_3 hL h1 (by omega) (by decide), R119_3 hL (p1B_n _ _ _) (by omega) (by decide), R119_3 hL (p1B_n _ _ _) (by omega) (by decide), R119_3 hL (p1B_n _ _ _) (by omega) (by decide), e119_3]
  simp only [B119_3, xSeq, i_push, i_load, i_iload, i_lload, i_dload, i_aload, i_istore, i_astore, i_lstore, i_dstore, i_iinc, i_ii, i_iiz, i_ll, i_llz, i_lli, i_li, i_i, i_l, i_i2l, i_l2i, i_dup, i_dup2, i_dup2w, i_dupx1, i_pop, i_pop2, i_goto, i_ifc, i_icmp, i_getI, i_getL, i_getR, i_putI, i_putZ, i_putL, i_putR, i_aldI, i_aldB, i_aldL, i_aldD, i_astI, i_astL, i_astD, i_alen, i_ret, i_iret, i_zret, i_lret, i_fret, i_dret, i_aret, i_invS0, i_invV0, i_m2, i_m1, i_ml, i_obj, lk, lkp, stf1, stf2, Value.category, rV, xTo, lv_args, xCk, xCat, xRc, xAk, hg_S, hg_I, hg_J, hg_D, hg_R, hs_I, hs_J, hs_D, hs_R, uI_at, uJ_at, uD_at, uR_at, List.take_succ_cons, List.take_zero, List.drop_succ_cons, List.drop_zero, List.reverse_cons, List.reverse_nil, List.nil_append, List.cons_append, List.map_cons, List.map_nil, List.sum_cons, List.sum_nil, List.length_cons, List.length_nil, Option.toList_some, Option.toList_none, true_and, and_true, false_and, and_false, true_implies, false_implies, implies_true, not_true_eq_false, not_false_eq_true, ne_eq, if_true, if_false, Bool.and_true, Bool.true_and, decide_true, decide_false, reduceIte, reduceCtorEq, Bool.and_self, Bool.and_eq_true, decide_eq_true_eq, and_self, true_or, or_true, false_or, or_false, Nat.zero_add, Nat.add_zero, eq_self, Nat.reduceEqDiff, Nat.reduceLeDiff, Nat.reduceLT, Nat.reduceAdd, Nat.reduceSub, Nat.reduceMul, show ((24 : Int32) + -8 + -8 + -8 + -8 < 0) = True from eq_true (by decide), e119_48, B119_48]
  rfl
def pWs (I : xI) (k : Nat) (v w x y z : Int32) : xI := pW (pW (pW (pW (pW I k v) (k + 4) w) (k + 4 + 4) x) (k + 4 + 4 + 4) y) (k + 4 + 4 + 4 + 4) z
theorem R118 (hL : LC S R) {k : Nat} (h1 : I 100 1 = nI k) (hk : k + 20 ≤ 600) {v w x y z : Int32} : xRun xT 118 0 [(0, .ref 100), (1, .int v), (2, .int w), (3, .int x), (4, .int y), (5, .int z)] [] (S, I, J, D, R) b Q = Q (.ok (some (.int (nI (k + 20))))) (S, pWs I k v w x y z, J, D, R) b := by
  have e1 := fun (b : Nat × Nat) (Q : xQ) => R119 (J := J) (D := D) (b := b) (Q := Q) hL h1 (by omega) (w := v)
  have e2 := fun (b : Nat × Nat) (Q : xQ) => R119 (J := J) (D := D) (b := b) (Q := Q) hL (pW_n I k v) (by omega) (w := w)
  have e3 := fun (b : Nat × Nat) (Q : xQ) => R119 (J := J) (D := D) (b := b) (Q := Q) hL (pW_n (pW I k v) (k + 4) w) (by omega) (w := x)
  have e4 := fun (b : Nat × Nat) (Q : xQ) => R119 (J := J) (D := D) (b := b) (Q := Q) hL (pW_n (pW (pW I k v) (k + 4) w) (k + 4 + 4) x) (by omega) (w := y)
  have e5 := fun (b : Nat × Nat) (Q : xQ) => R119 (J := J) (D := D) (b := b) (Q := Q) hL (pW_n (pW (pW (pW I k v) (k + 4) w) (k + 4 + 4) x) (k + 4 + 4 + 4) y) (by omega) (w := z)
  rw [e118_0]
  simp only [B118_0, xSeq, i_push, i_load, i_iload, i_lload, i_dload, i_aload, i_istore, i_astore, i_lstore, i_dstore, i_iinc, i_ii, i_iiz, i_ll, i_llz, i_lli, i_li, i_i, i_l, i_i2l, i_l2i, i_dup, i_dup2, i_dup2w, i_dupx1, i_pop, i_pop2, i_goto, i_ifc, i_icmp, i_getI, i_getL, i_getR, i_putI, i_putZ, i_putL, i_putR, i_aldI, i_aldB, i_aldL, i_aldD, i_astI, i_astL, i_astD, i_alen, i_ret, i_iret, i_zret, i_lret, i_fret, i_dret, i_aret, i_invS0, i_invV0, i_m2, i_m1, i_ml, i_obj, lk, lkp, stf1, stf2, Value.category, rV, xTo, lv_args, xCk, xCat, xRc, xAk, hg_S, hg_I, hg_J, hg_D, hg_R, hs_I, hs_J, hs_D, hs_R, uI_at, uJ_at, uD_at, uR_at, List.take_succ_cons, List.take_zero, List.drop_succ_cons, List.drop_zero, List.reverse_cons, List.reverse_nil, List.nil_append, List.cons_append, List.map_cons, List.map_nil, List.sum_cons, List.sum_nil, List.length_cons, List.length_nil, Option.toList_some, Option.toList_none, true_and, and_true, false_and, and_false, true_implies, false_implies, implies_true, not_true_eq_false, not_false_eq_true, ne_eq, if_true, if_false, Bool.and_true, Bool.true_and, decide_true, decide_false, reduceIte, reduceCtorEq, Bool.and_self, Bool.and_eq_true, decide_eq_true_eq, and_self, true_or, or_true, false_or, or_false, Nat.zero_add, Nat.add_zero, eq_self, Nat.reduceEqDiff, Nat.reduceLeDiff, Nat.reduceLT, Nat.reduceAdd, Nat.reduceSub, Nat.reduceMul, LC_out hL, h1, show (nI k ≤ 580) = True from eq_true ((nI_leI (by omega) (by decide)).mpr (show k ≤ 580 by omega))]
  rw [e118_12]
  simp only [B118_12, xSeq, i_push, i_load, i_iload, i_lload, i_dload, i_aload, i_istore, i_astore, i_lstore, i_dstore, i_iinc, i_ii, i_iiz, i_ll, i_llz, i_lli, i_li, i_i, i_l, i_i2l, i_l2i, i_dup, i_dup2, i_dup2w, i_dupx1, i_pop, i_pop2, i_goto, i_ifc, i_icmp, i_getI, i_getL, i_getR, i_putI, i_putZ, i_putL, i_putR, i_aldI, i_aldB, i_aldL, i_aldD, i_astI, i_astL, i_astD, i_alen, i_ret, i_iret, i_zret, i_lret, i_fret, i_dret, i_aret, i_invS0, i_invV0, i_m2, i_m1, i_ml, i_obj, lk, lkp, stf1, stf2, Value.category, rV, xTo, lv_args, xCk, xCat, xRc, xAk, hg_S, hg_I, hg_J, hg_D, hg_R, hs_I, hs_J, hs_D, hs_R, uI_at, uJ_at, uD_at, uR_at, List.take_succ_cons, List.take_zero, List.drop_succ_cons, List.drop_zero, List.reverse_cons, List.reverse_nil, List.nil_append, List.cons_append, List.map_cons, List.map_nil, List.sum_cons, List.sum_nil, List.length_cons, List.length_nil, Option.toList_some, Option.toList_none, true_and, and_true, false_and, and_false, true_implies, false_implies, implies_true, not_true_eq_false, not_false_eq_true, ne_eq, if_true, if_false, Bool.and_true, Bool.true_and, decide_true, decide_false, reduceIte, reduceCtorEq, Bool.and_self, Bool.and_eq_true, decide_eq_true_eq, and_self, true_or, or_true, false_or, or_false, Nat.zero_add, Nat.add_zero, eq_self, Nat.reduceEqDiff, Nat.reduceLeDiff, Nat.reduceLT, Nat.reduceAdd, Nat.reduceSub, Nat.reduceMul, LC_out hL, e1, e2, e3, e4, e5, pW_n]
  rfl
def q1B (I : xI) (k : Nat) (v : Int32) : xI := uI (uI I 320 k v) 200 21 (nI (k + 1))
def cW (w sh : Int32) : Int32 := jShr w sh &&& 255
theorem q1B_at (I : xI) (k : Nat) (v : Int32) (o j : Nat) : q1B I k v o j = if o = 200 ∧ j = 21 then nI (k + 1) else if o = 320 ∧ j = k then v else I o j := rfl
theorem R203_3 (hL : LM S R) {k : Nat} (h1 : I 200 21 = nI k) (hk : k < 600) {w sh : Int32} (hs : (sh < 0) = False) : xRun xT 203 3 [(0, .ref 200), (1, .int w), (2, .int sh)] [] (S, I, J, D, R) b Q = xRun xT 203 3 [(0, .ref 200), (1, .int w), (2, .int (sh + -8))] [] (S, q1B I k (cW w sh), J, D, R) b Q := by
  rw [e203_3]
  simp only [B203_3, xSeq, i_push, i_load, i_iload, i_lload, i_dload, i_aload, i_istore, i_astore, i_lstore, i_dstore, i_iinc, i_ii, i_iiz, i_ll, i_llz, i_lli, i_li, i_i, i_l, i_i2l, i_l2i, i_dup, i_dup2, i_dup2w, i_dupx1, i_pop, i_pop2, i_goto, i_ifc, i_icmp, i_getI, i_getL, i_getR, i_putI, i_putZ, i_putL, i_putR, i_aldI, i_aldB, i_aldL, i_aldD, i_astI, i_astL, i_astD, i_alen, i_ret, i_iret, i_zret, i_lret, i_fret, i_dret, i_aret, i_invS0, i_invV0, i_m2, i_m1, i_ml, i_obj, lk, lkp, stf1, stf2, Value.category, rV, xTo, lv_args, xCk, xCat, xRc, xAk, hg_S, hg_I, hg_J, hg_D, hg_R, hs_I, hs_J, hs_D, hs_R, uI_at, uJ_at, uD_at, uR_at, List.take_succ_cons, List.take_zero, List.drop_succ_cons, List.drop_zero, List.reverse_cons, List.reverse_nil, List.nil_append, List.cons_append, List.map_cons, List.map_nil, List.sum_cons, List.sum_nil, List.length_cons, List.length_nil, Option.toList_some, Option.toList_none, true_and, and_true, false_and, and_false, true_implies, false_implies, implies_true, not_true_eq_false, not_false_eq_true, ne_eq, if_true, if_false, Bool.and_true, Bool.true_and, decide_true, decide_false, reduceIte, reduceCtorEq, Bool.and_self, Bool.and_eq_true, decide_eq_true_eq, and_self, true_or, or_true, false_or, or_false, Nat.zero_add, Nat.add_zero, eq_self, Nat.reduceEqDiff, Nat.reduceLeDiff, Nat.reduceLT, Nat.reduceAdd, Nat.reduceSub, Nat.reduceMul, LM_out hL, h1, hs, nI_inP hk (by decide), nI_ix (show k < 2147483648 by omega), nI_1]
  rfl
def qW (I : xI) (k : Nat) (w : Int32) : xI := q1B (q1B (q1B (q1B I k (cW w 24)) (k + 1) (cW w (24 + -8))) (k + 1 + 1) (cW w (24 + -8 + -8))) (k + 1 + 1 + 1) (cW w (24 + -8 + -8 + -8))
theorem qW_n (I : xI) (k : Nat) (w : Int32) : qW I k w 200 21 = nI (k + 4) := rfl
theorem q1B_n (I : xI) (k : Nat) (v : Int32) : q1B I k v 200 21 = nI (k + 1) := rfl
theorem R203 (hL : LM S R) {k : Nat} (h1 : I 200 21 = nI k) (hk : k + 4 ≤ 600) {w : Int32} : xRun xT 203 0 [(0, .ref 200), (1, .int w)] [] (S, I, J, D, R) b Q = Q (.ok none) (S, qW I k w, J, D, R) b := by
  rw [e203_0]
  simp only [B203_0, xSeq, i_push, i_load, i_iload, i_lload, i_dload, i_aload, i_istore, i_astore, i_lstore, i_dstore, i_iinc, i_ii, i_iiz, i_ll, i_llz, i_lli, i_li, i_i, i_l, i_i2l, i_l2i, i_dup, i_dup2, i_dup2w, i_dupx1, i_pop, i_pop2, i_goto, i_ifc, i_icmp, i_getI, i_getL, i_getR, i_putI, i_putZ, i_putL, i_putR, i_aldI, i_aldB, i_aldL, i_aldD, i_astI, i_astL, i_astD, i_alen, i_ret, i_iret, i_zret, i_lret, i_fret, i_dret, i_aret, i_invS0, i_invV0, i_m2, i_m1, i_ml, i_obj, lk, lkp, stf1, stf2, Value.category, rV, xTo, lv_args, xCk, xCat, xRc, xAk, hg_S, hg_I, hg_J, hg_D, hg_R, hs_I, hs_J, hs_D, hs_R, uI_at, uJ_at, uD_at, uR_at, List.take_succ_cons, List.take_zero, List.drop_succ_cons, List.drop_zero, List.reverse_cons, List.reverse_nil, List.nil_append, List.cons_append, List.map_cons, List.map_nil, List.sum_cons, List.sum_nil, List.length_cons, List.length_nil, Option.toList_some, Option.toList_none, true_and, and_true, false_and, and_false, true_implies, false_implies, implies_true, not_true_eq_false, not_false_eq_true, ne_eq, if_true, if_false, Bool.and_true, Bool.true_and, decide_true, decide_false, reduceIte, reduceCtorEq, Bool.and_self, Bool.and_eq_true, decide_eq_true_eq, and_self, true_or, or_true, false_or, or_false, Nat.zero_add, Nat.add_zero, eq_self, Nat.reduceEqDiff, Nat.reduceLeDiff, Nat.reduceLT, Nat.reduceAdd, Nat.reduceSub, Nat.reduceMul]
  rw [R203_3 hL h1 (by omega) (by decide), R203_3 hL (q1B_n _ _ _) (by omega) (by decide), R203_3 hL (q1B_n _ _ _) (by omega) (by decide), R203_3 hL (q1B_n _ _ _) (by omega) (by decide), e203_3]
  simp only [B203_3, xSeq, i_push, i_load, i_iload, i_lload, i_dload, i_aload, i_istore, i_astore, i_lstore, i_dstore, i_iinc, i_ii, i_iiz, i_ll, i_llz, i_lli, i_li, i_i, i_l, i_i2l, i_l2i, i_dup, i_dup2, i_dup2w, i_dupx1, i_pop, i_pop2, i_goto, i_ifc, i_icmp, i_getI, i_getL, i_getR, i_putI, i_putZ, i_putL, i_putR, i_aldI, i_aldB, i_aldL, i_aldD, i_astI, i_astL, i_astD, i_alen, i_ret, i_iret, i_zret, i_lret, i_fret, i_dret, i_aret, i_invS0, i_invV0, i_m2, i_m1, i_ml, i_obj, lk, lkp, stf1, stf2, Value.category, rV, xTo, lv_args, xCk, xCat, xRc, xAk, hg_S, hg_I, hg_J, hg_D, hg_R, hs_I, hs_J, hs_D, hs_R, uI_at, uJ_at, uD_at, uR_at, List.take_succ_cons, List.take_zero, List.drop_succ_cons, List.drop_zero, List.reverse_cons, List.reverse_nil, List.nil_append, List.cons_append, List.map_cons, List.map_nil, List.sum_cons, List.sum_nil, List.length_cons, List.length_nil, Option.toList_some, Option.toList_none, true_and, and_true, false_and, and_false, true_implies, false_implies, implies_true, not_true_eq_false, not_false_eq_true, ne_eq, if_true, if_false, Bool.and_true, Bool.true_and, decide_true, decide_false, reduceIte, reduceCtorEq, Bool.and_self, Bool.and_eq_true, decide_eq_true_eq, and_self, true_or, or_true, false_or, or_false, Nat.zero_add, Nat.add_zero, eq_self, Nat.reduceEqDiff, Nat.reduceLeDiff, Nat.reduceLT, Nat.reduceAdd, Nat.reduceSub, Nat.reduceMul, show ((24 : Int32) + -8 + -8 + -8 + -8 < 0) = True from eq_true (by decide), e203_39, B203_39]
  rfl
def qWs (I : xI) (k : Nat) (v w x y z : Int32) : xI := qW (qW (qW (qW (qW I k v) (k + 4) w) (k + 4 + 4) x) (k + 4 + 4 + 4) y) (k + 4 + 4 + 4 + 4) z
theorem R202 (hL : LM S R) {k : Nat} (h1 : I 200 21 = nI k) (hk : k + 20 ≤ 600) {v w x y z : Int32} : xRun xT 202 0 [(0, .ref 200), (1, .int v), (2, .int w), (3, .int x), (4, .int y), (5, .int z)] [] (S, I, J, D, R) b Q = Q (.ok (some (.int (nI (k + 20))))) (S, qWs (uI I 200 19 0) k v w x y z, J, D, R) b := by
  have h0 : uI I 200 19 0 200 21 = nI k := h1
  have e1 := fun (b : Nat × Nat) (Q : xQ) => R203 (J := J) (D := D) (b := b) (Q := Q) hL h0 (by omega) (w := v)
  have e2 := fun (b : Nat × Nat) (Q : xQ) => R203 (J := J) (D := D) (b := b) (Q := Q) hL (qW_n (uI I 200 19 0) k v) (by omega) (w := w)
  have e3 := fun (b : Nat × Nat) (Q : xQ) => R203 (J := J) (D := D) (b := b) (Q := Q) hL (qW_n (qW (uI I 200 19 0) k v) (k + 4) w) (by omega) (w := x)
  have e4 := fun (b : Nat × Nat) (Q : xQ) => R203 (J := J) (D := D) (b := b) (Q := Q) hL (qW_n (qW (qW (uI I 200 19 0) k v) (k + 4) w) (k + 4 + 4) x) (by omega) (w := y)
  have e5 := fun (b : Nat × Nat) (Q : xQ) => R203 (J := J) (D := D) (b := b) (Q := Q) hL (qW_n (qW (qW (qW (uI I 200 19 0) k v) (k + 4) w) (k + 4 + 4) x) (k + 4 + 4 + 4) y) (by omega) (w := z)
  rw [e202_0]
  simp only [B202_0, xSeq, i_push, i_load, i_iload, i_lload, i_dload, i_aload, i_istore, i_astore, i_lstore, i_dstore, i_iinc, i_ii, i_iiz, i_ll, i_llz, i_lli, i_li, i_i, i_l, i_i2l, i_l2i, i_dup, i_dup2, i_dup2w, i_dupx1, i_pop, i_pop2, i_goto, i_ifc, i_icmp, i_getI, i_getL, i_getR, i_putI, i_putZ, i_putL, i_putR, i_aldI, i_aldB, i_aldL, i_aldD, i_astI, i_astL, i_astD, i_alen, i_ret, i_iret, i_zret, i_lret, i_fret, i_dret, i_aret, i_invS0, i_invV0, i_m2, i_m1, i_ml, i_obj, lk, lkp, stf1, stf2, Value.category, rV, xTo, lv_args, xCk, xCat, xRc, xAk, hg_S, hg_I, hg_J, hg_D, hg_R, hs_I, hs_J, hs_D, hs_R, uI_at, uJ_at, uD_at, uR_at, List.take_succ_cons, List.take_zero, List.drop_succ_cons, List.drop_zero, List.reverse_cons, List.reverse_nil, List.nil_append, List.cons_append, List.map_cons, List.map_nil, List.sum_cons, List.sum_nil, List.length_cons, List.length_nil, Option.toList_some, Option.toList_none, true_and, and_true, false_and, and_false, true_implies, false_implies, implies_true, not_true_eq_false, not_false_eq_true, ne_eq, if_true, if_false, Bool.and_true, Bool.true_and, decide_true, decide_false, reduceIte, reduceCtorEq, Bool.and_self, Bool.and_eq_true, decide_eq_true_eq, and_self, true_or, or_true, false_or, or_false, Nat.zero_add, Nat.add_zero, eq_self, Nat.reduceEqDiff, Nat.reduceLeDiff, Nat.reduceLT, Nat.reduceAdd, Nat.reduceSub, Nat.reduceMul, LM_out hL, h1, show nI k + 20 ≤ 600 from by rw [show (20 : Int32) = nI 20 from rfl, nI_add]; exact (nI_leI (by omega) (by decide)).mpr hk]
  rw [e202_20]
  simp only [B202_20, xSeq, i_push, i_load, i_iload, i_lload, i_dload, i_aload, i_istore, i_astore, i_lstore, i_dstore, i_iinc, i_ii, i_iiz, i_ll, i_llz, i_lli, i_li, i_i, i_l, i_i2l, i_l2i, i_dup, i_dup2, i_dup2w, i_dupx1, i_pop, i_pop2, i_goto, i_ifc, i_icmp, i_getI, i_getL, i_getR, i_putI, i_putZ, i_putL, i_putR, i_aldI, i_aldB, i_aldL, i_aldD, i_astI, i_astL, i_astD, i_alen, i_ret, i_iret, i_zret, i_lret, i_fret, i_dret, i_aret, i_invS0, i_invV0, i_m2, i_m1, i_ml, i_obj, lk, lkp, stf1, stf2, Value.category, rV, xTo, lv_args, xCk, xCat, xRc, xAk, hg_S, hg_I, hg_J, hg_D, hg_R, hs_I, hs_J, hs_D, hs_R, uI_at, uJ_at, uD_at, uR_at, List.take_succ_cons, List.take_zero, List.drop_succ_cons, List.drop_zero, List.reverse_cons, List.reverse_nil, List.nil_append, List.cons_append, List.map_cons, List.map_nil, List.sum_cons, List.sum_nil, List.length_cons, List.length_nil, Option.toList_some, Option.toList_none, true_and, and_true, false_and, and_false, true_implies, false_implies, implies_true, not_true_eq_false, not_false_eq_true, ne_eq, if_true, if_false, Bool.and_true, Bool.true_and, decide_true, decide_false, reduceIte, reduceCtorEq, Bool.and_self, Bool.and_eq_true, decide_eq_true_eq, and_self, true_or, or_true, false_or, or_false, Nat.zero_add, Nat.add_zero, eq_self, Nat.reduceEqDiff, Nat.reduceLeDiff, Nat.reduceLT, Nat.reduceAdd, Nat.reduceSub, Nat.reduceMul, LM_out hL, e1, e2, e3, e4, e5, qW_n]
  rfl
end
/-! ===== samples after sweeps ===== -/
section
variable {S : xS} {I : xI} {J : xJ} {D : xDb} {R : xR} {b : Nat × Nat} {Q : xQ} {n m : Nat} {fi se dg : Nat → Nat} {sb : Nat → Nat → Nat}
theorem R40n (hS : S 112 = (4, 0)) (hR : R 112 1 = some 402) (hu : S 402 = (101, 10000)) : xRun xT 40 0 [(0, .ref 112)] [] (S, I, J, D, R) b Q = Q (.ok none) (S, I, J, D, R) b := by
  have z0 : (nI 10000 = 0) = False := eq_false (by decide)
  rw [e40_0]
  simp only [B40_0, xSeq, i_push, i_load, i_iload, i_lload, i_dload, i_aload, i_istore, i_astore, i_lstore, i_dstore, i_iinc, i_ii, i_iiz, i_ll, i_llz, i_lli, i_li, i_i, i_l, i_i2l, i_l2i, i_dup, i_dup2, i_dup2w, i_dupx1, i_pop, i_pop2, i_goto, i_ifc, i_icmp, i_getI, i_getL, i_getR, i_putI, i_putZ, i_putL, i_putR, i_aldI, i_aldB, i_aldL, i_aldD, i_astI, i_astL, i_astD, i_alen, i_ret, i_iret, i_zret, i_lret, i_fret, i_dret, i_aret, i_invS0, i_invV0, i_m2, i_m1, i_ml, i_obj, lk, lkp, stf1, stf2, Value.category, rV, xTo, lv_args, xCk, xCat, xRc, xAk, hg_S, hg_I, hg_J, hg_D, hg_R, hs_I, hs_J, hs_D, hs_R, uI_at, uJ_at, uD_at, uR_at, List.take_succ_cons, List.take_zero, List.drop_succ_cons, List.drop_zero, List.reverse_cons, List.reverse_nil, List.nil_append, List.cons_append, List.map_cons, List.map_nil, List.sum_cons, List.sum_nil, List.length_cons, List.length_nil, Option.toList_some, Option.toList_none, true_and, and_true, false_and, and_false, true_implies, false_implies, implies_true, not_true_eq_false, not_false_eq_true, ne_eq, if_true, if_false, Bool.and_true, Bool.true_and, decide_true, decide_false, reduceIte, reduceCtorEq, Bool.and_self, Bool.and_eq_true, decide_eq_true_eq, and_self, true_or, or_true, false_or, or_false, Nat.zero_add, Nat.add_zero, eq_self, Nat.reduceEqDiff, Nat.reduceLeDiff, Nat.reduceLT, Nat.reduceAdd, Nat.reduceSub, Nat.reduceMul, hS, hR, hu, z0, ne_eq, not_false_eq_true, e40_26, B40_26]
theorem L41n {v : Int64} {e : Int32} {k : Nat} (hS : S 112 = (4, 0)) (hR : R 112 1 = some 402) (hu : S 402 = (101, 10000)) (hR2 : R 112 2 = some 403) (hu2 : S 403 = (100, 10000)) (hI : I 112 0 = nI k) (hk : k < 10000)
    (kk : ∀ b', Q (.ok none) (S, uI (uI I 403 k e) 112 0 (nI (k + 1)), uJ J 402 k v, D, R) b') :
    xRun xT 41 0 [(0, .ref 112), (1, .long v), (3, .int e)] [] (S, I, J, D, R) b Q := by
  have t3 : (10000 ≤ nI k) = False := eq_false (nI_ge (a := k) (b := 10000) hk (by decide))
  rw [e41_0]
  simp only [B41_0, xSeq, i_push, i_load, i_iload, i_lload, i_dload, i_aload, i_istore, i_astore, i_lstore, i_dstore, i_iinc, i_ii, i_iiz, i_ll, i_llz, i_lli, i_li, i_i, i_l, i_i2l, i_l2i, i_dup, i_dup2, i_dup2w, i_dupx1, i_pop, i_pop2, i_goto, i_ifc, i_icmp, i_getI, i_getL, i_getR, i_putI, i_putZ, i_putL, i_putR, i_aldI, i_aldB, i_aldL, i_aldD, i_astI, i_astL, i_astD, i_alen, i_ret, i_iret, i_zret, i_lret, i_fret, i_dret, i_aret, i_invS0, i_invV0, i_m2, i_m1, i_ml, i_obj, lk, lkp, stf1, stf2, Value.category, rV, xTo, lv_args, xCk, xCat, xRc, xAk, hg_S, hg_I, hg_J, hg_D, hg_R, hs_I, hs_J, hs_D, hs_R, uI_at, uJ_at, uD_at, uR_at, List.take_succ_cons, List.take_zero, List.drop_succ_cons, List.drop_zero, List.reverse_cons, List.reverse_nil, List.nil_append, List.cons_append, List.map_cons, List.map_nil, List.sum_cons, List.sum_nil, List.length_cons, List.length_nil, Option.toList_some, Option.toList_none, true_and, and_true, false_and, and_false, true_implies, false_implies, implies_true, not_true_eq_false, not_false_eq_true, ne_eq, if_true, if_false, Bool.and_true, Bool.true_and, decide_true, decide_false, reduceIte, reduceCtorEq, Bool.and_self, Bool.and_eq_true, decide_eq_true_eq, and_self, true_or, or_true, false_or, or_false, Nat.zero_add, Nat.add_zero, eq_self, Nat.reduceEqDiff, Nat.reduceLeDiff, Nat.reduceLT, Nat.reduceAdd, Nat.reduceSub, Nat.reduceMul]
  refine w_invVA (mc := 0) (ms := 0) (Nat.zero_le _) (Nat.zero_le _) rfl (by simp only [xSeq, i_push, i_load, i_iload, i_lload, i_dload, i_aload, i_istore, i_astore, i_lstore, i_dstore, i_iinc, i_ii, i_iiz, i_ll, i_llz, i_lli, i_li, i_i, i_l, i_i2l, i_l2i, i_dup, i_dup2, i_dup2w, i_dupx1, i_pop, i_pop2, i_goto, i_ifc, i_icmp, i_getI, i_getL, i_getR, i_putI, i_putZ, i_putL, i_putR, i_aldI, i_aldB, i_aldL, i_aldD, i_astI, i_astL, i_astD, i_alen, i_ret, i_iret, i_zret, i_lret, i_fret, i_dret, i_aret, i_invS0, i_invV0, i_m2, i_m1, i_ml, i_obj, lk, lkp, stf1, stf2, Value.category, rV, xTo, lv_args, xCk, xCat, xRc, xAk, hg_S, hg_I, hg_J, hg_D, hg_R, hs_I, hs_J, hs_D, hs_R, uI_at, uJ_at, uD_at, uR_at, List.take_succ_cons, List.take_zero, List.drop_succ_cons, List.drop_zero, List.reverse_cons, List.reverse_nil, List.nil_append, List.cons_append, List.map_cons, List.map_nil, List.sum_cons, List.sum_nil, List.length_cons, List.length_nil, Option.toList_some, Option.toList_none, true_and, and_true, false_and, and_false, true_implies, false_implies, implies_true, not_true_eq_false, not_false_eq_true, ne_eq, if_true, if_false, Bool.and_true, Bool.true_and, decide_true, decide_false, reduceIte, reduceCtorEq, Bool.and_self, Bool.and_eq_true, decide_eq_true_eq, and_self, true_or, or_true, false_or, or_false, Nat.zero_add, Nat.add_zero, eq_self, Nat.reduceEqDiff, Nat.reduceLeDiff, Nat.reduceLT, Nat.reduceAdd, Nat.reduceSub, Nat.reduceMul, hS]) ?_
  simp only [xSeq, i_push, i_load, i_iload, i_lload, i_dload, i_aload, i_istore, i_astore, i_lstore, i_dstore, i_iinc, i_ii, i_iiz, i_ll, i_llz, i_lli, i_li, i_i, i_l, i_i2l, i_l2i, i_dup, i_dup2, i_dup2w, i_dupx1, i_pop, i_pop2, i_goto, i_ifc, i_icmp, i_getI, i_getL, i_getR, i_putI, i_putZ, i_putL, i_putR, i_aldI, i_aldB, i_aldL, i_aldD, i_astI, i_astL, i_astD, i_alen, i_ret, i_iret, i_zret, i_lret, i_fret, i_dret, i_aret, i_invS0, i_invV0, i_m2, i_m1, i_ml, i_obj, lk, lkp, stf1, stf2, Value.category, rV, xTo, lv_args, xCk, xCat, xRc, xAk, hg_S, hg_I, hg_J, hg_D, hg_R, hs_I, hs_J, hs_D, hs_R, uI_at, uJ_at, uD_at, uR_at, List.take_succ_cons, List.take_zero, List.drop_succ_cons, List.drop_zero, List.reverse_cons, List.reverse_nil, List.nil_append, List.cons_append, List.map_cons, List.map_nil, List.sum_cons, List.sum_nil, List.length_cons, List.length_nil, Option.toList_some, Option.toList_none, true_and, and_true, false_and, and_false, true_implies, false_implies, implies_true, not_true_eq_false, not_false_eq_true, ne_eq, if_true, if_false, Bool.and_true, Bool.true_and, decide_true, decide_false, reduceIte, reduceCtorEq, Bool.and_self, Bool.and_eq_true, decide_eq_true_eq, and_self, true_or, or_true, false_or, or_false, Nat.zero_add, Nat.add_zero, eq_self, Nat.reduceEqDiff, Nat.reduceLeDiff, Nat.reduceLT, Nat.reduceAdd, Nat.reduceSub, Nat.reduceMul]
  rw [R40n hS hR hu]
  simp only [xSeq, i_push, i_load, i_iload, i_lload, i_dload, i_aload, i_istore, i_astore, i_lstore, i_dstore, i_iinc, i_ii, i_iiz, i_ll, i_llz, i_lli, i_li, i_i, i_l, i_i2l, i_l2i, i_dup, i_dup2, i_dup2w, i_dupx1, i_pop, i_pop2, i_goto, i_ifc, i_icmp, i_getI, i_getL, i_getR, i_putI, i_putZ, i_putL, i_putR, i_aldI, i_aldB, i_aldL, i_aldD, i_astI, i_astL, i_astD, i_alen, i_ret, i_iret, i_zret, i_lret, i_fret, i_dret, i_aret, i_invS0, i_invV0, i_m2, i_m1, i_ml, i_obj, lk, lkp, stf1, stf2, Value.category, rV, xTo, lv_args, xCk, xCat, xRc, xAk, hg_S, hg_I, hg_J, hg_D, hg_R, hs_I, hs_J, hs_D, hs_R, uI_at, uJ_at, uD_at, uR_at, List.take_succ_cons, List.take_zero, List.drop_succ_cons, List.drop_zero, List.reverse_cons, List.reverse_nil, List.nil_append, List.cons_append, List.map_cons, List.map_nil, List.sum_cons, List.sum_nil, List.length_cons, List.length_nil, Option.toList_some, Option.toList_none, true_and, and_true, false_and, and_false, true_implies, false_implies, implies_true, not_true_eq_false, not_false_eq_true, ne_eq, if_true, if_false, Bool.and_true, Bool.true_and, decide_true, decide_false, reduceIte, reduceCtorEq, Bool.and_self, Bool.and_eq_true, decide_eq_true_eq, and_self, true_or, or_true, false_or, or_false, Nat.zero_add, Nat.add_zero, eq_self, Nat.reduceEqDiff, Nat.reduceLeDiff, Nat.reduceLT, Nat.reduceAdd, Nat.reduceSub, Nat.reduceMul, hS, hI, t3, hR, hR2, hu, hu2, nI_inP hk (by decide), nI_ix (show k < 2147483648 by omega), nI_1]
  rw [e41_44]
  simp only [B41_44, xSeq, i_push, i_load, i_iload, i_lload, i_dload, i_aload, i_istore, i_astore, i_lstore, i_dstore, i_iinc, i_ii, i_iiz, i_ll, i_llz, i_lli, i_li, i_i, i_l, i_i2l, i_l2i, i_dup, i_dup2, i_dup2w, i_dupx1, i_pop, i_pop2, i_goto, i_ifc, i_icmp, i_getI, i_getL, i_getR, i_putI, i_putZ, i_putL, i_putR, i_aldI, i_aldB, i_aldL, i_aldD, i_astI, i_astL, i_astD, i_alen, i_ret, i_iret, i_zret, i_lret, i_fret, i_dret, i_aret, i_invS0, i_invV0, i_m2, i_m1, i_ml, i_obj, lk, lkp, stf1, stf2, Value.category, rV, xTo, lv_args, xCk, xCat, xRc, xAk, hg_S, hg_I, hg_J, hg_D, hg_R, hs_I, hs_J, hs_D, hs_R, uI_at, uJ_at, uD_at, uR_at, List.take_succ_cons, List.take_zero, List.drop_succ_cons, List.drop_zero, List.reverse_cons, List.reverse_nil, List.nil_append, List.cons_append, List.map_cons, List.map_nil, List.sum_cons, List.sum_nil, List.length_cons, List.length_nil, Option.toList_some, Option.toList_none, true_and, and_true, false_and, and_false, true_implies, false_implies, implies_true, not_true_eq_false, not_false_eq_true, ne_eq, if_true, if_false, Bool.and_true, Bool.true_and, decide_true, decide_false, reduceIte, reduceCtorEq, Bool.and_self, Bool.and_eq_true, decide_eq_true_eq, and_self, true_or, or_true, false_or, or_false, Nat.zero_add, Nat.add_zero, eq_self, Nat.reduceEqDiff, Nat.reduceLeDiff, Nat.reduceLT, Nat.reduceAdd, Nat.reduceSub, Nat.reduceMul]
  exact kk _
/-- the lab among samples: what has changed since S0 .. -/
def SL (S0 : xS) (I0 : xI) (J0 : xJ) (R0 : xR) (z : xG) (k : Nat) (S : xS) (I : xI) (J : xJ) (R : xR) : Prop :=
  ((∀ o, o ≠ 402 → o ≠ 403 → S o = S0 o) ∧ (∀ o j, o ≠ 402 → o ≠ 403 → ¬ (o = 112 ∧ (j = 1 ∨ j = 2)) → R o j = R0 o j) ∧ (∀ o j, o ≠ 402 → o ≠ 403 → ¬ (o = 112 ∧ j = 0) → ¬ (o = 110 ∧ (j = 10 ∨ j = 11)) → I o j = I0 o j) ∧ (∀ o j, o ≠ 402 → o ≠ 403 → ¬ (o = 110 ∧ (j = 4 ∨ j = 5)) → J o j = J0 o j)) ∧
  (J 110 4 = lN z.1 ∧ J 110 5 = lN z.2.1 ∧ I 110 10 = z.2.2.1 ∧ I 110 11 = z.2.2.2 ∧ I 112 0 = nI k) ∧ S 402 = (101, 10000) ∧ S 403 = (100, 10000) ∧ R 112 1 = some 402 ∧ R 112 2 = some 403
theorem L168_39 {S0 : xS} {I0 : xI} {J0 : xJ} {R0 : xR} (hL : LC S0 R0) (hG : GR n m fi se dg sb) (hC : CL I0 n m fi se dg sb) {a bb : Nat} (hA : I0 110 7 = nI a) (hB : I0 110 8 = nI bb) (ha : a < 2147483648) (h0 : 0 < bb) (hb : bb < 2147483648) {K k0 : Nat} (hK : K < 10000) (hk0 : k0 + K ≤ 10000)
    (kk : ∀ S I J R z b', SL S0 I0 J0 R0 z (k0 + K) S I J R → Q (.ok (some (.int (nI (k0 + K))))) (S, I, J, D, R) b') :
    ∀ (j i : Nat) (z : xG) (S : xS) (I : xI) (J : xJ) (R : xR) (b : Nat × Nat), i + j = K → SL S0 I0 J0 R0 z (k0 + i) S I J R → z.1 < 2 ^ n → z.2.1 < 2147483648 → xRun xT 168 39 [(0, .ref 100), (1, .int (nI K)), (2, .int (nI i))] [] (S, I, J, D, R) b Q
  | 0, i, z, S, I, J, R, b, hi, hs, hz, hg => by
    have e : i = K := by omega
    subst e
    have hs' := hs
    obtain ⟨⟨f1, f2, f3, f4⟩, ⟨p1, p2, p3, p4, p5⟩, q1, q2, q3, q4⟩ := hs'
    have hL' : LC S R := LC_f hL (fun o h => f1 o (by omega) (by omega)) (fun o k h f => f2 o k (by omega) (by omega) f)
    rw [e168_39]
    simp only [B168_39, xSeq, i_push, i_load, i_iload, i_lload, i_dload, i_aload, i_istore, i_astore, i_lstore, i_dstore, i_iinc, i_ii, i_iiz, i_ll, i_llz, i_lli, i_li, i_i, i_l, i_i2l, i_l2i, i_dup, i_dup2, i_dup2w, i_dupx1, i_pop, i_pop2, i_goto, i_ifc, i_icmp, i_getI, i_getL, i_getR, i_putI, i_putZ, i_putL, i_putR, i_aldI, i_aldB, i_aldL, i_aldD, i_astI, i_astL, i_astD, i_alen, i_ret, i_iret, i_zret, i_lret, i_fret, i_dret, i_aret, i_invS0, i_invV0, i_m2, i_m1, i_ml, i_obj, lk, lkp, stf1, stf2, Value.category, rV, xTo, lv_args, xCk, xCat, xRc, xAk, hg_S, hg_I, hg_J, hg_D, hg_R, hs_I, hs_J, hs_D, hs_R, uI_at, uJ_at, uD_at, uR_at, List.take_succ_cons, List.take_zero, List.drop_succ_cons, List.drop_zero, List.reverse_cons, List.reverse_nil, List.nil_append, List.cons_append, List.map_cons, List.map_nil, List.sum_cons, List.sum_nil, List.length_cons, List.length_nil, Option.toList_some, Option.toList_none, true_and, and_true, false_and, and_false, true_implies, false_implies, implies_true, not_true_eq_false, not_false_eq_true, ne_eq, if_true, if_false, Bool.and_true, Bool.true_and, decide_true, decide_false, reduceIte, reduceCtorEq, Bool.and_self, Bool.and_eq_true, decide_eq_true_eq, and_self, true_or, or_true, false_or, or_false, Nat.zero_add, Nat.add_zero, eq_self, Nat.reduceEqDiff, Nat.reduceLeDiff, Nat.reduceLT, Nat.reduceAdd, Nat.reduceSub, Nat.reduceMul, nI_leP (show i < 2147483648 by omega) (show i < 2147483648 by omega), Nat.le_refl, e168_64, B168_64, LC_out hL', p5]
    exact kk S I J R z b hs
  | j + 1, i, z, S, I, J, R, b, hi, hs, hz, hg => by
    obtain ⟨⟨f1, f2, f3, f4⟩, ⟨p1, p2, p3, p4, p5⟩, q1, q2, q3, q4⟩ := hs
    have hL' : LC S R := LC_f hL (fun o h => f1 o (by omega) (by omega)) (fun o k h f => f2 o k (by omega) (by omega) f)
    have hC' : CL I n m fi se dg sb := CL_k hC (fun o k h1 h2 => f3 o k (by omega) (by omega) (by omega) (by omega))
    have h64 : z.1 < 2 ^ 64 := Nat.lt_of_lt_of_le hz (Nat.pow_le_pow_right (by decide) hG.2.1)
    have a1 : cI I z = I := cI_self p3 p4
    have a2 : cJ J z = J := cJ_self p1 p2
    have h85 := fun (b : Nat × Nat) (Q : xQ) => R85 (I := I) (J := J) (D := D) (b := b) (Q := Q) hL' hG hC' ((f3 110 7 (by decide) (by decide) (by decide) (by decide)).trans hA) ((f3 110 8 (by decide) (by decide) (by decide) (by decide)).trans hB) ha h0 hb (z := z) h64 hg
    rw [a1, a2] at h85
    obtain ⟨k1, k2⟩ := tW_ok (F := I 110 6) (st := I 111) (fi := fi) (se := se) (dg := dg) (sb := sb) (rule := I 110 9) (a := a) (bb := bb) (N := n) n 0 z (by omega) hz hg
    obtain ⟨z', hz'⟩ : ∃ z' : xG, z' = tW (I 110 6) (I 111) fi se dg sb (I 110 9) a bb n 0 z := ⟨_, rfl⟩
    rw [← hz'] at k1 k2 h85
    have k64 : z'.1 < 2 ^ 64 := Nat.lt_of_lt_of_le k1 (Nat.pow_le_pow_right (by decide) hG.2.1)
    have eJ : cJ J z' 110 4 = lN z'.1 := rfl
    have p5' : cI I z' 112 0 = nI (k0 + i) := p5
    rw [e168_39]
    simp only [B168_39, xSeq, i_push, i_load, i_iload, i_lload, i_dload, i_aload, i_istore, i_astore, i_lstore, i_dstore, i_iinc, i_ii, i_iiz, i_ll, i_llz, i_lli, i_li, i_i, i_l, i_i2l, i_l2i, i_dup, i_dup2, i_dup2w, i_dupx1, i_pop, i_pop2, i_goto, i_ifc, i_icmp, i_getI, i_getL, i_getR, i_putI, i_putZ, i_putL, i_putR, i_aldI, i_aldB, i_aldL, i_aldD, i_astI, i_astL, i_astD, i_alen, i_ret, i_iret, i_zret, i_lret, i_fret, i_dret, i_aret, i_invS0, i_invV0, i_m2, i_m1, i_ml, i_obj, lk, lkp, stf1, stf2, Value.category, rV, xTo, lv_args, xCk, xCat, xRc, xAk, hg_S, hg_I, hg_J, hg_D, hg_R, hs_I, hs_J, hs_D, hs_R, uI_at, uJ_at, uD_at, uR_at, List.take_succ_cons, List.take_zero, List.drop_succ_cons, List.drop_zero, List.reverse_cons, List.reverse_nil, List.nil_append, List.cons_append, List.map_cons, List.map_nil, List.sum_cons, List.sum_nil, List.length_cons, List.length_nil, Option.toList_some, Option.toList_none, true_and, and_true, false_and, and_false, true_implies, false_implies, implies_true, not_true_eq_false, not_false_eq_true, ne_eq, if_true, if_false, Bool.and_true, Bool.true_and, decide_true, decide_false, reduceIte, reduceCtorEq, Bool.and_self, Bool.and_eq_true, decide_eq_true_eq, and_self, true_or, or_true, false_or, or_false, Nat.zero_add, Nat.add_zero, eq_self, Nat.reduceEqDiff, Nat.reduceLeDiff, Nat.reduceLT, Nat.reduceAdd, Nat.reduceSub, Nat.reduceMul, nI_leP (show K < 2147483648 by omega) (show i < 2147483648 by omega), show (K ≤ i) = False from eq_false (by omega), LC_out hL', h85]
    refine w_invVA (mc := 0) (ms := 0) (Nat.zero_le _) (Nat.zero_le _) rfl (by simp only [xSeq, i_push, i_load, i_iload, i_lload, i_dload, i_aload, i_istore, i_astore, i_lstore, i_dstore, i_iinc, i_ii, i_iiz, i_ll, i_llz, i_lli, i_li, i_i, i_l, i_i2l, i_l2i, i_dup, i_dup2, i_dup2w, i_dupx1, i_pop, i_pop2, i_goto, i_ifc, i_icmp, i_getI, i_getL, i_getR, i_putI, i_putZ, i_putL, i_putR, i_aldI, i_aldB, i_aldL, i_aldD, i_astI, i_astL, i_astD, i_alen, i_ret, i_iret, i_zret, i_lret, i_fret, i_dret, i_aret, i_invS0, i_invV0, i_m2, i_m1, i_ml, i_obj, lk, lkp, stf1, stf2, Value.category, rV, xTo, lv_args, xCk, xCat, xRc, xAk, hg_S, hg_I, hg_J, hg_D, hg_R, hs_I, hs_J, hs_D, hs_R, uI_at, uJ_at, uD_at, uR_at, List.take_succ_cons, List.take_zero, List.drop_succ_cons, List.drop_zero, List.reverse_cons, List.reverse_nil, List.nil_append, List.cons_append, List.map_cons, List.map_nil, List.sum_cons, List.sum_nil, List.length_cons, List.length_nil, Option.toList_some, Option.toList_none, true_and, and_true, false_and, and_false, true_implies, false_implies, implies_true, not_true_eq_false, not_false_eq_true, ne_eq, if_true, if_false, Bool.and_true, Bool.true_and, decide_true, decide_false, reduceIte, reduceCtorEq, Bool.and_self, Bool.and_eq_true, decide_eq_true_eq, and_self, true_or, or_true, false_or, or_false, Nat.zero_add, Nat.add_zero, eq_self, Nat.reduceEqDiff, Nat.reduceLeDiff, Nat.reduceLT, Nat.reduceAdd, Nat.reduceSub, Nat.reduceMul, LC_out hL']) ?_
    simp only [xSeq, i_push, i_load, i_iload, i_lload, i_dload, i_aload, i_istore, i_astore, i_lstore, i_dstore, i_iinc, i_ii, i_iiz, i_ll, i_llz, i_lli, i_li, i_i, i_l, i_i2l, i_l2i, i_dup, i_dup2, i_dup2w, i_dupx1, i_pop, i_pop2, i_goto, i_ifc, i_icmp, i_getI, i_getL, i_getR, i_putI, i_putZ, i_putL, i_putR, i_aldI, i_aldB, i_aldL, i_aldD, i_astI, i_astL, i_astD, i_alen, i_ret, i_iret, i_zret, i_lret, i_fret, i_dret, i_aret, i_invS0, i_invV0, i_m2, i_m1, i_ml, i_obj, lk, lkp, stf1, stf2, Value.category, rV, xTo, lv_args, xCk, xCat, xRc, xAk, hg_S, hg_I, hg_J, hg_D, hg_R, hs_I, hs_J, hs_D, hs_R, uI_at, uJ_at, uD_at, uR_at, List.take_succ_cons, List.take_zero, List.drop_succ_cons, List.drop_zero, List.reverse_cons, List.reverse_nil, List.nil_append, List.cons_append, List.map_cons, List.map_nil, List.sum_cons, List.sum_nil, List.length_cons, List.length_nil, Option.toList_some, Option.toList_none, true_and, and_true, false_and, and_false, true_implies, false_implies, implies_true, not_true_eq_false, not_false_eq_true, ne_eq, if_true, if_false, Bool.and_true, Bool.true_and, decide_true, decide_false, reduceIte, reduceCtorEq, Bool.and_self, Bool.and_eq_true, decide_eq_true_eq, and_self, true_or, or_true, false_or, or_false, Nat.zero_add, Nat.add_zero, eq_self, Nat.reduceEqDiff, Nat.reduceLeDiff, Nat.reduceLT, Nat.reduceAdd, Nat.reduceSub, Nat.reduceMul, LC_out hL']
    rw [e91_0]
    simp only [B91_0, xSeq, i_push, i_load, i_iload, i_lload, i_dload, i_aload, i_istore, i_astore, i_lstore, i_dstore, i_iinc, i_ii, i_iiz, i_ll, i_llz, i_lli, i_li, i_i, i_l, i_i2l, i_l2i, i_dup, i_dup2, i_dup2w, i_dupx1, i_pop, i_pop2, i_goto, i_ifc, i_icmp, i_getI, i_getL, i_getR, i_putI, i_putZ, i_putL, i_putR, i_aldI, i_aldB, i_aldL, i_aldD, i_astI, i_astL, i_astD, i_alen, i_ret, i_iret, i_zret, i_lret, i_fret, i_dret, i_aret, i_invS0, i_invV0, i_m2, i_m1, i_ml, i_obj, lk, lkp, stf1, stf2, Value.category, rV, xTo, lv_args, xCk, xCat, xRc, xAk, hg_S, hg_I, hg_J, hg_D, hg_R, hs_I, hs_J, hs_D, hs_R, uI_at, uJ_at, uD_at, uR_at, List.take_succ_cons, List.take_zero, List.drop_succ_cons, List.drop_zero, List.reverse_cons, List.reverse_nil, List.nil_append, List.cons_append, List.map_cons, List.map_nil, List.sum_cons, List.sum_nil, List.length_cons, List.length_nil, Option.toList_some, Option.toList_none, true_and, and_true, false_and, and_false, true_implies, false_implies, implies_true, not_true_eq_false, not_false_eq_true, ne_eq, if_true, if_false, Bool.and_true, Bool.true_and, decide_true, decide_false, reduceIte, reduceCtorEq, Bool.and_self, Bool.and_eq_true, decide_eq_true_eq, and_self, true_or, or_true, false_or, or_false, Nat.zero_add, Nat.add_zero, eq_self, Nat.reduceEqDiff, Nat.reduceLeDiff, Nat.reduceLT, Nat.reduceAdd, Nat.reduceSub, Nat.reduceMul, LC_out hL', eJ, R74 (I := cI I z') hL' hG (cI_CL hC') k64 k1]
    refine w_invVA (mc := 0) (ms := 0) (Nat.zero_le _) (Nat.zero_le _) rfl (by simp only [xSeq, i_push, i_load, i_iload, i_lload, i_dload, i_aload, i_istore, i_astore, i_lstore, i_dstore, i_iinc, i_ii, i_iiz, i_ll, i_llz, i_lli, i_li, i_i, i_l, i_i2l, i_l2i, i_dup, i_dup2, i_dup2w, i_dupx1, i_pop, i_pop2, i_goto, i_ifc, i_icmp, i_getI, i_getL, i_getR, i_putI, i_putZ, i_putL, i_putR, i_aldI, i_aldB, i_aldL, i_aldD, i_astI, i_astL, i_astD, i_alen, i_ret, i_iret, i_zret, i_lret, i_fret, i_dret, i_aret, i_invS0, i_invV0, i_m2, i_m1, i_ml, i_obj, lk, lkp, stf1, stf2, Value.category, rV, xTo, lv_args, xCk, xCat, xRc, xAk, hg_S, hg_I, hg_J, hg_D, hg_R, hs_I, hs_J, hs_D, hs_R, uI_at, uJ_at, uD_at, uR_at, List.take_succ_cons, List.take_zero, List.drop_succ_cons, List.drop_zero, List.reverse_cons, List.reverse_nil, List.nil_append, List.cons_append, List.map_cons, List.map_nil, List.sum_cons, List.sum_nil, List.length_cons, List.length_nil, Option.toList_some, Option.toList_none, true_and, and_true, false_and, and_false, true_implies, false_implies, implies_true, not_true_eq_false, not_false_eq_true, ne_eq, if_true, if_false, Bool.and_true, Bool.true_and, decide_true, decide_false, reduceIte, reduceCtorEq, Bool.and_self, Bool.and_eq_true, decide_eq_true_eq, and_self, true_or, or_true, false_or, or_false, Nat.zero_add, Nat.add_zero, eq_self, Nat.reduceEqDiff, Nat.reduceLeDiff, Nat.reduceLT, Nat.reduceAdd, Nat.reduceSub, Nat.reduceMul, LC_out hL']) ?_
    simp only [xSeq, i_push, i_load, i_iload, i_lload, i_dload, i_aload, i_istore, i_astore, i_lstore, i_dstore, i_iinc, i_ii, i_iiz, i_ll, i_llz, i_lli, i_li, i_i, i_l, i_i2l, i_l2i, i_dup, i_dup2, i_dup2w, i_dupx1, i_pop, i_pop2, i_goto, i_ifc, i_icmp, i_getI, i_getL, i_getR, i_putI, i_putZ, i_putL, i_putR, i_aldI, i_aldB, i_aldL, i_aldD, i_astI, i_astL, i_astD, i_alen, i_ret, i_iret, i_zret, i_lret, i_fret, i_dret, i_aret, i_invS0, i_invV0, i_m2, i_m1, i_ml, i_obj, lk, lkp, stf1, stf2, Value.category, rV, xTo, lv_args, xCk, xCat, xRc, xAk, hg_S, hg_I, hg_J, hg_D, hg_R, hs_I, hs_J, hs_D, hs_R, uI_at, uJ_at, uD_at, uR_at, List.take_succ_cons, List.take_zero, List.drop_succ_cons, List.drop_zero, List.reverse_cons, List.reverse_nil, List.nil_append, List.cons_append, List.map_cons, List.map_nil, List.sum_cons, List.sum_nil, List.length_cons, List.length_nil, Option.toList_some, Option.toList_none, true_and, and_true, false_and, and_false, true_implies, false_implies, implies_true, not_true_eq_false, not_false_eq_true, ne_eq, if_true, if_false, Bool.and_true, Bool.true_and, decide_true, decide_false, reduceIte, reduceCtorEq, Bool.and_self, Bool.and_eq_true, decide_eq_true_eq, and_self, true_or, or_true, false_or, or_false, Nat.zero_add, Nat.add_zero, eq_self, Nat.reduceEqDiff, Nat.reduceLeDiff, Nat.reduceLT, Nat.reduceAdd, Nat.reduceSub, Nat.reduceMul, LC_out hL']
    refine L41n (by simp only [LC_out hL']) q3 q1 q4 q2 p5' (by omega) (fun b' => ?_)
    simp only [xSeq, i_push, i_load, i_iload, i_lload, i_dload, i_aload, i_istore, i_astore, i_lstore, i_dstore, i_iinc, i_ii, i_iiz, i_ll, i_llz, i_lli, i_li, i_i, i_l, i_i2l, i_l2i, i_dup, i_dup2, i_dup2w, i_dupx1, i_pop, i_pop2, i_goto, i_ifc, i_icmp, i_getI, i_getL, i_getR, i_putI, i_putZ, i_putL, i_putR, i_aldI, i_aldB, i_aldL, i_aldD, i_astI, i_astL, i_astD, i_alen, i_ret, i_iret, i_zret, i_lret, i_fret, i_dret, i_aret, i_invS0, i_invV0, i_m2, i_m1, i_ml, i_obj, lk, lkp, stf1, stf2, Value.category, rV, xTo, lv_args, xCk, xCat, xRc, xAk, hg_S, hg_I, hg_J, hg_D, hg_R, hs_I, hs_J, hs_D, hs_R, uI_at, uJ_at, uD_at, uR_at, List.take_succ_cons, List.take_zero, List.drop_succ_cons, List.drop_zero, List.reverse_cons, List.reverse_nil, List.nil_append, List.cons_append, List.map_cons, List.map_nil, List.sum_cons, List.sum_nil, List.length_cons, List.length_nil, Option.toList_some, Option.toList_none, true_and, and_true, false_and, and_false, true_implies, false_implies, implies_true, not_true_eq_false, not_false_eq_true, ne_eq, if_true, if_false, Bool.and_true, Bool.true_and, decide_true, decide_false, reduceIte, reduceCtorEq, Bool.and_self, Bool.and_eq_true, decide_eq_true_eq, and_self, true_or, or_true, false_or, or_false, Nat.zero_add, Nat.add_zero, eq_self, Nat.reduceEqDiff, Nat.reduceLeDiff, Nat.reduceLT, Nat.reduceAdd, Nat.reduceSub, Nat.reduceMul, nI_1]
    refine L168_39 hL hG hC hA hB ha h0 hb hK hk0 kk j (i + 1) z' S _ _ R _ (by omega) ⟨⟨f1, f2, fun o j h1 h2 h3 h4 => ?_, fun o j h1 h2 h3 => ?_⟩, ⟨?_, ?_, ?_, ?_, ?_⟩, q1, q2, q3, q4⟩ k1 k2
    · rw [← f3 o j h1 h2 h3 h4]
      rw [uI_at, if_neg h3, uI_at, if_neg (fun h => h2 h.1), cI_at, if_neg (fun h => h4 ⟨h.1, Or.inr h.2⟩), if_neg (fun h => h4 ⟨h.1, Or.inl h.2⟩)]
    · rw [← f4 o j h1 h2 h3]
      rw [uJ_at, if_neg (fun h => h1 h.1), cJ_at, if_neg (fun h => h3 ⟨h.1, Or.inr h.2⟩), if_neg (fun h => h3 ⟨h.1, Or.inl h.2⟩)]
    · rfl
    · rfl
    · rfl
    · rfl
    · rfl
theorem CM_k2 {I I' : xI} (hC : CM I n m fi se dg sb) (h1 : I' 300 10 = I 300 10) (h2 : I' 300 8 = I 300 8) (h : ∀ o k, 314 ≤ o → o ≤ 317 → I' o k = I o k) : CM I' n m fi se dg sb := by
  obtain ⟨c1, c2, c3, c4, c5, c6⟩ := hC
  refine ⟨h1.trans c1, h2.trans c2, fun k hk => ?_, fun k hk => ?_, fun s hs => ?_, fun s i hs hi => ?_⟩
  · rw [h _ _ (by decide) (by decide)]; exact c3 k hk
  · rw [h _ _ (by decide) (by decide)]; exact c4 k hk
  · rw [h _ _ (by decide) (by decide)]; exact c5 s hs
  · rw [h _ _ (by decide) (by decide)]; exact c6 s i hs hi
/-- the model among samples -/
def SM (I0 : xI) (J0 : xJ) (z : xG) (k : Nat) (I : xI) (J : xJ) : Prop :=
  ((∀ o j, o ≠ 308 → o ≠ 309 → ¬ (o = 300 ∧ (j = 6 ∨ j = 7 ∨ j = 9)) → I o j = I0 o j) ∧ (∀ o j, o ≠ 310 → ¬ (o = 200 ∧ (j = 3 ∨ j = 4)) → J o j = J0 o j)) ∧ J 200 3 = lN z.1 ∧ J 200 4 = lN z.2.1 ∧ I 300 6 = z.2.2.1 ∧ I 300 7 = z.2.2.2 ∧ I 300 9 = nI k
theorem L292_62 {I0 : xI} {J0 : xJ} (hL : LM S R) (hG : GR n m fi se dg sb) (hC : CM I0 n m fi se dg sb) {a bb : Nat} (hA : I0 300 2 = nI a) (hB : I0 300 3 = nI bb) (ha : a < 2147483648) (h0 : 0 < bb) (hb : bb < 2147483648) (hr : I0 300 5 = 0 ∨ I0 300 5 = 1 ∨ I0 300 5 = 2) {K k0 : Nat} (hK : K < 10000) (hk0 : k0 + K ≤ 10000)
    (kk : ∀ I J z, SM I0 J0 z (k0 + K) I J → Q (.ok (some (.int (nI (k0 + K))))) (S, I, J, D, R) b) :
    ∀ (j i : Nat) (z : xG) (I : xI) (J : xJ), i + j = K → SM I0 J0 z (k0 + i) I J → z.1 < 2 ^ n → z.2.1 < 2147483648 → xRun xT 292 62 [(0, .ref 200), (1, .int (nI K)), (2, .int (nI i))] [] (S, I, J, D, R) b Q
  | 0, i, z, I, J, hi, hs, hz, hg => by
    have e : i = K := by omega
    subst e
    have p5 := hs.2.2.2.2.2
    rw [e292_62]
    simp only [B292_62, xSeq, i_push, i_load, i_iload, i_lload, i_dload, i_aload, i_istore, i_astore, i_lstore, i_dstore, i_iinc, i_ii, i_iiz, i_ll, i_llz, i_lli, i_li, i_i, i_l, i_i2l, i_l2i, i_dup, i_dup2, i_dup2w, i_dupx1, i_pop, i_pop2, i_goto, i_ifc, i_icmp, i_getI, i_getL, i_getR, i_putI, i_putZ, i_putL, i_putR, i_aldI, i_aldB, i_aldL, i_aldD, i_astI, i_astL, i_astD, i_alen, i_ret, i_iret, i_zret, i_lret, i_fret, i_dret, i_aret, i_invS0, i_invV0, i_m2, i_m1, i_ml, i_obj, lk, lkp, stf1, stf2, Value.category, rV, xTo, lv_args, xCk, xCat, xRc, xAk, hg_S, hg_I, hg_J, hg_D, hg_R, hs_I, hs_J, hs_D, hs_R, uI_at, uJ_at, uD_at, uR_at, List.take_succ_cons, List.take_zero, List.drop_succ_cons, List.drop_zero, List.reverse_cons, List.reverse_nil, List.nil_append, List.cons_append, List.map_cons, List.map_nil, List.sum_cons, List.sum_nil, List.length_cons, List.length_nil, Option.toList_some, Option.toList_none, true_and, and_true, false_and, and_false, true_implies, false_implies, implies_true, not_true_eq_false, not_false_eq_true, ne_eq, if_true, if_false, Bool.and_true, Bool.true_and, decide_true, decide_false, reduceIte, reduceCtorEq, Bool.and_self, Bool.and_eq_true, decide_eq_true_eq, and_self, true_or, or_true, false_or, or_false, Nat.zero_add, Nat.add_zero, eq_self, Nat.reduceEqDiff, Nat.reduceLeDiff, Nat.reduceLT, Nat.reduceAdd, Nat.reduceSub, Nat.reduceMul, nI_leP (show i < 2147483648 by omega) (show i < 2147483648 by omega), Nat.le_refl, e292_82, B292_82, LM_out hL, xi144_0, ix_0, xi144_1, ix_1, xi144_2, ix_2, xi144_3, ix_3, xi144_4, ix_4, xi144_5, ix_5, xi144_6, ix_6, xi144_7, ix_7, xi144_8, ix_8, xi144_9, ix_9, xi144_10, ix_10, p5]
    exact kk I J z hs
  | j + 1, i, z, I, J, hi, hs, hz, hg => by
    obtain ⟨⟨f3, f4⟩, p1, p2, p3, p4, p5⟩ := hs
    have hC' : CM I n m fi se dg sb := CM_k2 hC (f3 _ _ (by decide) (by decide) (by decide)) (f3 _ _ (by decide) (by decide) (by decide)) (fun o k h1 h2 => f3 o k (by omega) (by omega) (by omega))
    have h64 : z.1 < 2 ^ 64 := Nat.lt_of_lt_of_le hz (Nat.pow_le_pow_right (by decide) hG.2.1)
    have a1 : mI I z = I := mI_self p3 p4
    have a2 : mJ J z = J := mJ_self p1 p2
    have h276 := fun (b : Nat × Nat) (Q : xQ) => R276 (I := I) (J := J) (D := D) (b := b) (Q := Q) hL hG hC' ((f3 300 2 (by decide) (by decide) (by decide)).trans hA) ((f3 300 3 (by decide) (by decide) (by decide)).trans hB) ha h0 hb (by rw [f3 300 5 (by decide) (by decide) (by decide)]; exact hr) (z := z) h64 hg
    rw [a1, a2] at h276
    obtain ⟨k1, k2⟩ := tW_ok (F := I 300 4) (st := fun k => I 300 (16 + k)) (fi := fi) (se := se) (dg := dg) (sb := sb) (rule := I 300 5) (a := a) (bb := bb) (N := n) n 0 z (by omega) hz hg
    obtain ⟨z', hz'⟩ : ∃ z' : xG, z' = tW (I 300 4) (fun k => I 300 (16 + k)) fi se dg sb (I 300 5) a bb n 0 z := ⟨_, rfl⟩
    rw [← hz'] at k1 k2 h276
    have k64 : z'.1 < 2 ^ 64 := Nat.lt_of_lt_of_le k1 (Nat.pow_le_pow_right (by decide) hG.2.1)
    have p5' : mI I z' 300 9 = nI (k0 + i) := p5
    have h291 := fun (b : Nat × Nat) (Q : xQ) => R291 (I := mI I z') (J := mJ J z') (D := D) (b := b) (Q := Q) hL hG (mI_CM hC') (s := z'.1) (k := k0 + i) rfl k64 p5' (by omega)
    rw [e292_62]
    simp only [B292_62, xSeq, i_push, i_load, i_iload, i_lload, i_dload, i_aload, i_istore, i_astore, i_lstore, i_dstore, i_iinc, i_ii, i_iiz, i_ll, i_llz, i_lli, i_li, i_i, i_l, i_i2l, i_l2i, i_dup, i_dup2, i_dup2w, i_dupx1, i_pop, i_pop2, i_goto, i_ifc, i_icmp, i_getI, i_getL, i_getR, i_putI, i_putZ, i_putL, i_putR, i_aldI, i_aldB, i_aldL, i_aldD, i_astI, i_astL, i_astD, i_alen, i_ret, i_iret, i_zret, i_lret, i_fret, i_dret, i_aret, i_invS0, i_invV0, i_m2, i_m1, i_ml, i_obj, lk, lkp, stf1, stf2, Value.category, rV, xTo, lv_args, xCk, xCat, xRc, xAk, hg_S, hg_I, hg_J, hg_D, hg_R, hs_I, hs_J, hs_D, hs_R, uI_at, uJ_at, uD_at, uR_at, List.take_succ_cons, List.take_zero, List.drop_succ_cons, List.drop_zero, List.reverse_cons, List.reverse_nil, List.nil_append, List.cons_append, List.map_cons, List.map_nil, List.sum_cons, List.sum_nil, List.length_cons, List.length_nil, Option.toList_some, Option.toList_none, true_and, and_true, false_and, and_false, true_implies, false_implies, implies_true, not_true_eq_false, not_false_eq_true, ne_eq, if_true, if_false, Bool.and_true, Bool.true_and, decide_true, decide_false, reduceIte, reduceCtorEq, Bool.and_self, Bool.and_eq_true, decide_eq_true_eq, and_self, true_or, or_true, false_or, or_false, Nat.zero_add, Nat.add_zero, eq_self, Nat.reduceEqDiff, Nat.reduceLeDiff, Nat.reduceLT, Nat.reduceAdd, Nat.reduceSub, Nat.reduceMul, nI_leP (show K < 2147483648 by omega) (show i < 2147483648 by omega), show (K ≤ i) = False from eq_false (by omega), LM_out hL, h276, h291, nI_1]
    refine L292_62 hL hG hC hA hB ha h0 hb hr hK hk0 kk j (i + 1) z' _ _ (by omega) ⟨⟨fun o j h1 h2 h3 => ?_, fun o j h1 h2 => ?_⟩, ?_, ?_, ?_, ?_, ?_⟩ k1 k2
    · rw [← f3 o j h1 h2 h3]
      rw [uI_at, if_neg (by omega), uI_at, if_neg (by omega), uI_at, if_neg (by omega), mI_at, if_neg (by omega), if_neg (by omega)]
    · rw [← f4 o j h1 h2]
      show uJ (uJ (uJ J 200 3 (lN z'.1)) 200 4 (lN z'.2.1)) 310 (k0 + i) (lN z'.1) o j = J o j
      rw [uJ_at, if_neg (by omega), uJ_at, if_neg (by omega), uJ_at, if_neg (by omega)]
    · rfl
    · rfl
    · rfl
    · rfl
    · rfl
end
/-! ===== the output grows ===== -/
section
/-- a byte's number -/
def bF (x : Int32) : Prop := fits .byte (.int x) = true
theorem bF_0 : bF 0 := by
  unfold bF
  decide
theorem bF_n (x : Int32) : bF (vp_nar .byte x) := by
  unfold bF
  rw [vp_nar_byte]
  show (decide ((-128 : Int32) ≤ x.toInt8.toInt32) && decide (x.toInt8.toInt32 ≤ 127)) = true
  have h1 := Int8.le_toInt x.toInt8
  have h2 := Int8.toInt_lt x.toInt8
  rw [Bool.and_eq_true, decide_eq_true_eq, decide_eq_true_eq, Int32.le_iff_toInt_le, Int32.le_iff_toInt_le, Int8.toInt_toInt32]
  exact ⟨h1, by have : (127 : Int32).toInt = 127 := rfl; omega⟩
variable {S0 : xS} {I0 : xI} {J0 : xJ} {R0 : xR}
/-- the output: its bytes at v, room for cap, cnt of them written; what else has changed since S0 .. -/
def OS (S0 : xS) (I0 : xI) (J0 : xJ) (R0 : xR) (f v cap cnt : Nat) (S : xS) (I : xI) (J : xJ) (R : xR) : Prop :=
  (R 140 0 = some v ∧ S v = (103, cap) ∧ I 140 1 = 0 ∧ I 140 3 = nI cnt ∧ (v = 160 ∨ 402 ≤ v ∧ v < f) ∧ cnt ≤ cap ∧ 16 ≤ cap ∧ cap ≤ 2002 ∧ ∀ k, k < cap → bF (I v k)) ∧
  402 ≤ f ∧ (∀ o, f ≤ o → o < 900000 → S o = (0, 0)) ∧
  ((∀ o, (o < 402 ∨ 900000 ≤ o) → S o = S0 o) ∧ (∀ o j, (o < 402 ∨ 900000 ≤ o) → ¬ (o = 140 ∧ j = 0) → R o j = R0 o j) ∧ (∀ o j, (o < 402 ∨ 900000 ≤ o) → o ≠ 160 → ¬ (o = 140 ∧ (j = 2 ∨ j = 3)) → I o j = I0 o j) ∧ (∀ o j, (o < 402 ∨ 900000 ≤ o) → J o j = J0 o j))
theorem LC_g {S S' : xS} {R R' : xR} (hL : LC S R) (hs : ∀ o, (o < 402 ∨ 900000 ≤ o) → S' o = S o) (hr : ∀ o k, (o < 402 ∨ 900000 ≤ o) → ¬ (o = 140 ∧ k = 0) → R' o k = R o k) : LC S' R' := by
  unfold LC
  repeat' apply And.intro
  all_goals first
    | (rw [hs _ (by decide)]; simp only [LC_out hL])
    | (rw [hr _ _ (by decide) (by decide)]; simp only [LC_out hL])
theorem LM_g {S S' : xS} {R R' : xR} (hL : LM S R) (hs : ∀ o, (o < 402 ∨ 900000 ≤ o) → S' o = S o) (hr : ∀ o k, (o < 402 ∨ 900000 ≤ o) → ¬ (o = 140 ∧ k = 0) → R' o k = R o k) : LM S' R' := by
  unfold LM
  repeat' apply And.intro
  all_goals first
    | (rw [hs _ (by decide)]; simp only [LM_out hL])
    | (rw [hr _ _ (by decide) (by decide)]; simp only [LM_out hL])
variable {S : xS} {I : xI} {J : xJ} {D : xDb} {R : xR} {b : Nat × Nat} {Q : xQ}
theorem w_copyB {P : xP} {K : xK} {l : xL} {st : List Value} {z a n k j : Nat} (h1 : xCat st ≤ 8) (h2 : S z = (103, k)) (h3 : S a = (103, j)) (hk : n ≤ k) (hj : n ≤ j) (hn : n < 2147483648) (hf : ∀ i, i < n → bF (I z i)) (hK : K l st (S, cpr I z a n, J, D, R) b) : i_copy 103 P Q K l (.int (nI n) :: .int 0 :: .ref a :: .int 0 :: .ref z :: st) (S, I, J, D, R) b := by
  refine ⟨h1, ?_, ?_, by decide, by decide, nI_pos hn, ?_, ?_, fun i hi => ?_, ?_⟩
  · rw [hg_S, h2]
  · rw [hg_S, h3]
  · rw [hg_S, h2, nI_ix hn, ix_0, Nat.zero_add]; exact hk
  · rw [hg_S, h3, nI_ix hn, ix_0, Nat.zero_add]; exact hj
  · rw [nI_ix hn] at hi
    rw [ix_0, Nat.zero_add]
    exact hf i hi
  · rw [if_neg (by decide), nI_ix hn, ix_0, hs_cpI]; exact hK
theorem shl0 (x : Int32) : jShl x 0 = x := by
  unfold jShl
  rw [show ((0 : Int32) &&& 31) = 0 from by decide]
  exact Int32.shiftLeft_zero
theorem nI_subn {a c : Nat} (h : c ≤ a) : nI a - nI c = nI (a - c) := by
  obtain ⟨d, rfl⟩ : ∃ d, a = c + d := ⟨a - c, by omega⟩
  rw [← nI_add, Nat.add_sub_cancel_left]
  grind
theorem R20 {a g m : Nat} (ha : a + (if g < m then m else g) < 2147483639) (h0 : 0 < a) (hg : g < 2147483648) (hm : m < 2147483648) : xRun xT 20 0 [(0, .int (nI a)), (1, .int (nI g)), (2, .int (nI m))] [] (S, I, J, D, R) b Q = Q (.ok (some (.int (nI (a + if g < m then m else g))))) (S, I, J, D, R) b := by
  have e1 : jMax (nI g) (nI m) = nI (if g < m then m else g) := by
    unfold jMax
    simp only [nI_ltP hg hm]
    split <;> rfl
  rw [e20_0]
  simp only [B20_0, xSeq, i_push, i_load, i_iload, i_lload, i_dload, i_aload, i_istore, i_astore, i_lstore, i_dstore, i_iinc, i_ii, i_iiz, i_ll, i_llz, i_lli, i_li, i_i, i_l, i_i2l, i_l2i, i_dup, i_dup2, i_dup2w, i_dupx1, i_pop, i_pop2, i_goto, i_ifc, i_icmp, i_getI, i_getL, i_getR, i_putI, i_putZ, i_putL, i_putR, i_aldI, i_aldB, i_aldL, i_aldD, i_astI, i_astL, i_astD, i_alen, i_ret, i_iret, i_zret, i_lret, i_fret, i_dret, i_aret, i_invS0, i_invV0, i_m2, i_m1, i_ml, i_obj, lk, lkp, stf1, stf2, Value.category, rV, xTo, lv_args, xCk, xCat, xRc, xAk, hg_S, hg_I, hg_J, hg_D, hg_R, hs_I, hs_J, hs_D, hs_R, uI_at, uJ_at, uD_at, uR_at, List.take_succ_cons, List.take_zero, List.drop_succ_cons, List.drop_zero, List.reverse_cons, List.reverse_nil, List.nil_append, List.cons_append, List.map_cons, List.map_nil, List.sum_cons, List.sum_nil, List.length_cons, List.length_nil, Option.toList_some, Option.toList_none, true_and, and_true, false_and, and_false, true_implies, false_implies, implies_true, not_true_eq_false, not_false_eq_true, ne_eq, if_true, if_false, Bool.and_true, Bool.true_and, decide_true, decide_false, reduceIte, reduceCtorEq, Bool.and_self, Bool.and_eq_true, decide_eq_true_eq, and_self, true_or, or_true, false_or, or_false, Nat.zero_add, Nat.add_zero, eq_self, Nat.reduceEqDiff, Nat.reduceLeDiff, Nat.reduceLT, Nat.reduceAdd, Nat.reduceSub, Nat.reduceMul, e1, nI_add, show (nI (a + if g < m then m else g) ≤ 0) = False from eq_false (nI_nle (by omega) (by omega)), show ((2147483639 : Int32) < nI (a + if g < m then m else g)) = False from eq_false (fun h => by
    rw [show (2147483639 : Int32) = nI 2147483639 from rfl, nI_ltI (by decide) (by omega)] at h
    omega)]
theorem L18 (hL : LC S R) {f v cap cnt need : Nat} (h : OS S0 I0 J0 R0 f v cap cnt S I J R) (hn : need ≤ 1000) (hn2 : need ≤ 2 * cap + 2) (hf : f < 900000) (b1 : 1 ≤ b.1) (b2 : 5000 ≤ b.2)
    (kk : ∀ S' I' J' D' R' f' v' cap' b', OS S0 I0 J0 R0 f' v' cap' cnt S' I' J' R' → f' ≤ f + 1 → need ≤ cap' → Q (.ok none) (S', I', J', D', R') b') :
    xRun xT 18 0 [(0, .ref 140), (1, .int (nI need))] [] (S, I, J, D, R) b Q := by
  have h' := h
  obtain ⟨⟨o1, o2, o3, o4, o5, o6, o7, o8, o9⟩, o10, o11, f1, f2, f3, f4⟩ := h'
  have S140 : S 140 = (9, 0) := by simp only [LC_out hL]
  have ak : ((100 ≤ 103 ∧ 103 < 106) ∨ 103 = 107 ∨ 103 = 108) = True := eq_true (by decide)
  rw [e18_0]
  simp only [B18_0, xSeq, i_push, i_load, i_iload, i_lload, i_dload, i_aload, i_istore, i_astore, i_lstore, i_dstore, i_iinc, i_ii, i_iiz, i_ll, i_llz, i_lli, i_li, i_i, i_l, i_i2l, i_l2i, i_dup, i_dup2, i_dup2w, i_dupx1, i_pop, i_pop2, i_goto, i_ifc, i_icmp, i_getI, i_getL, i_getR, i_putI, i_putZ, i_putL, i_putR, i_aldI, i_aldB, i_aldL, i_aldD, i_astI, i_astL, i_astD, i_alen, i_ret, i_iret, i_zret, i_lret, i_fret, i_dret, i_aret, i_invS0, i_invV0, i_m2, i_m1, i_ml, i_obj, lk, lkp, stf1, stf2, Value.category, rV, xTo, lv_args, xCk, xCat, xRc, xAk, hg_S, hg_I, hg_J, hg_D, hg_R, hs_I, hs_J, hs_D, hs_R, uI_at, uJ_at, uD_at, uR_at, List.take_succ_cons, List.take_zero, List.drop_succ_cons, List.drop_zero, List.reverse_cons, List.reverse_nil, List.nil_append, List.cons_append, List.map_cons, List.map_nil, List.sum_cons, List.sum_nil, List.length_cons, List.length_nil, Option.toList_some, Option.toList_none, true_and, and_true, false_and, and_false, true_implies, false_implies, implies_true, not_true_eq_false, not_false_eq_true, ne_eq, if_true, if_false, Bool.and_true, Bool.true_and, decide_true, decide_false, reduceIte, reduceCtorEq, Bool.and_self, Bool.and_eq_true, decide_eq_true_eq, and_self, true_or, or_true, false_or, or_false, Nat.zero_add, Nat.add_zero, eq_self, Nat.reduceEqDiff, Nat.reduceLeDiff, Nat.reduceLT, Nat.reduceAdd, Nat.reduceSub, Nat.reduceMul, LC_out hL, o1, o2, o3, shr0, shl0, ak]
  by_cases hc : need ≤ cap
  · have e : (nI need - nI cap ≤ 0) = True := eq_true (by
      have h2 := Int32.sub_eq_add_neg (nI need) (nI cap)
      rw [Int32.le_iff_toInt_le, Int32.toInt_sub, nI_toInt (by omega), nI_toInt (by omega)]
      rw [show (0 : Int32).toInt = 0 from rfl, Int.bmod_eq_of_le (by omega) (by omega)]
      omega)
    simp only [e, xSeq, i_push, i_load, i_iload, i_lload, i_dload, i_aload, i_istore, i_astore, i_lstore, i_dstore, i_iinc, i_ii, i_iiz, i_ll, i_llz, i_lli, i_li, i_i, i_l, i_i2l, i_l2i, i_dup, i_dup2, i_dup2w, i_dupx1, i_pop, i_pop2, i_goto, i_ifc, i_icmp, i_getI, i_getL, i_getR, i_putI, i_putZ, i_putL, i_putR, i_aldI, i_aldB, i_aldL, i_aldD, i_astI, i_astL, i_astD, i_alen, i_ret, i_iret, i_zret, i_lret, i_fret, i_dret, i_aret, i_invS0, i_invV0, i_m2, i_m1, i_ml, i_obj, lk, lkp, stf1, stf2, Value.category, rV, xTo, lv_args, xCk, xCat, xRc, xAk, hg_S, hg_I, hg_J, hg_D, hg_R, hs_I, hs_J, hs_D, hs_R, uI_at, uJ_at, uD_at, uR_at, List.take_succ_cons, List.take_zero, List.drop_succ_cons, List.drop_zero, List.reverse_cons, List.reverse_nil, List.nil_append, List.cons_append, List.map_cons, List.map_nil, List.sum_cons, List.sum_nil, List.length_cons, List.length_nil, Option.toList_some, Option.toList_none, true_and, and_true, false_and, and_false, true_implies, false_implies, implies_true, not_true_eq_false, not_false_eq_true, ne_eq, if_true, if_false, Bool.and_true, Bool.true_and, decide_true, decide_false, reduceIte, reduceCtorEq, Bool.and_self, Bool.and_eq_true, decide_eq_true_eq, and_self, true_or, or_true, false_or, or_false, Nat.zero_add, Nat.add_zero, eq_self, Nat.reduceEqDiff, Nat.reduceLeDiff, Nat.reduceLT, Nat.reduceAdd, Nat.reduceSub, Nat.reduceMul, e18_38, B18_38]
    exact kk S I J D R f v cap b h (by omega) hc
  · have e : (nI need - nI cap ≤ 0) = False := eq_false (by
      rw [nI_subn (by omega)]
      exact nI_nle (by omega) (by omega))
    have e2 : nI cap + 2 = nI (cap + 2) := by rw [show (2 : Int32) = nI 2 from rfl, nI_add]
    have e3 : (if need - cap < cap + 2 then cap + 2 else need - cap) = cap + 2 := by split <;> omega
    have h20 := fun (b : Nat × Nat) (Q : xQ) => R20 (S := S) (I := I) (J := J) (D := D) (R := R) (b := b) (Q := Q) (a := cap) (g := need - cap) (m := cap + 2) (by rw [e3]; omega) (by omega) (by omega) (by omega)
    rw [e3] at h20
    simp only [e, xSeq, i_push, i_load, i_iload, i_lload, i_dload, i_aload, i_istore, i_astore, i_lstore, i_dstore, i_iinc, i_ii, i_iiz, i_ll, i_llz, i_lli, i_li, i_i, i_l, i_i2l, i_l2i, i_dup, i_dup2, i_dup2w, i_dupx1, i_pop, i_pop2, i_goto, i_ifc, i_icmp, i_getI, i_getL, i_getR, i_putI, i_putZ, i_putL, i_putR, i_aldI, i_aldB, i_aldL, i_aldD, i_astI, i_astL, i_astD, i_alen, i_ret, i_iret, i_zret, i_lret, i_fret, i_dret, i_aret, i_invS0, i_invV0, i_m2, i_m1, i_ml, i_obj, lk, lkp, stf1, stf2, Value.category, rV, xTo, lv_args, xCk, xCat, xRc, xAk, hg_S, hg_I, hg_J, hg_D, hg_R, hs_I, hs_J, hs_D, hs_R, uI_at, uJ_at, uD_at, uR_at, List.take_succ_cons, List.take_zero, List.drop_succ_cons, List.drop_zero, List.reverse_cons, List.reverse_nil, List.nil_append, List.cons_append, List.map_cons, List.map_nil, List.sum_cons, List.sum_nil, List.length_cons, List.length_nil, Option.toList_some, Option.toList_none, true_and, and_true, false_and, and_false, true_implies, false_implies, implies_true, not_true_eq_false, not_false_eq_true, ne_eq, if_true, if_false, Bool.and_true, Bool.true_and, decide_true, decide_false, reduceIte, reduceCtorEq, Bool.and_self, Bool.and_eq_true, decide_eq_true_eq, and_self, true_or, or_true, false_or, or_false, Nat.zero_add, Nat.add_zero, eq_self, Nat.reduceEqDiff, Nat.reduceLeDiff, Nat.reduceLT, Nat.reduceAdd, Nat.reduceSub, Nat.reduceMul]
    refine w_invVA (mc := 0) (ms := 0) (Nat.zero_le _) (Nat.zero_le _) rfl (by simp only [xSeq, i_push, i_load, i_iload, i_lload, i_dload, i_aload, i_istore, i_astore, i_lstore, i_dstore, i_iinc, i_ii, i_iiz, i_ll, i_llz, i_lli, i_li, i_i, i_l, i_i2l, i_l2i, i_dup, i_dup2, i_dup2w, i_dupx1, i_pop, i_pop2, i_goto, i_ifc, i_icmp, i_getI, i_getL, i_getR, i_putI, i_putZ, i_putL, i_putR, i_aldI, i_aldB, i_aldL, i_aldD, i_astI, i_astL, i_astD, i_alen, i_ret, i_iret, i_zret, i_lret, i_fret, i_dret, i_aret, i_invS0, i_invV0, i_m2, i_m1, i_ml, i_obj, lk, lkp, stf1, stf2, Value.category, rV, xTo, lv_args, xCk, xCat, xRc, xAk, hg_S, hg_I, hg_J, hg_D, hg_R, hs_I, hs_J, hs_D, hs_R, uI_at, uJ_at, uD_at, uR_at, List.take_succ_cons, List.take_zero, List.drop_succ_cons, List.drop_zero, List.reverse_cons, List.reverse_nil, List.nil_append, List.cons_append, List.map_cons, List.map_nil, List.sum_cons, List.sum_nil, List.length_cons, List.length_nil, Option.toList_some, Option.toList_none, true_and, and_true, false_and, and_false, true_implies, false_implies, implies_true, not_true_eq_false, not_false_eq_true, ne_eq, if_true, if_false, Bool.and_true, Bool.true_and, decide_true, decide_false, reduceIte, reduceCtorEq, Bool.and_self, Bool.and_eq_true, decide_eq_true_eq, and_self, true_or, or_true, false_or, or_false, Nat.zero_add, Nat.add_zero, eq_self, Nat.reduceEqDiff, Nat.reduceLeDiff, Nat.reduceLT, Nat.reduceAdd, Nat.reduceSub, Nat.reduceMul, S140]) ?_
    simp only [xSeq, i_push, i_load, i_iload, i_lload, i_dload, i_aload, i_istore, i_astore, i_lstore, i_dstore, i_iinc, i_ii, i_iiz, i_ll, i_llz, i_lli, i_li, i_i, i_l, i_i2l, i_l2i, i_dup, i_dup2, i_dup2w, i_dupx1, i_pop, i_pop2, i_goto, i_ifc, i_icmp, i_getI, i_getL, i_getR, i_putI, i_putZ, i_putL, i_putR, i_aldI, i_aldB, i_aldL, i_aldD, i_astI, i_astL, i_astD, i_alen, i_ret, i_iret, i_zret, i_lret, i_fret, i_dret, i_aret, i_invS0, i_invV0, i_m2, i_m1, i_ml, i_obj, lk, lkp, stf1, stf2, Value.category, rV, xTo, lv_args, xCk, xCat, xRc, xAk, hg_S, hg_I, hg_J, hg_D, hg_R, hs_I, hs_J, hs_D, hs_R, uI_at, uJ_at, uD_at, uR_at, List.take_succ_cons, List.take_zero, List.drop_succ_cons, List.drop_zero, List.reverse_cons, List.reverse_nil, List.nil_append, List.cons_append, List.map_cons, List.map_nil, List.sum_cons, List.sum_nil, List.length_cons, List.length_nil, Option.toList_some, Option.toList_none, true_and, and_true, false_and, and_false, true_implies, false_implies, implies_true, not_true_eq_false, not_false_eq_true, ne_eq, if_true, if_false, Bool.and_true, Bool.true_and, decide_true, decide_false, reduceIte, reduceCtorEq, Bool.and_self, Bool.and_eq_true, decide_eq_true_eq, and_self, true_or, or_true, false_or, or_false, Nat.zero_add, Nat.add_zero, eq_self, Nat.reduceEqDiff, Nat.reduceLeDiff, Nat.reduceLT, Nat.reduceAdd, Nat.reduceSub, Nat.reduceMul]
    rw [e19_0]
    simp only [B19_0, xSeq, i_push, i_load, i_iload, i_lload, i_dload, i_aload, i_istore, i_astore, i_lstore, i_dstore, i_iinc, i_ii, i_iiz, i_ll, i_llz, i_lli, i_li, i_i, i_l, i_i2l, i_l2i, i_dup, i_dup2, i_dup2w, i_dupx1, i_pop, i_pop2, i_goto, i_ifc, i_icmp, i_getI, i_getL, i_getR, i_putI, i_putZ, i_putL, i_putR, i_aldI, i_aldB, i_aldL, i_aldD, i_astI, i_astL, i_astD, i_alen, i_ret, i_iret, i_zret, i_lret, i_fret, i_dret, i_aret, i_invS0, i_invV0, i_m2, i_m1, i_ml, i_obj, lk, lkp, stf1, stf2, Value.category, rV, xTo, lv_args, xCk, xCat, xRc, xAk, hg_S, hg_I, hg_J, hg_D, hg_R, hs_I, hs_J, hs_D, hs_R, uI_at, uJ_at, uD_at, uR_at, List.take_succ_cons, List.take_zero, List.drop_succ_cons, List.drop_zero, List.reverse_cons, List.reverse_nil, List.nil_append, List.cons_append, List.map_cons, List.map_nil, List.sum_cons, List.sum_nil, List.length_cons, List.length_nil, Option.toList_some, Option.toList_none, true_and, and_true, false_and, and_false, true_implies, false_implies, implies_true, not_true_eq_false, not_false_eq_true, ne_eq, if_true, if_false, Bool.and_true, Bool.true_and, decide_true, decide_false, reduceIte, reduceCtorEq, Bool.and_self, Bool.and_eq_true, decide_eq_true_eq, and_self, true_or, or_true, false_or, or_false, Nat.zero_add, Nat.add_zero, eq_self, Nat.reduceEqDiff, Nat.reduceLeDiff, Nat.reduceLT, Nat.reduceAdd, Nat.reduceSub, Nat.reduceMul, S140, o1, o2, o3, shl0, nI_subn (show cap ≤ need by omega), e2, h20, ak, show ((nI (cap + (cap + 2)) : Int32) = 2147483647) = False from eq_false (by rw [show (2147483647 : Int32) = nI 2147483647 from rfl, nI_iff (by omega) (by decide)]; omega), e19_51, B19_51, shr0]
    refine w_invSA (mc := 1) (ms := 5000) (by omega) (by omega) rfl ?_
    simp only [xSeq, i_push, i_load, i_iload, i_lload, i_dload, i_aload, i_istore, i_astore, i_lstore, i_dstore, i_iinc, i_ii, i_iiz, i_ll, i_llz, i_lli, i_li, i_i, i_l, i_i2l, i_l2i, i_dup, i_dup2, i_dup2w, i_dupx1, i_pop, i_pop2, i_goto, i_ifc, i_icmp, i_getI, i_getL, i_getR, i_putI, i_putZ, i_putL, i_putR, i_aldI, i_aldB, i_aldL, i_aldD, i_astI, i_astL, i_astD, i_alen, i_ret, i_iret, i_zret, i_lret, i_fret, i_dret, i_aret, i_invS0, i_invV0, i_m2, i_m1, i_ml, i_obj, lk, lkp, stf1, stf2, Value.category, rV, xTo, lv_args, xCk, xCat, xRc, xAk, hg_S, hg_I, hg_J, hg_D, hg_R, hs_I, hs_J, hs_D, hs_R, uI_at, uJ_at, uD_at, uR_at, List.take_succ_cons, List.take_zero, List.drop_succ_cons, List.drop_zero, List.reverse_cons, List.reverse_nil, List.nil_append, List.cons_append, List.map_cons, List.map_nil, List.sum_cons, List.sum_nil, List.length_cons, List.length_nil, Option.toList_some, Option.toList_none, true_and, and_true, false_and, and_false, true_implies, false_implies, implies_true, not_true_eq_false, not_false_eq_true, ne_eq, if_true, if_false, Bool.and_true, Bool.true_and, decide_true, decide_false, reduceIte, reduceCtorEq, Bool.and_self, Bool.and_eq_true, decide_eq_true_eq, and_self, true_or, or_true, false_or, or_false, Nat.zero_add, Nat.add_zero, eq_self, Nat.reduceEqDiff, Nat.reduceLeDiff, Nat.reduceLT, Nat.reduceAdd, Nat.reduceSub, Nat.reduceMul]
    rw [e21_0]
    simp only [B21_0, xSeq, i_push, i_load, i_iload, i_lload, i_dload, i_aload, i_istore, i_astore, i_lstore, i_dstore, i_iinc, i_ii, i_iiz, i_ll, i_llz, i_lli, i_li, i_i, i_l, i_i2l, i_l2i, i_dup, i_dup2, i_dup2w, i_dupx1, i_pop, i_pop2, i_goto, i_ifc, i_icmp, i_getI, i_getL, i_getR, i_putI, i_putZ, i_putL, i_putR, i_aldI, i_aldB, i_aldL, i_aldD, i_astI, i_astL, i_astD, i_alen, i_ret, i_iret, i_zret, i_lret, i_fret, i_dret, i_aret, i_invS0, i_invV0, i_m2, i_m1, i_ml, i_obj, lk, lkp, stf1, stf2, Value.category, rV, xTo, lv_args, xCk, xCat, xRc, xAk, hg_S, hg_I, hg_J, hg_D, hg_R, hs_I, hs_J, hs_D, hs_R, uI_at, uJ_at, uD_at, uR_at, List.take_succ_cons, List.take_zero, List.drop_succ_cons, List.drop_zero, List.reverse_cons, List.reverse_nil, List.nil_append, List.cons_append, List.map_cons, List.map_nil, List.sum_cons, List.sum_nil, List.length_cons, List.length_nil, Option.toList_some, Option.toList_none, true_and, and_true, false_and, and_false, true_implies, false_implies, implies_true, not_true_eq_false, not_false_eq_true, ne_eq, if_true, if_false, Bool.and_true, Bool.true_and, decide_true, decide_false, reduceIte, reduceCtorEq, Bool.and_self, Bool.and_eq_true, decide_eq_true_eq, and_self, true_or, or_true, false_or, or_false, Nat.zero_add, Nat.add_zero, eq_self, Nat.reduceEqDiff, Nat.reduceLeDiff, Nat.reduceLT, Nat.reduceAdd, Nat.reduceSub, Nat.reduceMul, o2, ak, show ((nI (cap + (cap + 2)) : Int32) = nI cap) = False from eq_false (by rw [nI_iff (by omega) (by omega)]; omega)]
    rw [e21_14]
    simp only [B21_14, xSeq, i_push, i_load, i_iload, i_lload, i_dload, i_aload, i_istore, i_astore, i_lstore, i_dstore, i_iinc, i_ii, i_iiz, i_ll, i_llz, i_lli, i_li, i_i, i_l, i_i2l, i_l2i, i_dup, i_dup2, i_dup2w, i_dupx1, i_pop, i_pop2, i_goto, i_ifc, i_icmp, i_getI, i_getL, i_getR, i_putI, i_putZ, i_putL, i_putR, i_aldI, i_aldB, i_aldL, i_aldD, i_astI, i_astL, i_astD, i_alen, i_ret, i_iret, i_zret, i_lret, i_fret, i_dret, i_aret, i_invS0, i_invV0, i_m2, i_m1, i_ml, i_obj, lk, lkp, stf1, stf2, Value.category, rV, xTo, lv_args, xCk, xCat, xRc, xAk, hg_S, hg_I, hg_J, hg_D, hg_R, hs_I, hs_J, hs_D, hs_R, uI_at, uJ_at, uD_at, uR_at, List.take_succ_cons, List.take_zero, List.drop_succ_cons, List.drop_zero, List.reverse_cons, List.reverse_nil, List.nil_append, List.cons_append, List.map_cons, List.map_nil, List.sum_cons, List.sum_nil, List.length_cons, List.length_nil, Option.toList_some, Option.toList_none, true_and, and_true, false_and, and_false, true_implies, false_implies, implies_true, not_true_eq_false, not_false_eq_true, ne_eq, if_true, if_false, Bool.and_true, Bool.true_and, decide_true, decide_false, reduceIte, reduceCtorEq, Bool.and_self, Bool.and_eq_true, decide_eq_true_eq, and_self, true_or, or_true, false_or, or_false, Nat.zero_add, Nat.add_zero, eq_self, Nat.reduceEqDiff, Nat.reduceLeDiff, Nat.reduceLT, Nat.reduceAdd, Nat.reduceSub, Nat.reduceMul]
    refine w_newa f (cap + (cap + 2)) (nI_pos (by omega)) (nI_ix (by omega)) (by omega) (by omega) (by omega) (by rw [o11 f (Nat.le_refl f) hf]) hf ?_
    have vf : v ≠ f := by omega
    have c1 : (v = f) = False := eq_false vf
    have c2 : (140 = f) = False := eq_false (by omega)
    have e5 : jMin (nI cap) (nI (cap + (cap + 2))) = nI cap := by
      unfold jMin
      rw [if_neg (nI_nlt (by omega) (by omega))]
    simp only [xSeq, i_push, i_load, i_iload, i_lload, i_dload, i_aload, i_istore, i_astore, i_lstore, i_dstore, i_iinc, i_ii, i_iiz, i_ll, i_llz, i_lli, i_li, i_i, i_l, i_i2l, i_l2i, i_dup, i_dup2, i_dup2w, i_dupx1, i_pop, i_pop2, i_goto, i_ifc, i_icmp, i_getI, i_getL, i_getR, i_putI, i_putZ, i_putL, i_putR, i_aldI, i_aldB, i_aldL, i_aldD, i_astI, i_astL, i_astD, i_alen, i_ret, i_iret, i_zret, i_lret, i_fret, i_dret, i_aret, i_invS0, i_invV0, i_m2, i_m1, i_ml, i_obj, lk, lkp, stf1, stf2, Value.category, rV, xTo, lv_args, xCk, xCat, xRc, xAk, hg_S, hg_I, hg_J, hg_D, hg_R, hs_I, hs_J, hs_D, hs_R, uI_at, uJ_at, uD_at, uR_at, List.take_succ_cons, List.take_zero, List.drop_succ_cons, List.drop_zero, List.reverse_cons, List.reverse_nil, List.nil_append, List.cons_append, List.map_cons, List.map_nil, List.sum_cons, List.sum_nil, List.length_cons, List.length_nil, Option.toList_some, Option.toList_none, true_and, and_true, false_and, and_false, true_implies, false_implies, implies_true, not_true_eq_false, not_false_eq_true, ne_eq, if_true, if_false, Bool.and_true, Bool.true_and, decide_true, decide_false, reduceIte, reduceCtorEq, Bool.and_self, Bool.and_eq_true, decide_eq_true_eq, and_self, true_or, or_true, false_or, or_false, Nat.zero_add, Nat.add_zero, eq_self, Nat.reduceEqDiff, Nat.reduceLeDiff, Nat.reduceLT, Nat.reduceAdd, Nat.reduceSub, Nat.reduceMul, nF_at, zI_at, zJ_at, zD_at, zR_at, o2, ak, c1, e5]
    refine w_copyB (k := cap) (j := cap + (cap + 2)) (by decide) (by rw [nF_at, if_neg vf]; exact o2) (by rw [nF_at, if_pos rfl]) (Nat.le_refl _) (by omega) (by omega) (fun i hi => by rw [zI_at, if_neg vf]; exact o9 i hi) ?_
    simp only [xSeq, i_push, i_load, i_iload, i_lload, i_dload, i_aload, i_istore, i_astore, i_lstore, i_dstore, i_iinc, i_ii, i_iiz, i_ll, i_llz, i_lli, i_li, i_i, i_l, i_i2l, i_l2i, i_dup, i_dup2, i_dup2w, i_dupx1, i_pop, i_pop2, i_goto, i_ifc, i_icmp, i_getI, i_getL, i_getR, i_putI, i_putZ, i_putL, i_putR, i_aldI, i_aldB, i_aldL, i_aldD, i_astI, i_astL, i_astD, i_alen, i_ret, i_iret, i_zret, i_lret, i_fret, i_dret, i_aret, i_invS0, i_invV0, i_m2, i_m1, i_ml, i_obj, lk, lkp, stf1, stf2, Value.category, rV, xTo, lv_args, xCk, xCat, xRc, xAk, hg_S, hg_I, hg_J, hg_D, hg_R, hs_I, hs_J, hs_D, hs_R, uI_at, uJ_at, uD_at, uR_at, List.take_succ_cons, List.take_zero, List.drop_succ_cons, List.drop_zero, List.reverse_cons, List.reverse_nil, List.nil_append, List.cons_append, List.map_cons, List.map_nil, List.sum_cons, List.sum_nil, List.length_cons, List.length_nil, Option.toList_some, Option.toList_none, true_and, and_true, false_and, and_false, true_implies, false_implies, implies_true, not_true_eq_false, not_false_eq_true, ne_eq, if_true, if_false, Bool.and_true, Bool.true_and, decide_true, decide_false, reduceIte, reduceCtorEq, Bool.and_self, Bool.and_eq_true, decide_eq_true_eq, and_self, true_or, or_true, false_or, or_false, Nat.zero_add, Nat.add_zero, eq_self, Nat.reduceEqDiff, Nat.reduceLeDiff, Nat.reduceLT, Nat.reduceAdd, Nat.reduceSub, Nat.reduceMul, nF_at, c2, S140]
    rw [e18_38]
    simp only [B18_38, xSeq, i_push, i_load, i_iload, i_lload, i_dload, i_aload, i_istore, i_astore, i_lstore, i_dstore, i_iinc, i_ii, i_iiz, i_ll, i_llz, i_lli, i_li, i_i, i_l, i_i2l, i_l2i, i_dup, i_dup2, i_dup2w, i_dupx1, i_pop, i_pop2, i_goto, i_ifc, i_icmp, i_getI, i_getL, i_getR, i_putI, i_putZ, i_putL, i_putR, i_aldI, i_aldB, i_aldL, i_aldD, i_astI, i_astL, i_astD, i_alen, i_ret, i_iret, i_zret, i_lret, i_fret, i_dret, i_aret, i_invS0, i_invV0, i_m2, i_m1, i_ml, i_obj, lk, lkp, stf1, stf2, Value.category, rV, xTo, lv_args, xCk, xCat, xRc, xAk, hg_S, hg_I, hg_J, hg_D, hg_R, hs_I, hs_J, hs_D, hs_R, uI_at, uJ_at, uD_at, uR_at, List.take_succ_cons, List.take_zero, List.drop_succ_cons, List.drop_zero, List.reverse_cons, List.reverse_nil, List.nil_append, List.cons_append, List.map_cons, List.map_nil, List.sum_cons, List.sum_nil, List.length_cons, List.length_nil, Option.toList_some, Option.toList_none, true_and, and_true, false_and, and_false, true_implies, false_implies, implies_true, not_true_eq_false, not_false_eq_true, ne_eq, if_true, if_false, Bool.and_true, Bool.true_and, decide_true, decide_false, reduceIte, reduceCtorEq, Bool.and_self, Bool.and_eq_true, decide_eq_true_eq, and_self, true_or, or_true, false_or, or_false, Nat.zero_add, Nat.add_zero, eq_self, Nat.reduceEqDiff, Nat.reduceLeDiff, Nat.reduceLT, Nat.reduceAdd, Nat.reduceSub, Nat.reduceMul]
    refine kk _ _ _ _ _ (f + 1) f (cap + (cap + 2)) _ ⟨⟨?_, ?_, ?_, ?_, Or.inr ⟨o10, by omega⟩, by omega, by omega, by omega, fun k hk => ?_⟩, by omega, fun o g1 g2 => ?_, fun o g => ?_, fun o j g g2 => ?_, fun o j g g2 g3 => ?_, fun o j g => ?_⟩ (Nat.le_refl _) (by omega)
    · simp only [uR_at, true_and, and_true, false_and, and_false, true_implies, false_implies, implies_true, not_true_eq_false, not_false_eq_true, ne_eq, if_true, if_false, Bool.and_true, Bool.true_and, decide_true, decide_false, reduceIte, reduceCtorEq, Bool.and_self, Bool.and_eq_true, decide_eq_true_eq, and_self, true_or, or_true, false_or, or_false, Nat.zero_add, Nat.add_zero, eq_self, Nat.reduceEqDiff, Nat.reduceLeDiff, Nat.reduceLT, Nat.reduceAdd, Nat.reduceSub, Nat.reduceMul]
    · simp only [nF_at, true_and, and_true, false_and, and_false, true_implies, false_implies, implies_true, not_true_eq_false, not_false_eq_true, ne_eq, if_true, if_false, Bool.and_true, Bool.true_and, decide_true, decide_false, reduceIte, reduceCtorEq, Bool.and_self, Bool.and_eq_true, decide_eq_true_eq, and_self, true_or, or_true, false_or, or_false, Nat.zero_add, Nat.add_zero, eq_self, Nat.reduceEqDiff, Nat.reduceLeDiff, Nat.reduceLT, Nat.reduceAdd, Nat.reduceSub, Nat.reduceMul]
    · rw [cpr_at, if_neg (by omega), zI_at, if_neg (by omega)]; exact o3
    · rw [cpr_at, if_neg (by omega), zI_at, if_neg (by omega)]; exact o4
    · rw [cpr_at, if_pos rfl]
      split
      · rename_i hi
        rw [zI_at, if_neg vf]
        exact o9 k hi
      · rw [zI_at, if_pos rfl]
        exact bF_0
    · rw [nF_at, if_neg (by omega)]
      exact o11 o (by omega) g2
    · rw [nF_at, if_neg (by omega)]
      exact f1 o g
    · rw [uR_at, if_neg g2, zR_at, if_neg (by omega)]
      exact f2 o j g g2
    · rw [cpr_at, if_neg (by omega), zI_at, if_neg (by omega)]
      exact f3 o j g g2 g3
    · rw [zJ_at, if_neg (by omega)]
      exact f4 o j g
theorem R22 (hL : LC S R) (h : I 140 1 = 0) : xRun xT 22 0 [(0, .ref 140)] [] (S, I, J, D, R) b Q = Q (.ok (some (.int 1))) (S, I, J, D, R) b := by
  rw [e22_0]
  simp only [B22_0, xSeq, i_push, i_load, i_iload, i_lload, i_dload, i_aload, i_istore, i_astore, i_lstore, i_dstore, i_iinc, i_ii, i_iiz, i_ll, i_llz, i_lli, i_li, i_i, i_l, i_i2l, i_l2i, i_dup, i_dup2, i_dup2w, i_dupx1, i_pop, i_pop2, i_goto, i_ifc, i_icmp, i_getI, i_getL, i_getR, i_putI, i_putZ, i_putL, i_putR, i_aldI, i_aldB, i_aldL, i_aldD, i_astI, i_astL, i_astD, i_alen, i_ret, i_iret, i_zret, i_lret, i_fret, i_dret, i_aret, i_invS0, i_invV0, i_m2, i_m1, i_ml, i_obj, lk, lkp, stf1, stf2, Value.category, rV, xTo, lv_args, xCk, xCat, xRc, xAk, hg_S, hg_I, hg_J, hg_D, hg_R, hs_I, hs_J, hs_D, hs_R, uI_at, uJ_at, uD_at, uR_at, List.take_succ_cons, List.take_zero, List.drop_succ_cons, List.drop_zero, List.reverse_cons, List.reverse_nil, List.nil_append, List.cons_append, List.map_cons, List.map_nil, List.sum_cons, List.sum_nil, List.length_cons, List.length_nil, Option.toList_some, Option.toList_none, true_and, and_true, false_and, and_false, true_implies, false_implies, implies_true, not_true_eq_false, not_false_eq_true, ne_eq, if_true, if_false, Bool.and_true, Bool.true_and, decide_true, decide_false, reduceIte, reduceCtorEq, Bool.and_self, Bool.and_eq_true, decide_eq_true_eq, and_self, true_or, or_true, false_or, or_false, Nat.zero_add, Nat.add_zero, eq_self, Nat.reduceEqDiff, Nat.reduceLeDiff, Nat.reduceLT, Nat.reduceAdd, Nat.reduceSub, Nat.reduceMul, LC_out hL, h, i1_0, e22_18, B22_18]
theorem L26 (hL0 : LC S0 R0) {f v cap cnt : Nat} {x : Nat} (h : OS S0 I0 J0 R0 f v cap cnt S I J R) (hx : x < 256) (hn : cnt < 1000) (hf : f < 900000) (b1 : 1 ≤ b.1) (b2 : 5000 ≤ b.2)
    (kk : ∀ S' I' J' D' R' f' v' cap' b', OS S0 I0 J0 R0 f' v' cap' (cnt + 1) S' I' J' R' → f' ≤ f + 1 → Q (.ok (some (.ref 140))) (S', I', J', D', R') b') :
    xRun xT 26 0 [(0, .ref 140), (1, .int (nI x))] [] (S, I, J, D, R) b Q := by
  have hL : LC S R := LC_g hL0 h.2.2.2.1 h.2.2.2.2.1
  have hcap := h.1.2.2.2.2.2.1
  rw [e26_0]
  simp only [B26_0, xSeq, i_push, i_load, i_iload, i_lload, i_dload, i_aload, i_istore, i_astore, i_lstore, i_dstore, i_iinc, i_ii, i_iiz, i_ll, i_llz, i_lli, i_li, i_i, i_l, i_i2l, i_l2i, i_dup, i_dup2, i_dup2w, i_dupx1, i_pop, i_pop2, i_goto, i_ifc, i_icmp, i_getI, i_getL, i_getR, i_putI, i_putZ, i_putL, i_putR, i_aldI, i_aldB, i_aldL, i_aldD, i_astI, i_astL, i_astD, i_alen, i_ret, i_iret, i_zret, i_lret, i_fret, i_dret, i_aret, i_invS0, i_invV0, i_m2, i_m1, i_ml, i_obj, lk, lkp, stf1, stf2, Value.category, rV, xTo, lv_args, xCk, xCat, xRc, xAk, hg_S, hg_I, hg_J, hg_D, hg_R, hs_I, hs_J, hs_D, hs_R, uI_at, uJ_at, uD_at, uR_at, List.take_succ_cons, List.take_zero, List.drop_succ_cons, List.drop_zero, List.reverse_cons, List.reverse_nil, List.nil_append, List.cons_append, List.map_cons, List.map_nil, List.sum_cons, List.sum_nil, List.length_cons, List.length_nil, Option.toList_some, Option.toList_none, true_and, and_true, false_and, and_false, true_implies, false_implies, implies_true, not_true_eq_false, not_false_eq_true, ne_eq, if_true, if_false, Bool.and_true, Bool.true_and, decide_true, decide_false, reduceIte, reduceCtorEq, Bool.and_self, Bool.and_eq_true, decide_eq_true_eq, and_self, true_or, or_true, false_or, or_false, Nat.zero_add, Nat.add_zero, eq_self, Nat.reduceEqDiff, Nat.reduceLeDiff, Nat.reduceLT, Nat.reduceAdd, Nat.reduceSub, Nat.reduceMul, LC_out hL, h.1.2.2.2.1, nI_1]
  refine w_invVA (mc := 1) (ms := 5000) b1 b2 rfl (by simp only [xSeq, i_push, i_load, i_iload, i_lload, i_dload, i_aload, i_istore, i_astore, i_lstore, i_dstore, i_iinc, i_ii, i_iiz, i_ll, i_llz, i_lli, i_li, i_i, i_l, i_i2l, i_l2i, i_dup, i_dup2, i_dup2w, i_dupx1, i_pop, i_pop2, i_goto, i_ifc, i_icmp, i_getI, i_getL, i_getR, i_putI, i_putZ, i_putL, i_putR, i_aldI, i_aldB, i_aldL, i_aldD, i_astI, i_astL, i_astD, i_alen, i_ret, i_iret, i_zret, i_lret, i_fret, i_dret, i_aret, i_invS0, i_invV0, i_m2, i_m1, i_ml, i_obj, lk, lkp, stf1, stf2, Value.category, rV, xTo, lv_args, xCk, xCat, xRc, xAk, hg_S, hg_I, hg_J, hg_D, hg_R, hs_I, hs_J, hs_D, hs_R, uI_at, uJ_at, uD_at, uR_at, List.take_succ_cons, List.take_zero, List.drop_succ_cons, List.drop_zero, List.reverse_cons, List.reverse_nil, List.nil_append, List.cons_append, List.map_cons, List.map_nil, List.sum_cons, List.sum_nil, List.length_cons, List.length_nil, Option.toList_some, Option.toList_none, true_and, and_true, false_and, and_false, true_implies, false_implies, implies_true, not_true_eq_false, not_false_eq_true, ne_eq, if_true, if_false, Bool.and_true, Bool.true_and, decide_true, decide_false, reduceIte, reduceCtorEq, Bool.and_self, Bool.and_eq_true, decide_eq_true_eq, and_self, true_or, or_true, false_or, or_false, Nat.zero_add, Nat.add_zero, eq_self, Nat.reduceEqDiff, Nat.reduceLeDiff, Nat.reduceLT, Nat.reduceAdd, Nat.reduceSub, Nat.reduceMul, LC_out hL]) ?_
  simp only [xSeq, i_push, i_load, i_iload, i_lload, i_dload, i_aload, i_istore, i_astore, i_lstore, i_dstore, i_iinc, i_ii, i_iiz, i_ll, i_llz, i_lli, i_li, i_i, i_l, i_i2l, i_l2i, i_dup, i_dup2, i_dup2w, i_dupx1, i_pop, i_pop2, i_goto, i_ifc, i_icmp, i_getI, i_getL, i_getR, i_putI, i_putZ, i_putL, i_putR, i_aldI, i_aldB, i_aldL, i_aldD, i_astI, i_astL, i_astD, i_alen, i_ret, i_iret, i_zret, i_lret, i_fret, i_dret, i_aret, i_invS0, i_invV0, i_m2, i_m1, i_ml, i_obj, lk, lkp, stf1, stf2, Value.category, rV, xTo, lv_args, xCk, xCat, xRc, xAk, hg_S, hg_I, hg_J, hg_D, hg_R, hs_I, hs_J, hs_D, hs_R, uI_at, uJ_at, uD_at, uR_at, List.take_succ_cons, List.take_zero, List.drop_succ_cons, List.drop_zero, List.reverse_cons, List.reverse_nil, List.nil_append, List.cons_append, List.map_cons, List.map_nil, List.sum_cons, List.sum_nil, List.length_cons, List.length_nil, Option.toList_some, Option.toList_none, true_and, and_true, false_and, and_false, true_implies, false_implies, implies_true, not_true_eq_false, not_false_eq_true, ne_eq, if_true, if_false, Bool.and_true, Bool.true_and, decide_true, decide_false, reduceIte, reduceCtorEq, Bool.and_self, Bool.and_eq_true, decide_eq_true_eq, and_self, true_or, or_true, false_or, or_false, Nat.zero_add, Nat.add_zero, eq_self, Nat.reduceEqDiff, Nat.reduceLeDiff, Nat.reduceLT, Nat.reduceAdd, Nat.reduceSub, Nat.reduceMul]
  refine L18 hL h (by omega) (by omega) hf (by decide) (by decide) (fun S' I' J' D' R' f' v' cap' b' h' hf' hc' => ?_)
  have hL' : LC S' R' := LC_g hL0 h'.2.2.2.1 h'.2.2.2.2.1
  have h1' := h'
  obtain ⟨⟨o1, o2, o3, o4, o5, o6, o7, o8, o9⟩, o10, o11, f1, f2, f3, f4⟩ := h1'
  simp only [xSeq, i_push, i_load, i_iload, i_lload, i_dload, i_aload, i_istore, i_astore, i_lstore, i_dstore, i_iinc, i_ii, i_iiz, i_ll, i_llz, i_lli, i_li, i_i, i_l, i_i2l, i_l2i, i_dup, i_dup2, i_dup2w, i_dupx1, i_pop, i_pop2, i_goto, i_ifc, i_icmp, i_getI, i_getL, i_getR, i_putI, i_putZ, i_putL, i_putR, i_aldI, i_aldB, i_aldL, i_aldD, i_astI, i_astL, i_astD, i_alen, i_ret, i_iret, i_zret, i_lret, i_fret, i_dret, i_aret, i_invS0, i_invV0, i_m2, i_m1, i_ml, i_obj, lk, lkp, stf1, stf2, Value.category, rV, xTo, lv_args, xCk, xCat, xRc, xAk, hg_S, hg_I, hg_J, hg_D, hg_R, hs_I, hs_J, hs_D, hs_R, uI_at, uJ_at, uD_at, uR_at, List.take_succ_cons, List.take_zero, List.drop_succ_cons, List.drop_zero, List.reverse_cons, List.reverse_nil, List.nil_append, List.cons_append, List.map_cons, List.map_nil, List.sum_cons, List.sum_nil, List.length_cons, List.length_nil, Option.toList_some, Option.toList_none, true_and, and_true, false_and, and_false, true_implies, false_implies, implies_true, not_true_eq_false, not_false_eq_true, ne_eq, if_true, if_false, Bool.and_true, Bool.true_and, decide_true, decide_false, reduceIte, reduceCtorEq, Bool.and_self, Bool.and_eq_true, decide_eq_true_eq, and_self, true_or, or_true, false_or, or_false, Nat.zero_add, Nat.add_zero, eq_self, Nat.reduceEqDiff, Nat.reduceLeDiff, Nat.reduceLT, Nat.reduceAdd, Nat.reduceSub, Nat.reduceMul, R22 hL' o3, i1_0, e27_0, B27_0, show ((255 : Int32) < nI x) = False from eq_false (fun h => by
    rw [show (255 : Int32) = nI 255 from rfl, nI_ltI (by decide) (by omega)] at h
    omega), e27_12, B27_12, LC_out hL', o1, o2, o4, nI_1, nI_inP (show cnt < cap' by omega) (by omega), nI_ix (show cnt < 2147483648 by omega), e26_75, B26_75]
  refine kk _ _ _ _ _ f' v' cap' _ ⟨⟨o1, o2, ?_, ?_, o5, hc', o7, o8, fun k hk => ?_⟩, o10, o11, f1, f2, fun o j g g2 g3 => ?_, f4⟩ hf'
  · have c1 : ¬ (140 = v' ∧ 1 = cnt) := by omega
    rw [uI_at, if_neg c1, uI_at, if_neg (by omega)]
    exact o3
  · have c1 : ¬ (140 = v' ∧ 3 = cnt) := by omega
    rw [uI_at, if_neg c1, uI_at, if_pos ⟨rfl, rfl⟩]
  · rw [uI_at]
    split
    · exact bF_n _
    · rw [uI_at, if_neg (by omega)]
      exact o9 k hk
  · rw [uI_at, if_neg (by omega), uI_at, if_neg (by omega)]
    exact f3 o j g g2 g3
theorem L25 (hL0 : LC S0 R0) {f v cap cnt : Nat} {x : Nat} (h : OS S0 I0 J0 R0 f v cap cnt S I J R) (hx : x < 256) (hn : cnt < 1000) (hf : f < 900000) (b1 : 1 ≤ b.1) (b2 : 5000 ≤ b.2)
    (kk : ∀ S' I' J' D' R' f' v' cap' b', OS S0 I0 J0 R0 f' v' cap' (cnt + 1) S' I' J' R' → f' ≤ f + 1 → Q (.ok (some (.ref 140))) (S', I', J', D', R') b') :
    xRun xT 25 0 [(0, .ref 140), (1, .int (nI x))] [] (S, I, J, D, R) b Q := by
  have hL : LC S R := LC_g hL0 h.2.2.2.1 h.2.2.2.2.1
  rw [e25_0]
  simp only [B25_0, xSeq, i_push, i_load, i_iload, i_lload, i_dload, i_aload, i_istore, i_astore, i_lstore, i_dstore, i_iinc, i_ii, i_iiz, i_ll, i_llz, i_lli, i_li, i_i, i_l, i_i2l, i_l2i, i_dup, i_dup2, i_dup2w, i_dupx1, i_pop, i_pop2, i_goto, i_ifc, i_icmp, i_getI, i_getL, i_getR, i_putI, i_putZ, i_putL, i_putR, i_aldI, i_aldB, i_aldL, i_aldD, i_astI, i_astL, i_astD, i_alen, i_ret, i_iret, i_zret, i_lret, i_fret, i_dret, i_aret, i_invS0, i_invV0, i_m2, i_m1, i_ml, i_obj, lk, lkp, stf1, stf2, Value.category, rV, xTo, lv_args, xCk, xCat, xRc, xAk, hg_S, hg_I, hg_J, hg_D, hg_R, hs_I, hs_J, hs_D, hs_R, uI_at, uJ_at, uD_at, uR_at, List.take_succ_cons, List.take_zero, List.drop_succ_cons, List.drop_zero, List.reverse_cons, List.reverse_nil, List.nil_append, List.cons_append, List.map_cons, List.map_nil, List.sum_cons, List.sum_nil, List.length_cons, List.length_nil, Option.toList_some, Option.toList_none, true_and, and_true, false_and, and_false, true_implies, false_implies, implies_true, not_true_eq_false, not_false_eq_true, ne_eq, if_true, if_false, Bool.and_true, Bool.true_and, decide_true, decide_false, reduceIte, reduceCtorEq, Bool.and_self, Bool.and_eq_true, decide_eq_true_eq, and_self, true_or, or_true, false_or, or_false, Nat.zero_add, Nat.add_zero, eq_self, Nat.reduceEqDiff, Nat.reduceLeDiff, Nat.reduceLT, Nat.reduceAdd, Nat.reduceSub, Nat.reduceMul]
  refine w_invVA (mc := 1) (ms := 5000) b1 b2 rfl (by simp only [xSeq, i_push, i_load, i_iload, i_lload, i_dload, i_aload, i_istore, i_astore, i_lstore, i_dstore, i_iinc, i_ii, i_iiz, i_ll, i_llz, i_lli, i_li, i_i, i_l, i_i2l, i_l2i, i_dup, i_dup2, i_dup2w, i_dupx1, i_pop, i_pop2, i_goto, i_ifc, i_icmp, i_getI, i_getL, i_getR, i_putI, i_putZ, i_putL, i_putR, i_aldI, i_aldB, i_aldL, i_aldD, i_astI, i_astL, i_astD, i_alen, i_ret, i_iret, i_zret, i_lret, i_fret, i_dret, i_aret, i_invS0, i_invV0, i_m2, i_m1, i_ml, i_obj, lk, lkp, stf1, stf2, Value.category, rV, xTo, lv_args, xCk, xCat, xRc, xAk, hg_S, hg_I, hg_J, hg_D, hg_R, hs_I, hs_J, hs_D, hs_R, uI_at, uJ_at, uD_at, uR_at, List.take_succ_cons, List.take_zero, List.drop_succ_cons, List.drop_zero, List.reverse_cons, List.reverse_nil, List.nil_append, List.cons_append, List.map_cons, List.map_nil, List.sum_cons, List.sum_nil, List.length_cons, List.length_nil, Option.toList_some, Option.toList_none, true_and, and_true, false_and, and_false, true_implies, false_implies, implies_true, not_true_eq_false, not_false_eq_true, ne_eq, if_true, if_false, Bool.and_true, Bool.true_and, decide_true, decide_false, reduceIte, reduceCtorEq, Bool.and_self, Bool.and_eq_true, decide_eq_true_eq, and_self, true_or, or_true, false_or, or_false, Nat.zero_add, Nat.add_zero, eq_self, Nat.reduceEqDiff, Nat.reduceLeDiff, Nat.reduceLT, Nat.reduceAdd, Nat.reduceSub, Nat.reduceMul, LC_out hL]) ?_
  simp only [xSeq, i_push, i_load, i_iload, i_lload, i_dload, i_aload, i_istore, i_astore, i_lstore, i_dstore, i_iinc, i_ii, i_iiz, i_ll, i_llz, i_lli, i_li, i_i, i_l, i_i2l, i_l2i, i_dup, i_dup2, i_dup2w, i_dupx1, i_pop, i_pop2, i_goto, i_ifc, i_icmp, i_getI, i_getL, i_getR, i_putI, i_putZ, i_putL, i_putR, i_aldI, i_aldB, i_aldL, i_aldD, i_astI, i_astL, i_astD, i_alen, i_ret, i_iret, i_zret, i_lret, i_fret, i_dret, i_aret, i_invS0, i_invV0, i_m2, i_m1, i_ml, i_obj, lk, lkp, stf1, stf2, Value.category, rV, xTo, lv_args, xCk, xCat, xRc, xAk, hg_S, hg_I, hg_J, hg_D, hg_R, hs_I, hs_J, hs_D, hs_R, uI_at, uJ_at, uD_at, uR_at, List.take_succ_cons, List.take_zero, List.drop_succ_cons, List.drop_zero, List.reverse_cons, List.reverse_nil, List.nil_append, List.cons_append, List.map_cons, List.map_nil, List.sum_cons, List.sum_nil, List.length_cons, List.length_nil, Option.toList_some, Option.toList_none, true_and, and_true, false_and, and_false, true_implies, false_implies, implies_true, not_true_eq_false, not_false_eq_true, ne_eq, if_true, if_false, Bool.and_true, Bool.true_and, decide_true, decide_false, reduceIte, reduceCtorEq, Bool.and_self, Bool.and_eq_true, decide_eq_true_eq, and_self, true_or, or_true, false_or, or_false, Nat.zero_add, Nat.add_zero, eq_self, Nat.reduceEqDiff, Nat.reduceLeDiff, Nat.reduceLT, Nat.reduceAdd, Nat.reduceSub, Nat.reduceMul]
  refine L26 hL0 h hx hn hf (by decide) (by decide) (fun S' I' J' D' R' f' v' cap' b' h' hf' => ?_)
  simp only [xSeq, i_push, i_load, i_iload, i_lload, i_dload, i_aload, i_istore, i_astore, i_lstore, i_dstore, i_iinc, i_ii, i_iiz, i_ll, i_llz, i_lli, i_li, i_i, i_l, i_i2l, i_l2i, i_dup, i_dup2, i_dup2w, i_dupx1, i_pop, i_pop2, i_goto, i_ifc, i_icmp, i_getI, i_getL, i_getR, i_putI, i_putZ, i_putL, i_putR, i_aldI, i_aldB, i_aldL, i_aldD, i_astI, i_astL, i_astD, i_alen, i_ret, i_iret, i_zret, i_lret, i_fret, i_dret, i_aret, i_invS0, i_invV0, i_m2, i_m1, i_ml, i_obj, lk, lkp, stf1, stf2, Value.category, rV, xTo, lv_args, xCk, xCat, xRc, xAk, hg_S, hg_I, hg_J, hg_D, hg_R, hs_I, hs_J, hs_D, hs_R, uI_at, uJ_at, uD_at, uR_at, List.take_succ_cons, List.take_zero, List.drop_succ_cons, List.drop_zero, List.reverse_cons, List.reverse_nil, List.nil_append, List.cons_append, List.map_cons, List.map_nil, List.sum_cons, List.sum_nil, List.length_cons, List.length_nil, Option.toList_some, Option.toList_none, true_and, and_true, false_and, and_false, true_implies, false_implies, implies_true, not_true_eq_false, not_false_eq_true, ne_eq, if_true, if_false, Bool.and_true, Bool.true_and, decide_true, decide_false, reduceIte, reduceCtorEq, Bool.and_self, Bool.and_eq_true, decide_eq_true_eq, and_self, true_or, or_true, false_or, or_false, Nat.zero_add, Nat.add_zero, eq_self, Nat.reduceEqDiff, Nat.reduceLeDiff, Nat.reduceLT, Nat.reduceAdd, Nat.reduceSub, Nat.reduceMul]
  exact kk S' I' J' D' R' f' v' cap' _ h' hf'
end
/-! ===== printGrid ===== -/
section
variable {S0 : xS} {I0 : xI} {J0 : xJ} {R0 : xR} {S : xS} {I : xI} {J : xJ} {D : xDb} {R : xR} {b : Nat × Nat} {Q : xQ}
theorem L143_23 (hL0 : LC S0 R0) {r c : Nat} (hr : r ≤ 8) (hc : c ≤ 8) (h0 : I0 102 0 = nI r) (h1 : I0 102 1 = nI c) {s : Nat} (hs : J0 110 4 = lN s) (hs2 : s < 2 ^ 64) {y F B1 B2 : Nat} (hy : y < r) (hF : F < 900000)
    (kk : ∀ S I J D R f v cap b, OS S0 I0 J0 R0 f v cap (y * (c + 1) + c) S I J R → f ≤ F → B1 ≤ b.1 → B2 ≤ b.2 → xRun xT 143 85 [(0, .ref 100), (1, .int (nI y))] [] (S, I, J, D, R) b Q) :
    ∀ (j i : Nat) (S : xS) (I : xI) (J : xJ) (D : xDb) (R : xR) (f v cap : Nat) (b : Nat × Nat), i + j = c → OS S0 I0 J0 R0 f v cap (y * (c + 1) + i) S I J R → f + j ≤ F → j + B1 ≤ b.1 → 5000 * j + B2 ≤ b.2 → xRun xT 143 23 [(0, .ref 100), (1, .int (nI y)), (2, .int (nI i))] [] (S, I, J, D, R) b Q
  | 0, i, S, I, J, D, R, f, v, cap, b, hi, h, hf, b1, b2 => by
    have hL : LC S R := LC_g hL0 h.2.2.2.1 h.2.2.2.2.1
    have e : i = c := by omega
    have c1 : I 102 1 = nI c := (h.2.2.2.2.2.1 _ _ (by decide) (by decide) (by decide)).trans h1
    subst e
    rw [e143_23]
    simp only [B143_23, xSeq, i_push, i_load, i_iload, i_lload, i_dload, i_aload, i_istore, i_astore, i_lstore, i_dstore, i_iinc, i_ii, i_iiz, i_ll, i_llz, i_lli, i_li, i_i, i_l, i_i2l, i_l2i, i_dup, i_dup2, i_dup2w, i_dupx1, i_pop, i_pop2, i_goto, i_ifc, i_icmp, i_getI, i_getL, i_getR, i_putI, i_putZ, i_putL, i_putR, i_aldI, i_aldB, i_aldL, i_aldD, i_astI, i_astL, i_astD, i_alen, i_ret, i_iret, i_zret, i_lret, i_fret, i_dret, i_aret, i_invS0, i_invV0, i_m2, i_m1, i_ml, i_obj, lk, lkp, stf1, stf2, Value.category, rV, xTo, lv_args, xCk, xCat, xRc, xAk, hg_S, hg_I, hg_J, hg_D, hg_R, hs_I, hs_J, hs_D, hs_R, uI_at, uJ_at, uD_at, uR_at, List.take_succ_cons, List.take_zero, List.drop_succ_cons, List.drop_zero, List.reverse_cons, List.reverse_nil, List.nil_append, List.cons_append, List.map_cons, List.map_nil, List.sum_cons, List.sum_nil, List.length_cons, List.length_nil, Option.toList_some, Option.toList_none, true_and, and_true, false_and, and_false, true_implies, false_implies, implies_true, not_true_eq_false, not_false_eq_true, ne_eq, if_true, if_false, Bool.and_true, Bool.true_and, decide_true, decide_false, reduceIte, reduceCtorEq, Bool.and_self, Bool.and_eq_true, decide_eq_true_eq, and_self, true_or, or_true, false_or, or_false, Nat.zero_add, Nat.add_zero, eq_self, Nat.reduceEqDiff, Nat.reduceLeDiff, Nat.reduceLT, Nat.reduceAdd, Nat.reduceSub, Nat.reduceMul, LC_out hL, c1, nI_leP (show i < 2147483648 by omega) (show i < 2147483648 by omega), Nat.le_refl]
    exact kk S I J D R f v cap b h (by omega) (by omega) (by omega)
  | j + 1, i, S, I, J, D, R, f, v, cap, b, hi, h, hf, b1, b2 => by
    have hL : LC S R := LC_g hL0 h.2.2.2.1 h.2.2.2.2.1
    have c1 : I 102 1 = nI c := (h.2.2.2.2.2.1 _ _ (by decide) (by decide) (by decide)).trans h1
    have s1 : J 110 4 = lN s := (h.2.2.2.2.2.2 _ _ (by decide)).trans hs
    have hyc : y * c ≤ 7 * 8 := Nat.mul_le_mul (by omega) hc
    have hyc2 : y * (c + 1) ≤ 7 * 9 := Nat.mul_le_mul (by omega) (by omega)
    have e1 : nI y * nI c + nI i = nI (y * c + i) := by rw [pk_mul, nI_add]
    have h77 := fun (Q : xQ) => R77 (S := S) (I := I) (J := J) (D := D) (R := R) (b := (0, 0)) (Q := Q) (o := 110) hs2 (show y * c + i < 64 by omega)
    have ap : ∀ x : Nat, x < 256 → xRun xT 143 75 [(0, .ref 100), (1, .int (nI y)), (2, .int (nI i))] [.int (nI x), .ref 140] (S, I, J, D, R) b Q := fun x hx => by
      rw [e143_75]
      simp only [B143_75, xSeq]
      refine w_invVA (mc := 1) (ms := 5000) (by omega) (by omega) rfl (by simp only [xSeq, i_push, i_load, i_iload, i_lload, i_dload, i_aload, i_istore, i_astore, i_lstore, i_dstore, i_iinc, i_ii, i_iiz, i_ll, i_llz, i_lli, i_li, i_i, i_l, i_i2l, i_l2i, i_dup, i_dup2, i_dup2w, i_dupx1, i_pop, i_pop2, i_goto, i_ifc, i_icmp, i_getI, i_getL, i_getR, i_putI, i_putZ, i_putL, i_putR, i_aldI, i_aldB, i_aldL, i_aldD, i_astI, i_astL, i_astD, i_alen, i_ret, i_iret, i_zret, i_lret, i_fret, i_dret, i_aret, i_invS0, i_invV0, i_m2, i_m1, i_ml, i_obj, lk, lkp, stf1, stf2, Value.category, rV, xTo, lv_args, xCk, xCat, xRc, xAk, hg_S, hg_I, hg_J, hg_D, hg_R, hs_I, hs_J, hs_D, hs_R, uI_at, uJ_at, uD_at, uR_at, List.take_succ_cons, List.take_zero, List.drop_succ_cons, List.drop_zero, List.reverse_cons, List.reverse_nil, List.nil_append, List.cons_append, List.map_cons, List.map_nil, List.sum_cons, List.sum_nil, List.length_cons, List.length_nil, Option.toList_some, Option.toList_none, true_and, and_true, false_and, and_false, true_implies, false_implies, implies_true, not_true_eq_false, not_false_eq_true, ne_eq, if_true, if_false, Bool.and_true, Bool.true_and, decide_true, decide_false, reduceIte, reduceCtorEq, Bool.and_self, Bool.and_eq_true, decide_eq_true_eq, and_self, true_or, or_true, false_or, or_false, Nat.zero_add, Nat.add_zero, eq_self, Nat.reduceEqDiff, Nat.reduceLeDiff, Nat.reduceLT, Nat.reduceAdd, Nat.reduceSub, Nat.reduceMul, LC_out hL]) ?_
      simp only [xSeq, i_push, i_load, i_iload, i_lload, i_dload, i_aload, i_istore, i_astore, i_lstore, i_dstore, i_iinc, i_ii, i_iiz, i_ll, i_llz, i_lli, i_li, i_i, i_l, i_i2l, i_l2i, i_dup, i_dup2, i_dup2w, i_dupx1, i_pop, i_pop2, i_goto, i_ifc, i_icmp, i_getI, i_getL, i_getR, i_putI, i_putZ, i_putL, i_putR, i_aldI, i_aldB, i_aldL, i_aldD, i_astI, i_astL, i_astD, i_alen, i_ret, i_iret, i_zret, i_lret, i_fret, i_dret, i_aret, i_invS0, i_invV0, i_m2, i_m1, i_ml, i_obj, lk, lkp, stf1, stf2, Value.category, rV, xTo, lv_args, xCk, xCat, xRc, xAk, hg_S, hg_I, hg_J, hg_D, hg_R, hs_I, hs_J, hs_D, hs_R, uI_at, uJ_at, uD_at, uR_at, List.take_succ_cons, List.take_zero, List.drop_succ_cons, List.drop_zero, List.reverse_cons, List.reverse_nil, List.nil_append, List.cons_append, List.map_cons, List.map_nil, List.sum_cons, List.sum_nil, List.length_cons, List.length_nil, Option.toList_some, Option.toList_none, true_and, and_true, false_and, and_false, true_implies, false_implies, implies_true, not_true_eq_false, not_false_eq_true, ne_eq, if_true, if_false, Bool.and_true, Bool.true_and, decide_true, decide_false, reduceIte, reduceCtorEq, Bool.and_self, Bool.and_eq_true, decide_eq_true_eq, and_self, true_or, or_true, false_or, or_false, Nat.zero_add, Nat.add_zero, eq_self, Nat.reduceEqDiff, Nat.reduceLeDiff, Nat.reduceLT, Nat.reduceAdd, Nat.reduceSub, Nat.reduceMul]
      refine L25 hL0 h hx (by omega) (by omega) (by decide) (by decide) (fun S' I' J' D' R' f' v' cap' b' h' hf' => ?_)
      simp only [xSeq, i_push, i_load, i_iload, i_lload, i_dload, i_aload, i_istore, i_astore, i_lstore, i_dstore, i_iinc, i_ii, i_iiz, i_ll, i_llz, i_lli, i_li, i_i, i_l, i_i2l, i_l2i, i_dup, i_dup2, i_dup2w, i_dupx1, i_pop, i_pop2, i_goto, i_ifc, i_icmp, i_getI, i_getL, i_getR, i_putI, i_putZ, i_putL, i_putR, i_aldI, i_aldB, i_aldL, i_aldD, i_astI, i_astL, i_astD, i_alen, i_ret, i_iret, i_zret, i_lret, i_fret, i_dret, i_aret, i_invS0, i_invV0, i_m2, i_m1, i_ml, i_obj, lk, lkp, stf1, stf2, Value.category, rV, xTo, lv_args, xCk, xCat, xRc, xAk, hg_S, hg_I, hg_J, hg_D, hg_R, hs_I, hs_J, hs_D, hs_R, uI_at, uJ_at, uD_at, uR_at, List.take_succ_cons, List.take_zero, List.drop_succ_cons, List.drop_zero, List.reverse_cons, List.reverse_nil, List.nil_append, List.cons_append, List.map_cons, List.map_nil, List.sum_cons, List.sum_nil, List.length_cons, List.length_nil, Option.toList_some, Option.toList_none, true_and, and_true, false_and, and_false, true_implies, false_implies, implies_true, not_true_eq_false, not_false_eq_true, ne_eq, if_true, if_false, Bool.and_true, Bool.true_and, decide_true, decide_false, reduceIte, reduceCtorEq, Bool.and_self, Bool.and_eq_true, decide_eq_true_eq, and_self, true_or, or_true, false_or, or_false, Nat.zero_add, Nat.add_zero, eq_self, Nat.reduceEqDiff, Nat.reduceLeDiff, Nat.reduceLT, Nat.reduceAdd, Nat.reduceSub, Nat.reduceMul, nI_1]
      exact L143_23 hL0 hr hc h0 h1 hs hs2 hy hF kk j (i + 1) S' I' J' D' R' f' v' cap' _ (by omega) h' (by omega) (by show j + B1 ≤ b.1 - 1; omega) (by show 5000 * j + B2 ≤ b.2 - 5000; omega)
    rw [e143_23]
    simp only [B143_23, xSeq, i_push, i_load, i_iload, i_lload, i_dload, i_aload, i_istore, i_astore, i_lstore, i_dstore, i_iinc, i_ii, i_iiz, i_ll, i_llz, i_lli, i_li, i_i, i_l, i_i2l, i_l2i, i_dup, i_dup2, i_dup2w, i_dupx1, i_pop, i_pop2, i_goto, i_ifc, i_icmp, i_getI, i_getL, i_getR, i_putI, i_putZ, i_putL, i_putR, i_aldI, i_aldB, i_aldL, i_aldD, i_astI, i_astL, i_astD, i_alen, i_ret, i_iret, i_zret, i_lret, i_fret, i_dret, i_aret, i_invS0, i_invV0, i_m2, i_m1, i_ml, i_obj, lk, lkp, stf1, stf2, Value.category, rV, xTo, lv_args, xCk, xCat, xRc, xAk, hg_S, hg_I, hg_J, hg_D, hg_R, hs_I, hs_J, hs_D, hs_R, uI_at, uJ_at, uD_at, uR_at, List.take_succ_cons, List.take_zero, List.drop_succ_cons, List.drop_zero, List.reverse_cons, List.reverse_nil, List.nil_append, List.cons_append, List.map_cons, List.map_nil, List.sum_cons, List.sum_nil, List.length_cons, List.length_nil, Option.toList_some, Option.toList_none, true_and, and_true, false_and, and_false, true_implies, false_implies, implies_true, not_true_eq_false, not_false_eq_true, ne_eq, if_true, if_false, Bool.and_true, Bool.true_and, decide_true, decide_false, reduceIte, reduceCtorEq, Bool.and_self, Bool.and_eq_true, decide_eq_true_eq, and_self, true_or, or_true, false_or, or_false, Nat.zero_add, Nat.add_zero, eq_self, Nat.reduceEqDiff, Nat.reduceLeDiff, Nat.reduceLT, Nat.reduceAdd, Nat.reduceSub, Nat.reduceMul, LC_out hL, c1, s1, nI_leP (show c < 2147483648 by omega) (show i < 2147483648 by omega), show (c ≤ i) = False from eq_false (by omega), e1, h77, e143_73, B143_73]
    cases s.testBit (y * c + i)
    · simp only [show (sg false ≤ 0) = True from eq_true (by decide), true_and, and_true, false_and, and_false, true_implies, false_implies, implies_true, not_true_eq_false, not_false_eq_true, ne_eq, if_true, if_false, Bool.and_true, Bool.true_and, decide_true, decide_false, reduceIte, reduceCtorEq, Bool.and_self, Bool.and_eq_true, decide_eq_true_eq, and_self, true_or, or_true, false_or, or_false, Nat.zero_add, Nat.add_zero, eq_self, Nat.reduceEqDiff, Nat.reduceLeDiff, Nat.reduceLT, Nat.reduceAdd, Nat.reduceSub, Nat.reduceMul]
      exact ap 45 (by decide)
    · simp only [show (sg true ≤ 0) = False from eq_false (by decide), true_and, and_true, false_and, and_false, true_implies, false_implies, implies_true, not_true_eq_false, not_false_eq_true, ne_eq, if_true, if_false, Bool.and_true, Bool.true_and, decide_true, decide_false, reduceIte, reduceCtorEq, Bool.and_self, Bool.and_eq_true, decide_eq_true_eq, and_self, true_or, or_true, false_or, or_false, Nat.zero_add, Nat.add_zero, eq_self, Nat.reduceEqDiff, Nat.reduceLeDiff, Nat.reduceLT, Nat.reduceAdd, Nat.reduceSub, Nat.reduceMul]
      exact ap 43 (by decide)
theorem L143_10 (hL0 : LC S0 R0) {r c : Nat} (hr : r ≤ 8) (hc : c ≤ 8) (h0 : I0 102 0 = nI r) (h1 : I0 102 1 = nI c) {s : Nat} (hs : J0 110 4 = lN s) (hs2 : s < 2 ^ 64) {F : Nat} (hF : F < 900000)
    (kk : ∀ S I J D R f v cap b, OS S0 I0 J0 R0 f v cap (r * (c + 1)) S I J R → f ≤ F → Q (.ok (some (.int (nI (r * (c + 1)))))) (S, I, J, D, R) b) :
    ∀ (j y : Nat) (S : xS) (I : xI) (J : xJ) (D : xDb) (R : xR) (f v cap : Nat) (b : Nat × Nat), y + j = r → OS S0 I0 J0 R0 f v cap (y * (c + 1)) S I J R → f + j * (c + 1) ≤ F → j * (c + 1) ≤ b.1 → 5000 * (j * (c + 1)) ≤ b.2 → xRun xT 143 10 [(0, .ref 100), (1, .int (nI y))] [] (S, I, J, D, R) b Q
  | 0, y, S, I, J, D, R, f, v, cap, b, hi, h, hf, b1, b2 => by
    have hL : LC S R := LC_g hL0 h.2.2.2.1 h.2.2.2.2.1
    have e : y = r := by omega
    have c1 : I 102 0 = nI r := (h.2.2.2.2.2.1 _ _ (by decide) (by decide) (by decide)).trans h0
    have c3 := h.1.2.2.2.1
    subst e
    rw [e143_10]
    simp only [B143_10, xSeq, i_push, i_load, i_iload, i_lload, i_dload, i_aload, i_istore, i_astore, i_lstore, i_dstore, i_iinc, i_ii, i_iiz, i_ll, i_llz, i_lli, i_li, i_i, i_l, i_i2l, i_l2i, i_dup, i_dup2, i_dup2w, i_dupx1, i_pop, i_pop2, i_goto, i_ifc, i_icmp, i_getI, i_getL, i_getR, i_putI, i_putZ, i_putL, i_putR, i_aldI, i_aldB, i_aldL, i_aldD, i_astI, i_astL, i_astD, i_alen, i_ret, i_iret, i_zret, i_lret, i_fret, i_dret, i_aret, i_invS0, i_invV0, i_m2, i_m1, i_ml, i_obj, lk, lkp, stf1, stf2, Value.category, rV, xTo, lv_args, xCk, xCat, xRc, xAk, hg_S, hg_I, hg_J, hg_D, hg_R, hs_I, hs_J, hs_D, hs_R, uI_at, uJ_at, uD_at, uR_at, List.take_succ_cons, List.take_zero, List.drop_succ_cons, List.drop_zero, List.reverse_cons, List.reverse_nil, List.nil_append, List.cons_append, List.map_cons, List.map_nil, List.sum_cons, List.sum_nil, List.length_cons, List.length_nil, Option.toList_some, Option.toList_none, true_and, and_true, false_and, and_false, true_implies, false_implies, implies_true, not_true_eq_false, not_false_eq_true, ne_eq, if_true, if_false, Bool.and_true, Bool.true_and, decide_true, decide_false, reduceIte, reduceCtorEq, Bool.and_self, Bool.and_eq_true, decide_eq_true_eq, and_self, true_or, or_true, false_or, or_false, Nat.zero_add, Nat.add_zero, eq_self, Nat.reduceEqDiff, Nat.reduceLeDiff, Nat.reduceLT, Nat.reduceAdd, Nat.reduceSub, Nat.reduceMul, LC_out hL, c1, nI_leP (show y < 2147483648 by omega) (show y < 2147483648 by omega), Nat.le_refl, e143_101, B143_101, e32_0, B32_0, e33_0, B33_0, c3]
    exact kk S I J D R f v cap b h (by omega)
  | j + 1, y, S, I, J, D, R, f, v, cap, b, hi, h, hf, b1, b2 => by
    have hL : LC S R := LC_g hL0 h.2.2.2.1 h.2.2.2.2.1
    have c1 : I 102 0 = nI r := (h.2.2.2.2.2.1 _ _ (by decide) (by decide) (by decide)).trans h0
    have e5 : (j + 1) * (c + 1) = j * (c + 1) + (c + 1) := Nat.succ_mul _ _
    have e6 : (y + 1) * (c + 1) = y * (c + 1) + (c + 1) := Nat.succ_mul _ _
    have hyc2 : y * (c + 1) ≤ 7 * 9 := Nat.mul_le_mul (by omega) (by omega)
    rw [e5] at hf b1 b2
    obtain ⟨P, hP⟩ : ∃ P, P = j * (c + 1) := ⟨_, rfl⟩
    rw [← hP] at hf b1 b2
    rw [Nat.mul_add] at b2
    have h23 := L143_23 (Q := Q) (y := y) (F := f + c) (B1 := P + 1) (B2 := 5000 * P + 5000) hL0 hr hc h0 h1 hs hs2 (by omega) (by omega) (fun S I J D R f' v cap b h' hf' b1' b2' => by
      have hL' : LC S R := LC_g hL0 h'.2.2.2.1 h'.2.2.2.2.1
      rw [e143_85]
      simp only [B143_85, xSeq, i_push, i_load, i_iload, i_lload, i_dload, i_aload, i_istore, i_astore, i_lstore, i_dstore, i_iinc, i_ii, i_iiz, i_ll, i_llz, i_lli, i_li, i_i, i_l, i_i2l, i_l2i, i_dup, i_dup2, i_dup2w, i_dupx1, i_pop, i_pop2, i_goto, i_ifc, i_icmp, i_getI, i_getL, i_getR, i_putI, i_putZ, i_putL, i_putR, i_aldI, i_aldB, i_aldL, i_aldD, i_astI, i_astL, i_astD, i_alen, i_ret, i_iret, i_zret, i_lret, i_fret, i_dret, i_aret, i_invS0, i_invV0, i_m2, i_m1, i_ml, i_obj, lk, lkp, stf1, stf2, Value.category, rV, xTo, lv_args, xCk, xCat, xRc, xAk, hg_S, hg_I, hg_J, hg_D, hg_R, hs_I, hs_J, hs_D, hs_R, uI_at, uJ_at, uD_at, uR_at, List.take_succ_cons, List.take_zero, List.drop_succ_cons, List.drop_zero, List.reverse_cons, List.reverse_nil, List.nil_append, List.cons_append, List.map_cons, List.map_nil, List.sum_cons, List.sum_nil, List.length_cons, List.length_nil, Option.toList_some, Option.toList_none, true_and, and_true, false_and, and_false, true_implies, false_implies, implies_true, not_true_eq_false, not_false_eq_true, ne_eq, if_true, if_false, Bool.and_true, Bool.true_and, decide_true, decide_false, reduceIte, reduceCtorEq, Bool.and_self, Bool.and_eq_true, decide_eq_true_eq, and_self, true_or, or_true, false_or, or_false, Nat.zero_add, Nat.add_zero, eq_self, Nat.reduceEqDiff, Nat.reduceLeDiff, Nat.reduceLT, Nat.reduceAdd, Nat.reduceSub, Nat.reduceMul, LC_out hL']
      refine w_invVA (mc := 1) (ms := 5000) (Nat.le_trans (Nat.le_add_left 1 _) b1') (Nat.le_trans (Nat.le_add_left 5000 _) b2') rfl (by simp only [xSeq, i_push, i_load, i_iload, i_lload, i_dload, i_aload, i_istore, i_astore, i_lstore, i_dstore, i_iinc, i_ii, i_iiz, i_ll, i_llz, i_lli, i_li, i_i, i_l, i_i2l, i_l2i, i_dup, i_dup2, i_dup2w, i_dupx1, i_pop, i_pop2, i_goto, i_ifc, i_icmp, i_getI, i_getL, i_getR, i_putI, i_putZ, i_putL, i_putR, i_aldI, i_aldB, i_aldL, i_aldD, i_astI, i_astL, i_astD, i_alen, i_ret, i_iret, i_zret, i_lret, i_fret, i_dret, i_aret, i_invS0, i_invV0, i_m2, i_m1, i_ml, i_obj, lk, lkp, stf1, stf2, Value.category, rV, xTo, lv_args, xCk, xCat, xRc, xAk, hg_S, hg_I, hg_J, hg_D, hg_R, hs_I, hs_J, hs_D, hs_R, uI_at, uJ_at, uD_at, uR_at, List.take_succ_cons, List.take_zero, List.drop_succ_cons, List.drop_zero, List.reverse_cons, List.reverse_nil, List.nil_append, List.cons_append, List.map_cons, List.map_nil, List.sum_cons, List.sum_nil, List.length_cons, List.length_nil, Option.toList_some, Option.toList_none, true_and, and_true, false_and, and_false, true_implies, false_implies, implies_true, not_true_eq_false, not_false_eq_true, ne_eq, if_true, if_false, Bool.and_true, Bool.true_and, decide_true, decide_false, reduceIte, reduceCtorEq, Bool.and_self, Bool.and_eq_true, decide_eq_true_eq, and_self, true_or, or_true, false_or, or_false, Nat.zero_add, Nat.add_zero, eq_self, Nat.reduceEqDiff, Nat.reduceLeDiff, Nat.reduceLT, Nat.reduceAdd, Nat.reduceSub, Nat.reduceMul, LC_out hL']) ?_
      simp only [xSeq, i_push, i_load, i_iload, i_lload, i_dload, i_aload, i_istore, i_astore, i_lstore, i_dstore, i_iinc, i_ii, i_iiz, i_ll, i_llz, i_lli, i_li, i_i, i_l, i_i2l, i_l2i, i_dup, i_dup2, i_dup2w, i_dupx1, i_pop, i_pop2, i_goto, i_ifc, i_icmp, i_getI, i_getL, i_getR, i_putI, i_putZ, i_putL, i_putR, i_aldI, i_aldB, i_aldL, i_aldD, i_astI, i_astL, i_astD, i_alen, i_ret, i_iret, i_zret, i_lret, i_fret, i_dret, i_aret, i_invS0, i_invV0, i_m2, i_m1, i_ml, i_obj, lk, lkp, stf1, stf2, Value.category, rV, xTo, lv_args, xCk, xCat, xRc, xAk, hg_S, hg_I, hg_J, hg_D, hg_R, hs_I, hs_J, hs_D, hs_R, uI_at, uJ_at, uD_at, uR_at, List.take_succ_cons, List.take_zero, List.drop_succ_cons, List.drop_zero, List.reverse_cons, List.reverse_nil, List.nil_append, List.cons_append, List.map_cons, List.map_nil, List.sum_cons, List.sum_nil, List.length_cons, List.length_nil, Option.toList_some, Option.toList_none, true_and, and_true, false_and, and_false, true_implies, false_implies, implies_true, not_true_eq_false, not_false_eq_true, ne_eq, if_true, if_false, Bool.and_true, Bool.true_and, decide_true, decide_false, reduceIte, reduceCtorEq, Bool.and_self, Bool.and_eq_true, decide_eq_true_eq, and_self, true_or, or_true, false_or, or_false, Nat.zero_add, Nat.add_zero, eq_self, Nat.reduceEqDiff, Nat.reduceLeDiff, Nat.reduceLT, Nat.reduceAdd, Nat.reduceSub, Nat.reduceMul]
      refine L25 (x := 10) hL0 h' (by decide) (by omega) (by omega) (by decide) (by decide) (fun S' I' J' D' R' f'' v' cap' b' h'' hf'' => ?_)
      simp only [xSeq, i_push, i_load, i_iload, i_lload, i_dload, i_aload, i_istore, i_astore, i_lstore, i_dstore, i_iinc, i_ii, i_iiz, i_ll, i_llz, i_lli, i_li, i_i, i_l, i_i2l, i_l2i, i_dup, i_dup2, i_dup2w, i_dupx1, i_pop, i_pop2, i_goto, i_ifc, i_icmp, i_getI, i_getL, i_getR, i_putI, i_putZ, i_putL, i_putR, i_aldI, i_aldB, i_aldL, i_aldD, i_astI, i_astL, i_astD, i_alen, i_ret, i_iret, i_zret, i_lret, i_fret, i_dret, i_aret, i_invS0, i_invV0, i_m2, i_m1, i_ml, i_obj, lk, lkp, stf1, stf2, Value.category, rV, xTo, lv_args, xCk, xCat, xRc, xAk, hg_S, hg_I, hg_J, hg_D, hg_R, hs_I, hs_J, hs_D, hs_R, uI_at, uJ_at, uD_at, uR_at, List.take_succ_cons, List.take_zero, List.drop_succ_cons, List.drop_zero, List.reverse_cons, List.reverse_nil, List.nil_append, List.cons_append, List.map_cons, List.map_nil, List.sum_cons, List.sum_nil, List.length_cons, List.length_nil, Option.toList_some, Option.toList_none, true_and, and_true, false_and, and_false, true_implies, false_implies, implies_true, not_true_eq_false, not_false_eq_true, ne_eq, if_true, if_false, Bool.and_true, Bool.true_and, decide_true, decide_false, reduceIte, reduceCtorEq, Bool.and_self, Bool.and_eq_true, decide_eq_true_eq, and_self, true_or, or_true, false_or, or_false, Nat.zero_add, Nat.add_zero, eq_self, Nat.reduceEqDiff, Nat.reduceLeDiff, Nat.reduceLT, Nat.reduceAdd, Nat.reduceSub, Nat.reduceMul, nI_1]
      refine L143_10 hL0 hr hc h0 h1 hs hs2 hF kk j (y + 1) S' I' J' D' R' f'' v' cap' _ (by omega) ?_ (by rw [← hP]; clear b2 b2' b1 b1'; omega) (by rw [← hP]; exact Nat.le_sub_of_add_le b1') (by rw [← hP]; exact Nat.le_sub_of_add_le b2')
      rw [e6, ← Nat.add_assoc]
      exact h'') c 0 S I J D R f v cap b (Nat.zero_add c) h (Nat.le_refl _) (by clear b2; omega) (by
        rw [Nat.mul_add, Nat.mul_one] at b2
        rw [Nat.add_left_comm]
        exact b2)
    rw [nI_0] at h23
    rw [e143_10]
    simp only [B143_10, xSeq, i_push, i_load, i_iload, i_lload, i_dload, i_aload, i_istore, i_astore, i_lstore, i_dstore, i_iinc, i_ii, i_iiz, i_ll, i_llz, i_lli, i_li, i_i, i_l, i_i2l, i_l2i, i_dup, i_dup2, i_dup2w, i_dupx1, i_pop, i_pop2, i_goto, i_ifc, i_icmp, i_getI, i_getL, i_getR, i_putI, i_putZ, i_putL, i_putR, i_aldI, i_aldB, i_aldL, i_aldD, i_astI, i_astL, i_astD, i_alen, i_ret, i_iret, i_zret, i_lret, i_fret, i_dret, i_aret, i_invS0, i_invV0, i_m2, i_m1, i_ml, i_obj, lk, lkp, stf1, stf2, Value.category, rV, xTo, lv_args, xCk, xCat, xRc, xAk, hg_S, hg_I, hg_J, hg_D, hg_R, hs_I, hs_J, hs_D, hs_R, uI_at, uJ_at, uD_at, uR_at, List.take_succ_cons, List.take_zero, List.drop_succ_cons, List.drop_zero, List.reverse_cons, List.reverse_nil, List.nil_append, List.cons_append, List.map_cons, List.map_nil, List.sum_cons, List.sum_nil, List.length_cons, List.length_nil, Option.toList_some, Option.toList_none, true_and, and_true, false_and, and_false, true_implies, false_implies, implies_true, not_true_eq_false, not_false_eq_true, ne_eq, if_true, if_false, Bool.and_true, Bool.true_and, decide_true, decide_false, reduceIte, reduceCtorEq, Bool.and_self, Bool.and_eq_true, decide_eq_true_eq, and_self, true_or, or_true, false_or, or_false, Nat.zero_add, Nat.add_zero, eq_self, Nat.reduceEqDiff, Nat.reduceLeDiff, Nat.reduceLT, Nat.reduceAdd, Nat.reduceSub, Nat.reduceMul, LC_out hL, c1, nI_leP (show r < 2147483648 by omega) (show y < 2147483648 by omega), show (r ≤ y) = False from eq_false (by omega)]
    exact h23
/-- the model writes -/
theorem R327 (hL : LM S R) {k : Nat} {x : Int32} (h : I 200 59 = nI k) (hk : k < 800) : xRun xT 327 0 [(0, .ref 200), (1, .int x)] [] (S, I, J, D, R) b Q = Q (.ok none) (S, uI (uI I 358 k x) 200 59 (nI (k + 1)), J, D, R) b := by
  rw [e327_0]
  simp only [B327_0, xSeq, i_push, i_load, i_iload, i_lload, i_dload, i_aload, i_istore, i_astore, i_lstore, i_dstore, i_iinc, i_ii, i_iiz, i_ll, i_llz, i_lli, i_li, i_i, i_l, i_i2l, i_l2i, i_dup, i_dup2, i_dup2w, i_dupx1, i_pop, i_pop2, i_goto, i_ifc, i_icmp, i_getI, i_getL, i_getR, i_putI, i_putZ, i_putL, i_putR, i_aldI, i_aldB, i_aldL, i_aldD, i_astI, i_astL, i_astD, i_alen, i_ret, i_iret, i_zret, i_lret, i_fret, i_dret, i_aret, i_invS0, i_invV0, i_m2, i_m1, i_ml, i_obj, lk, lkp, stf1, stf2, Value.category, rV, xTo, lv_args, xCk, xCat, xRc, xAk, hg_S, hg_I, hg_J, hg_D, hg_R, hs_I, hs_J, hs_D, hs_R, uI_at, uJ_at, uD_at, uR_at, List.take_succ_cons, List.take_zero, List.drop_succ_cons, List.drop_zero, List.reverse_cons, List.reverse_nil, List.nil_append, List.cons_append, List.map_cons, List.map_nil, List.sum_cons, List.sum_nil, List.length_cons, List.length_nil, Option.toList_some, Option.toList_none, true_and, and_true, false_and, and_false, true_implies, false_implies, implies_true, not_true_eq_false, not_false_eq_true, ne_eq, if_true, if_false, Bool.and_true, Bool.true_and, decide_true, decide_false, reduceIte, reduceCtorEq, Bool.and_self, Bool.and_eq_true, decide_eq_true_eq, and_self, true_or, or_true, false_or, or_false, Nat.zero_add, Nat.add_zero, eq_self, Nat.reduceEqDiff, Nat.reduceLeDiff, Nat.reduceLT, Nat.reduceAdd, Nat.reduceSub, Nat.reduceMul, LM_out hL, h, nI_inP hk (by decide), nI_ix (show k < 2147483648 by omega), nI_1]
/-- what writing changes in the model -/
def OM (I0 : xI) (k : Nat) (I : xI) : Prop := I 200 59 = nI k ∧ ∀ o j, o ≠ 358 → ¬ (o = 200 ∧ j = 59) → I o j = I0 o j
theorem OM_w {I0 I : xI} {k : Nat} {x : Int32} (h : OM I0 k I) : OM I0 (k + 1) (uI (uI I 358 k x) 200 59 (nI (k + 1))) := by
  refine ⟨rfl, fun o j h1 h2 => ?_⟩
  rw [uI_at, if_neg h2, uI_at, if_neg (fun e => h1 e.1)]
  exact h.2 o j h1 h2
theorem CM_o {I0 I : xI} {k n m : Nat} {fi se dg : Nat → Nat} {sb : Nat → Nat → Nat} (hC : CM I0 n m fi se dg sb) (h : OM I0 k I) : CM I n m fi se dg sb := CM_k hC (fun o k ho => h.2 o k (by omega) (by omega))
theorem div_up {s c : Nat} (hc : 0 < c) : (s + 1) / c = s / c + if s % c = c - 1 then 1 else 0 := by
  have h1 := Nat.div_add_mod s c
  have h2 := Nat.mod_lt s hc
  by_cases h : s % c = c - 1
  · rw [if_pos h]
    have e : s + 1 = c * (s / c + 1) := by rw [Nat.mul_add, Nat.mul_one]; omega
    rw [e, Nat.mul_div_cancel_left _ hc]
  · rw [if_neg h, Nat.add_zero]
    have e : s + 1 = c * (s / c) + (s % c + 1) := by omega
    rw [e, Nat.mul_add_div hc, Nat.div_eq_of_lt (show s % c + 1 < c by omega), Nat.add_zero]
theorem L326_12 {I0 : xI} (hL : LM S R) {n c : Nat} (hn : n ≤ 64) (hc0 : 0 < c) (hc8 : c ≤ 64) (h10 : I0 300 10 = nI n) (h01 : I0 300 1 = nI c) {s : Nat} (hs : J 200 3 = lN s) (hs2 : s < 2 ^ 64)
    (kk : ∀ I, OM I0 (n + n / c) I → Q (.ok (some (.int (nI (n + n / c))))) (S, I, J, D, R) b) :
    ∀ (j i : Nat) (I : xI), i + j = n → OM I0 (i + i / c) I → xRun xT 326 12 [(0, .ref 200), (1, .int (nI i))] [] (S, I, J, D, R) b Q
  | 0, i, I, hi, h => by
    have e : i = n := by omega
    have c1 : I 300 10 = nI n := (h.2 _ _ (by decide) (by decide)).trans h10
    have c2 := h.1
    subst e
    rw [e326_12]
    simp only [B326_12, xSeq, i_push, i_load, i_iload, i_lload, i_dload, i_aload, i_istore, i_astore, i_lstore, i_dstore, i_iinc, i_ii, i_iiz, i_ll, i_llz, i_lli, i_li, i_i, i_l, i_i2l, i_l2i, i_dup, i_dup2, i_dup2w, i_dupx1, i_pop, i_pop2, i_goto, i_ifc, i_icmp, i_getI, i_getL, i_getR, i_putI, i_putZ, i_putL, i_putR, i_aldI, i_aldB, i_aldL, i_aldD, i_astI, i_astL, i_astD, i_alen, i_ret, i_iret, i_zret, i_lret, i_fret, i_dret, i_aret, i_invS0, i_invV0, i_m2, i_m1, i_ml, i_obj, lk, lkp, stf1, stf2, Value.category, rV, xTo, lv_args, xCk, xCat, xRc, xAk, hg_S, hg_I, hg_J, hg_D, hg_R, hs_I, hs_J, hs_D, hs_R, uI_at, uJ_at, uD_at, uR_at, List.take_succ_cons, List.take_zero, List.drop_succ_cons, List.drop_zero, List.reverse_cons, List.reverse_nil, List.nil_append, List.cons_append, List.map_cons, List.map_nil, List.sum_cons, List.sum_nil, List.length_cons, List.length_nil, Option.toList_some, Option.toList_none, true_and, and_true, false_and, and_false, true_implies, false_implies, implies_true, not_true_eq_false, not_false_eq_true, ne_eq, if_true, if_false, Bool.and_true, Bool.true_and, decide_true, decide_false, reduceIte, reduceCtorEq, Bool.and_self, Bool.and_eq_true, decide_eq_true_eq, and_self, true_or, or_true, false_or, or_false, Nat.zero_add, Nat.add_zero, eq_self, Nat.reduceEqDiff, Nat.reduceLeDiff, Nat.reduceLT, Nat.reduceAdd, Nat.reduceSub, Nat.reduceMul, xi144_0, ix_0, xi144_1, ix_1, xi144_2, ix_2, xi144_3, ix_3, xi144_4, ix_4, xi144_5, ix_5, xi144_6, ix_6, xi144_7, ix_7, xi144_8, ix_8, xi144_9, ix_9, xi144_10, ix_10, LM_out hL, c1, nI_leP (show i < 2147483648 by omega) (show i < 2147483648 by omega), Nat.le_refl, e326_77, B326_77, c2]
    exact kk I h
  | j + 1, i, I, hi, h => by
    have hd := Nat.div_le_self i c
    have c1 : I 300 10 = nI n := (h.2 _ _ (by decide) (by decide)).trans h10
    have c3 : I 300 1 = nI c := (h.2 _ _ (by decide) (by decide)).trans h01
    have e0 : (nI c = 0) = False := eq_false (nI_ne0 hc0 (by omega))
    have hm := Nat.mod_lt i hc0
    have e1 : nI c - 1 = nI (c - 1) := by rw [show (1 : Int32) = nI 1 from rfl, nI_subn hc0]
    have h238 := fun (Q : xQ) => R238 (S := S) (I := I) (J := J) (D := D) (R := R) (b := (0, 0)) (Q := Q) hs2 (show i < 64 by omega)
    have ap : ∀ x : Int32, xRun xT 326 43 [(0, .ref 200), (1, .int (nI i))] [.int x, .ref 200] (S, I, J, D, R) b Q := fun x => by
      have h1 := OM_w (x := x) h
      obtain ⟨I1, hI1⟩ : ∃ I1, I1 = uI (uI I 358 (i + i / c) x) 200 59 (nI (i + i / c + 1)) := ⟨_, rfl⟩
      rw [← hI1] at h1
      have d3 : I1 300 1 = nI c := (h1.2 _ _ (by decide) (by decide)).trans h01
      have h2 := OM_w (x := 10) h1
      have hw := fun (Q : xQ) => R327 (S := S) (I := I1) (J := J) (D := D) (R := R) (b := (0, 0)) (Q := Q) (x := 10) hL h1.1 (by omega)
      rw [e326_43]
      simp only [B326_43, xSeq, i_push, i_load, i_iload, i_lload, i_dload, i_aload, i_istore, i_astore, i_lstore, i_dstore, i_iinc, i_ii, i_iiz, i_ll, i_llz, i_lli, i_li, i_i, i_l, i_i2l, i_l2i, i_dup, i_dup2, i_dup2w, i_dupx1, i_pop, i_pop2, i_goto, i_ifc, i_icmp, i_getI, i_getL, i_getR, i_putI, i_putZ, i_putL, i_putR, i_aldI, i_aldB, i_aldL, i_aldD, i_astI, i_astL, i_astD, i_alen, i_ret, i_iret, i_zret, i_lret, i_fret, i_dret, i_aret, i_invS0, i_invV0, i_m2, i_m1, i_ml, i_obj, lk, lkp, stf1, stf2, Value.category, rV, xTo, lv_args, xCk, xCat, xRc, xAk, hg_S, hg_I, hg_J, hg_D, hg_R, hs_I, hs_J, hs_D, hs_R, uI_at, uJ_at, uD_at, uR_at, List.take_succ_cons, List.take_zero, List.drop_succ_cons, List.drop_zero, List.reverse_cons, List.reverse_nil, List.nil_append, List.cons_append, List.map_cons, List.map_nil, List.sum_cons, List.sum_nil, List.length_cons, List.length_nil, Option.toList_some, Option.toList_none, true_and, and_true, false_and, and_false, true_implies, false_implies, implies_true, not_true_eq_false, not_false_eq_true, ne_eq, if_true, if_false, Bool.and_true, Bool.true_and, decide_true, decide_false, reduceIte, reduceCtorEq, Bool.and_self, Bool.and_eq_true, decide_eq_true_eq, and_self, true_or, or_true, false_or, or_false, Nat.zero_add, Nat.add_zero, eq_self, Nat.reduceEqDiff, Nat.reduceLeDiff, Nat.reduceLT, Nat.reduceAdd, Nat.reduceSub, Nat.reduceMul, LM_out hL, R327 hL h.1 (show i + i / c < 800 by omega), ← hI1, xi144_0, ix_0, xi144_1, ix_1, xi144_2, ix_2, xi144_3, ix_3, xi144_4, ix_4, xi144_5, ix_5, xi144_6, ix_6, xi144_7, ix_7, xi144_8, ix_8, xi144_9, ix_9, xi144_10, ix_10, d3, e0, q_rem (show i < 2 ^ 31 by omega) hc0 (show c < 2 ^ 31 by omega), e1, nI_iff (show i % c < 2147483648 by omega) (show c - 1 < 2147483648 by omega), hw, e326_71, B326_71, nI_1]
      by_cases hx : i % c = c - 1
      · simp only [hx, true_and, and_true, false_and, and_false, true_implies, false_implies, implies_true, not_true_eq_false, not_false_eq_true, ne_eq, if_true, if_false, Bool.and_true, Bool.true_and, decide_true, decide_false, reduceIte, reduceCtorEq, Bool.and_self, Bool.and_eq_true, decide_eq_true_eq, and_self, true_or, or_true, false_or, or_false, Nat.zero_add, Nat.add_zero, eq_self, Nat.reduceEqDiff, Nat.reduceLeDiff, Nat.reduceLT, Nat.reduceAdd, Nat.reduceSub, Nat.reduceMul]
        refine L326_12 hL hn hc0 hc8 h10 h01 hs hs2 kk j (i + 1) _ (by omega) ?_
        rw [div_up hc0, if_pos hx, show i + 1 + (i / c + 1) = i + i / c + 1 + 1 by omega]
        exact h2
      · simp only [hx, true_and, and_true, false_and, and_false, true_implies, false_implies, implies_true, not_true_eq_false, not_false_eq_true, ne_eq, if_true, if_false, Bool.and_true, Bool.true_and, decide_true, decide_false, reduceIte, reduceCtorEq, Bool.and_self, Bool.and_eq_true, decide_eq_true_eq, and_self, true_or, or_true, false_or, or_false, Nat.zero_add, Nat.add_zero, eq_self, Nat.reduceEqDiff, Nat.reduceLeDiff, Nat.reduceLT, Nat.reduceAdd, Nat.reduceSub, Nat.reduceMul]
        refine L326_12 hL hn hc0 hc8 h10 h01 hs hs2 kk j (i + 1) _ (by omega) ?_
        rw [div_up hc0, if_neg hx, show i + 1 + (i / c + 0) = i + i / c + 1 by omega]
        exact h1
    rw [e326_12]
    simp only [B326_12, xSeq, i_push, i_load, i_iload, i_lload, i_dload, i_aload, i_istore, i_astore, i_lstore, i_dstore, i_iinc, i_ii, i_iiz, i_ll, i_llz, i_lli, i_li, i_i, i_l, i_i2l, i_l2i, i_dup, i_dup2, i_dup2w, i_dupx1, i_pop, i_pop2, i_goto, i_ifc, i_icmp, i_getI, i_getL, i_getR, i_putI, i_putZ, i_putL, i_putR, i_aldI, i_aldB, i_aldL, i_aldD, i_astI, i_astL, i_astD, i_alen, i_ret, i_iret, i_zret, i_lret, i_fret, i_dret, i_aret, i_invS0, i_invV0, i_m2, i_m1, i_ml, i_obj, lk, lkp, stf1, stf2, Value.category, rV, xTo, lv_args, xCk, xCat, xRc, xAk, hg_S, hg_I, hg_J, hg_D, hg_R, hs_I, hs_J, hs_D, hs_R, uI_at, uJ_at, uD_at, uR_at, List.take_succ_cons, List.take_zero, List.drop_succ_cons, List.drop_zero, List.reverse_cons, List.reverse_nil, List.nil_append, List.cons_append, List.map_cons, List.map_nil, List.sum_cons, List.sum_nil, List.length_cons, List.length_nil, Option.toList_some, Option.toList_none, true_and, and_true, false_and, and_false, true_implies, false_implies, implies_true, not_true_eq_false, not_false_eq_true, ne_eq, if_true, if_false, Bool.and_true, Bool.true_and, decide_true, decide_false, reduceIte, reduceCtorEq, Bool.and_self, Bool.and_eq_true, decide_eq_true_eq, and_self, true_or, or_true, false_or, or_false, Nat.zero_add, Nat.add_zero, eq_self, Nat.reduceEqDiff, Nat.reduceLeDiff, Nat.reduceLT, Nat.reduceAdd, Nat.reduceSub, Nat.reduceMul, xi144_0, ix_0, xi144_1, ix_1, xi144_2, ix_2, xi144_3, ix_3, xi144_4, ix_4, xi144_5, ix_5, xi144_6, ix_6, xi144_7, ix_7, xi144_8, ix_8, xi144_9, ix_9, xi144_10, ix_10, LM_out hL, c1, nI_leP (show n < 2147483648 by omega) (show i < 2147483648 by omega), show (n ≤ i) = False from eq_false (by omega), hs, h238, e326_41, B326_41]
    cases s.testBit i
    · simp only [show (sg false = 1) = False from eq_false (by decide), true_and, and_true, false_and, and_false, true_implies, false_implies, implies_true, not_true_eq_false, not_false_eq_true, ne_eq, if_true, if_false, Bool.and_true, Bool.true_and, decide_true, decide_false, reduceIte, reduceCtorEq, Bool.and_self, Bool.and_eq_true, decide_eq_true_eq, and_self, true_or, or_true, false_or, or_false, Nat.zero_add, Nat.add_zero, eq_self, Nat.reduceEqDiff, Nat.reduceLeDiff, Nat.reduceLT, Nat.reduceAdd, Nat.reduceSub, Nat.reduceMul]
      exact ap 45
    · simp only [show (sg true = 1) = True from eq_true (by decide), true_and, and_true, false_and, and_false, true_implies, false_implies, implies_true, not_true_eq_false, not_false_eq_true, ne_eq, if_true, if_false, Bool.and_true, Bool.true_and, decide_true, decide_false, reduceIte, reduceCtorEq, Bool.and_self, Bool.and_eq_true, decide_eq_true_eq, and_self, true_or, or_true, false_or, or_false, Nat.zero_add, Nat.add_zero, eq_self, Nat.reduceEqDiff, Nat.reduceLeDiff, Nat.reduceLT, Nat.reduceAdd, Nat.reduceSub, Nat.reduceMul]
      exact ap 43
end
/-! ===== bits of ints; the JDK's counting of an int's bits ===== -/
section
theorem i_tb (n : Nat) : (nI n).toBitVec = BitVec.ofNat 32 n := rfl
theorem i_inj {a b : Int32} (h : a.toBitVec = b.toBitVec) : a = b := Int32.toBitVec_inj.mp h
theorem i_xorN (a b : Nat) : nI a ^^^ nI b = nI (a ^^^ b) := by
  apply i_inj
  rw [Int32.toBitVec_xor, i_tb, i_tb, i_tb]
  apply BitVec.eq_of_getLsbD_eq
  intro i hi
  simp [BitVec.getLsbD_ofNat, Nat.testBit_xor, hi]
theorem i_andN (a b : Nat) : nI a &&& nI b = nI (a &&& b) := by
  apply i_inj
  rw [Int32.toBitVec_and, i_tb, i_tb, i_tb]
  apply BitVec.eq_of_getLsbD_eq
  intro i hi
  simp [BitVec.getLsbD_ofNat, Nat.testBit_and, hi]
theorem i_orN (a b : Nat) : nI a ||| nI b = nI (a ||| b) := by
  apply i_inj
  rw [Int32.toBitVec_or, i_tb, i_tb, i_tb]
  apply BitVec.eq_of_getLsbD_eq
  intro i hi
  simp [BitVec.getLsbD_ofNat, Nat.testBit_or, hi]
theorem i_c31 : ∀ k, k < 31 → ((nI k &&& 31).toBitVec.smod 32).toNat = k := by decide +kernel
theorem i_shr {a k : Nat} (ha : a < 2147483648) (hk : k < 31) : jShr (nI a) (nI k) = nI (a / 2 ^ k) := pk_shrN ha _ k (i_c31 k hk)
theorem i_ushr {a : Nat} (ha : a < 2 ^ 32) (s : Int32) (k : Nat) (hs : ((s.toUInt32 &&& Int32.toUInt32 31).toBitVec % 32).toNat = k) : jUshr (nI a) s = nI (a / 2 ^ k) := pk_ushrN ha s k hs
/-- four eighths, folded together -/
theorem fold4 {r0 r1 r2 r3 R1 R2 R3 w : Nat} (h0 : r0 ≤ 8) (h1 : r1 ≤ 8) (h2 : r2 ≤ 8) (h3 : r3 ≤ 8) (e3 : R3 = r3) (e2 : R2 = r2 + 256 * R3) (e1 : R1 = r1 + 256 * R2) (hw : w = r0 + 256 * R1) :
    w / 256 = R1 ∧ (w + R1) / 65536 = R2 + R3 ∧ (w + R1 + (R2 + R3)) % 64 = r0 + r1 + r2 + r3 ∧ w + R1 + (R2 + R3) < 4294967296 := by
  refine ⟨?_, ?_, ?_, ?_⟩ <;> omega
variable {S : xS} {I : xI} {J : xJ} {D : xDb} {R : xR} {b : Nat × Nat} {Q : xQ}
theorem pop32 (x : Nat) : pop 32 x = pe x 0 + pe x 1 + pe x 2 + pe x 3 := by
  have h0 := pop_8 x 0
  have h1 := pop_8 x 1
  have h2 := pop_8 x 2
  have h3 := pop_8 x 3
  simp only [Nat.mul_zero, Nat.zero_add, Nat.mul_one, Nat.reduceMul, Nat.reduceAdd] at h0 h1 h2 h3
  rw [h3, h2, h1, h0, show pop 0 x = 0 from rfl, Nat.zero_add]
theorem Y4 {x : Nat} (hx : x < 2 ^ 32) : xRun xT 4 0 [(0, .int (nI x))] [] (S, I, J, D, R) b Q = Q (.ok (some (.int (nI (pop 32 x))))) (S, I, J, D, R) b := by
  obtain ⟨y, z, ey, ez, ew, by1, by2, bz, bzz⟩ := swar (K := 3) (x := x) (M5 := 1431655765) (M3 := 858993459) (MF := 252645135) hx (by decide +kernel) (by decide +kernel) (by decide +kernel)
  obtain ⟨w, hw⟩ : ∃ w, w = val 256 4 (pe x) := ⟨_, rfl⟩
  have hv : w = pe x 0 + 256 * (pe x 1 + 256 * (pe x 2 + 256 * (pe x 3))) := hw
  obtain ⟨d1, d2, f0, f4⟩ := fold4 (pe_le x 0) (pe_le x 1) (pe_le x 2) (pe_le x 3) rfl rfl rfl hv
  rw [← d2, ← d1] at f0 f4
  rw [← pop32 x] at f0
  have hq : x < 4294967296 := hx
  have b1 : y < 2 ^ 32 := by omega
  have b2 : z < 2 ^ 32 := bz
  have b3 : w < 2 ^ 32 := by omega
  have b4 : w + w / 256 < 2 ^ 32 := by omega
  have k1 : nI x - (jUshr (nI x) 1 &&& 1431655765) = nI y := by
    rw [i_ushr hx 1 1 (by decide), show (1431655765 : Int32) = nI 1431655765 from rfl, i_andN, nI_subn (by rw [Nat.pow_one]; exact by2), ey]
  have k2 : (nI y &&& 858993459) + (jUshr (nI y) 2 &&& 858993459) = nI z := by
    rw [i_ushr b1 2 2 (by decide), show (858993459 : Int32) = nI 858993459 from rfl, i_andN, i_andN, nI_add, ez]
  have k3 : (nI z + jUshr (nI z) 4) &&& 252645135 = nI w := by
    rw [i_ushr b2 4 4 (by decide), show (252645135 : Int32) = nI 252645135 from rfl, nI_add, i_andN, hw, ← ew]
  have k4 : nI w + jUshr (nI w) 8 = nI (w + w / 256) := by
    rw [i_ushr b3 8 8 (by decide), nI_add]
  have k5 : nI (w + w / 256) + jUshr (nI (w + w / 256)) 16 = nI (w + w / 256 + (w + w / 256) / 65536) := by
    rw [i_ushr b4 16 16 (by decide), nI_add]
  have k6 : nI (w + w / 256 + (w + w / 256) / 65536) &&& 63 = nI (pop 32 x) := by
    rw [pk_andN (by omega) 6 (by decide)]
    rw [show (2 : Nat) ^ 6 = 64 from rfl, f0]
  rw [e4_0]
  simp only [B4_0, xSeq, i_push, i_load, i_iload, i_lload, i_dload, i_aload, i_istore, i_astore, i_lstore, i_dstore, i_iinc, i_ii, i_iiz, i_ll, i_llz, i_lli, i_li, i_i, i_l, i_i2l, i_l2i, i_dup, i_dup2, i_dup2w, i_dupx1, i_pop, i_pop2, i_goto, i_ifc, i_icmp, i_getI, i_getL, i_getR, i_putI, i_putZ, i_putL, i_putR, i_aldI, i_aldB, i_aldL, i_aldD, i_astI, i_astL, i_astD, i_alen, i_ret, i_iret, i_zret, i_lret, i_fret, i_dret, i_aret, i_invS0, i_invV0, i_m2, i_m1, i_ml, i_obj, lk, lkp, stf1, stf2, Value.category, rV, xTo, lv_args, xCk, xCat, xRc, xAk, hg_S, hg_I, hg_J, hg_D, hg_R, hs_I, hs_J, hs_D, hs_R, uI_at, uJ_at, uD_at, uR_at, List.take_succ_cons, List.take_zero, List.drop_succ_cons, List.drop_zero, List.reverse_cons, List.reverse_nil, List.nil_append, List.cons_append, List.map_cons, List.map_nil, List.sum_cons, List.sum_nil, List.length_cons, List.length_nil, Option.toList_some, Option.toList_none, true_and, and_true, false_and, and_false, true_implies, false_implies, implies_true, not_true_eq_false, not_false_eq_true, ne_eq, if_true, if_false, Bool.and_true, Bool.true_and, decide_true, decide_false, reduceIte, reduceCtorEq, Bool.and_self, Bool.and_eq_true, decide_eq_true_eq, and_self, true_or, or_true, false_or, or_false, Nat.zero_add, Nat.add_zero, eq_self, Nat.reduceEqDiff, Nat.reduceLeDiff, Nat.reduceLT, Nat.reduceAdd, Nat.reduceSub, Nat.reduceMul, k1, k2, k3, k4, k5, k6]
end
/-! ===== levels: both ways of listing them ===== -/
section
theorem fl_skip {p : Nat → Bool} : ∀ (d a : Nat), (∀ k, a ≤ k → k < a + d → p k = false) → fl p (a + d) = fl p a
  | 0, _, _ => rfl
  | d + 1, a, h => by
    show fl p (a + d + 1) = fl p a
    rw [fl, h (a + d) (by omega) (by omega)]
    exact fl_skip d a (fun k h1 h2 => h k h1 (by omega))
/-- an energy, from 0 -/
def eN (E : Nat → Int32) (c : Nat) : Nat := ((E c).toInt + 144).toNat
/-- energies as small grids have them -/
def EB (E : Nat → Int32) (n : Nat) : Prop := n ≤ 16 ∧ ∀ c, c < 2 ^ n → -144 ≤ (E c).toInt ∧ (E c).toInt ≤ 144
variable {E : Nat → Int32} {n : Nat}
theorem eN_ok (h : EB E n) {c : Nat} (hc : c < 2 ^ n) : E c + 144 = nI (eN E c) ∧ E c + 200 = nI (eN E c + 56) ∧ eN E c ≤ 288 ∧ E c = nI (eN E c) - 144 := by
  have h1 := h.2 c hc
  have h2 : eN E c ≤ 288 := by unfold eN; omega
  have e : E c + 144 = nI (eN E c) := by
    apply Int32.toInt_inj.mp
    rw [i32_addT (x := 144) (y := 144) h1 (by decide) (by decide), nI_toInt (by omega)]
    unfold eN
    have : (144 : Int32).toInt = 144 := rfl
    omega
  refine ⟨e, ?_, h2, ?_⟩
  · rw [← nI_add, ← e, show nI 56 = 56 from rfl]
    grind
  · rw [← e]
    grind
/-- the lab's place of a configuration among 289 times 17, the model's among 401 times 33 -/
def yL (E : Nat → Int32) (n c : Nat) : Nat := eN E c * 17 + pop n c
def yM (E : Nat → Int32) (n c : Nat) : Nat := 33 * (eN E c + 56) + (2 * pop n c + 16 - n)
def fM (n k : Nat) : Nat := 33 * (k / 17 + 56) + (2 * (k % 17) + 16 - n)
def cL (E : Nat → Int32) (n k : Nat) : Nat := ct (fun c => decide (yL E n c = k)) (2 ^ n)
def cM (E : Nat → Int32) (n k : Nat) : Nat := ct (fun c => decide (yM E n c = k)) (2 ^ n)
/-- the levels -/
def lv (E : Nat → Int32) (n : Nat) : List Nat := fl (fun k => decide (0 < cL E n k)) 4913
theorem yL_ok (h : EB E n) {c : Nat} (hc : c < 2 ^ n) : yL E n c < 4913 ∧ yL E n c / 17 = eN E c ∧ yL E n c % 17 = pop n c ∧ pop n c ≤ n := by
  have h1 := (eN_ok h hc).2.2.1
  have h2 := pop_le n c
  have h3 := h.1
  unfold yL
  omega
theorem yM_ok (h : EB E n) {c : Nat} (hc : c < 2 ^ n) : yM E n c = fM n (yL E n c) ∧ yM E n c < 13233 := by
  obtain ⟨h1, h2, h3, h4⟩ := yL_ok h hc
  have h5 := (eN_ok h hc).2.2.1
  have h6 := h.1
  unfold fM
  rw [h2, h3]
  unfold yM
  refine ⟨rfl, ?_⟩
  omega
theorem cL_pos (h : EB E n) {k : Nat} (hk : 0 < cL E n k) : ∃ c, c < 2 ^ n ∧ yL E n c = k := by
  obtain ⟨c, h1, h2⟩ := ct_pos.mp hk
  exact ⟨c, h1, of_decide_eq_true h2⟩
theorem cL_mod (h : EB E n) {k : Nat} (hk : 0 < cL E n k) : k % 17 ≤ n ∧ k < 4913 := by
  obtain ⟨c, h1, h2⟩ := cL_pos h hk
  obtain ⟨h3, h4, h5, h6⟩ := yL_ok h h1
  rw [← h2, h5]
  exact ⟨h6, h3⟩
theorem fM_inj {i j : Nat} (h : n ≤ 16) (hi : i % 17 ≤ n) (hj : j % 17 ≤ n) (e : fM n i = fM n j) : i = j := by
  unfold fM at e
  omega
theorem cM_eq (h : EB E n) {k : Nat} (hk : k % 17 ≤ n) : cM E n (fM n k) = cL E n k := by
  refine ct_congr (fun c hc => ?_)
  obtain ⟨h1, h2, h3, h4⟩ := yL_ok h hc
  have h5 := (yM_ok h hc).1
  apply decide_eq_decide.mpr
  constructor
  · intro e
    rw [h5] at e
    exact fM_inj h.1 (by omega) hk e
  · intro e
    rw [h5, e]
theorem lv_map (h : EB E n) : fl (fun k => decide (0 < cM E n k)) 13233 = (lv E n).map (fM n) := by
  have hn := h.1
  refine fl_map (fun i hi hp => ?_) (fun k hk hq => ?_) (fun i j hi hj hpi hpj hij => ?_)
  · have hp := of_decide_eq_true hp
    have h1 := cL_mod h hp
    refine ⟨?_, ?_⟩
    · unfold fM
      omega
    · rw [cM_eq h h1.1]
      exact decide_eq_true hp
  · have hq := of_decide_eq_true hq
    obtain ⟨c, h1, h2⟩ := ct_pos.mp hq
    have h2 := of_decide_eq_true h2
    obtain ⟨h3, h4, h5, h6⟩ := yL_ok h h1
    refine ⟨yL E n c, h3, decide_eq_true (ct_pos.mpr ⟨c, h1, decide_eq_true rfl⟩), ?_⟩
    rw [← (yM_ok h h1).1, h2]
  · have h1 := cL_mod h (of_decide_eq_true hpi)
    have h2 := cL_mod h (of_decide_eq_true hpj)
    unfold fM
    omega
/-- a level's energy, magnetization, number -/
def gE (k : Nat) : Int32 := nI (k / 17) - 144
def gM (n k : Nat) : Int32 := 2 * nI (k % 17) - nI n
def gN (E : Nat → Int32) (n k : Nat) : Int32 := nI (cL E n k)
theorem fM_33 {k : Nat} (hn : n ≤ 16) (h : k % 17 ≤ n) : fM n k / 33 = k / 17 + 56 ∧ fM n k % 33 = 2 * (k % 17) + 16 - n := by
  unfold fM
  omega
theorem hE_ok {k : Nat} (hn : n ≤ 16) (h : k % 17 ≤ n) : nI (fM n k / 33) - 200 = gE k := by
  rw [(fM_33 hn h).1, ← nI_add, show nI 56 = 56 from rfl]
  unfold gE
  grind
theorem hM_ok {k : Nat} (hn : n ≤ 16) (h : k % 17 ≤ n) : nI (fM n k % 33) - 16 = gM n k := by
  have e : nI (2 * (k % 17) + 16 - n) + nI n = 2 * nI (k % 17) + 16 := by
    rw [nI_add, show 2 * (k % 17) + 16 - n + n = 2 * (k % 17) + 16 by omega, ← nI_add, ← pk_mul]
    rfl
  rw [(fM_33 hn h).2]
  unfold gM
  grind
/-- rows that hold what a list's things have -/
def GL (l : List Nat) (a b c w4 w5 w6 : Nat → Int32) : Prop := ∀ i, i < l.length → w4 i = a (l.getD i 0) ∧ w5 i = b (l.getD i 0) ∧ w6 i = c (l.getD i 0)
theorem GL_0 {a b c w4 w5 w6 : Nat → Int32} : GL [] a b c w4 w5 w6 := fun i hi => absurd hi (Nat.not_lt_zero i)
theorem GL_add {l : List Nat} {a b c w4 w5 w6 : Nat → Int32} (h : GL l a b c w4 w5 w6) (k : Nat) : GL (l ++ [k]) a b c (up w4 l.length (a k)) (up w5 l.length (b k)) (up w6 l.length (c k)) := by
  intro i hi
  rw [List.length_append, List.length_singleton] at hi
  rw [up_at, up_at, up_at]
  by_cases e : i = l.length
  · rw [if_pos e, if_pos e, if_pos e, e, getD_app2]
    exact ⟨rfl, rfl, rfl⟩
  · rw [if_neg e, if_neg e, if_neg e, getD_app1 _ _ _ (by omega)]
    exact h i (by omega)
theorem getD_lt {l : List Nat} {i : Nat} (h : i < l.length) : l.getD i 0 = l[i] := by
  rw [List.getD_eq_getElem?_getD, List.getElem?_eq_getElem h]
  rfl
theorem getD_map {l : List Nat} {f : Nat → Nat} {i : Nat} (h : i < l.length) : (l.map f).getD i 0 = f (l.getD i 0) := by
  rw [getD_lt (by rw [List.length_map]; exact h), getD_lt h, List.getElem_map]
theorem lv_get (h : EB E n) {i : Nat} (hi : i < (lv E n).length) : (lv E n).getD i 0 < 4913 ∧ 0 < cL E n ((lv E n).getD i 0) ∧ (lv E n).getD i 0 % 17 ≤ n := by
  have h1 : (lv E n).getD i 0 ∈ lv E n := by
    rw [getD_lt hi]
    exact List.getElem_mem hi
  have h2 := (fl_mem _ _ _).mp h1
  have h3 := of_decide_eq_true h2.2
  exact ⟨h2.1, h3, (cL_mod h h3).1⟩
theorem lv_len (E : Nat → Int32) (n : Nat) : (lv E n).length ≤ 4913 := fl_len _ _
theorem ct_all {p : Nat → Bool} : ∀ {n k : Nat}, k < n → p k = true → 0 < ct p n := fun {n k} h1 h2 => ct_pos.mpr ⟨k, h1, h2⟩
theorem lv_pos (h : EB E n) : 0 < (lv E n).length := by
  have h1 := yL_ok h (Nat.two_pow_pos n)
  have h2 : yL E n 0 ∈ lv E n := (fl_mem _ _ _).mpr ⟨h1.1, decide_eq_true (ct_pos.mpr ⟨0, Nat.two_pow_pos n, decide_eq_true rfl⟩)⟩
  exact List.length_pos_of_mem h2
theorem GL_map (h : EB E n) {w4 w5 w6 : Nat → Int32} (hw : GL (fl (fun k => decide (0 < cM E n k)) 13233) (fun k => nI (k / 33) - 200) (fun k => nI (k % 33) - 16) (fun k => nI (cM E n k)) w4 w5 w6) : GL (lv E n) gE (gM n) (gN E n) w4 w5 w6 := by
  intro i hi
  rw [lv_map h] at hw
  obtain ⟨h1, h2, h3⟩ := hw i (by rw [List.length_map]; exact hi)
  obtain ⟨h4, h5, h6⟩ := lv_get h hi
  rw [getD_map hi] at h1 h2 h3
  refine ⟨h1.trans (hE_ok h.1 h6), h2.trans (hM_ok h.1 h6), h3.trans ?_⟩
  show nI (cM E n (fM n _)) = _
  rw [cM_eq h h6]
  rfl
end
/-! ===== the lab lists its levels ===== -/
section
variable {S : xS} {I : xI} {J : xJ} {D : xDb} {R : xR} {b : Nat × Nat} {Q : xQ} {n : Nat} {E : Nat → Int32}
theorem pow16 (hn : n ≤ 16) : 2 ^ n ≤ 65536 := Nat.pow_le_pow_right (by decide) hn
theorem L100_10 (hL : LC S R) (hE : LE S R) (hB : EB E n) (h3 : I 130 3 = nI (2 ^ n)) (hw : ∀ c, c < 2 ^ n → I 151 c = E c)
    (kk : ∀ f, (∀ k, k < 4913 → f k = nI (cL E n k)) → Q (.ok none) (S, rI I 153 f, J, D, R) b) :
    ∀ (j i : Nat) (f : Nat → Int32), i + j = 2 ^ n → (∀ k, k < 4913 → f k = nI (ct (fun c => decide (yL E n c = k)) i)) → xRun xT 100 10 [(0, .ref 130), (1, .int (nI i))] [] (S, rI I 153 f, J, D, R) b Q
  | 0, i, f, hi, hf => by
    have hp := pow16 hB.1
    have e : i = 2 ^ n := by omega
    subst e
    rw [e100_10]
    simp only [B100_10, xSeq, i_push, i_load, i_iload, i_lload, i_dload, i_aload, i_istore, i_astore, i_lstore, i_dstore, i_iinc, i_ii, i_iiz, i_ll, i_llz, i_lli, i_li, i_i, i_l, i_i2l, i_l2i, i_dup, i_dup2, i_dup2w, i_dupx1, i_pop, i_pop2, i_goto, i_ifc, i_icmp, i_getI, i_getL, i_getR, i_putI, i_putZ, i_putL, i_putR, i_aldI, i_aldB, i_aldL, i_aldD, i_astI, i_astL, i_astD, i_alen, i_ret, i_iret, i_zret, i_lret, i_fret, i_dret, i_aret, i_invS0, i_invV0, i_m2, i_m1, i_ml, i_obj, lk, lkp, stf1, stf2, Value.category, rV, xTo, lv_args, xCk, xCat, xRc, xAk, hg_S, hg_I, hg_J, hg_D, hg_R, hs_I, hs_J, hs_D, hs_R, uI_at, uJ_at, uD_at, uR_at, List.take_succ_cons, List.take_zero, List.drop_succ_cons, List.drop_zero, List.reverse_cons, List.reverse_nil, List.nil_append, List.cons_append, List.map_cons, List.map_nil, List.sum_cons, List.sum_nil, List.length_cons, List.length_nil, Option.toList_some, Option.toList_none, true_and, and_true, false_and, and_false, true_implies, false_implies, implies_true, not_true_eq_false, not_false_eq_true, ne_eq, if_true, if_false, Bool.and_true, Bool.true_and, decide_true, decide_false, reduceIte, reduceCtorEq, Bool.and_self, Bool.and_eq_true, decide_eq_true_eq, and_self, true_or, or_true, false_or, or_false, Nat.zero_add, Nat.add_zero, eq_self, Nat.reduceEqDiff, Nat.reduceLeDiff, Nat.reduceLT, Nat.reduceAdd, Nat.reduceSub, Nat.reduceMul, LC_out hL, rI_at, h3, nI_leP (show 2 ^ n < 2147483648 by omega) (show 2 ^ n < 2147483648 by omega), Nat.le_refl, e100_51, B100_51]
    exact kk f hf
  | j + 1, i, f, hi, hf => by
    have hp := pow16 hB.1
    have hc : i < 2 ^ n := by omega
    obtain ⟨h1, -, h2, -⟩ := eN_ok hB hc
    obtain ⟨h4, -, -, -⟩ := yL_ok hB hc
    have e1 : (nI (eN E i) * 17 + nI (pop 32 i) : Int32) = nI (yL E n i) := by
      have e2 : pop 32 i = pop n i := by
        have := pop_up hc (32 - n)
        rw [show n + (32 - n) = 32 by have := hB.1; omega] at this
        exact this
      rw [show (17 : Int32) = nI 17 from rfl, pk_mul, nI_add, e2]
      rfl
    rw [e100_10]
    simp only [B100_10, xSeq, i_push, i_load, i_iload, i_lload, i_dload, i_aload, i_istore, i_astore, i_lstore, i_dstore, i_iinc, i_ii, i_iiz, i_ll, i_llz, i_lli, i_li, i_i, i_l, i_i2l, i_l2i, i_dup, i_dup2, i_dup2w, i_dupx1, i_pop, i_pop2, i_goto, i_ifc, i_icmp, i_getI, i_getL, i_getR, i_putI, i_putZ, i_putL, i_putR, i_aldI, i_aldB, i_aldL, i_aldD, i_astI, i_astL, i_astD, i_alen, i_ret, i_iret, i_zret, i_lret, i_fret, i_dret, i_aret, i_invS0, i_invV0, i_m2, i_m1, i_ml, i_obj, lk, lkp, stf1, stf2, Value.category, rV, xTo, lv_args, xCk, xCat, xRc, xAk, hg_S, hg_I, hg_J, hg_D, hg_R, hs_I, hs_J, hs_D, hs_R, uI_at, uJ_at, uD_at, uR_at, List.take_succ_cons, List.take_zero, List.drop_succ_cons, List.drop_zero, List.reverse_cons, List.reverse_nil, List.nil_append, List.cons_append, List.map_cons, List.map_nil, List.sum_cons, List.sum_nil, List.length_cons, List.length_nil, Option.toList_some, Option.toList_none, true_and, and_true, false_and, and_false, true_implies, false_implies, implies_true, not_true_eq_false, not_false_eq_true, ne_eq, if_true, if_false, Bool.and_true, Bool.true_and, decide_true, decide_false, reduceIte, reduceCtorEq, Bool.and_self, Bool.and_eq_true, decide_eq_true_eq, and_self, true_or, or_true, false_or, or_false, Nat.zero_add, Nat.add_zero, eq_self, Nat.reduceEqDiff, Nat.reduceLeDiff, Nat.reduceLT, Nat.reduceAdd, Nat.reduceSub, Nat.reduceMul, LC_out hL, LE_out hE, rI_at, h3, nI_leP (show 2 ^ n < 2147483648 by omega) (show i < 2147483648 by omega), show (2 ^ n ≤ i) = False from eq_false (by omega), nI_inP (show i < 65536 by omega) (by decide), nI_ix (show i < 2147483648 by omega), hw i hc, h1, Y4 (x := i) (by omega), e1, nI_inP h4 (by decide), nI_ix (show yL E n i < 2147483648 by omega), uI_rI, nI_1]
    refine L100_10 hL hE hB h3 hw kk j (i + 1) _ (by omega) (fun k hk => ?_)
    rw [up_at, ct]
    by_cases e : k = yL E n i
    · rw [if_pos e, e, hf _ h4, if_pos (decide_eq_true rfl), nI_1]
    · rw [if_neg e, hf k hk, if_neg (fun h => e (of_decide_eq_true h).symm), Nat.add_zero]
def lvH (I : xI) (m : Nat) (w4 w5 w6 : Nat → Int32) : xI := fun o k => if o = 154 then w4 k else if o = 155 then w5 k else if o = 156 then w6 k else if o = 130 ∧ k = 5 then nI m else I o k
theorem lvH_at (I : xI) (m : Nat) (w4 w5 w6 : Nat → Int32) (o k : Nat) : lvH I m w4 w5 w6 o k = if o = 154 then w4 k else if o = 155 then w5 k else if o = 156 then w6 k else if o = 130 ∧ k = 5 then nI m else I o k := rfl
theorem lvH_add (I : xI) (m : Nat) (w4 w5 w6 : Nat → Int32) (x y z : Int32) : uI (uI (uI (uI (lvH I m w4 w5 w6) 154 m x) 155 m y) 156 m z) 130 5 (nI (m + 1)) = lvH I (m + 1) (up w4 m x) (up w5 m y) (up w6 m z) := by
  funext o k
  simp only [uI_at, lvH_at, up_at]
  by_cases h1 : o = 154
  · subst h1; simp
  · by_cases h2 : o = 155
    · subst h2; simp
    · by_cases h3 : o = 156
      · subst h3; simp
      · by_cases h4 : o = 130 ∧ k = 5
        · simp [h4]
        · simp [h1, h2, h3, h4]
theorem lvH_0 (I : xI) (m : Nat) (h : I 130 5 = nI m) : lvH I m (I 154) (I 155) (I 156) = I := by
  funext o k
  rw [lvH_at]
  split
  · rename_i e; rw [e]
  · split
    · rename_i e; rw [e]
    · split
      · rename_i e; rw [e]
      · split
        · rename_i e; rw [e.1, e.2, h]
        · rfl
theorem q_144 (e : Nat) : (nI e - 144 + 144 : Int32) = nI e := by grind
theorem q_144s (e : Nat) : (nI e - 144 + 1 : Int32) = nI (e + 1) - 144 := by
  rw [← nI_add, show nI 1 = 1 from rfl]
  grind
theorem q_144l : ∀ e, e < 290 → decide ((144 : Int32) < nI e - 144) = decide (288 < e) := by decide +kernel
theorem q_144P {e : Nat} (h : e < 290) : ((144 : Int32) < nI e - 144) = (288 < e) := propext (decide_eq_decide.mp (q_144l e h))
theorem lv_up {p : Nat → Bool} {k : Nat} (h : p k = true) : fl p (k + 1) = fl p k ++ [k] := by rw [fl, if_pos h]
theorem lv_no {p : Nat → Bool} {k : Nat} (h : ¬ p k = true) : fl p (k + 1) = fl p k := by rw [fl, if_neg h]
theorem L101_18 (hL : LC S R) (hE : LE S R) (hB : EB E n) (h2 : I 130 2 = nI n) (ht : ∀ k, k < 4913 → I 153 k = nI (cL E n k)) {e : Nat} (he : e < 289)
    (kk : ∀ w4 w5 w6, GL (fl (fun k => decide (0 < cL E n k)) ((e + 1) * 17)) gE (gM n) (gN E n) w4 w5 w6 → xRun xT 101 99 [(0, .ref 130), (1, .int (nI e - 144))] [] (S, lvH I (fl (fun k => decide (0 < cL E n k)) ((e + 1) * 17)).length w4 w5 w6, J, D, R) b Q) :
    ∀ (j u : Nat) (w4 w5 w6 : Nat → Int32), u + j = n + 1 → GL (fl (fun k => decide (0 < cL E n k)) (e * 17 + u)) gE (gM n) (gN E n) w4 w5 w6 → xRun xT 101 18 [(0, .ref 130), (1, .int (nI e - 144)), (2, .int (nI u))] [] (S, lvH I (fl (fun k => decide (0 < cL E n k)) (e * 17 + u)).length w4 w5 w6, J, D, R) b Q
  | 0, u, w4, w5, w6, hu, hg => by
    have hn := hB.1
    have e1 : u = n + 1 := by omega
    subst e1
    have e2 : fl (fun k => decide (0 < cL E n k)) ((e + 1) * 17) = fl (fun k => decide (0 < cL E n k)) (e * 17 + (n + 1)) := by
      rw [show (e + 1) * 17 = e * 17 + (n + 1) + (16 - n) by omega]
      refine fl_skip _ _ (fun k h1 h2 => decide_eq_false (fun h => ?_))
      have := (cL_mod hB h).1
      omega
    have h2' : ∀ m, lvH I m w4 w5 w6 130 2 = nI n := fun m => h2
    rw [e101_18]
    simp only [B101_18, xSeq, i_push, i_load, i_iload, i_lload, i_dload, i_aload, i_istore, i_astore, i_lstore, i_dstore, i_iinc, i_ii, i_iiz, i_ll, i_llz, i_lli, i_li, i_i, i_l, i_i2l, i_l2i, i_dup, i_dup2, i_dup2w, i_dupx1, i_pop, i_pop2, i_goto, i_ifc, i_icmp, i_getI, i_getL, i_getR, i_putI, i_putZ, i_putL, i_putR, i_aldI, i_aldB, i_aldL, i_aldD, i_astI, i_astL, i_astD, i_alen, i_ret, i_iret, i_zret, i_lret, i_fret, i_dret, i_aret, i_invS0, i_invV0, i_m2, i_m1, i_ml, i_obj, lk, lkp, stf1, stf2, Value.category, rV, xTo, lv_args, xCk, xCat, xRc, xAk, hg_S, hg_I, hg_J, hg_D, hg_R, hs_I, hs_J, hs_D, hs_R, uI_at, uJ_at, uD_at, uR_at, List.take_succ_cons, List.take_zero, List.drop_succ_cons, List.drop_zero, List.reverse_cons, List.reverse_nil, List.nil_append, List.cons_append, List.map_cons, List.map_nil, List.sum_cons, List.sum_nil, List.length_cons, List.length_nil, Option.toList_some, Option.toList_none, true_and, and_true, false_and, and_false, true_implies, false_implies, implies_true, not_true_eq_false, not_false_eq_true, ne_eq, if_true, if_false, Bool.and_true, Bool.true_and, decide_true, decide_false, reduceIte, reduceCtorEq, Bool.and_self, Bool.and_eq_true, decide_eq_true_eq, and_self, true_or, or_true, false_or, or_false, Nat.zero_add, Nat.add_zero, eq_self, Nat.reduceEqDiff, Nat.reduceLeDiff, Nat.reduceLT, Nat.reduceAdd, Nat.reduceSub, Nat.reduceMul, LC_out hL, h2', nI_ltP (show n < 2147483648 by omega) (show n + 1 < 2147483648 by omega), show (n < n + 1) = True from eq_true (Nat.lt_succ_self n)]
    have := kk w4 w5 w6
    rw [e2] at this
    exact this hg
  | j + 1, u, w4, w5, w6, hu, hg => by
    have hn := hB.1
    obtain ⟨m, hm⟩ : ∃ m, m = (fl (fun k => decide (0 < cL E n k)) (e * 17 + u)).length := ⟨_, rfl⟩
    have hml : m ≤ e * 17 + u := by rw [hm]; exact fl_len _ _
    have h2' : lvH I m w4 w5 w6 130 2 = nI n := h2
    have ht' : ∀ k, lvH I m w4 w5 w6 153 k = I 153 k := fun k => rfl
    have hm' : lvH I m w4 w5 w6 130 5 = nI m := rfl
    have e3 : (nI e * 17 + nI u : Int32) = nI (e * 17 + u) := by rw [show (17 : Int32) = nI 17 from rfl, pk_mul, nI_add]
    have e4 : ∀ k, e * 17 + u = k → gE k = nI e - 144 ∧ gM n k = 2 * nI u - nI n := fun k hk => by
      unfold gE gM
      rw [show k / 17 = e by omega, show k % 17 = u by omega]
      exact ⟨rfl, rfl⟩
    obtain ⟨e5, e6⟩ := e4 _ rfl
    have hk := ht (e * 17 + u) (by omega)
    have ih := L101_18 hL hE hB h2 ht he kk j (u + 1)
    rw [← hm]
    rw [e101_18]
    simp only [B101_18, xSeq, i_push, i_load, i_iload, i_lload, i_dload, i_aload, i_istore, i_astore, i_lstore, i_dstore, i_iinc, i_ii, i_iiz, i_ll, i_llz, i_lli, i_li, i_i, i_l, i_i2l, i_l2i, i_dup, i_dup2, i_dup2w, i_dupx1, i_pop, i_pop2, i_goto, i_ifc, i_icmp, i_getI, i_getL, i_getR, i_putI, i_putZ, i_putL, i_putR, i_aldI, i_aldB, i_aldL, i_aldD, i_astI, i_astL, i_astD, i_alen, i_ret, i_iret, i_zret, i_lret, i_fret, i_dret, i_aret, i_invS0, i_invV0, i_m2, i_m1, i_ml, i_obj, lk, lkp, stf1, stf2, Value.category, rV, xTo, lv_args, xCk, xCat, xRc, xAk, hg_S, hg_I, hg_J, hg_D, hg_R, hs_I, hs_J, hs_D, hs_R, uI_at, uJ_at, uD_at, uR_at, List.take_succ_cons, List.take_zero, List.drop_succ_cons, List.drop_zero, List.reverse_cons, List.reverse_nil, List.nil_append, List.cons_append, List.map_cons, List.map_nil, List.sum_cons, List.sum_nil, List.length_cons, List.length_nil, Option.toList_some, Option.toList_none, true_and, and_true, false_and, and_false, true_implies, false_implies, implies_true, not_true_eq_false, not_false_eq_true, ne_eq, if_true, if_false, Bool.and_true, Bool.true_and, decide_true, decide_false, reduceIte, reduceCtorEq, Bool.and_self, Bool.and_eq_true, decide_eq_true_eq, and_self, true_or, or_true, false_or, or_false, Nat.zero_add, Nat.add_zero, eq_self, Nat.reduceEqDiff, Nat.reduceLeDiff, Nat.reduceLT, Nat.reduceAdd, Nat.reduceSub, Nat.reduceMul, LC_out hL, LE_out hE, h2', nI_ltP (show n < 2147483648 by omega) (show u < 2147483648 by omega), show (n < u) = False from eq_false (by omega), q_144, e3, nI_inP (show e * 17 + u < 4913 by omega) (by decide), nI_ix (show e * 17 + u < 2147483648 by omega), ht', hk, e101_93, B101_93, nI_1]
    by_cases hc : 0 < cL E n (e * 17 + u)
    · have hcc : cL E n (e * 17 + u) ≤ 2 ^ n := ct_le _ _
      have hp := pow16 hB.1
      have e7 : (nI (cL E n (e * 17 + u)) ≤ 0) = False := eq_false (nI_nle hc (by omega))
      simp only [e7, xSeq, i_push, i_load, i_iload, i_lload, i_dload, i_aload, i_istore, i_astore, i_lstore, i_dstore, i_iinc, i_ii, i_iiz, i_ll, i_llz, i_lli, i_li, i_i, i_l, i_i2l, i_l2i, i_dup, i_dup2, i_dup2w, i_dupx1, i_pop, i_pop2, i_goto, i_ifc, i_icmp, i_getI, i_getL, i_getR, i_putI, i_putZ, i_putL, i_putR, i_aldI, i_aldB, i_aldL, i_aldD, i_astI, i_astL, i_astD, i_alen, i_ret, i_iret, i_zret, i_lret, i_fret, i_dret, i_aret, i_invS0, i_invV0, i_m2, i_m1, i_ml, i_obj, lk, lkp, stf1, stf2, Value.category, rV, xTo, lv_args, xCk, xCat, xRc, xAk, hg_S, hg_I, hg_J, hg_D, hg_R, hs_I, hs_J, hs_D, hs_R, uI_at, uJ_at, uD_at, uR_at, List.take_succ_cons, List.take_zero, List.drop_succ_cons, List.drop_zero, List.reverse_cons, List.reverse_nil, List.nil_append, List.cons_append, List.map_cons, List.map_nil, List.sum_cons, List.sum_nil, List.length_cons, List.length_nil, Option.toList_some, Option.toList_none, true_and, and_true, false_and, and_false, true_implies, false_implies, implies_true, not_true_eq_false, not_false_eq_true, ne_eq, if_true, if_false, Bool.and_true, Bool.true_and, decide_true, decide_false, reduceIte, reduceCtorEq, Bool.and_self, Bool.and_eq_true, decide_eq_true_eq, and_self, true_or, or_true, false_or, or_false, Nat.zero_add, Nat.add_zero, eq_self, Nat.reduceEqDiff, Nat.reduceLeDiff, Nat.reduceLT, Nat.reduceAdd, Nat.reduceSub, Nat.reduceMul, LC_out hL, LE_out hE, uI_at, hm', h2', nI_inP (show m < 4913 by omega) (by decide), nI_ix (show m < 2147483648 by omega), nI_1, lvH_add]
      have e8 := lv_up (p := fun k => decide (0 < cL E n k)) (k := e * 17 + u) (decide_eq_true hc)
      have hg2 := GL_add hg (e * 17 + u)
      rw [← e8, ← hm, e5, e6] at hg2
      have ih2 := ih _ _ _ (by omega) hg2
      have e9 : (fl (fun k => decide (0 < cL E n k)) (e * 17 + (u + 1))).length = m + 1 := by
        rw [← Nat.add_assoc, e8, List.length_append, ← hm]
        rfl
      rw [e9] at ih2
      exact ih2
    · have e7 : (nI (cL E n (e * 17 + u)) ≤ 0) = True := eq_true (by rw [show cL E n (e * 17 + u) = 0 by omega, nI_0]; decide)
      have e8 := lv_no (p := fun k => decide (0 < cL E n k)) (k := e * 17 + u) (fun h => hc (of_decide_eq_true h))
      simp only [e7, xSeq, i_push, i_load, i_iload, i_lload, i_dload, i_aload, i_istore, i_astore, i_lstore, i_dstore, i_iinc, i_ii, i_iiz, i_ll, i_llz, i_lli, i_li, i_i, i_l, i_i2l, i_l2i, i_dup, i_dup2, i_dup2w, i_dupx1, i_pop, i_pop2, i_goto, i_ifc, i_icmp, i_getI, i_getL, i_getR, i_putI, i_putZ, i_putL, i_putR, i_aldI, i_aldB, i_aldL, i_aldD, i_astI, i_astL, i_astD, i_alen, i_ret, i_iret, i_zret, i_lret, i_fret, i_dret, i_aret, i_invS0, i_invV0, i_m2, i_m1, i_ml, i_obj, lk, lkp, stf1, stf2, Value.category, rV, xTo, lv_args, xCk, xCat, xRc, xAk, hg_S, hg_I, hg_J, hg_D, hg_R, hs_I, hs_J, hs_D, hs_R, uI_at, uJ_at, uD_at, uR_at, List.take_succ_cons, List.take_zero, List.drop_succ_cons, List.drop_zero, List.reverse_cons, List.reverse_nil, List.nil_append, List.cons_append, List.map_cons, List.map_nil, List.sum_cons, List.sum_nil, List.length_cons, List.length_nil, Option.toList_some, Option.toList_none, true_and, and_true, false_and, and_false, true_implies, false_implies, implies_true, not_true_eq_false, not_false_eq_true, ne_eq, if_true, if_false, Bool.and_true, Bool.true_and, decide_true, decide_false, reduceIte, reduceCtorEq, Bool.and_self, Bool.and_eq_true, decide_eq_true_eq, and_self, true_or, or_true, false_or, or_false, Nat.zero_add, Nat.add_zero, eq_self, Nat.reduceEqDiff, Nat.reduceLeDiff, Nat.reduceLT, Nat.reduceAdd, Nat.reduceSub, Nat.reduceMul]
      have ih2 := ih w4 w5 w6 (by omega) (by rw [← Nat.add_assoc, e8]; exact hg)
      rw [← Nat.add_assoc, e8, ← hm] at ih2
      exact ih2
theorem L101_9 (hL : LC S R) (hE : LE S R) (hB : EB E n) (h2 : I 130 2 = nI n) (ht : ∀ k, k < 4913 → I 153 k = nI (cL E n k))
    (kk : ∀ w4 w5 w6, GL (lv E n) gE (gM n) (gN E n) w4 w5 w6 → Q (.ok none) (S, uI (lvH I (lv E n).length w4 w5 w6) 130 4 (w4 0), J, D, R) b) :
    ∀ (j e : Nat) (w4 w5 w6 : Nat → Int32), e + j = 289 → GL (fl (fun k => decide (0 < cL E n k)) (e * 17)) gE (gM n) (gN E n) w4 w5 w6 → xRun xT 101 9 [(0, .ref 130), (1, .int (nI e - 144))] [] (S, lvH I (fl (fun k => decide (0 < cL E n k)) (e * 17)).length w4 w5 w6, J, D, R) b Q
  | 0, e, w4, w5, w6, he, hg => by
    have e1 : e = 289 := by omega
    subst e1
    have e4 : lvH I (fl (fun k => decide (0 < cL E n k)) (289 * 17)).length w4 w5 w6 154 0 = w4 0 := rfl
    rw [e101_9]
    simp only [B101_9, xSeq, i_push, i_load, i_iload, i_lload, i_dload, i_aload, i_istore, i_astore, i_lstore, i_dstore, i_iinc, i_ii, i_iiz, i_ll, i_llz, i_lli, i_li, i_i, i_l, i_i2l, i_l2i, i_dup, i_dup2, i_dup2w, i_dupx1, i_pop, i_pop2, i_goto, i_ifc, i_icmp, i_getI, i_getL, i_getR, i_putI, i_putZ, i_putL, i_putR, i_aldI, i_aldB, i_aldL, i_aldD, i_astI, i_astL, i_astD, i_alen, i_ret, i_iret, i_zret, i_lret, i_fret, i_dret, i_aret, i_invS0, i_invV0, i_m2, i_m1, i_ml, i_obj, lk, lkp, stf1, stf2, Value.category, rV, xTo, lv_args, xCk, xCat, xRc, xAk, hg_S, hg_I, hg_J, hg_D, hg_R, hs_I, hs_J, hs_D, hs_R, uI_at, uJ_at, uD_at, uR_at, List.take_succ_cons, List.take_zero, List.drop_succ_cons, List.drop_zero, List.reverse_cons, List.reverse_nil, List.nil_append, List.cons_append, List.map_cons, List.map_nil, List.sum_cons, List.sum_nil, List.length_cons, List.length_nil, Option.toList_some, Option.toList_none, true_and, and_true, false_and, and_false, true_implies, false_implies, implies_true, not_true_eq_false, not_false_eq_true, ne_eq, if_true, if_false, Bool.and_true, Bool.true_and, decide_true, decide_false, reduceIte, reduceCtorEq, Bool.and_self, Bool.and_eq_true, decide_eq_true_eq, and_self, true_or, or_true, false_or, or_false, Nat.zero_add, Nat.add_zero, eq_self, Nat.reduceEqDiff, Nat.reduceLeDiff, Nat.reduceLT, Nat.reduceAdd, Nat.reduceSub, Nat.reduceMul, q_144P (show 289 < 290 by decide), show (288 < 289) = True from eq_true (by decide), e101_105, B101_105, LC_out hL, LE_out hE, xi0 (show 0 < 4913 by decide) (by decide), ix_0, e4]
    exact kk w4 w5 w6 hg
  | j + 1, e, w4, w5, w6, he, hg => by
    have h18 := L101_18 (I := I) (J := J) (D := D) (b := b) (Q := Q) hL hE hB h2 ht (e := e) (by omega) (fun w4 w5 w6 hg => by
      rw [e101_99]
      simp only [B101_99, xSeq, i_push, i_load, i_iload, i_lload, i_dload, i_aload, i_istore, i_astore, i_lstore, i_dstore, i_iinc, i_ii, i_iiz, i_ll, i_llz, i_lli, i_li, i_i, i_l, i_i2l, i_l2i, i_dup, i_dup2, i_dup2w, i_dupx1, i_pop, i_pop2, i_goto, i_ifc, i_icmp, i_getI, i_getL, i_getR, i_putI, i_putZ, i_putL, i_putR, i_aldI, i_aldB, i_aldL, i_aldD, i_astI, i_astL, i_astD, i_alen, i_ret, i_iret, i_zret, i_lret, i_fret, i_dret, i_aret, i_invS0, i_invV0, i_m2, i_m1, i_ml, i_obj, lk, lkp, stf1, stf2, Value.category, rV, xTo, lv_args, xCk, xCat, xRc, xAk, hg_S, hg_I, hg_J, hg_D, hg_R, hs_I, hs_J, hs_D, hs_R, uI_at, uJ_at, uD_at, uR_at, List.take_succ_cons, List.take_zero, List.drop_succ_cons, List.drop_zero, List.reverse_cons, List.reverse_nil, List.nil_append, List.cons_append, List.map_cons, List.map_nil, List.sum_cons, List.sum_nil, List.length_cons, List.length_nil, Option.toList_some, Option.toList_none, true_and, and_true, false_and, and_false, true_implies, false_implies, implies_true, not_true_eq_false, not_false_eq_true, ne_eq, if_true, if_false, Bool.and_true, Bool.true_and, decide_true, decide_false, reduceIte, reduceCtorEq, Bool.and_self, Bool.and_eq_true, decide_eq_true_eq, and_self, true_or, or_true, false_or, or_false, Nat.zero_add, Nat.add_zero, eq_self, Nat.reduceEqDiff, Nat.reduceLeDiff, Nat.reduceLT, Nat.reduceAdd, Nat.reduceSub, Nat.reduceMul, q_144s]
      exact L101_9 hL hE hB h2 ht kk j (e + 1) w4 w5 w6 (by omega) hg) (n + 1) 0 w4 w5 w6 (by omega) hg
    rw [nI_0] at h18
    rw [e101_9]
    simp only [B101_9, xSeq, i_push, i_load, i_iload, i_lload, i_dload, i_aload, i_istore, i_astore, i_lstore, i_dstore, i_iinc, i_ii, i_iiz, i_ll, i_llz, i_lli, i_li, i_i, i_l, i_i2l, i_l2i, i_dup, i_dup2, i_dup2w, i_dupx1, i_pop, i_pop2, i_goto, i_ifc, i_icmp, i_getI, i_getL, i_getR, i_putI, i_putZ, i_putL, i_putR, i_aldI, i_aldB, i_aldL, i_aldD, i_astI, i_astL, i_astD, i_alen, i_ret, i_iret, i_zret, i_lret, i_fret, i_dret, i_aret, i_invS0, i_invV0, i_m2, i_m1, i_ml, i_obj, lk, lkp, stf1, stf2, Value.category, rV, xTo, lv_args, xCk, xCat, xRc, xAk, hg_S, hg_I, hg_J, hg_D, hg_R, hs_I, hs_J, hs_D, hs_R, uI_at, uJ_at, uD_at, uR_at, List.take_succ_cons, List.take_zero, List.drop_succ_cons, List.drop_zero, List.reverse_cons, List.reverse_nil, List.nil_append, List.cons_append, List.map_cons, List.map_nil, List.sum_cons, List.sum_nil, List.length_cons, List.length_nil, Option.toList_some, Option.toList_none, true_and, and_true, false_and, and_false, true_implies, false_implies, implies_true, not_true_eq_false, not_false_eq_true, ne_eq, if_true, if_false, Bool.and_true, Bool.true_and, decide_true, decide_false, reduceIte, reduceCtorEq, Bool.and_self, Bool.and_eq_true, decide_eq_true_eq, and_self, true_or, or_true, false_or, or_false, Nat.zero_add, Nat.add_zero, eq_self, Nat.reduceEqDiff, Nat.reduceLeDiff, Nat.reduceLT, Nat.reduceAdd, Nat.reduceSub, Nat.reduceMul, q_144P (show e < 290 by omega), show (288 < e) = False from eq_false (by omega)]
    exact h18
theorem L101 (hL : LC S R) (hE : LE S R) (hB : EB E n) (h2 : I 130 2 = nI n) (ht : ∀ k, k < 4913 → I 153 k = nI (cL E n k))
    (kk : ∀ w4 w5 w6, GL (lv E n) gE (gM n) (gN E n) w4 w5 w6 → Q (.ok none) (S, uI (lvH (uI I 130 5 0) (lv E n).length w4 w5 w6) 130 4 (w4 0), J, D, R) b) :
    xRun xT 101 0 [(0, .ref 130)] [] (S, I, J, D, R) b Q := by
  have h9 := L101_9 (I := uI I 130 5 0) (J := J) (D := D) (b := b) (Q := Q) hL hE hB h2 ht kk 289 0 (I 154) (I 155) (I 156) (by decide) GL_0
  have e0 : lvH (uI I 130 5 0) (fl (fun k => decide (0 < cL E n k)) (0 * 17)).length (I 154) (I 155) (I 156) = uI I 130 5 0 := lvH_0 (uI I 130 5 0) 0 rfl
  rw [e0, show (nI 0 - 144 : Int32) = -144 from by decide] at h9
  rw [e101_0]
  simp only [B101_0, xSeq, i_push, i_load, i_iload, i_lload, i_dload, i_aload, i_istore, i_astore, i_lstore, i_dstore, i_iinc, i_ii, i_iiz, i_ll, i_llz, i_lli, i_li, i_i, i_l, i_i2l, i_l2i, i_dup, i_dup2, i_dup2w, i_dupx1, i_pop, i_pop2, i_goto, i_ifc, i_icmp, i_getI, i_getL, i_getR, i_putI, i_putZ, i_putL, i_putR, i_aldI, i_aldB, i_aldL, i_aldD, i_astI, i_astL, i_astD, i_alen, i_ret, i_iret, i_zret, i_lret, i_fret, i_dret, i_aret, i_invS0, i_invV0, i_m2, i_m1, i_ml, i_obj, lk, lkp, stf1, stf2, Value.category, rV, xTo, lv_args, xCk, xCat, xRc, xAk, hg_S, hg_I, hg_J, hg_D, hg_R, hs_I, hs_J, hs_D, hs_R, uI_at, uJ_at, uD_at, uR_at, List.take_succ_cons, List.take_zero, List.drop_succ_cons, List.drop_zero, List.reverse_cons, List.reverse_nil, List.nil_append, List.cons_append, List.map_cons, List.map_nil, List.sum_cons, List.sum_nil, List.length_cons, List.length_nil, Option.toList_some, Option.toList_none, true_and, and_true, false_and, and_false, true_implies, false_implies, implies_true, not_true_eq_false, not_false_eq_true, ne_eq, if_true, if_false, Bool.and_true, Bool.true_and, decide_true, decide_false, reduceIte, reduceCtorEq, Bool.and_self, Bool.and_eq_true, decide_eq_true_eq, and_self, true_or, or_true, false_or, or_false, Nat.zero_add, Nat.add_zero, eq_self, Nat.reduceEqDiff, Nat.reduceLeDiff, Nat.reduceLT, Nat.reduceAdd, Nat.reduceSub, Nat.reduceMul, LC_out hL]
  exact h9
theorem L100 (hL : LC S R) (hE : LE S R) (hB : EB E n) (h3 : I 130 3 = nI (2 ^ n)) (hw : ∀ c, c < 2 ^ n → I 151 c = E c)
    (kk : ∀ f, (∀ k, k < 4913 → f k = nI (cL E n k)) → Q (.ok none) (S, rI I 153 f, J, D, R) b) :
    xRun xT 100 0 [(0, .ref 130)] [] (S, I, J, D, R) b Q := by
  have S153 : S 153 = (100, 4913) := (LE_out hE).2.2.2.2.2.2.2.2.1
  have h10 := L100_10 (I := I) (J := J) (D := D) (b := b) (Q := Q) hL hE hB h3 hw kk (2 ^ n) 0 (fill (I 153) 0 4913) (by omega) (fun k hk => by
    rw [fill_at, if_pos hk]
    rfl)
  rw [nI_0] at h10
  rw [e100_0]
  simp only [B100_0, xSeq, i_push, i_load, i_iload, i_lload, i_dload, i_aload, i_istore, i_astore, i_lstore, i_dstore, i_iinc, i_ii, i_iiz, i_ll, i_llz, i_lli, i_li, i_i, i_l, i_i2l, i_l2i, i_dup, i_dup2, i_dup2w, i_dupx1, i_pop, i_pop2, i_goto, i_ifc, i_icmp, i_getI, i_getL, i_getR, i_putI, i_putZ, i_putL, i_putR, i_aldI, i_aldB, i_aldL, i_aldD, i_astI, i_astL, i_astD, i_alen, i_ret, i_iret, i_zret, i_lret, i_fret, i_dret, i_aret, i_invS0, i_invV0, i_m2, i_m1, i_ml, i_obj, lk, lkp, stf1, stf2, Value.category, rV, xTo, lv_args, xCk, xCat, xRc, xAk, hg_S, hg_I, hg_J, hg_D, hg_R, hs_I, hs_J, hs_D, hs_R, uI_at, uJ_at, uD_at, uR_at, List.take_succ_cons, List.take_zero, List.drop_succ_cons, List.drop_zero, List.reverse_cons, List.reverse_nil, List.nil_append, List.cons_append, List.map_cons, List.map_nil, List.sum_cons, List.sum_nil, List.length_cons, List.length_nil, Option.toList_some, Option.toList_none, true_and, and_true, false_and, and_false, true_implies, false_implies, implies_true, not_true_eq_false, not_false_eq_true, ne_eq, if_true, if_false, Bool.and_true, Bool.true_and, decide_true, decide_false, reduceIte, reduceCtorEq, Bool.and_self, Bool.and_eq_true, decide_eq_true_eq, and_self, true_or, or_true, false_or, or_false, Nat.zero_add, Nat.add_zero, eq_self, Nat.reduceEqDiff, Nat.reduceLeDiff, Nat.reduceLT, Nat.reduceAdd, Nat.reduceSub, Nat.reduceMul, LC_out hL, LE_out hE, Y6 (o := 153) (L := 4913) S153 (by decide)]
  exact h10
end
/-! ===== the lab's enumeration whole ===== -/
section
variable {S : xS} {I : xI} {J : xJ} {D : xDb} {R : xR} {b : Nat × Nat} {Q : xQ} {n m : Nat} {fi se dg : Nat → Nat} {sb : Nat → Nat → Nat}
/-- the new rows -/
abbrev nw (o : Nat) : Prop := 151 ≤ o ∧ o ≤ 156
theorem L97 {u : Nat} (h0 : S 130 = (2, 0)) (hR : R 130 6 = some u) (hu : S u = (104, 0)) (hu2 : ¬ nw u) (hf : ∀ o, nw o → (S o).1 = 0) (b1 : 6 ≤ b.1) (b2 : 200000 ≤ b.2)
    (kk : ∀ S' I' J' D' R' b', LE S' R' → (∀ o, ¬ nw o → S' o = S o) → (∀ o k, ¬ nw o → I' o k = I o k) → (∀ o k, ¬ nw o → J' o k = J o k) → (∀ o k, ¬ nw o → ¬ (o = 130 ∧ 6 ≤ k ∧ k ≤ 11) → R' o k = R o k) → Q (.ok none) (S', I', J', D', R') b') :
    xRun xT 97 0 [(0, .ref 130)] [] (S, I, J, D, R) b Q := by
  have z0 : ((0 : Int32) = 0) = True := eq_self 0
  have ak : ((100 ≤ 104 ∧ 104 < 106) ∨ 104 = 107 ∨ 104 = 108) = True := eq_true (by decide)
  rw [e97_0]
  simp only [B97_0, xSeq, i_push, i_load, i_iload, i_lload, i_dload, i_aload, i_istore, i_astore, i_lstore, i_dstore, i_iinc, i_ii, i_iiz, i_ll, i_llz, i_lli, i_li, i_i, i_l, i_i2l, i_l2i, i_dup, i_dup2, i_dup2w, i_dupx1, i_pop, i_pop2, i_goto, i_ifc, i_icmp, i_getI, i_getL, i_getR, i_putI, i_putZ, i_putL, i_putR, i_aldI, i_aldB, i_aldL, i_aldD, i_astI, i_astL, i_astD, i_alen, i_ret, i_iret, i_zret, i_lret, i_fret, i_dret, i_aret, i_invS0, i_invV0, i_m2, i_m1, i_ml, i_obj, lk, lkp, stf1, stf2, Value.category, rV, xTo, lv_args, xCk, xCat, xRc, xAk, hg_S, hg_I, hg_J, hg_D, hg_R, hs_I, hs_J, hs_D, hs_R, uI_at, uJ_at, uD_at, uR_at, List.take_succ_cons, List.take_zero, List.drop_succ_cons, List.drop_zero, List.reverse_cons, List.reverse_nil, List.nil_append, List.cons_append, List.map_cons, List.map_nil, List.sum_cons, List.sum_nil, List.length_cons, List.length_nil, Option.toList_some, Option.toList_none, true_and, and_true, false_and, and_false, true_implies, false_implies, implies_true, not_true_eq_false, not_false_eq_true, ne_eq, if_true, if_false, Bool.and_true, Bool.true_and, decide_true, decide_false, reduceIte, reduceCtorEq, Bool.and_self, Bool.and_eq_true, decide_eq_true_eq, and_self, true_or, or_true, false_or, or_false, Nat.zero_add, Nat.add_zero, eq_self, Nat.reduceEqDiff, Nat.reduceLeDiff, Nat.reduceLT, Nat.reduceAdd, Nat.reduceSub, Nat.reduceMul, h0, hR, hu, nI_0, ak]
  refine w_newa 151 65536 (by decide) (by decide) (by decide) (by omega) (by omega) (hf 151 (by decide)) (by decide) ?_
  simp only [xSeq, i_push, i_load, i_iload, i_lload, i_dload, i_aload, i_istore, i_astore, i_lstore, i_dstore, i_iinc, i_ii, i_iiz, i_ll, i_llz, i_lli, i_li, i_i, i_l, i_i2l, i_l2i, i_dup, i_dup2, i_dup2w, i_dupx1, i_pop, i_pop2, i_goto, i_ifc, i_icmp, i_getI, i_getL, i_getR, i_putI, i_putZ, i_putL, i_putR, i_aldI, i_aldB, i_aldL, i_aldD, i_astI, i_astL, i_astD, i_alen, i_ret, i_iret, i_zret, i_lret, i_fret, i_dret, i_aret, i_invS0, i_invV0, i_m2, i_m1, i_ml, i_obj, lk, lkp, stf1, stf2, Value.category, rV, xTo, lv_args, xCk, xCat, xRc, xAk, hg_S, hg_I, hg_J, hg_D, hg_R, hs_I, hs_J, hs_D, hs_R, uI_at, uJ_at, uD_at, uR_at, List.take_succ_cons, List.take_zero, List.drop_succ_cons, List.drop_zero, List.reverse_cons, List.reverse_nil, List.nil_append, List.cons_append, List.map_cons, List.map_nil, List.sum_cons, List.sum_nil, List.length_cons, List.length_nil, Option.toList_some, Option.toList_none, true_and, and_true, false_and, and_false, true_implies, false_implies, implies_true, not_true_eq_false, not_false_eq_true, ne_eq, if_true, if_false, Bool.and_true, Bool.true_and, decide_true, decide_false, reduceIte, reduceCtorEq, Bool.and_self, Bool.and_eq_true, decide_eq_true_eq, and_self, true_or, or_true, false_or, or_false, Nat.zero_add, Nat.add_zero, eq_self, Nat.reduceEqDiff, Nat.reduceLeDiff, Nat.reduceLT, Nat.reduceAdd, Nat.reduceSub, Nat.reduceMul, nF_at, zI_at, zJ_at, zD_at, zR_at, i_putB, h0]
  refine w_newa 152 65536 (by decide) (by decide) (by decide) (by show 1 ≤ b.1 - 1; omega) (by show 65536 ≤ b.2 - 65536; omega) (by simp only [nF_at, true_and, and_true, false_and, and_false, true_implies, false_implies, implies_true, not_true_eq_false, not_false_eq_true, ne_eq, if_true, if_false, Bool.and_true, Bool.true_and, decide_true, decide_false, reduceIte, reduceCtorEq, Bool.and_self, Bool.and_eq_true, decide_eq_true_eq, and_self, true_or, or_true, false_or, or_false, Nat.zero_add, Nat.add_zero, eq_self, Nat.reduceEqDiff, Nat.reduceLeDiff, Nat.reduceLT, Nat.reduceAdd, Nat.reduceSub, Nat.reduceMul]; exact hf 152 (by decide)) (by decide) ?_
  simp only [xSeq, i_push, i_load, i_iload, i_lload, i_dload, i_aload, i_istore, i_astore, i_lstore, i_dstore, i_iinc, i_ii, i_iiz, i_ll, i_llz, i_lli, i_li, i_i, i_l, i_i2l, i_l2i, i_dup, i_dup2, i_dup2w, i_dupx1, i_pop, i_pop2, i_goto, i_ifc, i_icmp, i_getI, i_getL, i_getR, i_putI, i_putZ, i_putL, i_putR, i_aldI, i_aldB, i_aldL, i_aldD, i_astI, i_astL, i_astD, i_alen, i_ret, i_iret, i_zret, i_lret, i_fret, i_dret, i_aret, i_invS0, i_invV0, i_m2, i_m1, i_ml, i_obj, lk, lkp, stf1, stf2, Value.category, rV, xTo, lv_args, xCk, xCat, xRc, xAk, hg_S, hg_I, hg_J, hg_D, hg_R, hs_I, hs_J, hs_D, hs_R, uI_at, uJ_at, uD_at, uR_at, List.take_succ_cons, List.take_zero, List.drop_succ_cons, List.drop_zero, List.reverse_cons, List.reverse_nil, List.nil_append, List.cons_append, List.map_cons, List.map_nil, List.sum_cons, List.sum_nil, List.length_cons, List.length_nil, Option.toList_some, Option.toList_none, true_and, and_true, false_and, and_false, true_implies, false_implies, implies_true, not_true_eq_false, not_false_eq_true, ne_eq, if_true, if_false, Bool.and_true, Bool.true_and, decide_true, decide_false, reduceIte, reduceCtorEq, Bool.and_self, Bool.and_eq_true, decide_eq_true_eq, and_self, true_or, or_true, false_or, or_false, Nat.zero_add, Nat.add_zero, eq_self, Nat.reduceEqDiff, Nat.reduceLeDiff, Nat.reduceLT, Nat.reduceAdd, Nat.reduceSub, Nat.reduceMul, nF_at, zI_at, zJ_at, zD_at, zR_at, i_putB, h0]
  refine w_newa 153 4913 (by decide) (by decide) (by decide) (by show 1 ≤ b.1 - 1 - 1; omega) (by show 4913 ≤ b.2 - 65536 - 65536; omega) (by simp only [nF_at, true_and, and_true, false_and, and_false, true_implies, false_implies, implies_true, not_true_eq_false, not_false_eq_true, ne_eq, if_true, if_false, Bool.and_true, Bool.true_and, decide_true, decide_false, reduceIte, reduceCtorEq, Bool.and_self, Bool.and_eq_true, decide_eq_true_eq, and_self, true_or, or_true, false_or, or_false, Nat.zero_add, Nat.add_zero, eq_self, Nat.reduceEqDiff, Nat.reduceLeDiff, Nat.reduceLT, Nat.reduceAdd, Nat.reduceSub, Nat.reduceMul]; exact hf 153 (by decide)) (by decide) ?_
  simp only [xSeq, i_push, i_load, i_iload, i_lload, i_dload, i_aload, i_istore, i_astore, i_lstore, i_dstore, i_iinc, i_ii, i_iiz, i_ll, i_llz, i_lli, i_li, i_i, i_l, i_i2l, i_l2i, i_dup, i_dup2, i_dup2w, i_dupx1, i_pop, i_pop2, i_goto, i_ifc, i_icmp, i_getI, i_getL, i_getR, i_putI, i_putZ, i_putL, i_putR, i_aldI, i_aldB, i_aldL, i_aldD, i_astI, i_astL, i_astD, i_alen, i_ret, i_iret, i_zret, i_lret, i_fret, i_dret, i_aret, i_invS0, i_invV0, i_m2, i_m1, i_ml, i_obj, lk, lkp, stf1, stf2, Value.category, rV, xTo, lv_args, xCk, xCat, xRc, xAk, hg_S, hg_I, hg_J, hg_D, hg_R, hs_I, hs_J, hs_D, hs_R, uI_at, uJ_at, uD_at, uR_at, List.take_succ_cons, List.take_zero, List.drop_succ_cons, List.drop_zero, List.reverse_cons, List.reverse_nil, List.nil_append, List.cons_append, List.map_cons, List.map_nil, List.sum_cons, List.sum_nil, List.length_cons, List.length_nil, Option.toList_some, Option.toList_none, true_and, and_true, false_and, and_false, true_implies, false_implies, implies_true, not_true_eq_false, not_false_eq_true, ne_eq, if_true, if_false, Bool.and_true, Bool.true_and, decide_true, decide_false, reduceIte, reduceCtorEq, Bool.and_self, Bool.and_eq_true, decide_eq_true_eq, and_self, true_or, or_true, false_or, or_false, Nat.zero_add, Nat.add_zero, eq_self, Nat.reduceEqDiff, Nat.reduceLeDiff, Nat.reduceLT, Nat.reduceAdd, Nat.reduceSub, Nat.reduceMul, nF_at, zI_at, zJ_at, zD_at, zR_at, i_putB, h0]
  refine w_newa 154 4913 (by decide) (by decide) (by decide) (by show 1 ≤ b.1 - 1 - 1 - 1; omega) (by show 4913 ≤ b.2 - 65536 - 65536 - 4913; omega) (by simp only [nF_at, true_and, and_true, false_and, and_false, true_implies, false_implies, implies_true, not_true_eq_false, not_false_eq_true, ne_eq, if_true, if_false, Bool.and_true, Bool.true_and, decide_true, decide_false, reduceIte, reduceCtorEq, Bool.and_self, Bool.and_eq_true, decide_eq_true_eq, and_self, true_or, or_true, false_or, or_false, Nat.zero_add, Nat.add_zero, eq_self, Nat.reduceEqDiff, Nat.reduceLeDiff, Nat.reduceLT, Nat.reduceAdd, Nat.reduceSub, Nat.reduceMul]; exact hf 154 (by decide)) (by decide) ?_
  simp only [xSeq, i_push, i_load, i_iload, i_lload, i_dload, i_aload, i_istore, i_astore, i_lstore, i_dstore, i_iinc, i_ii, i_iiz, i_ll, i_llz, i_lli, i_li, i_i, i_l, i_i2l, i_l2i, i_dup, i_dup2, i_dup2w, i_dupx1, i_pop, i_pop2, i_goto, i_ifc, i_icmp, i_getI, i_getL, i_getR, i_putI, i_putZ, i_putL, i_putR, i_aldI, i_aldB, i_aldL, i_aldD, i_astI, i_astL, i_astD, i_alen, i_ret, i_iret, i_zret, i_lret, i_fret, i_dret, i_aret, i_invS0, i_invV0, i_m2, i_m1, i_ml, i_obj, lk, lkp, stf1, stf2, Value.category, rV, xTo, lv_args, xCk, xCat, xRc, xAk, hg_S, hg_I, hg_J, hg_D, hg_R, hs_I, hs_J, hs_D, hs_R, uI_at, uJ_at, uD_at, uR_at, List.take_succ_cons, List.take_zero, List.drop_succ_cons, List.drop_zero, List.reverse_cons, List.reverse_nil, List.nil_append, List.cons_append, List.map_cons, List.map_nil, List.sum_cons, List.sum_nil, List.length_cons, List.length_nil, Option.toList_some, Option.toList_none, true_and, and_true, false_and, and_false, true_implies, false_implies, implies_true, not_true_eq_false, not_false_eq_true, ne_eq, if_true, if_false, Bool.and_true, Bool.true_and, decide_true, decide_false, reduceIte, reduceCtorEq, Bool.and_self, Bool.and_eq_true, decide_eq_true_eq, and_self, true_or, or_true, false_or, or_false, Nat.zero_add, Nat.add_zero, eq_self, Nat.reduceEqDiff, Nat.reduceLeDiff, Nat.reduceLT, Nat.reduceAdd, Nat.reduceSub, Nat.reduceMul, nF_at, zI_at, zJ_at, zD_at, zR_at, i_putB, h0]
  refine w_newa 155 4913 (by decide) (by decide) (by decide) (by show 1 ≤ b.1 - 1 - 1 - 1 - 1; omega) (by show 4913 ≤ b.2 - 65536 - 65536 - 4913 - 4913; omega) (by simp only [nF_at, true_and, and_true, false_and, and_false, true_implies, false_implies, implies_true, not_true_eq_false, not_false_eq_true, ne_eq, if_true, if_false, Bool.and_true, Bool.true_and, decide_true, decide_false, reduceIte, reduceCtorEq, Bool.and_self, Bool.and_eq_true, decide_eq_true_eq, and_self, true_or, or_true, false_or, or_false, Nat.zero_add, Nat.add_zero, eq_self, Nat.reduceEqDiff, Nat.reduceLeDiff, Nat.reduceLT, Nat.reduceAdd, Nat.reduceSub, Nat.reduceMul]; exact hf 155 (by decide)) (by decide) ?_
  simp only [xSeq, i_push, i_load, i_iload, i_lload, i_dload, i_aload, i_istore, i_astore, i_lstore, i_dstore, i_iinc, i_ii, i_iiz, i_ll, i_llz, i_lli, i_li, i_i, i_l, i_i2l, i_l2i, i_dup, i_dup2, i_dup2w, i_dupx1, i_pop, i_pop2, i_goto, i_ifc, i_icmp, i_getI, i_getL, i_getR, i_putI, i_putZ, i_putL, i_putR, i_aldI, i_aldB, i_aldL, i_aldD, i_astI, i_astL, i_astD, i_alen, i_ret, i_iret, i_zret, i_lret, i_fret, i_dret, i_aret, i_invS0, i_invV0, i_m2, i_m1, i_ml, i_obj, lk, lkp, stf1, stf2, Value.category, rV, xTo, lv_args, xCk, xCat, xRc, xAk, hg_S, hg_I, hg_J, hg_D, hg_R, hs_I, hs_J, hs_D, hs_R, uI_at, uJ_at, uD_at, uR_at, List.take_succ_cons, List.take_zero, List.drop_succ_cons, List.drop_zero, List.reverse_cons, List.reverse_nil, List.nil_append, List.cons_append, List.map_cons, List.map_nil, List.sum_cons, List.sum_nil, List.length_cons, List.length_nil, Option.toList_some, Option.toList_none, true_and, and_true, false_and, and_false, true_implies, false_implies, implies_true, not_true_eq_false, not_false_eq_true, ne_eq, if_true, if_false, Bool.and_true, Bool.true_and, decide_true, decide_false, reduceIte, reduceCtorEq, Bool.and_self, Bool.and_eq_true, decide_eq_true_eq, and_self, true_or, or_true, false_or, or_false, Nat.zero_add, Nat.add_zero, eq_self, Nat.reduceEqDiff, Nat.reduceLeDiff, Nat.reduceLT, Nat.reduceAdd, Nat.reduceSub, Nat.reduceMul, nF_at, zI_at, zJ_at, zD_at, zR_at, i_putB, h0]
  refine w_newa 156 4913 (by decide) (by decide) (by decide) (by show 1 ≤ b.1 - 1 - 1 - 1 - 1 - 1; omega) (by show 4913 ≤ b.2 - 65536 - 65536 - 4913 - 4913 - 4913; omega) (by simp only [nF_at, true_and, and_true, false_and, and_false, true_implies, false_implies, implies_true, not_true_eq_false, not_false_eq_true, ne_eq, if_true, if_false, Bool.and_true, Bool.true_and, decide_true, decide_false, reduceIte, reduceCtorEq, Bool.and_self, Bool.and_eq_true, decide_eq_true_eq, and_self, true_or, or_true, false_or, or_false, Nat.zero_add, Nat.add_zero, eq_self, Nat.reduceEqDiff, Nat.reduceLeDiff, Nat.reduceLT, Nat.reduceAdd, Nat.reduceSub, Nat.reduceMul]; exact hf 156 (by decide)) (by decide) ?_
  simp only [xSeq, i_push, i_load, i_iload, i_lload, i_dload, i_aload, i_istore, i_astore, i_lstore, i_dstore, i_iinc, i_ii, i_iiz, i_ll, i_llz, i_lli, i_li, i_i, i_l, i_i2l, i_l2i, i_dup, i_dup2, i_dup2w, i_dupx1, i_pop, i_pop2, i_goto, i_ifc, i_icmp, i_getI, i_getL, i_getR, i_putI, i_putZ, i_putL, i_putR, i_aldI, i_aldB, i_aldL, i_aldD, i_astI, i_astL, i_astD, i_alen, i_ret, i_iret, i_zret, i_lret, i_fret, i_dret, i_aret, i_invS0, i_invV0, i_m2, i_m1, i_ml, i_obj, lk, lkp, stf1, stf2, Value.category, rV, xTo, lv_args, xCk, xCat, xRc, xAk, hg_S, hg_I, hg_J, hg_D, hg_R, hs_I, hs_J, hs_D, hs_R, uI_at, uJ_at, uD_at, uR_at, List.take_succ_cons, List.take_zero, List.drop_succ_cons, List.drop_zero, List.reverse_cons, List.reverse_nil, List.nil_append, List.cons_append, List.map_cons, List.map_nil, List.sum_cons, List.sum_nil, List.length_cons, List.length_nil, Option.toList_some, Option.toList_none, true_and, and_true, false_and, and_false, true_implies, false_implies, implies_true, not_true_eq_false, not_false_eq_true, ne_eq, if_true, if_false, Bool.and_true, Bool.true_and, decide_true, decide_false, reduceIte, reduceCtorEq, Bool.and_self, Bool.and_eq_true, decide_eq_true_eq, and_self, true_or, or_true, false_or, or_false, Nat.zero_add, Nat.add_zero, eq_self, Nat.reduceEqDiff, Nat.reduceLeDiff, Nat.reduceLT, Nat.reduceAdd, Nat.reduceSub, Nat.reduceMul, nF_at, zI_at, zJ_at, zD_at, zR_at, i_putB, h0]
  rw [e97_60]
  simp only [B97_60, xSeq, i_push, i_load, i_iload, i_lload, i_dload, i_aload, i_istore, i_astore, i_lstore, i_dstore, i_iinc, i_ii, i_iiz, i_ll, i_llz, i_lli, i_li, i_i, i_l, i_i2l, i_l2i, i_dup, i_dup2, i_dup2w, i_dupx1, i_pop, i_pop2, i_goto, i_ifc, i_icmp, i_getI, i_getL, i_getR, i_putI, i_putZ, i_putL, i_putR, i_aldI, i_aldB, i_aldL, i_aldD, i_astI, i_astL, i_astD, i_alen, i_ret, i_iret, i_zret, i_lret, i_fret, i_dret, i_aret, i_invS0, i_invV0, i_m2, i_m1, i_ml, i_obj, lk, lkp, stf1, stf2, Value.category, rV, xTo, lv_args, xCk, xCat, xRc, xAk, hg_S, hg_I, hg_J, hg_D, hg_R, hs_I, hs_J, hs_D, hs_R, uI_at, uJ_at, uD_at, uR_at, List.take_succ_cons, List.take_zero, List.drop_succ_cons, List.drop_zero, List.reverse_cons, List.reverse_nil, List.nil_append, List.cons_append, List.map_cons, List.map_nil, List.sum_cons, List.sum_nil, List.length_cons, List.length_nil, Option.toList_some, Option.toList_none, true_and, and_true, false_and, and_false, true_implies, false_implies, implies_true, not_true_eq_false, not_false_eq_true, ne_eq, if_true, if_false, Bool.and_true, Bool.true_and, decide_true, decide_false, reduceIte, reduceCtorEq, Bool.and_self, Bool.and_eq_true, decide_eq_true_eq, and_self, true_or, or_true, false_or, or_false, Nat.zero_add, Nat.add_zero, eq_self, Nat.reduceEqDiff, Nat.reduceLeDiff, Nat.reduceLT, Nat.reduceAdd, Nat.reduceSub, Nat.reduceMul]
  refine kk _ _ _ _ _ _ ?_ (fun o a => ?_) (fun o k a => ?_) (fun o k a => ?_) (fun o k a c => ?_)
  · unfold LE
    simp only [nF_at, uR_at, zR_at, true_and, and_true, false_and, and_false, true_implies, false_implies, implies_true, not_true_eq_false, not_false_eq_true, ne_eq, if_true, if_false, Bool.and_true, Bool.true_and, decide_true, decide_false, reduceIte, reduceCtorEq, Bool.and_self, Bool.and_eq_true, decide_eq_true_eq, and_self, true_or, or_true, false_or, or_false, Nat.zero_add, Nat.add_zero, eq_self, Nat.reduceEqDiff, Nat.reduceLeDiff, Nat.reduceLT, Nat.reduceAdd, Nat.reduceSub, Nat.reduceMul]
  · simp only [nF_at]
    repeat rw [if_neg (by omega)]
  · simp only [zI_at]
    repeat rw [if_neg (by omega)]
  · simp only [zJ_at]
    repeat rw [if_neg (by omega)]
  · simp only [uR_at, zR_at]
    repeat rw [if_neg (by omega)]
theorem en_bd16 {F : Int32} {st : Nat → Int32} (hs : SB F st m) (hn : n ≤ 16) (hm : m ≤ 32) (s : Nat) : -144 ≤ (en F st n m fi se s).toInt ∧ (en F st n m fi se s).toInt ≤ 144 := by
  have h1 : -(n * 1 : Int) ≤ (mg n s).toInt ∧ (mg n s).toInt ≤ (n * 1 : Int) := sm_bd (K := 1) (by decide) n (fun k _ => sg_bd _) (by omega)
  have h2 : -(m * 3 : Int) ≤ (ps m st fi se s).toInt ∧ (ps m st fi se s).toInt ≤ (m * 3 : Int) := sm_bd (K := 3) (by decide) m (fun k hk => pr_bd (hs.2 k hk) _ _) (by omega)
  have h3 := mulT (x := 3) (y := 16) hs.1 (show -16 ≤ (mg n s).toInt ∧ (mg n s).toInt ≤ 16 by omega) (by decide) (by decide) (by decide)
  unfold en
  have h4 := i32_addT (x := 48) (y := 96) (show -48 ≤ (F * mg n s).toInt ∧ (F * mg n s).toInt ≤ 48 by omega) (show -96 ≤ (ps m st fi se s).toInt ∧ (ps m st fi se s).toInt ≤ 96 by omega) (by decide)
  rw [i32_negT (by omega)]
  omega
theorem en_EB {F : Int32} {st : Nat → Int32} (hs : SB F st m) (hn : n ≤ 16) (hm : m ≤ 32) : EB (en F st n m fi se) n := ⟨hn, fun c _ => en_bd16 hs hn hm c⟩
/-- the lab knows its levels -/
def XL (n : Nat) (E : Nat → Int32) (S : xS) (I : xI) (R : xR) : Prop := LE S R ∧ I 130 1 = 1 ∧ I 130 2 = nI n ∧ I 130 3 = nI (2 ^ n) ∧ I 130 4 = gE ((lv E n).getD 0 0) ∧ I 130 5 = nI (lv E n).length ∧ GL (lv E n) gE (gM n) (gN E n) (I 154) (I 155) (I 156) ∧ ∀ c, c < 2 ^ n → I 151 c = E c
/-- what an enumeration may change -/
abbrev nx2 (o k : Nat) : Prop := nw o ∨ (o = 130 ∧ 1 ≤ k ∧ k ≤ 5)
theorem L96 {u : Nat} (hL : LC S R) (hG : GR n m fi se dg sb) (hN : GN n m fi se dg sb) (hI : GI n fi se dg sb) (hC : CL I n m fi se dg sb) (hn : n ≤ 16) (hm : m ≤ 32) (hs : SB (I 110 6) (I 111) m) (hz : I 130 1 = 0) (hR : R 130 6 = some u) (hu : S u = (104, 0)) (hu2 : ¬ nw u) (hf : ∀ o, nw o → (S o).1 = 0) (b1 : 6 ≤ b.1) (b2 : 200000 ≤ b.2)
    (kk : ∀ S' I' J' D' R' b', XL n (en (I 110 6) (I 111) n m fi se) S' I' R' → (∀ o, ¬ nw o → S' o = S o) → (∀ o k, ¬ nx2 o k → I' o k = I o k) → (∀ o k, ¬ nw o → J' o k = J o k) → (∀ o k, ¬ nw o → ¬ (o = 130 ∧ 6 ≤ k ∧ k ≤ 11) → R' o k = R o k) → Q (.ok none) (S', I', J', D', R') b') :
    xRun xT 96 0 [(0, .ref 130)] [] (S, I, J, D, R) b Q := by
  have S130 : S 130 = (2, 0) := by simp only [LC_out hL]
  have hB : EB (en (I 110 6) (I 111) n m fi se) n := en_EB hs hn hm
  rw [e96_0]
  simp only [B96_0, xSeq, i_push, i_load, i_iload, i_lload, i_dload, i_aload, i_istore, i_astore, i_lstore, i_dstore, i_iinc, i_ii, i_iiz, i_ll, i_llz, i_lli, i_li, i_i, i_l, i_i2l, i_l2i, i_dup, i_dup2, i_dup2w, i_dupx1, i_pop, i_pop2, i_goto, i_ifc, i_icmp, i_getI, i_getL, i_getR, i_putI, i_putZ, i_putL, i_putR, i_aldI, i_aldB, i_aldL, i_aldD, i_astI, i_astL, i_astD, i_alen, i_ret, i_iret, i_zret, i_lret, i_fret, i_dret, i_aret, i_invS0, i_invV0, i_m2, i_m1, i_ml, i_obj, lk, lkp, stf1, stf2, Value.category, rV, xTo, lv_args, xCk, xCat, xRc, xAk, hg_S, hg_I, hg_J, hg_D, hg_R, hs_I, hs_J, hs_D, hs_R, uI_at, uJ_at, uD_at, uR_at, List.take_succ_cons, List.take_zero, List.drop_succ_cons, List.drop_zero, List.reverse_cons, List.reverse_nil, List.nil_append, List.cons_append, List.map_cons, List.map_nil, List.sum_cons, List.sum_nil, List.length_cons, List.length_nil, Option.toList_some, Option.toList_none, true_and, and_true, false_and, and_false, true_implies, false_implies, implies_true, not_true_eq_false, not_false_eq_true, ne_eq, if_true, if_false, Bool.and_true, Bool.true_and, decide_true, decide_false, reduceIte, reduceCtorEq, Bool.and_self, Bool.and_eq_true, decide_eq_true_eq, and_self, true_or, or_true, false_or, or_false, Nat.zero_add, Nat.add_zero, eq_self, Nat.reduceEqDiff, Nat.reduceLeDiff, Nat.reduceLT, Nat.reduceAdd, Nat.reduceSub, Nat.reduceMul, LC_out hL, hz]
  rw [e96_8]
  simp only [B96_8, xSeq, i_push, i_load, i_iload, i_lload, i_dload, i_aload, i_istore, i_astore, i_lstore, i_dstore, i_iinc, i_ii, i_iiz, i_ll, i_llz, i_lli, i_li, i_i, i_l, i_i2l, i_l2i, i_dup, i_dup2, i_dup2w, i_dupx1, i_pop, i_pop2, i_goto, i_ifc, i_icmp, i_getI, i_getL, i_getR, i_putI, i_putZ, i_putL, i_putR, i_aldI, i_aldB, i_aldL, i_aldD, i_astI, i_astL, i_astD, i_alen, i_ret, i_iret, i_zret, i_lret, i_fret, i_dret, i_aret, i_invS0, i_invV0, i_m2, i_m1, i_ml, i_obj, lk, lkp, stf1, stf2, Value.category, rV, xTo, lv_args, xCk, xCat, xRc, xAk, hg_S, hg_I, hg_J, hg_D, hg_R, hs_I, hs_J, hs_D, hs_R, uI_at, uJ_at, uD_at, uR_at, List.take_succ_cons, List.take_zero, List.drop_succ_cons, List.drop_zero, List.reverse_cons, List.reverse_nil, List.nil_append, List.cons_append, List.map_cons, List.map_nil, List.sum_cons, List.sum_nil, List.length_cons, List.length_nil, Option.toList_some, Option.toList_none, true_and, and_true, false_and, and_false, true_implies, false_implies, implies_true, not_true_eq_false, not_false_eq_true, ne_eq, if_true, if_false, Bool.and_true, Bool.true_and, decide_true, decide_false, reduceIte, reduceCtorEq, Bool.and_self, Bool.and_eq_true, decide_eq_true_eq, and_self, true_or, or_true, false_or, or_false, Nat.zero_add, Nat.add_zero, eq_self, Nat.reduceEqDiff, Nat.reduceLeDiff, Nat.reduceLT, Nat.reduceAdd, Nat.reduceSub, Nat.reduceMul]
  refine w_invVA (mc := 6) (ms := 200000) b1 b2 rfl (by simp only [xSeq, i_push, i_load, i_iload, i_lload, i_dload, i_aload, i_istore, i_astore, i_lstore, i_dstore, i_iinc, i_ii, i_iiz, i_ll, i_llz, i_lli, i_li, i_i, i_l, i_i2l, i_l2i, i_dup, i_dup2, i_dup2w, i_dupx1, i_pop, i_pop2, i_goto, i_ifc, i_icmp, i_getI, i_getL, i_getR, i_putI, i_putZ, i_putL, i_putR, i_aldI, i_aldB, i_aldL, i_aldD, i_astI, i_astL, i_astD, i_alen, i_ret, i_iret, i_zret, i_lret, i_fret, i_dret, i_aret, i_invS0, i_invV0, i_m2, i_m1, i_ml, i_obj, lk, lkp, stf1, stf2, Value.category, rV, xTo, lv_args, xCk, xCat, xRc, xAk, hg_S, hg_I, hg_J, hg_D, hg_R, hs_I, hs_J, hs_D, hs_R, uI_at, uJ_at, uD_at, uR_at, List.take_succ_cons, List.take_zero, List.drop_succ_cons, List.drop_zero, List.reverse_cons, List.reverse_nil, List.nil_append, List.cons_append, List.map_cons, List.map_nil, List.sum_cons, List.sum_nil, List.length_cons, List.length_nil, Option.toList_some, Option.toList_none, true_and, and_true, false_and, and_false, true_implies, false_implies, implies_true, not_true_eq_false, not_false_eq_true, ne_eq, if_true, if_false, Bool.and_true, Bool.true_and, decide_true, decide_false, reduceIte, reduceCtorEq, Bool.and_self, Bool.and_eq_true, decide_eq_true_eq, and_self, true_or, or_true, false_or, or_false, Nat.zero_add, Nat.add_zero, eq_self, Nat.reduceEqDiff, Nat.reduceLeDiff, Nat.reduceLT, Nat.reduceAdd, Nat.reduceSub, Nat.reduceMul, LC_out hL]) ?_
  simp only [xSeq, i_push, i_load, i_iload, i_lload, i_dload, i_aload, i_istore, i_astore, i_lstore, i_dstore, i_iinc, i_ii, i_iiz, i_ll, i_llz, i_lli, i_li, i_i, i_l, i_i2l, i_l2i, i_dup, i_dup2, i_dup2w, i_dupx1, i_pop, i_pop2, i_goto, i_ifc, i_icmp, i_getI, i_getL, i_getR, i_putI, i_putZ, i_putL, i_putR, i_aldI, i_aldB, i_aldL, i_aldD, i_astI, i_astL, i_astD, i_alen, i_ret, i_iret, i_zret, i_lret, i_fret, i_dret, i_aret, i_invS0, i_invV0, i_m2, i_m1, i_ml, i_obj, lk, lkp, stf1, stf2, Value.category, rV, xTo, lv_args, xCk, xCat, xRc, xAk, hg_S, hg_I, hg_J, hg_D, hg_R, hs_I, hs_J, hs_D, hs_R, uI_at, uJ_at, uD_at, uR_at, List.take_succ_cons, List.take_zero, List.drop_succ_cons, List.drop_zero, List.reverse_cons, List.reverse_nil, List.nil_append, List.cons_append, List.map_cons, List.map_nil, List.sum_cons, List.sum_nil, List.length_cons, List.length_nil, Option.toList_some, Option.toList_none, true_and, and_true, false_and, and_false, true_implies, false_implies, implies_true, not_true_eq_false, not_false_eq_true, ne_eq, if_true, if_false, Bool.and_true, Bool.true_and, decide_true, decide_false, reduceIte, reduceCtorEq, Bool.and_self, Bool.and_eq_true, decide_eq_true_eq, and_self, true_or, or_true, false_or, or_false, Nat.zero_add, Nat.add_zero, eq_self, Nat.reduceEqDiff, Nat.reduceLeDiff, Nat.reduceLT, Nat.reduceAdd, Nat.reduceSub, Nat.reduceMul]
  refine L97 S130 hR hu hu2 hf (by decide) (by decide) (fun S1 I1 J1 D1 R1 b1 hE f1 f2 f3 f4 => ?_)
  have hL1 : LC S1 R1 := by
    unfold LC
    repeat' apply And.intro
    all_goals first
      | (rw [f1 _ (by decide)]; simp only [LC_out hL])
      | (rw [f4 _ _ (by decide) (by decide)]; simp only [LC_out hL])
  have hC1 : CL I1 n m fi se dg sb := CL_k hC (fun o k h1 h2 => f2 o k (by omega))
  have e1 : I1 110 6 = I 110 6 := f2 _ _ (by decide)
  have e2 : I1 111 = I 111 := funext fun k => f2 _ _ (by decide)
  have e3 : I1 102 2 = nI n := hC1.1
  have e4 : jMin (nI n) 16 = nI n := by
    unfold jMin
    rw [if_neg (fun h => ?_)]
    rw [show (16 : Int32) = nI 16 from rfl, nI_ltI (by decide) (by omega)] at h
    omega
  simp only [xSeq, i_push, i_load, i_iload, i_lload, i_dload, i_aload, i_istore, i_astore, i_lstore, i_dstore, i_iinc, i_ii, i_iiz, i_ll, i_llz, i_lli, i_li, i_i, i_l, i_i2l, i_l2i, i_dup, i_dup2, i_dup2w, i_dupx1, i_pop, i_pop2, i_goto, i_ifc, i_icmp, i_getI, i_getL, i_getR, i_putI, i_putZ, i_putL, i_putR, i_aldI, i_aldB, i_aldL, i_aldD, i_astI, i_astL, i_astD, i_alen, i_ret, i_iret, i_zret, i_lret, i_fret, i_dret, i_aret, i_invS0, i_invV0, i_m2, i_m1, i_ml, i_obj, lk, lkp, stf1, stf2, Value.category, rV, xTo, lv_args, xCk, xCat, xRc, xAk, hg_S, hg_I, hg_J, hg_D, hg_R, hs_I, hs_J, hs_D, hs_R, uI_at, uJ_at, uD_at, uR_at, List.take_succ_cons, List.take_zero, List.drop_succ_cons, List.drop_zero, List.reverse_cons, List.reverse_nil, List.nil_append, List.cons_append, List.map_cons, List.map_nil, List.sum_cons, List.sum_nil, List.length_cons, List.length_nil, Option.toList_some, Option.toList_none, true_and, and_true, false_and, and_false, true_implies, false_implies, implies_true, not_true_eq_false, not_false_eq_true, ne_eq, if_true, if_false, Bool.and_true, Bool.true_and, decide_true, decide_false, reduceIte, reduceCtorEq, Bool.and_self, Bool.and_eq_true, decide_eq_true_eq, and_self, true_or, or_true, false_or, or_false, Nat.zero_add, Nat.add_zero, eq_self, Nat.reduceEqDiff, Nat.reduceLeDiff, Nat.reduceLT, Nat.reduceAdd, Nat.reduceSub, Nat.reduceMul, LC_out hL1, e3, e4, q_1shl (show n < 31 by omega)]
  obtain ⟨I2, hI2⟩ : ∃ I2, I2 = uI (uI I1 130 2 (nI n)) 130 3 (nI (2 ^ n)) := ⟨_, rfl⟩
  rw [← hI2]
  have g1 : I2 110 6 = I 110 6 := by rw [hI2]; exact e1
  have g2 : I2 111 = I 111 := by rw [hI2]; exact e2
  have hC2 : CL I2 n m fi se dg sb := by rw [hI2]; exact CL_k hC1 (fun o k h1 h2 => by rw [uI_at, if_neg (by omega), uI_at, if_neg (by omega)])
  have hb2 : ∀ j, -32768 ≤ (en (I2 110 6) (I2 111) n m fi se j).toInt ∧ (en (I2 110 6) (I2 111) n m fi se j).toInt ≤ 32767 := fun j => by
    rw [g1, g2]
    have := en_bd16 (fi := fi) (se := se) hs hn hm j
    omega
  refine L98 hL1 hE hG hN hI hC2 hn (by rw [hI2]; rfl) hb2 (fun f w hw => ?_)
  rw [g1, g2] at hw
  simp only [xSeq, i_push, i_load, i_iload, i_lload, i_dload, i_aload, i_istore, i_astore, i_lstore, i_dstore, i_iinc, i_ii, i_iiz, i_ll, i_llz, i_lli, i_li, i_i, i_l, i_i2l, i_l2i, i_dup, i_dup2, i_dup2w, i_dupx1, i_pop, i_pop2, i_goto, i_ifc, i_icmp, i_getI, i_getL, i_getR, i_putI, i_putZ, i_putL, i_putR, i_aldI, i_aldB, i_aldL, i_aldD, i_astI, i_astL, i_astD, i_alen, i_ret, i_iret, i_zret, i_lret, i_fret, i_dret, i_aret, i_invS0, i_invV0, i_m2, i_m1, i_ml, i_obj, lk, lkp, stf1, stf2, Value.category, rV, xTo, lv_args, xCk, xCat, xRc, xAk, hg_S, hg_I, hg_J, hg_D, hg_R, hs_I, hs_J, hs_D, hs_R, uI_at, uJ_at, uD_at, uR_at, List.take_succ_cons, List.take_zero, List.drop_succ_cons, List.drop_zero, List.reverse_cons, List.reverse_nil, List.nil_append, List.cons_append, List.map_cons, List.map_nil, List.sum_cons, List.sum_nil, List.length_cons, List.length_nil, Option.toList_some, Option.toList_none, true_and, and_true, false_and, and_false, true_implies, false_implies, implies_true, not_true_eq_false, not_false_eq_true, ne_eq, if_true, if_false, Bool.and_true, Bool.true_and, decide_true, decide_false, reduceIte, reduceCtorEq, Bool.and_self, Bool.and_eq_true, decide_eq_true_eq, and_self, true_or, or_true, false_or, or_false, Nat.zero_add, Nat.add_zero, eq_self, Nat.reduceEqDiff, Nat.reduceLeDiff, Nat.reduceLT, Nat.reduceAdd, Nat.reduceSub, Nat.reduceMul, LC_out hL1]
  obtain ⟨I3, hI3⟩ : ∃ I3, I3 = rI (rI I2 152 f) 151 w := ⟨_, rfl⟩
  rw [← hI3]
  have w3 : ∀ c, c < 2 ^ n → I3 151 c = en (I 110 6) (I 111) n m fi se c := fun c hc => by rw [hI3]; exact hw c hc
  refine L100 hL1 hE hB (by rw [hI3, hI2]; rfl) w3 (fun t ht => ?_)
  simp only [xSeq, i_push, i_load, i_iload, i_lload, i_dload, i_aload, i_istore, i_astore, i_lstore, i_dstore, i_iinc, i_ii, i_iiz, i_ll, i_llz, i_lli, i_li, i_i, i_l, i_i2l, i_l2i, i_dup, i_dup2, i_dup2w, i_dupx1, i_pop, i_pop2, i_goto, i_ifc, i_icmp, i_getI, i_getL, i_getR, i_putI, i_putZ, i_putL, i_putR, i_aldI, i_aldB, i_aldL, i_aldD, i_astI, i_astL, i_astD, i_alen, i_ret, i_iret, i_zret, i_lret, i_fret, i_dret, i_aret, i_invS0, i_invV0, i_m2, i_m1, i_ml, i_obj, lk, lkp, stf1, stf2, Value.category, rV, xTo, lv_args, xCk, xCat, xRc, xAk, hg_S, hg_I, hg_J, hg_D, hg_R, hs_I, hs_J, hs_D, hs_R, uI_at, uJ_at, uD_at, uR_at, List.take_succ_cons, List.take_zero, List.drop_succ_cons, List.drop_zero, List.reverse_cons, List.reverse_nil, List.nil_append, List.cons_append, List.map_cons, List.map_nil, List.sum_cons, List.sum_nil, List.length_cons, List.length_nil, Option.toList_some, Option.toList_none, true_and, and_true, false_and, and_false, true_implies, false_implies, implies_true, not_true_eq_false, not_false_eq_true, ne_eq, if_true, if_false, Bool.and_true, Bool.true_and, decide_true, decide_false, reduceIte, reduceCtorEq, Bool.and_self, Bool.and_eq_true, decide_eq_true_eq, and_self, true_or, or_true, false_or, or_false, Nat.zero_add, Nat.add_zero, eq_self, Nat.reduceEqDiff, Nat.reduceLeDiff, Nat.reduceLT, Nat.reduceAdd, Nat.reduceSub, Nat.reduceMul, LC_out hL1]
  obtain ⟨I4, hI4⟩ : ∃ I4, I4 = rI I3 153 t := ⟨_, rfl⟩
  rw [← hI4]
  refine L101 (E := en (I 110 6) (I 111) n m fi se) hL1 hE hB (by rw [hI4, hI3, hI2]; rfl) (fun k hk => by rw [hI4]; exact ht k hk) (fun w4 w5 w6 hg => ?_)
  simp only [xSeq, i_push, i_load, i_iload, i_lload, i_dload, i_aload, i_istore, i_astore, i_lstore, i_dstore, i_iinc, i_ii, i_iiz, i_ll, i_llz, i_lli, i_li, i_i, i_l, i_i2l, i_l2i, i_dup, i_dup2, i_dup2w, i_dupx1, i_pop, i_pop2, i_goto, i_ifc, i_icmp, i_getI, i_getL, i_getR, i_putI, i_putZ, i_putL, i_putR, i_aldI, i_aldB, i_aldL, i_aldD, i_astI, i_astL, i_astD, i_alen, i_ret, i_iret, i_zret, i_lret, i_fret, i_dret, i_aret, i_invS0, i_invV0, i_m2, i_m1, i_ml, i_obj, lk, lkp, stf1, stf2, Value.category, rV, xTo, lv_args, xCk, xCat, xRc, xAk, hg_S, hg_I, hg_J, hg_D, hg_R, hs_I, hs_J, hs_D, hs_R, uI_at, uJ_at, uD_at, uR_at, List.take_succ_cons, List.take_zero, List.drop_succ_cons, List.drop_zero, List.reverse_cons, List.reverse_nil, List.nil_append, List.cons_append, List.map_cons, List.map_nil, List.sum_cons, List.sum_nil, List.length_cons, List.length_nil, Option.toList_some, Option.toList_none, true_and, and_true, false_and, and_false, true_implies, false_implies, implies_true, not_true_eq_false, not_false_eq_true, ne_eq, if_true, if_false, Bool.and_true, Bool.true_and, decide_true, decide_false, reduceIte, reduceCtorEq, Bool.and_self, Bool.and_eq_true, decide_eq_true_eq, and_self, true_or, or_true, false_or, or_false, Nat.zero_add, Nat.add_zero, eq_self, Nat.reduceEqDiff, Nat.reduceLeDiff, Nat.reduceLT, Nat.reduceAdd, Nat.reduceSub, Nat.reduceMul, LC_out hL1]
  refine kk _ _ _ _ _ _ ⟨hE, rfl, ?_, ?_, ?_, rfl, hg, fun c hc => ?_⟩ f1 (fun o k a => ?_) f3 f4
  · show I4 130 2 = nI n
    rw [hI4, hI3, hI2]
    rfl
  · show I4 130 3 = nI (2 ^ n)
    rw [hI4, hI3, hI2]
    rfl
  · exact (hg 0 (lv_pos hB)).1
  · show I4 151 c = _
    rw [hI4]
    exact w3 c hc
  · rw [uI_at, if_neg (by omega), uI_at, if_neg (by omega), lvH_at, if_neg (by omega), if_neg (by omega), if_neg (by omega), if_neg (by omega), uI_at, if_neg (by omega), hI4, rI_at, if_neg (by omega), hI3, rI_at, if_neg (by omega), rI_at, if_neg (by omega), hI2, uI_at, if_neg (by omega), uI_at, if_neg (by omega)]
    exact f2 o k (by omega)
theorem L170 {u : Nat} (hL : LC S R) (hG : GR n m fi se dg sb) (hN : GN n m fi se dg sb) (hI : GI n fi se dg sb) (hC : CL I n m fi se dg sb) (hn : n ≤ 16) (hm : m ≤ 32) (hs : SB (I 110 6) (I 111) m) (hz : I 130 1 = 0) (hR : R 130 6 = some u) (hu : S u = (104, 0)) (hu2 : ¬ nw u) (hf : ∀ o, nw o → (S o).1 = 0) (b1 : 6 ≤ b.1) (b2 : 200000 ≤ b.2)
    (kk : ∀ S' I' J' D' R' b', LC S' R' → XL n (en (I 110 6) (I 111) n m fi se) S' I' R' → (∀ o, ¬ nw o → S' o = S o) → (∀ o k, ¬ nx2 o k → I' o k = I o k) → (∀ o k, ¬ nw o → J' o k = J o k) → (∀ o k, ¬ nw o → ¬ (o = 130 ∧ 6 ≤ k ∧ k ≤ 11) → R' o k = R o k) → Q (.ok (some (.ref 130))) (S', I', J', D', R') b') :
    xRun xT 170 0 [(0, .ref 100)] [] (S, I, J, D, R) b Q := by
  have e1 : (nI n ≤ 16) = True := eq_true (by rw [show (16 : Int32) = nI 16 from rfl]; exact (nI_leI (by omega) (by decide)).mpr hn)
  rw [e170_0]
  simp only [B170_0, xSeq, i_push, i_load, i_iload, i_lload, i_dload, i_aload, i_istore, i_astore, i_lstore, i_dstore, i_iinc, i_ii, i_iiz, i_ll, i_llz, i_lli, i_li, i_i, i_l, i_i2l, i_l2i, i_dup, i_dup2, i_dup2w, i_dupx1, i_pop, i_pop2, i_goto, i_ifc, i_icmp, i_getI, i_getL, i_getR, i_putI, i_putZ, i_putL, i_putR, i_aldI, i_aldB, i_aldL, i_aldD, i_astI, i_astL, i_astD, i_alen, i_ret, i_iret, i_zret, i_lret, i_fret, i_dret, i_aret, i_invS0, i_invV0, i_m2, i_m1, i_ml, i_obj, lk, lkp, stf1, stf2, Value.category, rV, xTo, lv_args, xCk, xCat, xRc, xAk, hg_S, hg_I, hg_J, hg_D, hg_R, hs_I, hs_J, hs_D, hs_R, uI_at, uJ_at, uD_at, uR_at, List.take_succ_cons, List.take_zero, List.drop_succ_cons, List.drop_zero, List.reverse_cons, List.reverse_nil, List.nil_append, List.cons_append, List.map_cons, List.map_nil, List.sum_cons, List.sum_nil, List.length_cons, List.length_nil, Option.toList_some, Option.toList_none, true_and, and_true, false_and, and_false, true_implies, false_implies, implies_true, not_true_eq_false, not_false_eq_true, ne_eq, if_true, if_false, Bool.and_true, Bool.true_and, decide_true, decide_false, reduceIte, reduceCtorEq, Bool.and_self, Bool.and_eq_true, decide_eq_true_eq, and_self, true_or, or_true, false_or, or_false, Nat.zero_add, Nat.add_zero, eq_self, Nat.reduceEqDiff, Nat.reduceLeDiff, Nat.reduceLT, Nat.reduceAdd, Nat.reduceSub, Nat.reduceMul, LC_out hL, hC.1, e1]
  rw [e170_22]
  simp only [B170_22, xSeq, i_push, i_load, i_iload, i_lload, i_dload, i_aload, i_istore, i_astore, i_lstore, i_dstore, i_iinc, i_ii, i_iiz, i_ll, i_llz, i_lli, i_li, i_i, i_l, i_i2l, i_l2i, i_dup, i_dup2, i_dup2w, i_dupx1, i_pop, i_pop2, i_goto, i_ifc, i_icmp, i_getI, i_getL, i_getR, i_putI, i_putZ, i_putL, i_putR, i_aldI, i_aldB, i_aldL, i_aldD, i_astI, i_astL, i_astD, i_alen, i_ret, i_iret, i_zret, i_lret, i_fret, i_dret, i_aret, i_invS0, i_invV0, i_m2, i_m1, i_ml, i_obj, lk, lkp, stf1, stf2, Value.category, rV, xTo, lv_args, xCk, xCat, xRc, xAk, hg_S, hg_I, hg_J, hg_D, hg_R, hs_I, hs_J, hs_D, hs_R, uI_at, uJ_at, uD_at, uR_at, List.take_succ_cons, List.take_zero, List.drop_succ_cons, List.drop_zero, List.reverse_cons, List.reverse_nil, List.nil_append, List.cons_append, List.map_cons, List.map_nil, List.sum_cons, List.sum_nil, List.length_cons, List.length_nil, Option.toList_some, Option.toList_none, true_and, and_true, false_and, and_false, true_implies, false_implies, implies_true, not_true_eq_false, not_false_eq_true, ne_eq, if_true, if_false, Bool.and_true, Bool.true_and, decide_true, decide_false, reduceIte, reduceCtorEq, Bool.and_self, Bool.and_eq_true, decide_eq_true_eq, and_self, true_or, or_true, false_or, or_false, Nat.zero_add, Nat.add_zero, eq_self, Nat.reduceEqDiff, Nat.reduceLeDiff, Nat.reduceLT, Nat.reduceAdd, Nat.reduceSub, Nat.reduceMul, LC_out hL]
  refine w_invVA (mc := 6) (ms := 200000) b1 b2 rfl (by simp only [xSeq, i_push, i_load, i_iload, i_lload, i_dload, i_aload, i_istore, i_astore, i_lstore, i_dstore, i_iinc, i_ii, i_iiz, i_ll, i_llz, i_lli, i_li, i_i, i_l, i_i2l, i_l2i, i_dup, i_dup2, i_dup2w, i_dupx1, i_pop, i_pop2, i_goto, i_ifc, i_icmp, i_getI, i_getL, i_getR, i_putI, i_putZ, i_putL, i_putR, i_aldI, i_aldB, i_aldL, i_aldD, i_astI, i_astL, i_astD, i_alen, i_ret, i_iret, i_zret, i_lret, i_fret, i_dret, i_aret, i_invS0, i_invV0, i_m2, i_m1, i_ml, i_obj, lk, lkp, stf1, stf2, Value.category, rV, xTo, lv_args, xCk, xCat, xRc, xAk, hg_S, hg_I, hg_J, hg_D, hg_R, hs_I, hs_J, hs_D, hs_R, uI_at, uJ_at, uD_at, uR_at, List.take_succ_cons, List.take_zero, List.drop_succ_cons, List.drop_zero, List.reverse_cons, List.reverse_nil, List.nil_append, List.cons_append, List.map_cons, List.map_nil, List.sum_cons, List.sum_nil, List.length_cons, List.length_nil, Option.toList_some, Option.toList_none, true_and, and_true, false_and, and_false, true_implies, false_implies, implies_true, not_true_eq_false, not_false_eq_true, ne_eq, if_true, if_false, Bool.and_true, Bool.true_and, decide_true, decide_false, reduceIte, reduceCtorEq, Bool.and_self, Bool.and_eq_true, decide_eq_true_eq, and_self, true_or, or_true, false_or, or_false, Nat.zero_add, Nat.add_zero, eq_self, Nat.reduceEqDiff, Nat.reduceLeDiff, Nat.reduceLT, Nat.reduceAdd, Nat.reduceSub, Nat.reduceMul, LC_out hL]) ?_
  simp only [xSeq, i_push, i_load, i_iload, i_lload, i_dload, i_aload, i_istore, i_astore, i_lstore, i_dstore, i_iinc, i_ii, i_iiz, i_ll, i_llz, i_lli, i_li, i_i, i_l, i_i2l, i_l2i, i_dup, i_dup2, i_dup2w, i_dupx1, i_pop, i_pop2, i_goto, i_ifc, i_icmp, i_getI, i_getL, i_getR, i_putI, i_putZ, i_putL, i_putR, i_aldI, i_aldB, i_aldL, i_aldD, i_astI, i_astL, i_astD, i_alen, i_ret, i_iret, i_zret, i_lret, i_fret, i_dret, i_aret, i_invS0, i_invV0, i_m2, i_m1, i_ml, i_obj, lk, lkp, stf1, stf2, Value.category, rV, xTo, lv_args, xCk, xCat, xRc, xAk, hg_S, hg_I, hg_J, hg_D, hg_R, hs_I, hs_J, hs_D, hs_R, uI_at, uJ_at, uD_at, uR_at, List.take_succ_cons, List.take_zero, List.drop_succ_cons, List.drop_zero, List.reverse_cons, List.reverse_nil, List.nil_append, List.cons_append, List.map_cons, List.map_nil, List.sum_cons, List.sum_nil, List.length_cons, List.length_nil, Option.toList_some, Option.toList_none, true_and, and_true, false_and, and_false, true_implies, false_implies, implies_true, not_true_eq_false, not_false_eq_true, ne_eq, if_true, if_false, Bool.and_true, Bool.true_and, decide_true, decide_false, reduceIte, reduceCtorEq, Bool.and_self, Bool.and_eq_true, decide_eq_true_eq, and_self, true_or, or_true, false_or, or_false, Nat.zero_add, Nat.add_zero, eq_self, Nat.reduceEqDiff, Nat.reduceLeDiff, Nat.reduceLT, Nat.reduceAdd, Nat.reduceSub, Nat.reduceMul]
  refine L96 hL hG hN hI hC hn hm hs hz hR hu hu2 hf (by decide) (by decide) (fun S' I' J' D' R' b' hX f1 f2 f3 f4 => ?_)
  have hL1 : LC S' R' := by
    unfold LC
    repeat' apply And.intro
    all_goals first
      | (rw [f1 _ (by decide)]; simp only [LC_out hL])
      | (rw [f4 _ _ (by decide) (by decide)]; simp only [LC_out hL])
  simp only [xSeq, i_push, i_load, i_iload, i_lload, i_dload, i_aload, i_istore, i_astore, i_lstore, i_dstore, i_iinc, i_ii, i_iiz, i_ll, i_llz, i_lli, i_li, i_i, i_l, i_i2l, i_l2i, i_dup, i_dup2, i_dup2w, i_dupx1, i_pop, i_pop2, i_goto, i_ifc, i_icmp, i_getI, i_getL, i_getR, i_putI, i_putZ, i_putL, i_putR, i_aldI, i_aldB, i_aldL, i_aldD, i_astI, i_astL, i_astD, i_alen, i_ret, i_iret, i_zret, i_lret, i_fret, i_dret, i_aret, i_invS0, i_invV0, i_m2, i_m1, i_ml, i_obj, lk, lkp, stf1, stf2, Value.category, rV, xTo, lv_args, xCk, xCat, xRc, xAk, hg_S, hg_I, hg_J, hg_D, hg_R, hs_I, hs_J, hs_D, hs_R, uI_at, uJ_at, uD_at, uR_at, List.take_succ_cons, List.take_zero, List.drop_succ_cons, List.drop_zero, List.reverse_cons, List.reverse_nil, List.nil_append, List.cons_append, List.map_cons, List.map_nil, List.sum_cons, List.sum_nil, List.length_cons, List.length_nil, Option.toList_some, Option.toList_none, true_and, and_true, false_and, and_false, true_implies, false_implies, implies_true, not_true_eq_false, not_false_eq_true, ne_eq, if_true, if_false, Bool.and_true, Bool.true_and, decide_true, decide_false, reduceIte, reduceCtorEq, Bool.and_self, Bool.and_eq_true, decide_eq_true_eq, and_self, true_or, or_true, false_or, or_false, Nat.zero_add, Nat.add_zero, eq_self, Nat.reduceEqDiff, Nat.reduceLeDiff, Nat.reduceLT, Nat.reduceAdd, Nat.reduceSub, Nat.reduceMul, LC_out hL1]
  exact kk S' I' J' D' R' _ hL1 hX f1 f2 f3 f4
end
/-! ===== the model knows its levels ===== -/
section
variable {S : xS} {I : xI} {J : xJ} {D : xDb} {R : xR} {b : Nat × Nat} {Q : xQ} {n m : Nat} {fi se dg : Nat → Nat} {sb : Nat → Nat → Nat}
theorem R302_15 (hL : LM S R) {N : Nat} (hn : (13233 : Int32) = nI N) (hn2 : N = 13233) : ∀ (j i : Nat) (f : Nat → Int32), i + j = N → xRun xT 302 15 [(0, .ref 200), (1, .int (nI i))] [] (S, rI I 345 (fill f 0 i), J, D, R) b Q = xRun xT 302 35 [(0, .ref 200)] [] (S, rI I 345 (fill f 0 N), J, D, R) b Q
  | 0, i, f, hi => by
    have e : i = N := by omega
    subst e
    rw [e302_15]
    simp only [B302_15, xSeq, i_push, i_load, i_iload, i_lload, i_dload, i_aload, i_istore, i_astore, i_lstore, i_dstore, i_iinc, i_ii, i_iiz, i_ll, i_llz, i_lli, i_li, i_i, i_l, i_i2l, i_l2i, i_dup, i_dup2, i_dup2w, i_dupx1, i_pop, i_pop2, i_goto, i_ifc, i_icmp, i_getI, i_getL, i_getR, i_putI, i_putZ, i_putL, i_putR, i_aldI, i_aldB, i_aldL, i_aldD, i_astI, i_astL, i_astD, i_alen, i_ret, i_iret, i_zret, i_lret, i_fret, i_dret, i_aret, i_invS0, i_invV0, i_m2, i_m1, i_ml, i_obj, lk, lkp, stf1, stf2, Value.category, rV, xTo, lv_args, xCk, xCat, xRc, xAk, hg_S, hg_I, hg_J, hg_D, hg_R, hs_I, hs_J, hs_D, hs_R, uI_at, uJ_at, uD_at, uR_at, List.take_succ_cons, List.take_zero, List.drop_succ_cons, List.drop_zero, List.reverse_cons, List.reverse_nil, List.nil_append, List.cons_append, List.map_cons, List.map_nil, List.sum_cons, List.sum_nil, List.length_cons, List.length_nil, Option.toList_some, Option.toList_none, true_and, and_true, false_and, and_false, true_implies, false_implies, implies_true, not_true_eq_false, not_false_eq_true, ne_eq, if_true, if_false, Bool.and_true, Bool.true_and, decide_true, decide_false, reduceIte, reduceCtorEq, Bool.and_self, Bool.and_eq_true, decide_eq_true_eq, and_self, true_or, or_true, false_or, or_false, Nat.zero_add, Nat.add_zero, eq_self, Nat.reduceEqDiff, Nat.reduceLeDiff, Nat.reduceLT, Nat.reduceAdd, Nat.reduceSub, Nat.reduceMul, xi144_0, ix_0, xi144_1, ix_1, xi144_2, ix_2, xi144_3, ix_3, xi144_4, ix_4, xi144_5, ix_5, xi144_6, ix_6, xi144_7, ix_7, xi144_8, ix_8, xi144_9, ix_9, xi144_10, ix_10, LM_out hL, rI_at, hn, nI_leP (show i < 2147483648 by omega) (show i < 2147483648 by omega), Nat.le_refl]
  | j + 1, i, f, hi => by
    rw [e302_15]
    simp only [B302_15, xSeq, i_push, i_load, i_iload, i_lload, i_dload, i_aload, i_istore, i_astore, i_lstore, i_dstore, i_iinc, i_ii, i_iiz, i_ll, i_llz, i_lli, i_li, i_i, i_l, i_i2l, i_l2i, i_dup, i_dup2, i_dup2w, i_dupx1, i_pop, i_pop2, i_goto, i_ifc, i_icmp, i_getI, i_getL, i_getR, i_putI, i_putZ, i_putL, i_putR, i_aldI, i_aldB, i_aldL, i_aldD, i_astI, i_astL, i_astD, i_alen, i_ret, i_iret, i_zret, i_lret, i_fret, i_dret, i_aret, i_invS0, i_invV0, i_m2, i_m1, i_ml, i_obj, lk, lkp, stf1, stf2, Value.category, rV, xTo, lv_args, xCk, xCat, xRc, xAk, hg_S, hg_I, hg_J, hg_D, hg_R, hs_I, hs_J, hs_D, hs_R, uI_at, uJ_at, uD_at, uR_at, List.take_succ_cons, List.take_zero, List.drop_succ_cons, List.drop_zero, List.reverse_cons, List.reverse_nil, List.nil_append, List.cons_append, List.map_cons, List.map_nil, List.sum_cons, List.sum_nil, List.length_cons, List.length_nil, Option.toList_some, Option.toList_none, true_and, and_true, false_and, and_false, true_implies, false_implies, implies_true, not_true_eq_false, not_false_eq_true, ne_eq, if_true, if_false, Bool.and_true, Bool.true_and, decide_true, decide_false, reduceIte, reduceCtorEq, Bool.and_self, Bool.and_eq_true, decide_eq_true_eq, and_self, true_or, or_true, false_or, or_false, Nat.zero_add, Nat.add_zero, eq_self, Nat.reduceEqDiff, Nat.reduceLeDiff, Nat.reduceLT, Nat.reduceAdd, Nat.reduceSub, Nat.reduceMul, xi144_0, ix_0, xi144_1, ix_1, xi144_2, ix_2, xi144_3, ix_3, xi144_4, ix_4, xi144_5, ix_5, xi144_6, ix_6, xi144_7, ix_7, xi144_8, ix_8, xi144_9, ix_9, xi144_10, ix_10, LM_out hL, rI_at, hn, nI_leP (show N < 2147483648 by omega) (show i < 2147483648 by omega), show (N ≤ i) = False from eq_false (by omega), nI_inP (show i < 13233 by omega) (by decide), nI_ix (show i < 2147483648 by omega), uI_rI, fill_up, nI_1]
    exact R302_15 hL hn hn2 j (i + 1) f (by omega)
theorem R302_z (hL : LM S R) : ∃ f, (∀ k, k < 13233 → f k = 0) ∧ ∀ (J : xJ) (D : xDb) (b : Nat × Nat) (Q : xQ), xRun xT 302 15 [(0, .ref 200), (1, .int 0)] [] (S, I, J, D, R) b Q = xRun xT 302 35 [(0, .ref 200)] [] (S, rI I 345 f, J, D, R) b Q := by
  obtain ⟨N, hn2⟩ : ∃ N : Nat, N = 13233 := ⟨_, rfl⟩
  have hn : (13233 : Int32) = nI N := by rw [hn2]; decide
  refine ⟨fill (I 345) 0 N, fun k hk => by rw [fill_at, if_pos (by omega)], fun J D b Q => ?_⟩
  have h := R302_15 (I := I) (J := J) (D := D) (b := b) (Q := Q) hL hn hn2 N 0 (I 345) (by omega)
  rw [fill_0, rI_self, nI_0] at h
  exact h
theorem R303 (hL : LM S R) (h : I 300 10 = nI n) (hn : n < 31) : xRun xT 303 0 [(0, .ref 200)] [] (S, I, J, D, R) b Q = Q (.ok (some (.int (nI (2 ^ n))))) (S, I, J, D, R) b := by
  rw [e303_0]
  simp only [B303_0, xSeq, i_push, i_load, i_iload, i_lload, i_dload, i_aload, i_istore, i_astore, i_lstore, i_dstore, i_iinc, i_ii, i_iiz, i_ll, i_llz, i_lli, i_li, i_i, i_l, i_i2l, i_l2i, i_dup, i_dup2, i_dup2w, i_dupx1, i_pop, i_pop2, i_goto, i_ifc, i_icmp, i_getI, i_getL, i_getR, i_putI, i_putZ, i_putL, i_putR, i_aldI, i_aldB, i_aldL, i_aldD, i_astI, i_astL, i_astD, i_alen, i_ret, i_iret, i_zret, i_lret, i_fret, i_dret, i_aret, i_invS0, i_invV0, i_m2, i_m1, i_ml, i_obj, lk, lkp, stf1, stf2, Value.category, rV, xTo, lv_args, xCk, xCat, xRc, xAk, hg_S, hg_I, hg_J, hg_D, hg_R, hs_I, hs_J, hs_D, hs_R, uI_at, uJ_at, uD_at, uR_at, List.take_succ_cons, List.take_zero, List.drop_succ_cons, List.drop_zero, List.reverse_cons, List.reverse_nil, List.nil_append, List.cons_append, List.map_cons, List.map_nil, List.sum_cons, List.sum_nil, List.length_cons, List.length_nil, Option.toList_some, Option.toList_none, true_and, and_true, false_and, and_false, true_implies, false_implies, implies_true, not_true_eq_false, not_false_eq_true, ne_eq, if_true, if_false, Bool.and_true, Bool.true_and, decide_true, decide_false, reduceIte, reduceCtorEq, Bool.and_self, Bool.and_eq_true, decide_eq_true_eq, and_self, true_or, or_true, false_or, or_false, Nat.zero_add, Nat.add_zero, eq_self, Nat.reduceEqDiff, Nat.reduceLeDiff, Nat.reduceLT, Nat.reduceAdd, Nat.reduceSub, Nat.reduceMul, xi144_0, ix_0, xi144_1, ix_1, xi144_2, ix_2, xi144_3, ix_3, xi144_4, ix_4, xi144_5, ix_5, xi144_6, ix_6, xi144_7, ix_7, xi144_8, ix_8, xi144_9, ix_9, xi144_10, ix_10, LM_out hL, h, q_1shl hn]
/-- a set's lowest bit -/
theorem R304_2 {c : Nat} (hc : c < 2147483648) : ∀ (j k : Nat), k + j < 31 → c.testBit (k + j) = true → ∃ t, k ≤ t ∧ t ≤ k + j ∧ c.testBit t = true ∧ ∀ (S : xS) (I : xI) (J : xJ) (D : xDb) (R : xR) (b : Nat × Nat) (Q : xQ), xRun xT 304 2 [(1, .int (nI c)), (2, .int (nI k))] [] (S, I, J, D, R) b Q = Q (.ok (some (.int (nI t)))) (S, I, J, D, R) b
  | j, k, hk, hb => by
    have e1 : jShr (nI c) (nI k) &&& 1 = nI (c / 2 ^ k % 2) := by
      rw [i_shr hc (by omega), pk_andN (Nat.lt_of_le_of_lt (Nat.div_le_self _ _) (by omega)) 1 (by decide)]
    by_cases h : c.testBit k = true
    · refine ⟨k, Nat.le_refl k, Nat.le_add_right k j, h, fun S I J D R b Q => ?_⟩
      have e2 : c / 2 ^ k % 2 = 1 := by
        rw [Nat.testBit_eq_decide_div_mod_eq] at h
        exact of_decide_eq_true h
      rw [e304_2]
      simp only [B304_2, xSeq, i_push, i_load, i_iload, i_lload, i_dload, i_aload, i_istore, i_astore, i_lstore, i_dstore, i_iinc, i_ii, i_iiz, i_ll, i_llz, i_lli, i_li, i_i, i_l, i_i2l, i_l2i, i_dup, i_dup2, i_dup2w, i_dupx1, i_pop, i_pop2, i_goto, i_ifc, i_icmp, i_getI, i_getL, i_getR, i_putI, i_putZ, i_putL, i_putR, i_aldI, i_aldB, i_aldL, i_aldD, i_astI, i_astL, i_astD, i_alen, i_ret, i_iret, i_zret, i_lret, i_fret, i_dret, i_aret, i_invS0, i_invV0, i_m2, i_m1, i_ml, i_obj, lk, lkp, stf1, stf2, Value.category, rV, xTo, lv_args, xCk, xCat, xRc, xAk, hg_S, hg_I, hg_J, hg_D, hg_R, hs_I, hs_J, hs_D, hs_R, uI_at, uJ_at, uD_at, uR_at, List.take_succ_cons, List.take_zero, List.drop_succ_cons, List.drop_zero, List.reverse_cons, List.reverse_nil, List.nil_append, List.cons_append, List.map_cons, List.map_nil, List.sum_cons, List.sum_nil, List.length_cons, List.length_nil, Option.toList_some, Option.toList_none, true_and, and_true, false_and, and_false, true_implies, false_implies, implies_true, not_true_eq_false, not_false_eq_true, ne_eq, if_true, if_false, Bool.and_true, Bool.true_and, decide_true, decide_false, reduceIte, reduceCtorEq, Bool.and_self, Bool.and_eq_true, decide_eq_true_eq, and_self, true_or, or_true, false_or, or_false, Nat.zero_add, Nat.add_zero, eq_self, Nat.reduceEqDiff, Nat.reduceLeDiff, Nat.reduceLT, Nat.reduceAdd, Nat.reduceSub, Nat.reduceMul, e1, e2, show (nI 1 = 0) = False from eq_false (by decide), ne_eq, not_false_eq_true, e304_16, B304_16]
    · have e2 : c / 2 ^ k % 2 = 0 := by
        rw [Nat.testBit_eq_decide_div_mod_eq] at h
        have : ¬ c / 2 ^ k % 2 = 1 := fun e => h (decide_eq_true e)
        omega
      obtain ⟨j', rfl⟩ : ∃ j', j = j' + 1 := by
        cases j with
        | zero => exact absurd hb h
        | succ j => exact ⟨j, rfl⟩
      obtain ⟨t, t1, t2, t3, t4⟩ := R304_2 hc j' (k + 1) (by omega) (by rw [show k + 1 + j' = k + (j' + 1) by omega]; exact hb)
      refine ⟨t, by omega, by omega, t3, fun S I J D R b Q => ?_⟩
      rw [e304_2]
      simp only [B304_2, xSeq, i_push, i_load, i_iload, i_lload, i_dload, i_aload, i_istore, i_astore, i_lstore, i_dstore, i_iinc, i_ii, i_iiz, i_ll, i_llz, i_lli, i_li, i_i, i_l, i_i2l, i_l2i, i_dup, i_dup2, i_dup2w, i_dupx1, i_pop, i_pop2, i_goto, i_ifc, i_icmp, i_getI, i_getL, i_getR, i_putI, i_putZ, i_putL, i_putR, i_aldI, i_aldB, i_aldL, i_aldD, i_astI, i_astL, i_astD, i_alen, i_ret, i_iret, i_zret, i_lret, i_fret, i_dret, i_aret, i_invS0, i_invV0, i_m2, i_m1, i_ml, i_obj, lk, lkp, stf1, stf2, Value.category, rV, xTo, lv_args, xCk, xCat, xRc, xAk, hg_S, hg_I, hg_J, hg_D, hg_R, hs_I, hs_J, hs_D, hs_R, uI_at, uJ_at, uD_at, uR_at, List.take_succ_cons, List.take_zero, List.drop_succ_cons, List.drop_zero, List.reverse_cons, List.reverse_nil, List.nil_append, List.cons_append, List.map_cons, List.map_nil, List.sum_cons, List.sum_nil, List.length_cons, List.length_nil, Option.toList_some, Option.toList_none, true_and, and_true, false_and, and_false, true_implies, false_implies, implies_true, not_true_eq_false, not_false_eq_true, ne_eq, if_true, if_false, Bool.and_true, Bool.true_and, decide_true, decide_false, reduceIte, reduceCtorEq, Bool.and_self, Bool.and_eq_true, decide_eq_true_eq, and_self, true_or, or_true, false_or, or_false, Nat.zero_add, Nat.add_zero, eq_self, Nat.reduceEqDiff, Nat.reduceLeDiff, Nat.reduceLT, Nat.reduceAdd, Nat.reduceSub, Nat.reduceMul, e1, e2, show (nI 0 = 0) = True from eq_true (by decide), ne_eq, not_true_eq_false, nI_1]
      exact t4 S I J D R b Q
theorem bit_ex {c : Nat} (h0 : 0 < c) {n : Nat} (hc : c < 2 ^ n) : ∃ t, t < n ∧ c.testBit t = true := by
  refine Classical.byContradiction (fun h => ?_)
  have : c = 0 := by
    apply Nat.eq_of_testBit_eq
    intro i
    rw [Nat.zero_testBit]
    by_cases hi : i < n
    · cases hb : c.testBit i
      · rfl
      · exact absurd ⟨i, hi, hb⟩ h
    · exact Nat.testBit_lt_two_pow (Nat.lt_of_lt_of_le hc (Nat.pow_le_pow_right (by decide) (by omega)))
  omega
theorem R304 {c : Nat} (h0 : 0 < c) (hn : n ≤ 16) (hc : c < 2 ^ n) : ∃ t, t < n ∧ c.testBit t = true ∧ ∀ (S : xS) (I : xI) (J : xJ) (D : xDb) (R : xR) (b : Nat × Nat) (Q : xQ), xRun xT 304 0 [(0, .ref 200), (1, .int (nI c))] [] (S, I, J, D, R) b Q = Q (.ok (some (.int (nI t)))) (S, I, J, D, R) b := by
  have hp := pow16 hn
  obtain ⟨t0, h1, h2⟩ := bit_ex h0 hc
  obtain ⟨t, t1, t2, t3, t4⟩ := R304_2 (c := c) (by omega) t0 0 (by omega) (by rw [Nat.zero_add]; exact h2)
  refine ⟨t, by omega, t3, fun S I J D R b Q => ?_⟩
  have h := t4 S I J D R b Q
  rw [nI_0] at h
  rw [e304_0]
  simp only [B304_0, xSeq, i_push, i_load, i_iload, i_lload, i_dload, i_aload, i_istore, i_astore, i_lstore, i_dstore, i_iinc, i_ii, i_iiz, i_ll, i_llz, i_lli, i_li, i_i, i_l, i_i2l, i_l2i, i_dup, i_dup2, i_dup2w, i_dupx1, i_pop, i_pop2, i_goto, i_ifc, i_icmp, i_getI, i_getL, i_getR, i_putI, i_putZ, i_putL, i_putR, i_aldI, i_aldB, i_aldL, i_aldD, i_astI, i_astL, i_astD, i_alen, i_ret, i_iret, i_zret, i_lret, i_fret, i_dret, i_aret, i_invS0, i_invV0, i_m2, i_m1, i_ml, i_obj, lk, lkp, stf1, stf2, Value.category, rV, xTo, lv_args, xCk, xCat, xRc, xAk, hg_S, hg_I, hg_J, hg_D, hg_R, hs_I, hs_J, hs_D, hs_R, uI_at, uJ_at, uD_at, uR_at, List.take_succ_cons, List.take_zero, List.drop_succ_cons, List.drop_zero, List.reverse_cons, List.reverse_nil, List.nil_append, List.cons_append, List.map_cons, List.map_nil, List.sum_cons, List.sum_nil, List.length_cons, List.length_nil, Option.toList_some, Option.toList_none, true_and, and_true, false_and, and_false, true_implies, false_implies, implies_true, not_true_eq_false, not_false_eq_true, ne_eq, if_true, if_false, Bool.and_true, Bool.true_and, decide_true, decide_false, reduceIte, reduceCtorEq, Bool.and_self, Bool.and_eq_true, decide_eq_true_eq, and_self, true_or, or_true, false_or, or_false, Nat.zero_add, Nat.add_zero, eq_self, Nat.reduceEqDiff, Nat.reduceLeDiff, Nat.reduceLT, Nat.reduceAdd, Nat.reduceSub, Nat.reduceMul]
  exact h
theorem xor_lo {c t : Nat} (h : c.testBit t = true) : c ^^^ 2 ^ t < c ∧ (c ^^^ 2 ^ t).testBit t = false ∧ (c ^^^ 2 ^ t) ^^^ 2 ^ t = c := by
  have e1 : (c ^^^ 2 ^ t).testBit t = false := by
    rw [bit_x, h]
    simp
  refine ⟨?_, e1, ?_⟩
  · have e : c ^^^ 2 ^ t = c &&& (c ^^^ 2 ^ t) := Nat.eq_of_testBit_eq (fun i => by
      rw [Nat.testBit_and, bit_x]
      by_cases hi : t = i
      · subst hi
        rw [h]
        simp
      · rw [decide_eq_false hi]
        simp)
    exact Nat.lt_of_le_of_ne (by rw [e]; exact Nat.and_le_left) (xor_ne c t)
  · rw [Nat.xor_assoc, Nat.xor_self, Nat.xor_zero]
theorem L302_62 (hL : LM S R) (hG : GR n m fi se dg sb) (hN : GN n m fi se dg sb) (hC : CM I n m fi se dg sb) (hn : n ≤ 16)
    (kk : ∀ f g, (∀ c, c < 2 ^ n → f c = en (I 300 4) (fun k => I 300 (16 + k)) n m fi se c ∧ g c = mg n c) → xRun xT 302 122 [(0, .ref 200)] [] (S, rI (rI I 343 f) 344 g, J, D, R) b Q) :
    ∀ (j i : Nat) (f g : Nat → Int32), i + j = 2 ^ n → 0 < i → (∀ c, c < i → f c = en (I 300 4) (fun k => I 300 (16 + k)) n m fi se c ∧ g c = mg n c) → xRun xT 302 62 [(0, .ref 200), (1, .int (nI i))] [] (S, rI (rI I 343 f) 344 g, J, D, R) b Q
  | 0, i, f, g, hi, h0, hf => by
    have hp := pow16 hn
    have e : i = 2 ^ n := by omega
    subst e
    have h10 : rI (rI I 343 f) 344 g 300 10 = nI n := hC.1
    rw [e302_62]
    simp only [B302_62, xSeq, i_push, i_load, i_iload, i_lload, i_dload, i_aload, i_istore, i_astore, i_lstore, i_dstore, i_iinc, i_ii, i_iiz, i_ll, i_llz, i_lli, i_li, i_i, i_l, i_i2l, i_l2i, i_dup, i_dup2, i_dup2w, i_dupx1, i_pop, i_pop2, i_goto, i_ifc, i_icmp, i_getI, i_getL, i_getR, i_putI, i_putZ, i_putL, i_putR, i_aldI, i_aldB, i_aldL, i_aldD, i_astI, i_astL, i_astD, i_alen, i_ret, i_iret, i_zret, i_lret, i_fret, i_dret, i_aret, i_invS0, i_invV0, i_m2, i_m1, i_ml, i_obj, lk, lkp, stf1, stf2, Value.category, rV, xTo, lv_args, xCk, xCat, xRc, xAk, hg_S, hg_I, hg_J, hg_D, hg_R, hs_I, hs_J, hs_D, hs_R, uI_at, uJ_at, uD_at, uR_at, List.take_succ_cons, List.take_zero, List.drop_succ_cons, List.drop_zero, List.reverse_cons, List.reverse_nil, List.nil_append, List.cons_append, List.map_cons, List.map_nil, List.sum_cons, List.sum_nil, List.length_cons, List.length_nil, Option.toList_some, Option.toList_none, true_and, and_true, false_and, and_false, true_implies, false_implies, implies_true, not_true_eq_false, not_false_eq_true, ne_eq, if_true, if_false, Bool.and_true, Bool.true_and, decide_true, decide_false, reduceIte, reduceCtorEq, Bool.and_self, Bool.and_eq_true, decide_eq_true_eq, and_self, true_or, or_true, false_or, or_false, Nat.zero_add, Nat.add_zero, eq_self, Nat.reduceEqDiff, Nat.reduceLeDiff, Nat.reduceLT, Nat.reduceAdd, Nat.reduceSub, Nat.reduceMul, LM_out hL, R303 hL h10 (show n < 31 by omega), nI_leP (show 2 ^ n < 2147483648 by omega) (show 2 ^ n < 2147483648 by omega), Nat.le_refl]
    exact kk f g hf
  | j + 1, i, f, g, hi, h0, hf => by
    have hp := pow16 hn
    have hc : i < 2 ^ n := by omega
    obtain ⟨t, t1, t2, t3⟩ := R304 h0 hn hc
    obtain ⟨x1, x2, x3⟩ := xor_lo t2
    have h10 : rI (rI I 343 f) 344 g 300 10 = nI n := hC.1
    have h257 := fun (b : Nat × Nat) (Q : xQ) => R257 (S := S) (I := rI (rI I 343 f) 344 g) (J := J) (D := D) (b := b) (Q := Q) hL hG (CM_r (CM_r hC (by decide)) (by decide)) (s := i ^^^ 2 ^ t) (t := t) (by omega) t1
    have eF : rI (rI I 343 f) 344 g 300 4 = I 300 4 := rfl
    have eS : (fun k => rI (rI I 343 f) 344 g 300 (16 + k)) = fun k => I 300 (16 + k) := rfl
    rw [eF, eS] at h257
    have f1 := hf _ x1
    have y1 := en_x hN (I 300 4) (fun k => I 300 (16 + k)) (i ^^^ 2 ^ t) t t1
    rw [x3] at y1
    have y2 := mg_x n (i ^^^ 2 ^ t) t t1
    rw [x3, x2] at y2
    have y3 : mg n (i ^^^ 2 ^ t) + 2 = mg n i := by
      rw [y2]
      show _ = mg n (i ^^^ 2 ^ t) + -2 * (-1)
      rfl
    have sw : ∀ (k : Nat) (v : Int32), uI (rI (rI I 343 f) 344 g) 343 k v = rI (rI I 343 (up f k v)) 344 g := fun k v => by
      rw [uI_swap _ (by decide), uI_rI]
    rw [e302_62]
    simp only [B302_62, xSeq, i_push, i_load, i_iload, i_lload, i_dload, i_aload, i_istore, i_astore, i_lstore, i_dstore, i_iinc, i_ii, i_iiz, i_ll, i_llz, i_lli, i_li, i_i, i_l, i_i2l, i_l2i, i_dup, i_dup2, i_dup2w, i_dupx1, i_pop, i_pop2, i_goto, i_ifc, i_icmp, i_getI, i_getL, i_getR, i_putI, i_putZ, i_putL, i_putR, i_aldI, i_aldB, i_aldL, i_aldD, i_astI, i_astL, i_astD, i_alen, i_ret, i_iret, i_zret, i_lret, i_fret, i_dret, i_aret, i_invS0, i_invV0, i_m2, i_m1, i_ml, i_obj, lk, lkp, stf1, stf2, Value.category, rV, xTo, lv_args, xCk, xCat, xRc, xAk, hg_S, hg_I, hg_J, hg_D, hg_R, hs_I, hs_J, hs_D, hs_R, uI_at, uJ_at, uD_at, uR_at, List.take_succ_cons, List.take_zero, List.drop_succ_cons, List.drop_zero, List.reverse_cons, List.reverse_nil, List.nil_append, List.cons_append, List.map_cons, List.map_nil, List.sum_cons, List.sum_nil, List.length_cons, List.length_nil, Option.toList_some, Option.toList_none, true_and, and_true, false_and, and_false, true_implies, false_implies, implies_true, not_true_eq_false, not_false_eq_true, ne_eq, if_true, if_false, Bool.and_true, Bool.true_and, decide_true, decide_false, reduceIte, reduceCtorEq, Bool.and_self, Bool.and_eq_true, decide_eq_true_eq, and_self, true_or, or_true, false_or, or_false, Nat.zero_add, Nat.add_zero, eq_self, Nat.reduceEqDiff, Nat.reduceLeDiff, Nat.reduceLT, Nat.reduceAdd, Nat.reduceSub, Nat.reduceMul, LM_out hL, R303 hL h10 (show n < 31 by omega), nI_leP (show 2 ^ n < 2147483648 by omega) (show i < 2147483648 by omega), show (2 ^ n ≤ i) = False from eq_false (by omega), t3, q_1shl (show t < 31 by omega), i_xorN, nI_l (show i ^^^ 2 ^ t < 2147483648 by omega), h257, rI_at, nI_inP (show i < 65536 by omega) (by decide), nI_ix (show i < 2147483648 by omega), nI_inP (show i ^^^ 2 ^ t < 65536 by omega) (by decide), nI_ix (show i ^^^ 2 ^ t < 2147483648 by omega), f1.1, f1.2, ← y1, y3, sw, uI_rI, nI_1]
    refine L302_62 hL hG hN hC hn kk j (i + 1) _ _ (by omega) (by omega) (fun c hc2 => ?_)
    rw [up_at, up_at]
    by_cases e : c = i
    · rw [if_pos e, if_pos e, e]
      exact ⟨rfl, rfl⟩
    · rw [if_neg e, if_neg e]
      exact hf c (by omega)
variable {E : Nat → Int32}
theorem L302_124 (hL : LM S R) (hB : EB E n) (h10 : I 300 10 = nI n) (he : ∀ c, c < 2 ^ n → I 343 c = E c ∧ I 344 c = mg n c)
    (kk : ∀ f, (∀ k, k < 13233 → f k = nI (cM E n k)) → xRun xT 302 170 [(0, .ref 200)] [] (S, rI I 345 f, J, D, R) b Q) :
    ∀ (j i : Nat) (f : Nat → Int32), i + j = 2 ^ n → (∀ k, k < 13233 → f k = nI (ct (fun c => decide (yM E n c = k)) i)) → xRun xT 302 124 [(0, .ref 200), (1, .int (nI i))] [] (S, rI I 345 f, J, D, R) b Q
  | 0, i, f, hi, hf => by
    have hp := pow16 hB.1
    have hn := hB.1
    have e : i = 2 ^ n := by omega
    subst e
    have h10' : rI I 345 f 300 10 = nI n := h10
    rw [e302_124]
    simp only [B302_124, xSeq, i_push, i_load, i_iload, i_lload, i_dload, i_aload, i_istore, i_astore, i_lstore, i_dstore, i_iinc, i_ii, i_iiz, i_ll, i_llz, i_lli, i_li, i_i, i_l, i_i2l, i_l2i, i_dup, i_dup2, i_dup2w, i_dupx1, i_pop, i_pop2, i_goto, i_ifc, i_icmp, i_getI, i_getL, i_getR, i_putI, i_putZ, i_putL, i_putR, i_aldI, i_aldB, i_aldL, i_aldD, i_astI, i_astL, i_astD, i_alen, i_ret, i_iret, i_zret, i_lret, i_fret, i_dret, i_aret, i_invS0, i_invV0, i_m2, i_m1, i_ml, i_obj, lk, lkp, stf1, stf2, Value.category, rV, xTo, lv_args, xCk, xCat, xRc, xAk, hg_S, hg_I, hg_J, hg_D, hg_R, hs_I, hs_J, hs_D, hs_R, uI_at, uJ_at, uD_at, uR_at, List.take_succ_cons, List.take_zero, List.drop_succ_cons, List.drop_zero, List.reverse_cons, List.reverse_nil, List.nil_append, List.cons_append, List.map_cons, List.map_nil, List.sum_cons, List.sum_nil, List.length_cons, List.length_nil, Option.toList_some, Option.toList_none, true_and, and_true, false_and, and_false, true_implies, false_implies, implies_true, not_true_eq_false, not_false_eq_true, ne_eq, if_true, if_false, Bool.and_true, Bool.true_and, decide_true, decide_false, reduceIte, reduceCtorEq, Bool.and_self, Bool.and_eq_true, decide_eq_true_eq, and_self, true_or, or_true, false_or, or_false, Nat.zero_add, Nat.add_zero, eq_self, Nat.reduceEqDiff, Nat.reduceLeDiff, Nat.reduceLT, Nat.reduceAdd, Nat.reduceSub, Nat.reduceMul, LM_out hL, R303 hL h10' (show n < 31 by omega), nI_leP (show 2 ^ n < 2147483648 by omega) (show 2 ^ n < 2147483648 by omega), Nat.le_refl]
    exact kk f hf
  | j + 1, i, f, hi, hf => by
    have hp := pow16 hB.1
    have hn := hB.1
    have hc : i < 2 ^ n := by omega
    have h10' : rI I 345 f 300 10 = nI n := h10
    obtain ⟨-, h1, h2, -⟩ := eN_ok hB hc
    obtain ⟨-, h4⟩ := yM_ok hB hc
    have h5 := pop_le n i
    have e1 : (33 * nI (eN E i + 56) + mg n i + 16 : Int32) = nI (yM E n i) := by
      have e2 : nI (2 * pop n i + 16 - n) + nI n = 2 * nI (pop n i) + 16 := by
        rw [nI_add, show 2 * pop n i + 16 - n + n = 2 * pop n i + 16 by omega, ← nI_add, ← pk_mul]
        rfl
      rw [mg_pop]
      unfold yM
      rw [← nI_add (33 * _), ← pk_mul 33, show nI 33 = 33 from rfl]
      grind
    rw [e302_124]
    simp only [B302_124, xSeq, i_push, i_load, i_iload, i_lload, i_dload, i_aload, i_istore, i_astore, i_lstore, i_dstore, i_iinc, i_ii, i_iiz, i_ll, i_llz, i_lli, i_li, i_i, i_l, i_i2l, i_l2i, i_dup, i_dup2, i_dup2w, i_dupx1, i_pop, i_pop2, i_goto, i_ifc, i_icmp, i_getI, i_getL, i_getR, i_putI, i_putZ, i_putL, i_putR, i_aldI, i_aldB, i_aldL, i_aldD, i_astI, i_astL, i_astD, i_alen, i_ret, i_iret, i_zret, i_lret, i_fret, i_dret, i_aret, i_invS0, i_invV0, i_m2, i_m1, i_ml, i_obj, lk, lkp, stf1, stf2, Value.category, rV, xTo, lv_args, xCk, xCat, xRc, xAk, hg_S, hg_I, hg_J, hg_D, hg_R, hs_I, hs_J, hs_D, hs_R, uI_at, uJ_at, uD_at, uR_at, List.take_succ_cons, List.take_zero, List.drop_succ_cons, List.drop_zero, List.reverse_cons, List.reverse_nil, List.nil_append, List.cons_append, List.map_cons, List.map_nil, List.sum_cons, List.sum_nil, List.length_cons, List.length_nil, Option.toList_some, Option.toList_none, true_and, and_true, false_and, and_false, true_implies, false_implies, implies_true, not_true_eq_false, not_false_eq_true, ne_eq, if_true, if_false, Bool.and_true, Bool.true_and, decide_true, decide_false, reduceIte, reduceCtorEq, Bool.and_self, Bool.and_eq_true, decide_eq_true_eq, and_self, true_or, or_true, false_or, or_false, Nat.zero_add, Nat.add_zero, eq_self, Nat.reduceEqDiff, Nat.reduceLeDiff, Nat.reduceLT, Nat.reduceAdd, Nat.reduceSub, Nat.reduceMul, LM_out hL, R303 hL h10' (show n < 31 by omega), rI_at, nI_leP (show 2 ^ n < 2147483648 by omega) (show i < 2147483648 by omega), show (2 ^ n ≤ i) = False from eq_false (by omega), nI_inP (show i < 65536 by omega) (by decide), nI_ix (show i < 2147483648 by omega), (he i hc).1, (he i hc).2, h1, e1, nI_inP h4 (by decide), nI_ix (show yM E n i < 2147483648 by omega), uI_rI, nI_1]
    refine L302_124 hL hB h10 he kk j (i + 1) _ (by omega) (fun k hk => ?_)
    rw [up_at, ct]
    by_cases e : k = yM E n i
    · rw [if_pos e, e, hf _ h4, if_pos (decide_eq_true rfl), nI_1]
    · rw [if_neg e, hf k hk, if_neg (fun h => e (of_decide_eq_true h).symm), Nat.add_zero]
def kvH (I : xI) (m : Nat) (w4 w5 w6 : Nat → Int32) : xI := fun o k => if o = 346 then w4 k else if o = 347 then w5 k else if o = 348 then w6 k else if o = 200 ∧ k = 49 then nI m else I o k
theorem kvH_at (I : xI) (m : Nat) (w4 w5 w6 : Nat → Int32) (o k : Nat) : kvH I m w4 w5 w6 o k = if o = 346 then w4 k else if o = 347 then w5 k else if o = 348 then w6 k else if o = 200 ∧ k = 49 then nI m else I o k := rfl
theorem kvH_add (I : xI) (m : Nat) (w4 w5 w6 : Nat → Int32) (x y z : Int32) : uI (uI (uI (uI (kvH I m w4 w5 w6) 346 m x) 347 m y) 348 m z) 200 49 (nI (m + 1)) = kvH I (m + 1) (up w4 m x) (up w5 m y) (up w6 m z) := by
  funext o k
  simp only [uI_at, kvH_at, up_at]
  by_cases h1 : o = 346
  · subst h1; simp
  · by_cases h2 : o = 347
    · subst h2; simp
    · by_cases h3 : o = 348
      · subst h3; simp
      · by_cases h4 : o = 200 ∧ k = 49
        · simp [h4]
        · simp [h1, h2, h3, h4]
theorem kvH_0 (I : xI) (m : Nat) (h : I 200 49 = nI m) : kvH I m (I 346) (I 347) (I 348) = I := by
  funext o k
  rw [kvH_at]
  split
  · rename_i e; rw [e]
  · split
    · rename_i e; rw [e]
    · split
      · rename_i e; rw [e]
      · split
        · rename_i e; rw [e.1, e.2, h]
        · rfl
theorem L302_177 (hL : LM S R) (hB : EB E n) {N : Nat} (hN : (13233 : Int32) = nI N) (hN2 : N = 13233) (ht : ∀ k, k < 13233 → I 345 k = nI (cM E n k))
    (kk : ∀ w4 w5 w6, GL (fl (fun k => decide (0 < cM E n k)) N) (fun k => nI (k / 33) - 200) (fun k => nI (k % 33) - 16) (fun k => nI (cM E n k)) w4 w5 w6 → xRun xT 302 260 [(0, .ref 200)] [] (S, kvH I (fl (fun k => decide (0 < cM E n k)) N).length w4 w5 w6, J, D, R) b Q)
    (hlen : ∀ k, k ≤ N → (fl (fun k => decide (0 < cM E n k)) k).length ≤ 4913) :
    ∀ (j k : Nat) (w4 w5 w6 : Nat → Int32), k + j = N → GL (fl (fun k => decide (0 < cM E n k)) k) (fun k => nI (k / 33) - 200) (fun k => nI (k % 33) - 16) (fun k => nI (cM E n k)) w4 w5 w6 → xRun xT 302 177 [(0, .ref 200), (1, .int (nI k))] [] (S, kvH I (fl (fun k => decide (0 < cM E n k)) k).length w4 w5 w6, J, D, R) b Q
  | 0, k, w4, w5, w6, hk, hg => by
    have e : k = N := by omega
    subst e
    rw [e302_177]
    simp only [B302_177, xSeq, i_push, i_load, i_iload, i_lload, i_dload, i_aload, i_istore, i_astore, i_lstore, i_dstore, i_iinc, i_ii, i_iiz, i_ll, i_llz, i_lli, i_li, i_i, i_l, i_i2l, i_l2i, i_dup, i_dup2, i_dup2w, i_dupx1, i_pop, i_pop2, i_goto, i_ifc, i_icmp, i_getI, i_getL, i_getR, i_putI, i_putZ, i_putL, i_putR, i_aldI, i_aldB, i_aldL, i_aldD, i_astI, i_astL, i_astD, i_alen, i_ret, i_iret, i_zret, i_lret, i_fret, i_dret, i_aret, i_invS0, i_invV0, i_m2, i_m1, i_ml, i_obj, lk, lkp, stf1, stf2, Value.category, rV, xTo, lv_args, xCk, xCat, xRc, xAk, hg_S, hg_I, hg_J, hg_D, hg_R, hs_I, hs_J, hs_D, hs_R, uI_at, uJ_at, uD_at, uR_at, List.take_succ_cons, List.take_zero, List.drop_succ_cons, List.drop_zero, List.reverse_cons, List.reverse_nil, List.nil_append, List.cons_append, List.map_cons, List.map_nil, List.sum_cons, List.sum_nil, List.length_cons, List.length_nil, Option.toList_some, Option.toList_none, true_and, and_true, false_and, and_false, true_implies, false_implies, implies_true, not_true_eq_false, not_false_eq_true, ne_eq, if_true, if_false, Bool.and_true, Bool.true_and, decide_true, decide_false, reduceIte, reduceCtorEq, Bool.and_self, Bool.and_eq_true, decide_eq_true_eq, and_self, true_or, or_true, false_or, or_false, Nat.zero_add, Nat.add_zero, eq_self, Nat.reduceEqDiff, Nat.reduceLeDiff, Nat.reduceLT, Nat.reduceAdd, Nat.reduceSub, Nat.reduceMul, LM_out hL, hN, nI_leP (show k < 2147483648 by omega) (show k < 2147483648 by omega), Nat.le_refl]
    exact kk w4 w5 w6 hg
  | j + 1, k, w4, w5, w6, hk, hg => by
    obtain ⟨m, hm⟩ : ∃ m, m = (fl (fun k => decide (0 < cM E n k)) k).length := ⟨_, rfl⟩
    have hml : m ≤ 4913 := by rw [hm]; exact hlen k (by omega)
    have ht' : kvH I m w4 w5 w6 345 k = nI (cM E n k) := ht k (by omega)
    have hm' : kvH I m w4 w5 w6 200 49 = nI m := rfl
    have hkk := ht k (by omega)
    have e33 : ((33 : Int32) = 0) = False := eq_false (by decide)
    have d1 : (nI k / 33 : Int32) = nI (k / 33) := by rw [show (33 : Int32) = nI 33 from rfl]; exact pk_div (by omega) (by decide) (by decide)
    have d2 : jRem (nI k) 33 = nI (k % 33) := by rw [show (33 : Int32) = nI 33 from rfl]; exact q_rem (by omega) (by decide) (by decide)
    have ih := L302_177 hL hB hN hN2 ht kk hlen j (k + 1)
    have hcc : cM E n k ≤ 2 ^ n := ct_le _ _
    have hp := pow16 hB.1
    have e7 : (nI (cM E n k) = 0) = (cM E n k = 0) := by rw [show (0 : Int32) = nI 0 from rfl, nI_iff (by omega) (by decide)]
    rw [← hm]
    rw [e302_177]
    simp only [B302_177, xSeq, i_push, i_load, i_iload, i_lload, i_dload, i_aload, i_istore, i_astore, i_lstore, i_dstore, i_iinc, i_ii, i_iiz, i_ll, i_llz, i_lli, i_li, i_i, i_l, i_i2l, i_l2i, i_dup, i_dup2, i_dup2w, i_dupx1, i_pop, i_pop2, i_goto, i_ifc, i_icmp, i_getI, i_getL, i_getR, i_putI, i_putZ, i_putL, i_putR, i_aldI, i_aldB, i_aldL, i_aldD, i_astI, i_astL, i_astD, i_alen, i_ret, i_iret, i_zret, i_lret, i_fret, i_dret, i_aret, i_invS0, i_invV0, i_m2, i_m1, i_ml, i_obj, lk, lkp, stf1, stf2, Value.category, rV, xTo, lv_args, xCk, xCat, xRc, xAk, hg_S, hg_I, hg_J, hg_D, hg_R, hs_I, hs_J, hs_D, hs_R, uI_at, uJ_at, uD_at, uR_at, List.take_succ_cons, List.take_zero, List.drop_succ_cons, List.drop_zero, List.reverse_cons, List.reverse_nil, List.nil_append, List.cons_append, List.map_cons, List.map_nil, List.sum_cons, List.sum_nil, List.length_cons, List.length_nil, Option.toList_some, Option.toList_none, true_and, and_true, false_and, and_false, true_implies, false_implies, implies_true, not_true_eq_false, not_false_eq_true, ne_eq, if_true, if_false, Bool.and_true, Bool.true_and, decide_true, decide_false, reduceIte, reduceCtorEq, Bool.and_self, Bool.and_eq_true, decide_eq_true_eq, and_self, true_or, or_true, false_or, or_false, Nat.zero_add, Nat.add_zero, eq_self, Nat.reduceEqDiff, Nat.reduceLeDiff, Nat.reduceLT, Nat.reduceAdd, Nat.reduceSub, Nat.reduceMul, LM_out hL, hN, nI_leP (show N < 2147483648 by omega) (show k < 2147483648 by omega), show (N ≤ k) = False from eq_false (by omega), nI_inP (show k < 13233 by omega) (by decide), nI_ix (show k < 2147483648 by omega), ht', e7, e302_254, B302_254, nI_1]
    by_cases hc : 0 < cM E n k
    · have hc0 : (cM E n k = 0) = False := eq_false (by omega)
      simp only [hc0, ne_eq, not_false_eq_true, xSeq, i_push, i_load, i_iload, i_lload, i_dload, i_aload, i_istore, i_astore, i_lstore, i_dstore, i_iinc, i_ii, i_iiz, i_ll, i_llz, i_lli, i_li, i_i, i_l, i_i2l, i_l2i, i_dup, i_dup2, i_dup2w, i_dupx1, i_pop, i_pop2, i_goto, i_ifc, i_icmp, i_getI, i_getL, i_getR, i_putI, i_putZ, i_putL, i_putR, i_aldI, i_aldB, i_aldL, i_aldD, i_astI, i_astL, i_astD, i_alen, i_ret, i_iret, i_zret, i_lret, i_fret, i_dret, i_aret, i_invS0, i_invV0, i_m2, i_m1, i_ml, i_obj, lk, lkp, stf1, stf2, Value.category, rV, xTo, lv_args, xCk, xCat, xRc, xAk, hg_S, hg_I, hg_J, hg_D, hg_R, hs_I, hs_J, hs_D, hs_R, uI_at, uJ_at, uD_at, uR_at, List.take_succ_cons, List.take_zero, List.drop_succ_cons, List.drop_zero, List.reverse_cons, List.reverse_nil, List.nil_append, List.cons_append, List.map_cons, List.map_nil, List.sum_cons, List.sum_nil, List.length_cons, List.length_nil, Option.toList_some, Option.toList_none, true_and, and_true, false_and, and_false, true_implies, false_implies, implies_true, not_true_eq_false, not_false_eq_true, ne_eq, if_true, if_false, Bool.and_true, Bool.true_and, decide_true, decide_false, reduceIte, reduceCtorEq, Bool.and_self, Bool.and_eq_true, decide_eq_true_eq, and_self, true_or, or_true, false_or, or_false, Nat.zero_add, Nat.add_zero, eq_self, Nat.reduceEqDiff, Nat.reduceLeDiff, Nat.reduceLT, Nat.reduceAdd, Nat.reduceSub, Nat.reduceMul, e302_196, B302_196, LM_out hL, uI_at, hm', ht', e33, d1, d2, nI_inP (show m < 6000 by omega) (by decide), nI_ix (show m < 2147483648 by omega), nI_inP (show k < 13233 by omega) (by decide), nI_ix (show k < 2147483648 by omega), nI_1, kvH_add, e302_254, B302_254]
      have e8 := lv_up (p := fun k => decide (0 < cM E n k)) (k := k) (decide_eq_true hc)
      have hg2 := GL_add hg k
      rw [← e8, ← hm] at hg2
      have ih2 := ih _ _ _ (by omega) hg2
      have e9 : (fl (fun k => decide (0 < cM E n k)) (k + 1)).length = m + 1 := by
        rw [e8, List.length_append, ← hm]
        rfl
      rw [e9] at ih2
      exact ih2
    · have hc0 : (cM E n k = 0) = True := eq_true (by omega)
      have e8 := lv_no (p := fun k => decide (0 < cM E n k)) (k := k) (fun h => hc (of_decide_eq_true h))
      simp only [hc0, ne_eq, not_true_eq_false, xSeq, i_push, i_load, i_iload, i_lload, i_dload, i_aload, i_istore, i_astore, i_lstore, i_dstore, i_iinc, i_ii, i_iiz, i_ll, i_llz, i_lli, i_li, i_i, i_l, i_i2l, i_l2i, i_dup, i_dup2, i_dup2w, i_dupx1, i_pop, i_pop2, i_goto, i_ifc, i_icmp, i_getI, i_getL, i_getR, i_putI, i_putZ, i_putL, i_putR, i_aldI, i_aldB, i_aldL, i_aldD, i_astI, i_astL, i_astD, i_alen, i_ret, i_iret, i_zret, i_lret, i_fret, i_dret, i_aret, i_invS0, i_invV0, i_m2, i_m1, i_ml, i_obj, lk, lkp, stf1, stf2, Value.category, rV, xTo, lv_args, xCk, xCat, xRc, xAk, hg_S, hg_I, hg_J, hg_D, hg_R, hs_I, hs_J, hs_D, hs_R, uI_at, uJ_at, uD_at, uR_at, List.take_succ_cons, List.take_zero, List.drop_succ_cons, List.drop_zero, List.reverse_cons, List.reverse_nil, List.nil_append, List.cons_append, List.map_cons, List.map_nil, List.sum_cons, List.sum_nil, List.length_cons, List.length_nil, Option.toList_some, Option.toList_none, true_and, and_true, false_and, and_false, true_implies, false_implies, implies_true, not_true_eq_false, not_false_eq_true, ne_eq, if_true, if_false, Bool.and_true, Bool.true_and, decide_true, decide_false, reduceIte, reduceCtorEq, Bool.and_self, Bool.and_eq_true, decide_eq_true_eq, and_self, true_or, or_true, false_or, or_false, Nat.zero_add, Nat.add_zero, eq_self, Nat.reduceEqDiff, Nat.reduceLeDiff, Nat.reduceLT, Nat.reduceAdd, Nat.reduceSub, Nat.reduceMul]
      have ih2 := ih w4 w5 w6 (by omega) (by rw [e8]; exact hg)
      rw [e8, ← hm] at ih2
      exact ih2
/-- the model knows its levels -/
def XM (n : Nat) (E : Nat → Int32) (I : xI) : Prop := I 200 51 = 1 ∧ I 200 49 = nI (lv E n).length ∧ I 200 50 = gE ((lv E n).getD 0 0) ∧ GL (lv E n) gE (gM n) (gN E n) (I 346) (I 347) (I 348) ∧ ∀ c, c < 2 ^ n → I 343 c = E c
/-- what knowing may change -/
abbrev nm (o k : Nat) : Prop := (343 ≤ o ∧ o ≤ 348) ∨ (o = 200 ∧ 49 ≤ k ∧ k ≤ 51)
theorem fl_mono (p : Nat → Bool) : ∀ (d a : Nat), (fl p a).length ≤ (fl p (a + d)).length
  | 0, _ => Nat.le_refl _
  | d + 1, a => by
    have := fl_mono p d a
    show _ ≤ (fl p (a + d + 1)).length
    rw [fl]
    split
    · rw [List.length_append]
      omega
    · exact this
theorem L302 (hL : LM S R) (hG : GR n m fi se dg sb) (hN : GN n m fi se dg sb) (hC : CM I n m fi se dg sb) (hn : n ≤ 16) (hm : m ≤ 32) (hs : SB (I 300 4) (fun k => I 300 (16 + k)) m) (hz : I 200 51 = 0)
    (kk : ∀ I', XM n (en (I 300 4) (fun k => I 300 (16 + k)) n m fi se) I' → (∀ o k, ¬ nm o k → I' o k = I o k) → Q (.ok none) (S, I', J, D, R) b) :
    xRun xT 302 0 [(0, .ref 200)] [] (S, I, J, D, R) b Q := by
  have hp := pow16 hn
  have hp0 := Nat.two_pow_pos n
  obtain ⟨E, hE⟩ : ∃ E, E = en (I 300 4) (fun k => I 300 (16 + k)) n m fi se := ⟨_, rfl⟩
  rw [← hE] at kk
  have hB : EB E n := by rw [hE]; exact en_EB hs hn hm
  obtain ⟨f0, z1, z2⟩ := R302_z (I := uI I 200 51 1) hL
  obtain ⟨I1, hI1⟩ : ∃ I1, I1 = rI (uI I 200 51 1) 345 f0 := ⟨_, rfl⟩
  have c300 : I1 300 = I 300 := by rw [hI1]; rfl
  have hC1 : CM I1 n m fi se dg sb := by rw [hI1]; exact CM_r (CM_u hC (by decide)) (by decide)
  have hF : I1 300 4 = I 300 4 := by rw [c300]
  have hS : (fun k => I1 300 (16 + k)) = fun k => I 300 (16 + k) := by rw [c300]
  have h250 : ∀ (b : Nat × Nat) (Q : xQ), xRun xT 250 0 [(0, .ref 200), (1, .long 0)] [] (S, I1, J, D, R) b Q = Q (.ok (some (.int (en (I1 300 4) (fun k => I1 300 (16 + k)) n m fi se 0)))) (S, I1, J, D, R) b := fun b Q => R250 (s := 0) hL hG hC1 (by decide)
  rw [hF, hS, ← hE] at h250
  have em : (-nI n : Int32) = mg n 0 := by
    rw [mg_pop, show pop n 0 = 0 from ?_, nI_0]
    · grind
    · have h1 := pop_up (n := 0) (s := 0) (by decide) n
      rw [Nat.zero_add] at h1
      rw [h1]
      rfl
  have sw : uI (uI I1 343 0 (E 0)) 344 0 (mg n 0) = rI (rI I1 343 (up (I1 343) 0 (E 0))) 344 (up (I1 344) 0 (mg n 0)) := by
    rw [← uI_rI, ← uI_rI, rI_self]
    rw [show rI (uI I1 343 0 (E 0)) 344 (I1 344) = uI I1 343 0 (E 0) from rI_self (uI I1 343 0 (E 0)) 344]
  have h10 : I1 300 10 = nI n := hC1.1
  rw [e302_0]
  simp only [B302_0, xSeq, i_push, i_load, i_iload, i_lload, i_dload, i_aload, i_istore, i_astore, i_lstore, i_dstore, i_iinc, i_ii, i_iiz, i_ll, i_llz, i_lli, i_li, i_i, i_l, i_i2l, i_l2i, i_dup, i_dup2, i_dup2w, i_dupx1, i_pop, i_pop2, i_goto, i_ifc, i_icmp, i_getI, i_getL, i_getR, i_putI, i_putZ, i_putL, i_putR, i_aldI, i_aldB, i_aldL, i_aldD, i_astI, i_astL, i_astD, i_alen, i_ret, i_iret, i_zret, i_lret, i_fret, i_dret, i_aret, i_invS0, i_invV0, i_m2, i_m1, i_ml, i_obj, lk, lkp, stf1, stf2, Value.category, rV, xTo, lv_args, xCk, xCat, xRc, xAk, hg_S, hg_I, hg_J, hg_D, hg_R, hs_I, hs_J, hs_D, hs_R, uI_at, uJ_at, uD_at, uR_at, List.take_succ_cons, List.take_zero, List.drop_succ_cons, List.drop_zero, List.reverse_cons, List.reverse_nil, List.nil_append, List.cons_append, List.map_cons, List.map_nil, List.sum_cons, List.sum_nil, List.length_cons, List.length_nil, Option.toList_some, Option.toList_none, true_and, and_true, false_and, and_false, true_implies, false_implies, implies_true, not_true_eq_false, not_false_eq_true, ne_eq, if_true, if_false, Bool.and_true, Bool.true_and, decide_true, decide_false, reduceIte, reduceCtorEq, Bool.and_self, Bool.and_eq_true, decide_eq_true_eq, and_self, true_or, or_true, false_or, or_false, Nat.zero_add, Nat.add_zero, eq_self, Nat.reduceEqDiff, Nat.reduceLeDiff, Nat.reduceLT, Nat.reduceAdd, Nat.reduceSub, Nat.reduceMul, LM_out hL, hz]
  rw [e302_8]
  simp only [B302_8, xSeq, i_push, i_load, i_iload, i_lload, i_dload, i_aload, i_istore, i_astore, i_lstore, i_dstore, i_iinc, i_ii, i_iiz, i_ll, i_llz, i_lli, i_li, i_i, i_l, i_i2l, i_l2i, i_dup, i_dup2, i_dup2w, i_dupx1, i_pop, i_pop2, i_goto, i_ifc, i_icmp, i_getI, i_getL, i_getR, i_putI, i_putZ, i_putL, i_putR, i_aldI, i_aldB, i_aldL, i_aldD, i_astI, i_astL, i_astD, i_alen, i_ret, i_iret, i_zret, i_lret, i_fret, i_dret, i_aret, i_invS0, i_invV0, i_m2, i_m1, i_ml, i_obj, lk, lkp, stf1, stf2, Value.category, rV, xTo, lv_args, xCk, xCat, xRc, xAk, hg_S, hg_I, hg_J, hg_D, hg_R, hs_I, hs_J, hs_D, hs_R, uI_at, uJ_at, uD_at, uR_at, List.take_succ_cons, List.take_zero, List.drop_succ_cons, List.drop_zero, List.reverse_cons, List.reverse_nil, List.nil_append, List.cons_append, List.map_cons, List.map_nil, List.sum_cons, List.sum_nil, List.length_cons, List.length_nil, Option.toList_some, Option.toList_none, true_and, and_true, false_and, and_false, true_implies, false_implies, implies_true, not_true_eq_false, not_false_eq_true, ne_eq, if_true, if_false, Bool.and_true, Bool.true_and, decide_true, decide_false, reduceIte, reduceCtorEq, Bool.and_self, Bool.and_eq_true, decide_eq_true_eq, and_self, true_or, or_true, false_or, or_false, Nat.zero_add, Nat.add_zero, eq_self, Nat.reduceEqDiff, Nat.reduceLeDiff, Nat.reduceLT, Nat.reduceAdd, Nat.reduceSub, Nat.reduceMul, LM_out hL]
  rw [z2, ← hI1, e302_35]
  simp only [B302_35, xSeq, i_push, i_load, i_iload, i_lload, i_dload, i_aload, i_istore, i_astore, i_lstore, i_dstore, i_iinc, i_ii, i_iiz, i_ll, i_llz, i_lli, i_li, i_i, i_l, i_i2l, i_l2i, i_dup, i_dup2, i_dup2w, i_dupx1, i_pop, i_pop2, i_goto, i_ifc, i_icmp, i_getI, i_getL, i_getR, i_putI, i_putZ, i_putL, i_putR, i_aldI, i_aldB, i_aldL, i_aldD, i_astI, i_astL, i_astD, i_alen, i_ret, i_iret, i_zret, i_lret, i_fret, i_dret, i_aret, i_invS0, i_invV0, i_m2, i_m1, i_ml, i_obj, lk, lkp, stf1, stf2, Value.category, rV, xTo, lv_args, xCk, xCat, xRc, xAk, hg_S, hg_I, hg_J, hg_D, hg_R, hs_I, hs_J, hs_D, hs_R, uI_at, uJ_at, uD_at, uR_at, List.take_succ_cons, List.take_zero, List.drop_succ_cons, List.drop_zero, List.reverse_cons, List.reverse_nil, List.nil_append, List.cons_append, List.map_cons, List.map_nil, List.sum_cons, List.sum_nil, List.length_cons, List.length_nil, Option.toList_some, Option.toList_none, true_and, and_true, false_and, and_false, true_implies, false_implies, implies_true, not_true_eq_false, not_false_eq_true, ne_eq, if_true, if_false, Bool.and_true, Bool.true_and, decide_true, decide_false, reduceIte, reduceCtorEq, Bool.and_self, Bool.and_eq_true, decide_eq_true_eq, and_self, true_or, or_true, false_or, or_false, Nat.zero_add, Nat.add_zero, eq_self, Nat.reduceEqDiff, Nat.reduceLeDiff, Nat.reduceLT, Nat.reduceAdd, Nat.reduceSub, Nat.reduceMul, xi144_0, ix_0, xi144_1, ix_1, xi144_2, ix_2, xi144_3, ix_3, xi144_4, ix_4, xi144_5, ix_5, xi144_6, ix_6, xi144_7, ix_7, xi144_8, ix_8, xi144_9, ix_9, xi144_10, ix_10, LM_out hL, h250, h10, xi0 (show 0 < 65536 by decide) (by decide), ix_0, em, sw]
  have h62 := L302_62 (I := I1) (J := J) (D := D) (b := b) (Q := Q) hL hG hN hC1 hn (fun f g hfg => ?_) (2 ^ n - 1) 1 (up (I1 343) 0 (E 0)) (up (I1 344) 0 (mg n 0)) (by omega) (by decide) (fun c hc => by
    have e : c = 0 := by omega
    rw [up_at, up_at, if_pos e, if_pos e, e, hF, hS, ← hE]
    exact ⟨rfl, rfl⟩)
  · exact h62
  · rw [hF, hS, ← hE] at hfg
    obtain ⟨I2, hI2⟩ : ∃ I2, I2 = rI (rI I1 343 f) 344 g := ⟨_, rfl⟩
    rw [← hI2]
    have he2 : ∀ c, c < 2 ^ n → I2 343 c = E c ∧ I2 344 c = mg n c := fun c hc => by rw [hI2]; exact hfg c hc
    have h345 : rI I2 345 (I2 345) = I2 := rI_self I2 345
    have h124 := L302_124 (I := I2) (J := J) (D := D) (b := b) (Q := Q) hL hB (by rw [hI2]; exact h10) he2 (fun t ht => ?_) (2 ^ n) 0 (I2 345) (by omega) (fun k hk => by
      rw [hI2]
      show I1 345 k = _
      rw [hI1]
      exact z1 k hk)
    · rw [h345, nI_0] at h124
      rw [e302_122]
      simp only [B302_122, xSeq, i_push, i_load, i_iload, i_lload, i_dload, i_aload, i_istore, i_astore, i_lstore, i_dstore, i_iinc, i_ii, i_iiz, i_ll, i_llz, i_lli, i_li, i_i, i_l, i_i2l, i_l2i, i_dup, i_dup2, i_dup2w, i_dupx1, i_pop, i_pop2, i_goto, i_ifc, i_icmp, i_getI, i_getL, i_getR, i_putI, i_putZ, i_putL, i_putR, i_aldI, i_aldB, i_aldL, i_aldD, i_astI, i_astL, i_astD, i_alen, i_ret, i_iret, i_zret, i_lret, i_fret, i_dret, i_aret, i_invS0, i_invV0, i_m2, i_m1, i_ml, i_obj, lk, lkp, stf1, stf2, Value.category, rV, xTo, lv_args, xCk, xCat, xRc, xAk, hg_S, hg_I, hg_J, hg_D, hg_R, hs_I, hs_J, hs_D, hs_R, uI_at, uJ_at, uD_at, uR_at, List.take_succ_cons, List.take_zero, List.drop_succ_cons, List.drop_zero, List.reverse_cons, List.reverse_nil, List.nil_append, List.cons_append, List.map_cons, List.map_nil, List.sum_cons, List.sum_nil, List.length_cons, List.length_nil, Option.toList_some, Option.toList_none, true_and, and_true, false_and, and_false, true_implies, false_implies, implies_true, not_true_eq_false, not_false_eq_true, ne_eq, if_true, if_false, Bool.and_true, Bool.true_and, decide_true, decide_false, reduceIte, reduceCtorEq, Bool.and_self, Bool.and_eq_true, decide_eq_true_eq, and_self, true_or, or_true, false_or, or_false, Nat.zero_add, Nat.add_zero, eq_self, Nat.reduceEqDiff, Nat.reduceLeDiff, Nat.reduceLT, Nat.reduceAdd, Nat.reduceSub, Nat.reduceMul]
      exact h124
    · obtain ⟨I3, hI3⟩ : ∃ I3, I3 = uI (rI I2 345 t) 200 49 0 := ⟨_, rfl⟩
      obtain ⟨N, hN2⟩ : ∃ N : Nat, N = 13233 := ⟨_, rfl⟩
      have hNN : (13233 : Int32) = nI N := by rw [hN2]; decide
      have ht3 : ∀ k, k < 13233 → I3 345 k = nI (cM E n k) := fun k hk => by rw [hI3]; exact ht k hk
      have hlen : ∀ k, k ≤ N → (fl (fun k => decide (0 < cM E n k)) k).length ≤ 4913 := fun k hk => by
        have h1 := fl_mono (fun k => decide (0 < cM E n k)) (13233 - k) k
        rw [show k + (13233 - k) = 13233 by omega, lv_map hB, List.length_map] at h1
        exact Nat.le_trans h1 (lv_len E n)
      have h177 := L302_177 (I := I3) (J := J) (D := D) (b := b) (Q := Q) hL hB hNN hN2 ht3 (fun w4 w5 w6 hg => ?_) hlen N 0 (I3 346) (I3 347) (I3 348) (by omega) GL_0
      · have e0 : kvH I3 (fl (fun k => decide (0 < cM E n k)) 0).length (I3 346) (I3 347) (I3 348) = I3 := kvH_0 I3 0 (by rw [hI3]; rfl)
        rw [e0, nI_0] at h177
        rw [e302_170]
        simp only [B302_170, xSeq, i_push, i_load, i_iload, i_lload, i_dload, i_aload, i_istore, i_astore, i_lstore, i_dstore, i_iinc, i_ii, i_iiz, i_ll, i_llz, i_lli, i_li, i_i, i_l, i_i2l, i_l2i, i_dup, i_dup2, i_dup2w, i_dupx1, i_pop, i_pop2, i_goto, i_ifc, i_icmp, i_getI, i_getL, i_getR, i_putI, i_putZ, i_putL, i_putR, i_aldI, i_aldB, i_aldL, i_aldD, i_astI, i_astL, i_astD, i_alen, i_ret, i_iret, i_zret, i_lret, i_fret, i_dret, i_aret, i_invS0, i_invV0, i_m2, i_m1, i_ml, i_obj, lk, lkp, stf1, stf2, Value.category, rV, xTo, lv_args, xCk, xCat, xRc, xAk, hg_S, hg_I, hg_J, hg_D, hg_R, hs_I, hs_J, hs_D, hs_R, uI_at, uJ_at, uD_at, uR_at, List.take_succ_cons, List.take_zero, List.drop_succ_cons, List.drop_zero, List.reverse_cons, List.reverse_nil, List.nil_append, List.cons_append, List.map_cons, List.map_nil, List.sum_cons, List.sum_nil, List.length_cons, List.length_nil, Option.toList_some, Option.toList_none, true_and, and_true, false_and, and_false, true_implies, false_implies, implies_true, not_true_eq_false, not_false_eq_true, ne_eq, if_true, if_false, Bool.and_true, Bool.true_and, decide_true, decide_false, reduceIte, reduceCtorEq, Bool.and_self, Bool.and_eq_true, decide_eq_true_eq, and_self, true_or, or_true, false_or, or_false, Nat.zero_add, Nat.add_zero, eq_self, Nat.reduceEqDiff, Nat.reduceLeDiff, Nat.reduceLT, Nat.reduceAdd, Nat.reduceSub, Nat.reduceMul, LM_out hL]
        rw [← hI3]
        exact h177
      · rw [hN2] at hg ⊢
        have hg2 := GL_map hB hg
        have hl2 : (fl (fun k => decide (0 < cM E n k)) 13233).length = (lv E n).length := by rw [lv_map hB, List.length_map]
        rw [hl2]
        have e4 : kvH I3 (lv E n).length w4 w5 w6 346 0 = w4 0 := rfl
        rw [e302_260]
        simp only [B302_260, xSeq, i_push, i_load, i_iload, i_lload, i_dload, i_aload, i_istore, i_astore, i_lstore, i_dstore, i_iinc, i_ii, i_iiz, i_ll, i_llz, i_lli, i_li, i_i, i_l, i_i2l, i_l2i, i_dup, i_dup2, i_dup2w, i_dupx1, i_pop, i_pop2, i_goto, i_ifc, i_icmp, i_getI, i_getL, i_getR, i_putI, i_putZ, i_putL, i_putR, i_aldI, i_aldB, i_aldL, i_aldD, i_astI, i_astL, i_astD, i_alen, i_ret, i_iret, i_zret, i_lret, i_fret, i_dret, i_aret, i_invS0, i_invV0, i_m2, i_m1, i_ml, i_obj, lk, lkp, stf1, stf2, Value.category, rV, xTo, lv_args, xCk, xCat, xRc, xAk, hg_S, hg_I, hg_J, hg_D, hg_R, hs_I, hs_J, hs_D, hs_R, uI_at, uJ_at, uD_at, uR_at, List.take_succ_cons, List.take_zero, List.drop_succ_cons, List.drop_zero, List.reverse_cons, List.reverse_nil, List.nil_append, List.cons_append, List.map_cons, List.map_nil, List.sum_cons, List.sum_nil, List.length_cons, List.length_nil, Option.toList_some, Option.toList_none, true_and, and_true, false_and, and_false, true_implies, false_implies, implies_true, not_true_eq_false, not_false_eq_true, ne_eq, if_true, if_false, Bool.and_true, Bool.true_and, decide_true, decide_false, reduceIte, reduceCtorEq, Bool.and_self, Bool.and_eq_true, decide_eq_true_eq, and_self, true_or, or_true, false_or, or_false, Nat.zero_add, Nat.add_zero, eq_self, Nat.reduceEqDiff, Nat.reduceLeDiff, Nat.reduceLT, Nat.reduceAdd, Nat.reduceSub, Nat.reduceMul, LM_out hL, xi0 (show 0 < 6000 by decide) (by decide), ix_0, e4]
        refine kk _ ⟨?_, rfl, (hg2 0 (lv_pos hB)).1, hg2, fun c hc => ?_⟩ (fun o k a => ?_)
        · show I3 200 51 = 1
          rw [hI3, hI2, hI1]
          rfl
        · show I3 343 c = E c
          rw [hI3]
          exact (he2 c hc).1
        · rw [uI_at, if_neg (by omega), kvH_at, if_neg (by omega), if_neg (by omega), if_neg (by omega), if_neg (by omega), hI3, uI_at, if_neg (by omega), rI_at, if_neg (by omega), hI2, rI_at, if_neg (by omega), rI_at, if_neg (by omega), hI1, rI_at, if_neg (by omega), uI_at, if_neg (by omega)]
theorem R301 (hL : LM S R) (h : I 300 10 = nI n) (hn : n ≤ 16) {v : Int32} : xRun xT 301 0 [(0, .ref 200), (1, .int v)] [] (S, I, J, D, R) b Q = Q (.ok (some (.int 0))) (S, I, J, D, R) b := by
  have e1 : (nI n ≤ 16) = True := eq_true (by rw [show (16 : Int32) = nI 16 from rfl]; exact (nI_leI (by omega) (by decide)).mpr hn)
  rw [e301_0]
  simp only [B301_0, xSeq, i_push, i_load, i_iload, i_lload, i_dload, i_aload, i_istore, i_astore, i_lstore, i_dstore, i_iinc, i_ii, i_iiz, i_ll, i_llz, i_lli, i_li, i_i, i_l, i_i2l, i_l2i, i_dup, i_dup2, i_dup2w, i_dupx1, i_pop, i_pop2, i_goto, i_ifc, i_icmp, i_getI, i_getL, i_getR, i_putI, i_putZ, i_putL, i_putR, i_aldI, i_aldB, i_aldL, i_aldD, i_astI, i_astL, i_astD, i_alen, i_ret, i_iret, i_zret, i_lret, i_fret, i_dret, i_aret, i_invS0, i_invV0, i_m2, i_m1, i_ml, i_obj, lk, lkp, stf1, stf2, Value.category, rV, xTo, lv_args, xCk, xCat, xRc, xAk, hg_S, hg_I, hg_J, hg_D, hg_R, hs_I, hs_J, hs_D, hs_R, uI_at, uJ_at, uD_at, uR_at, List.take_succ_cons, List.take_zero, List.drop_succ_cons, List.drop_zero, List.reverse_cons, List.reverse_nil, List.nil_append, List.cons_append, List.map_cons, List.map_nil, List.sum_cons, List.sum_nil, List.length_cons, List.length_nil, Option.toList_some, Option.toList_none, true_and, and_true, false_and, and_false, true_implies, false_implies, implies_true, not_true_eq_false, not_false_eq_true, ne_eq, if_true, if_false, Bool.and_true, Bool.true_and, decide_true, decide_false, reduceIte, reduceCtorEq, Bool.and_self, Bool.and_eq_true, decide_eq_true_eq, and_self, true_or, or_true, false_or, or_false, Nat.zero_add, Nat.add_zero, eq_self, Nat.reduceEqDiff, Nat.reduceLeDiff, Nat.reduceLT, Nat.reduceAdd, Nat.reduceSub, Nat.reduceMul, xi144_0, ix_0, xi144_1, ix_1, xi144_2, ix_2, xi144_3, ix_3, xi144_4, ix_4, xi144_5, ix_5, xi144_6, ix_6, xi144_7, ix_7, xi144_8, ix_8, xi144_9, ix_9, xi144_10, ix_10, LM_out hL, h, e1, e301_17, B301_17, e301_18, B301_18, R234 hL (v := 0) (Or.inl rfl)]
end
