/-! ===== unbalanced, under metropolis ===== -/
section
variable {S : xS} {I : xI} {J : xJ} {D : xDb} {R : xR} {b : Nat × Nat} {Q : xQ} {n : Nat} {E : Nat → Int32}
/-- what a pair's two sides come to -/
def bal (d : Int32) : Bool := decide ((if d ≤ 0 then 0 else d) = d + (if -d ≤ 0 then 0 else -d)) && !decide ((if d ≤ 0 then 0 else d) = -1) && !decide ((if -d ≤ 0 then 0 else -d) = -1)
theorem bal_n : ∀ k, k < 577 → bal (nI k - 288) = true := by decide +kernel
theorem R113 (hL : LC S R) (h9 : I 110 9 = 0) {d : Int32} (hd : bal d = true) : xRun xT 113 0 [(0, .ref 130), (1, .int d)] [] (S, I, J, D, R) b Q = Q (.ok (some (.int 1))) (S, I, J, D, R) b := by
  have h02 : ((0 : Int32) = 2) = False := eq_false (by decide)
  have h01 : ((0 : Int32) = 1) = False := eq_false (by decide)
  unfold bal at hd
  rw [Bool.and_eq_true, Bool.and_eq_true, Bool.not_eq_true', Bool.not_eq_true', decide_eq_true_eq, decide_eq_false_iff_not, decide_eq_false_iff_not] at hd
  obtain ⟨⟨q1, q2⟩, q3⟩ := hd
  have q2' : ((if d ≤ 0 then 0 else d) = -1) = False := eq_false q2
  have q3' : ((if -d ≤ 0 then 0 else -d) = -1) = False := eq_false q3
  have r1 := fun (Q : xQ) => R82 (S := S) (I := I) (J := J) (D := D) (R := R) (b := (0, 0)) (Q := Q) hL (d := d)
  have r2 := fun (Q : xQ) => R82 (S := S) (I := I) (J := J) (D := D) (R := R) (b := (0, 0)) (Q := Q) hL (d := -d)
  simp only [h9, h02, h01, false_or, if_false] at r1 r2
  obtain ⟨x, hx⟩ : ∃ x, x = (if d ≤ 0 then 0 else d) := ⟨_, rfl⟩
  obtain ⟨y, hy⟩ : ∃ y, y = (if -d ≤ 0 then 0 else -d) := ⟨_, rfl⟩
  rw [← hx] at q1 q2' r1
  rw [← hy] at q1 q3' r2
  rw [e113_0]
  simp only [B113_0, xSeq, i_push, i_load, i_iload, i_lload, i_dload, i_aload, i_istore, i_astore, i_lstore, i_dstore, i_iinc, i_ii, i_iiz, i_ll, i_llz, i_lli, i_li, i_i, i_l, i_i2l, i_l2i, i_dup, i_dup2, i_dup2w, i_dupx1, i_pop, i_pop2, i_goto, i_ifc, i_icmp, i_getI, i_getL, i_getR, i_putI, i_putZ, i_putL, i_putR, i_aldI, i_aldB, i_aldL, i_aldD, i_astI, i_astL, i_astD, i_alen, i_ret, i_iret, i_zret, i_lret, i_fret, i_dret, i_aret, i_invS0, i_invV0, i_m2, i_m1, i_ml, i_obj, lk, lkp, stf1, stf2, Value.category, rV, xTo, lv_args, xCk, xCat, xRc, xAk, hg_S, hg_I, hg_J, hg_D, hg_R, hs_I, hs_J, hs_D, hs_R, uI_at, uJ_at, uD_at, uR_at, List.take_succ_cons, List.take_zero, List.drop_succ_cons, List.drop_zero, List.reverse_cons, List.reverse_nil, List.nil_append, List.cons_append, List.map_cons, List.map_nil, List.sum_cons, List.sum_nil, List.length_cons, List.length_nil, Option.toList_some, Option.toList_none, true_and, and_true, false_and, and_false, true_implies, false_implies, implies_true, not_true_eq_false, not_false_eq_true, ne_eq, if_true, if_false, Bool.and_true, Bool.true_and, decide_true, decide_false, reduceIte, reduceCtorEq, Bool.and_self, Bool.and_eq_true, decide_eq_true_eq, and_self, true_or, or_true, false_or, or_false, Nat.zero_add, Nat.add_zero, eq_self, Nat.reduceEqDiff, Nat.reduceLeDiff, Nat.reduceLT, Nat.reduceAdd, Nat.reduceSub, Nat.reduceMul, LC_out hL, r1, r2, q2', q3']
  simp only [← q1, ne_eq, not_true_eq_false, xSeq, i_push, i_load, i_iload, i_lload, i_dload, i_aload, i_istore, i_astore, i_lstore, i_dstore, i_iinc, i_ii, i_iiz, i_ll, i_llz, i_lli, i_li, i_i, i_l, i_i2l, i_l2i, i_dup, i_dup2, i_dup2w, i_dupx1, i_pop, i_pop2, i_goto, i_ifc, i_icmp, i_getI, i_getL, i_getR, i_putI, i_putZ, i_putL, i_putR, i_aldI, i_aldB, i_aldL, i_aldD, i_astI, i_astL, i_astD, i_alen, i_ret, i_iret, i_zret, i_lret, i_fret, i_dret, i_aret, i_invS0, i_invV0, i_m2, i_m1, i_ml, i_obj, lk, lkp, stf1, stf2, Value.category, rV, xTo, lv_args, xCk, xCat, xRc, xAk, hg_S, hg_I, hg_J, hg_D, hg_R, hs_I, hs_J, hs_D, hs_R, uI_at, uJ_at, uD_at, uR_at, List.take_succ_cons, List.take_zero, List.drop_succ_cons, List.drop_zero, List.reverse_cons, List.reverse_nil, List.nil_append, List.cons_append, List.map_cons, List.map_nil, List.sum_cons, List.sum_nil, List.length_cons, List.length_nil, Option.toList_some, Option.toList_none, true_and, and_true, false_and, and_false, true_implies, false_implies, implies_true, not_true_eq_false, not_false_eq_true, ne_eq, if_true, if_false, Bool.and_true, Bool.true_and, decide_true, decide_false, reduceIte, reduceCtorEq, Bool.and_self, Bool.and_eq_true, decide_eq_true_eq, and_self, true_or, or_true, false_or, or_false, Nat.zero_add, Nat.add_zero, eq_self, Nat.reduceEqDiff, Nat.reduceLeDiff, Nat.reduceLT, Nat.reduceAdd, Nat.reduceSub, Nat.reduceMul, e113_41, B113_41]
theorem L112_24 (hL : LC S R) (hX : XL n E S I R) (hB : EB E n) {t : Nat} (ht : t < n)
    (kk : ∀ f, xRun xT 112 72 [(0, .ref 130), (1, .int (nI t))] [] (S, rI I 153 f, J, D, R) b Q) :
    ∀ (j i : Nat) (f : Nat → Int32), i + j = 2 ^ n → xRun xT 112 24 [(0, .ref 130), (1, .int (nI t)), (2, .int (nI (2 ^ t))), (3, .int (nI i))] [] (S, rI I 153 f, J, D, R) b Q
  | 0, i, f, hi => by
    have hp := pow16 hB.1
    have e : i = 2 ^ n := by omega
    rw [e112_24]
    simp only [B112_24, xSeq, i_push, i_load, i_iload, i_lload, i_dload, i_aload, i_istore, i_astore, i_lstore, i_dstore, i_iinc, i_ii, i_iiz, i_ll, i_llz, i_lli, i_li, i_i, i_l, i_i2l, i_l2i, i_dup, i_dup2, i_dup2w, i_dupx1, i_pop, i_pop2, i_goto, i_ifc, i_icmp, i_getI, i_getL, i_getR, i_putI, i_putZ, i_putL, i_putR, i_aldI, i_aldB, i_aldL, i_aldD, i_astI, i_astL, i_astD, i_alen, i_ret, i_iret, i_zret, i_lret, i_fret, i_dret, i_aret, i_invS0, i_invV0, i_m2, i_m1, i_ml, i_obj, lk, lkp, stf1, stf2, Value.category, rV, xTo, lv_args, xCk, xCat, xRc, xAk, hg_S, hg_I, hg_J, hg_D, hg_R, hs_I, hs_J, hs_D, hs_R, uI_at, uJ_at, uD_at, uR_at, List.take_succ_cons, List.take_zero, List.drop_succ_cons, List.drop_zero, List.reverse_cons, List.reverse_nil, List.nil_append, List.cons_append, List.map_cons, List.map_nil, List.sum_cons, List.sum_nil, List.length_cons, List.length_nil, Option.toList_some, Option.toList_none, true_and, and_true, false_and, and_false, true_implies, false_implies, implies_true, not_true_eq_false, not_false_eq_true, ne_eq, if_true, if_false, Bool.and_true, Bool.true_and, decide_true, decide_false, reduceIte, reduceCtorEq, Bool.and_self, Bool.and_eq_true, decide_eq_true_eq, and_self, true_or, or_true, false_or, or_false, Nat.zero_add, Nat.add_zero, eq_self, Nat.reduceEqDiff, Nat.reduceLeDiff, Nat.reduceLT, Nat.reduceAdd, Nat.reduceSub, Nat.reduceMul, LC_out hL, rI_at, hX.2.2.2.1, e, nI_leP (show 2 ^ n < 2147483648 by omega) (show 2 ^ n < 2147483648 by omega), Nat.le_refl]
    exact kk f
  | j + 1, i, f, hi => by
    have hp := pow16 hB.1
    have hn := hB.1
    have hi2 : i < 2 ^ n := by omega
    have ih := fun f => L112_24 hL hX hB ht kk j (i + 1) f (by omega)
    have h2t : 2 ^ t < 2 ^ n := Nat.pow_lt_pow_right (by decide) ht
    have ho : i ||| 2 ^ t < 2 ^ n := Nat.or_lt_two_pow hi2 h2t
    have ha : i &&& 2 ^ t < 65536 := Nat.lt_of_le_of_lt Nat.and_le_left (by omega)
    have e0 : (nI (i &&& 2 ^ t) = 0) = (i &&& 2 ^ t = 0) := by rw [show (0 : Int32) = nI 0 from rfl, nI_iff (by omega) (by decide)]
    have w1 := hX.2.2.2.2.2.2.2 i hi2
    have w2 := hX.2.2.2.2.2.2.2 _ ho
    obtain ⟨-, -, a1, a2⟩ := eN_ok hB hi2
    obtain ⟨-, -, b1, b2⟩ := eN_ok hB ho
    have e1 : E (i ||| 2 ^ t) - E i + 289 = nI (eN E (i ||| 2 ^ t) + 289 - eN E i) := by
      have e2 : nI (eN E (i ||| 2 ^ t) + 289 - eN E i) + nI (eN E i) = nI (eN E (i ||| 2 ^ t)) + 289 := by
        rw [nI_add, show eN E (i ||| 2 ^ t) + 289 - eN E i + eN E i = eN E (i ||| 2 ^ t) + 289 by omega, ← nI_add]
        rfl
      rw [a2, b2]
      grind
    rw [e112_24]
    simp only [B112_24, xSeq, i_push, i_load, i_iload, i_lload, i_dload, i_aload, i_istore, i_astore, i_lstore, i_dstore, i_iinc, i_ii, i_iiz, i_ll, i_llz, i_lli, i_li, i_i, i_l, i_i2l, i_l2i, i_dup, i_dup2, i_dup2w, i_dupx1, i_pop, i_pop2, i_goto, i_ifc, i_icmp, i_getI, i_getL, i_getR, i_putI, i_putZ, i_putL, i_putR, i_aldI, i_aldB, i_aldL, i_aldD, i_astI, i_astL, i_astD, i_alen, i_ret, i_iret, i_zret, i_lret, i_fret, i_dret, i_aret, i_invS0, i_invV0, i_m2, i_m1, i_ml, i_obj, lk, lkp, stf1, stf2, Value.category, rV, xTo, lv_args, xCk, xCat, xRc, xAk, hg_S, hg_I, hg_J, hg_D, hg_R, hs_I, hs_J, hs_D, hs_R, uI_at, uJ_at, uD_at, uR_at, List.take_succ_cons, List.take_zero, List.drop_succ_cons, List.drop_zero, List.reverse_cons, List.reverse_nil, List.nil_append, List.cons_append, List.map_cons, List.map_nil, List.sum_cons, List.sum_nil, List.length_cons, List.length_nil, Option.toList_some, Option.toList_none, true_and, and_true, false_and, and_false, true_implies, false_implies, implies_true, not_true_eq_false, not_false_eq_true, ne_eq, if_true, if_false, Bool.and_true, Bool.true_and, decide_true, decide_false, reduceIte, reduceCtorEq, Bool.and_self, Bool.and_eq_true, decide_eq_true_eq, and_self, true_or, or_true, false_or, or_false, Nat.zero_add, Nat.add_zero, eq_self, Nat.reduceEqDiff, Nat.reduceLeDiff, Nat.reduceLT, Nat.reduceAdd, Nat.reduceSub, Nat.reduceMul, LC_out hL, LE_out hX.1, rI_at, hX.2.2.2.1, nI_leP (show 2 ^ n < 2147483648 by omega) (show i < 2147483648 by omega), show (2 ^ n ≤ i) = False from eq_false (by omega), i_andN, i_orN, ne_eq, e0, nI_inP (show i < 65536 by omega) (by decide), nI_ix (show i < 2147483648 by omega), nI_inP (show i ||| 2 ^ t < 65536 by omega) (by decide), nI_ix (show i ||| 2 ^ t < 2147483648 by omega), w1, w2, e1, nI_inP (show eN E (i ||| 2 ^ t) + 289 - eN E i < 4913 by omega) (by decide), nI_ix (show eN E (i ||| 2 ^ t) + 289 - eN E i < 2147483648 by omega), uI_rI, e112_66, B112_66, nI_1]
    by_cases h : i &&& 2 ^ t = 0
    · simp only [h, true_and, and_true, false_and, and_false, true_implies, false_implies, implies_true, not_true_eq_false, not_false_eq_true, ne_eq, if_true, if_false, Bool.and_true, Bool.true_and, decide_true, decide_false, reduceIte, reduceCtorEq, Bool.and_self, Bool.and_eq_true, decide_eq_true_eq, and_self, true_or, or_true, false_or, or_false, Nat.zero_add, Nat.add_zero, eq_self, Nat.reduceEqDiff, Nat.reduceLeDiff, Nat.reduceLT, Nat.reduceAdd, Nat.reduceSub, Nat.reduceMul]
      exact ih _
    · simp only [h, true_and, and_true, false_and, and_false, true_implies, false_implies, implies_true, not_true_eq_false, not_false_eq_true, ne_eq, if_true, if_false, Bool.and_true, Bool.true_and, decide_true, decide_false, reduceIte, reduceCtorEq, Bool.and_self, Bool.and_eq_true, decide_eq_true_eq, and_self, true_or, or_true, false_or, or_false, Nat.zero_add, Nat.add_zero, eq_self, Nat.reduceEqDiff, Nat.reduceLeDiff, Nat.reduceLT, Nat.reduceAdd, Nat.reduceSub, Nat.reduceMul]
      exact ih f
theorem L112_10 (hL : LC S R) (hX : XL n E S I R) (hB : EB E n)
    (kk : ∀ f, xRun xT 112 78 [(0, .ref 130)] [] (S, rI I 153 f, J, D, R) b Q) :
    ∀ (j t : Nat) (f : Nat → Int32), t + j = n → xRun xT 112 10 [(0, .ref 130), (1, .int (nI t))] [] (S, rI I 153 f, J, D, R) b Q
  | 0, t, f, ht => by
    have hn := hB.1
    have e : t = n := by omega
    rw [e112_10]
    simp only [B112_10, xSeq, i_push, i_load, i_iload, i_lload, i_dload, i_aload, i_istore, i_astore, i_lstore, i_dstore, i_iinc, i_ii, i_iiz, i_ll, i_llz, i_lli, i_li, i_i, i_l, i_i2l, i_l2i, i_dup, i_dup2, i_dup2w, i_dupx1, i_pop, i_pop2, i_goto, i_ifc, i_icmp, i_getI, i_getL, i_getR, i_putI, i_putZ, i_putL, i_putR, i_aldI, i_aldB, i_aldL, i_aldD, i_astI, i_astL, i_astD, i_alen, i_ret, i_iret, i_zret, i_lret, i_fret, i_dret, i_aret, i_invS0, i_invV0, i_m2, i_m1, i_ml, i_obj, lk, lkp, stf1, stf2, Value.category, rV, xTo, lv_args, xCk, xCat, xRc, xAk, hg_S, hg_I, hg_J, hg_D, hg_R, hs_I, hs_J, hs_D, hs_R, uI_at, uJ_at, uD_at, uR_at, List.take_succ_cons, List.take_zero, List.drop_succ_cons, List.drop_zero, List.reverse_cons, List.reverse_nil, List.nil_append, List.cons_append, List.map_cons, List.map_nil, List.sum_cons, List.sum_nil, List.length_cons, List.length_nil, Option.toList_some, Option.toList_none, true_and, and_true, false_and, and_false, true_implies, false_implies, implies_true, not_true_eq_false, not_false_eq_true, ne_eq, if_true, if_false, Bool.and_true, Bool.true_and, decide_true, decide_false, reduceIte, reduceCtorEq, Bool.and_self, Bool.and_eq_true, decide_eq_true_eq, and_self, true_or, or_true, false_or, or_false, Nat.zero_add, Nat.add_zero, eq_self, Nat.reduceEqDiff, Nat.reduceLeDiff, Nat.reduceLT, Nat.reduceAdd, Nat.reduceSub, Nat.reduceMul, LC_out hL, rI_at, hX.2.2.1, e, nI_leP (show n < 2147483648 by omega) (show n < 2147483648 by omega), Nat.le_refl]
    exact kk f
  | j + 1, t, f, ht => by
    have hn := hB.1
    have h24 := L112_24 hL hX hB (show t < n by omega) (fun f => by
      rw [e112_72]
      simp only [B112_72, xSeq, i_push, i_load, i_iload, i_lload, i_dload, i_aload, i_istore, i_astore, i_lstore, i_dstore, i_iinc, i_ii, i_iiz, i_ll, i_llz, i_lli, i_li, i_i, i_l, i_i2l, i_l2i, i_dup, i_dup2, i_dup2w, i_dupx1, i_pop, i_pop2, i_goto, i_ifc, i_icmp, i_getI, i_getL, i_getR, i_putI, i_putZ, i_putL, i_putR, i_aldI, i_aldB, i_aldL, i_aldD, i_astI, i_astL, i_astD, i_alen, i_ret, i_iret, i_zret, i_lret, i_fret, i_dret, i_aret, i_invS0, i_invV0, i_m2, i_m1, i_ml, i_obj, lk, lkp, stf1, stf2, Value.category, rV, xTo, lv_args, xCk, xCat, xRc, xAk, hg_S, hg_I, hg_J, hg_D, hg_R, hs_I, hs_J, hs_D, hs_R, uI_at, uJ_at, uD_at, uR_at, List.take_succ_cons, List.take_zero, List.drop_succ_cons, List.drop_zero, List.reverse_cons, List.reverse_nil, List.nil_append, List.cons_append, List.map_cons, List.map_nil, List.sum_cons, List.sum_nil, List.length_cons, List.length_nil, Option.toList_some, Option.toList_none, true_and, and_true, false_and, and_false, true_implies, false_implies, implies_true, not_true_eq_false, not_false_eq_true, ne_eq, if_true, if_false, Bool.and_true, Bool.true_and, decide_true, decide_false, reduceIte, reduceCtorEq, Bool.and_self, Bool.and_eq_true, decide_eq_true_eq, and_self, true_or, or_true, false_or, or_false, Nat.zero_add, Nat.add_zero, eq_self, Nat.reduceEqDiff, Nat.reduceLeDiff, Nat.reduceLT, Nat.reduceAdd, Nat.reduceSub, Nat.reduceMul, nI_1]
      exact L112_10 hL hX hB kk j (t + 1) f (by omega)) (2 ^ n) 0 f (by omega)
    rw [nI_0] at h24
    rw [e112_10]
    simp only [B112_10, xSeq, i_push, i_load, i_iload, i_lload, i_dload, i_aload, i_istore, i_astore, i_lstore, i_dstore, i_iinc, i_ii, i_iiz, i_ll, i_llz, i_lli, i_li, i_i, i_l, i_i2l, i_l2i, i_dup, i_dup2, i_dup2w, i_dupx1, i_pop, i_pop2, i_goto, i_ifc, i_icmp, i_getI, i_getL, i_getR, i_putI, i_putZ, i_putL, i_putR, i_aldI, i_aldB, i_aldL, i_aldD, i_astI, i_astL, i_astD, i_alen, i_ret, i_iret, i_zret, i_lret, i_fret, i_dret, i_aret, i_invS0, i_invV0, i_m2, i_m1, i_ml, i_obj, lk, lkp, stf1, stf2, Value.category, rV, xTo, lv_args, xCk, xCat, xRc, xAk, hg_S, hg_I, hg_J, hg_D, hg_R, hs_I, hs_J, hs_D, hs_R, uI_at, uJ_at, uD_at, uR_at, List.take_succ_cons, List.take_zero, List.drop_succ_cons, List.drop_zero, List.reverse_cons, List.reverse_nil, List.nil_append, List.cons_append, List.map_cons, List.map_nil, List.sum_cons, List.sum_nil, List.length_cons, List.length_nil, Option.toList_some, Option.toList_none, true_and, and_true, false_and, and_false, true_implies, false_implies, implies_true, not_true_eq_false, not_false_eq_true, ne_eq, if_true, if_false, Bool.and_true, Bool.true_and, decide_true, decide_false, reduceIte, reduceCtorEq, Bool.and_self, Bool.and_eq_true, decide_eq_true_eq, and_self, true_or, or_true, false_or, or_false, Nat.zero_add, Nat.add_zero, eq_self, Nat.reduceEqDiff, Nat.reduceLeDiff, Nat.reduceLT, Nat.reduceAdd, Nat.reduceSub, Nat.reduceMul, LC_out hL, rI_at, hX.2.2.1, nI_leP (show n < 2147483648 by omega) (show t < 2147483648 by omega), show (n ≤ t) = False from eq_false (by omega), q_1shl (show t < 31 by omega)]
    exact h24
theorem q_288 (k : Nat) : (nI k - 288 + 289 : Int32) = nI (k + 1) := by
  rw [← nI_add, show nI 1 = 1 from rfl]
  grind
theorem q_288s (k : Nat) : (nI k - 288 + 1 : Int32) = nI (k + 1) - 288 := by
  rw [← nI_add, show nI 1 = 1 from rfl]
  grind
theorem q_288l : ∀ k, k < 578 → decide ((289 : Int32) ≤ nI k - 288) = decide (577 ≤ k) := by decide +kernel
theorem R112_84 (hL : LC S R) (hE : LE S R) (h9 : I 110 9 = 0) : ∀ (j k : Nat), k + j = 577 → xRun xT 112 84 [(0, .ref 130), (1, .int 0), (2, .int (nI k - 288))] [] (S, I, J, D, R) b Q = Q (.ok (some (.int 0))) (S, I, J, D, R) b
  | 0, k, hk => by
    have e1 : ((289 : Int32) ≤ nI k - 288) = True := by rw [show (k : Nat) = 577 by omega]; exact eq_true (by decide)
    rw [e112_84]
    simp only [B112_84, xSeq, i_push, i_load, i_iload, i_lload, i_dload, i_aload, i_istore, i_astore, i_lstore, i_dstore, i_iinc, i_ii, i_iiz, i_ll, i_llz, i_lli, i_li, i_i, i_l, i_i2l, i_l2i, i_dup, i_dup2, i_dup2w, i_dupx1, i_pop, i_pop2, i_goto, i_ifc, i_icmp, i_getI, i_getL, i_getR, i_putI, i_putZ, i_putL, i_putR, i_aldI, i_aldB, i_aldL, i_aldD, i_astI, i_astL, i_astD, i_alen, i_ret, i_iret, i_zret, i_lret, i_fret, i_dret, i_aret, i_invS0, i_invV0, i_m2, i_m1, i_ml, i_obj, lk, lkp, stf1, stf2, Value.category, rV, xTo, lv_args, xCk, xCat, xRc, xAk, hg_S, hg_I, hg_J, hg_D, hg_R, hs_I, hs_J, hs_D, hs_R, uI_at, uJ_at, uD_at, uR_at, List.take_succ_cons, List.take_zero, List.drop_succ_cons, List.drop_zero, List.reverse_cons, List.reverse_nil, List.nil_append, List.cons_append, List.map_cons, List.map_nil, List.sum_cons, List.sum_nil, List.length_cons, List.length_nil, Option.toList_some, Option.toList_none, true_and, and_true, false_and, and_false, true_implies, false_implies, implies_true, not_true_eq_false, not_false_eq_true, ne_eq, if_true, if_false, Bool.and_true, Bool.true_and, decide_true, decide_false, reduceIte, reduceCtorEq, Bool.and_self, Bool.and_eq_true, decide_eq_true_eq, and_self, true_or, or_true, false_or, or_false, Nat.zero_add, Nat.add_zero, eq_self, Nat.reduceEqDiff, Nat.reduceLeDiff, Nat.reduceLT, Nat.reduceAdd, Nat.reduceSub, Nat.reduceMul, e1, e112_118, B112_118]
  | j + 1, k, hk => by
    have e1 : ((289 : Int32) ≤ nI k - 288) = False := eq_false (fun h => by
      have h2 := decide_eq_decide.mp (q_288l k (by omega))
      have := h2.mp h
      omega)
    have ih := R112_84 hL hE h9 j (k + 1) (by omega)
    rw [e112_84]
    simp only [B112_84, xSeq, i_push, i_load, i_iload, i_lload, i_dload, i_aload, i_istore, i_astore, i_lstore, i_dstore, i_iinc, i_ii, i_iiz, i_ll, i_llz, i_lli, i_li, i_i, i_l, i_i2l, i_l2i, i_dup, i_dup2, i_dup2w, i_dupx1, i_pop, i_pop2, i_goto, i_ifc, i_icmp, i_getI, i_getL, i_getR, i_putI, i_putZ, i_putL, i_putR, i_aldI, i_aldB, i_aldL, i_aldD, i_astI, i_astL, i_astD, i_alen, i_ret, i_iret, i_zret, i_lret, i_fret, i_dret, i_aret, i_invS0, i_invV0, i_m2, i_m1, i_ml, i_obj, lk, lkp, stf1, stf2, Value.category, rV, xTo, lv_args, xCk, xCat, xRc, xAk, hg_S, hg_I, hg_J, hg_D, hg_R, hs_I, hs_J, hs_D, hs_R, uI_at, uJ_at, uD_at, uR_at, List.take_succ_cons, List.take_zero, List.drop_succ_cons, List.drop_zero, List.reverse_cons, List.reverse_nil, List.nil_append, List.cons_append, List.map_cons, List.map_nil, List.sum_cons, List.sum_nil, List.length_cons, List.length_nil, Option.toList_some, Option.toList_none, true_and, and_true, false_and, and_false, true_implies, false_implies, implies_true, not_true_eq_false, not_false_eq_true, ne_eq, if_true, if_false, Bool.and_true, Bool.true_and, decide_true, decide_false, reduceIte, reduceCtorEq, Bool.and_self, Bool.and_eq_true, decide_eq_true_eq, and_self, true_or, or_true, false_or, or_false, Nat.zero_add, Nat.add_zero, eq_self, Nat.reduceEqDiff, Nat.reduceLeDiff, Nat.reduceLT, Nat.reduceAdd, Nat.reduceSub, Nat.reduceMul, LC_out hL, e1, R113 hL h9 (bal_n k (by omega)), ne_eq, i1_0, not_false_eq_true, e112_112, B112_112, q_288s, ih]
theorem L112 (hL : LC S R) (hX : XL n E S I R) (hB : EB E n) (h9 : I 110 9 = 0) (kk : ∀ f, Q (.ok (some (.int 0))) (S, rI I 153 f, J, D, R) b) : xRun xT 112 0 [(0, .ref 130)] [] (S, I, J, D, R) b Q := by
  have S153 : S 153 = (100, 4913) := (LE_out hX.1).2.2.2.2.2.2.2.2.1
  have h10 := L112_10 (J := J) (D := D) (b := b) (Q := Q) hL hX hB (fun f => by
    have h84 := R112_84 (I := rI I 153 f) (J := J) (D := D) (b := b) (Q := Q) hL hX.1 h9 577 0 (by decide)
    rw [show (nI 0 - 288 : Int32) = -288 from by decide] at h84
    rw [e112_78]
    simp only [B112_78, xSeq, i_push, i_load, i_iload, i_lload, i_dload, i_aload, i_istore, i_astore, i_lstore, i_dstore, i_iinc, i_ii, i_iiz, i_ll, i_llz, i_lli, i_li, i_i, i_l, i_i2l, i_l2i, i_dup, i_dup2, i_dup2w, i_dupx1, i_pop, i_pop2, i_goto, i_ifc, i_icmp, i_getI, i_getL, i_getR, i_putI, i_putZ, i_putL, i_putR, i_aldI, i_aldB, i_aldL, i_aldD, i_astI, i_astL, i_astD, i_alen, i_ret, i_iret, i_zret, i_lret, i_fret, i_dret, i_aret, i_invS0, i_invV0, i_m2, i_m1, i_ml, i_obj, lk, lkp, stf1, stf2, Value.category, rV, xTo, lv_args, xCk, xCat, xRc, xAk, hg_S, hg_I, hg_J, hg_D, hg_R, hs_I, hs_J, hs_D, hs_R, uI_at, uJ_at, uD_at, uR_at, List.take_succ_cons, List.take_zero, List.drop_succ_cons, List.drop_zero, List.reverse_cons, List.reverse_nil, List.nil_append, List.cons_append, List.map_cons, List.map_nil, List.sum_cons, List.sum_nil, List.length_cons, List.length_nil, Option.toList_some, Option.toList_none, true_and, and_true, false_and, and_false, true_implies, false_implies, implies_true, not_true_eq_false, not_false_eq_true, ne_eq, if_true, if_false, Bool.and_true, Bool.true_and, decide_true, decide_false, reduceIte, reduceCtorEq, Bool.and_self, Bool.and_eq_true, decide_eq_true_eq, and_self, true_or, or_true, false_or, or_false, Nat.zero_add, Nat.add_zero, eq_self, Nat.reduceEqDiff, Nat.reduceLeDiff, Nat.reduceLT, Nat.reduceAdd, Nat.reduceSub, Nat.reduceMul, h84]
    exact kk f) n 0 (fill (I 153) 0 4913) (by omega)
  rw [nI_0] at h10
  rw [e112_0]
  simp only [B112_0, xSeq, i_push, i_load, i_iload, i_lload, i_dload, i_aload, i_istore, i_astore, i_lstore, i_dstore, i_iinc, i_ii, i_iiz, i_ll, i_llz, i_lli, i_li, i_i, i_l, i_i2l, i_l2i, i_dup, i_dup2, i_dup2w, i_dupx1, i_pop, i_pop2, i_goto, i_ifc, i_icmp, i_getI, i_getL, i_getR, i_putI, i_putZ, i_putL, i_putR, i_aldI, i_aldB, i_aldL, i_aldD, i_astI, i_astL, i_astD, i_alen, i_ret, i_iret, i_zret, i_lret, i_fret, i_dret, i_aret, i_invS0, i_invV0, i_m2, i_m1, i_ml, i_obj, lk, lkp, stf1, stf2, Value.category, rV, xTo, lv_args, xCk, xCat, xRc, xAk, hg_S, hg_I, hg_J, hg_D, hg_R, hs_I, hs_J, hs_D, hs_R, uI_at, uJ_at, uD_at, uR_at, List.take_succ_cons, List.take_zero, List.drop_succ_cons, List.drop_zero, List.reverse_cons, List.reverse_nil, List.nil_append, List.cons_append, List.map_cons, List.map_nil, List.sum_cons, List.sum_nil, List.length_cons, List.length_nil, Option.toList_some, Option.toList_none, true_and, and_true, false_and, and_false, true_implies, false_implies, implies_true, not_true_eq_false, not_false_eq_true, ne_eq, if_true, if_false, Bool.and_true, Bool.true_and, decide_true, decide_false, reduceIte, reduceCtorEq, Bool.and_self, Bool.and_eq_true, decide_eq_true_eq, and_self, true_or, or_true, false_or, or_false, Nat.zero_add, Nat.add_zero, eq_self, Nat.reduceEqDiff, Nat.reduceLeDiff, Nat.reduceLT, Nat.reduceAdd, Nat.reduceSub, Nat.reduceMul, LC_out hL, LE_out hX.1, Y6 (o := 153) (L := 4913) S153 (by decide)]
  exact h10
theorem R313_23 (hL : LM S R) (h5 : I 300 5 = 0) (h10 : I 300 10 = nI n) (hn : n ≤ 16) : xRun xT 313 23 [(0, .ref 200), (1, .int 0), (2, .int 0)] [] (S, I, J, D, R) b Q = Q (.ok (some (.int 0))) (S, I, J, D, R) b := by
  have hp := pow16 hn
  have hp0 := Nat.two_pow_pos n
  have e1 : (nI (2 ^ n) ≤ 0) = False := eq_false (nI_nle hp0 (by omega))
  rw [e313_23]
  simp only [B313_23, xSeq, i_push, i_load, i_iload, i_lload, i_dload, i_aload, i_istore, i_astore, i_lstore, i_dstore, i_iinc, i_ii, i_iiz, i_ll, i_llz, i_lli, i_li, i_i, i_l, i_i2l, i_l2i, i_dup, i_dup2, i_dup2w, i_dupx1, i_pop, i_pop2, i_goto, i_ifc, i_icmp, i_getI, i_getL, i_getR, i_putI, i_putZ, i_putL, i_putR, i_aldI, i_aldB, i_aldL, i_aldD, i_astI, i_astL, i_astD, i_alen, i_ret, i_iret, i_zret, i_lret, i_fret, i_dret, i_aret, i_invS0, i_invV0, i_m2, i_m1, i_ml, i_obj, lk, lkp, stf1, stf2, Value.category, rV, xTo, lv_args, xCk, xCat, xRc, xAk, hg_S, hg_I, hg_J, hg_D, hg_R, hs_I, hs_J, hs_D, hs_R, uI_at, uJ_at, uD_at, uR_at, List.take_succ_cons, List.take_zero, List.drop_succ_cons, List.drop_zero, List.reverse_cons, List.reverse_nil, List.nil_append, List.cons_append, List.map_cons, List.map_nil, List.sum_cons, List.sum_nil, List.length_cons, List.length_nil, Option.toList_some, Option.toList_none, true_and, and_true, false_and, and_false, true_implies, false_implies, implies_true, not_true_eq_false, not_false_eq_true, ne_eq, if_true, if_false, Bool.and_true, Bool.true_and, decide_true, decide_false, reduceIte, reduceCtorEq, Bool.and_self, Bool.and_eq_true, decide_eq_true_eq, and_self, true_or, or_true, false_or, or_false, Nat.zero_add, Nat.add_zero, eq_self, Nat.reduceEqDiff, Nat.reduceLeDiff, Nat.reduceLT, Nat.reduceAdd, Nat.reduceSub, Nat.reduceMul, xi144_0, ix_0, xi144_1, ix_1, xi144_2, ix_2, xi144_3, ix_3, xi144_4, ix_4, xi144_5, ix_5, xi144_6, ix_6, xi144_7, ix_7, xi144_8, ix_8, xi144_9, ix_9, xi144_10, ix_10, LM_out hL, R303 hL h10 (show n < 31 by omega), e1, h5, e313_100, B313_100]
end
/-! ===== doubles within bounds ===== -/
section
theorem fp_n (a : UInt64) : isNaN64 a = FP.Core.dIsNaN a := by
  rw [Bool.eq_iff_iff, FP.Core.isNaN_bits]
  unfold isNaN64
  rw [decide_eq_true_eq, ← FP.Core.mask_toNat]
  exact UInt64.lt_iff_toNat_lt
/-- a double's magnitude, in units of the least one -/
def fz (x : UInt64) : Nat := FP.Core.zmag FP.Core.b64 (FP.Core.val64 x)
/-- finite, at most N units -/
def fb (N : Nat) (x : UInt64) : Prop := (∃ s c q, FP.Core.val64 x = .fin s c q) ∧ fz x ≤ N
/-- not negative, finite, from L to N units -/
def gp (L N : Nat) (x : UInt64) : Prop := (∃ c q, FP.Core.val64 x = .fin false c q) ∧ L ≤ fz x ∧ fz x ≤ N
/-- a number of the format -/
def rp (N : Nat) : Prop := ∃ s c q, FP.Core.fits FP.Core.b64 (.fin s c q) ∧ FP.Core.zmag FP.Core.b64 (.fin s c q) = N
theorem gp_fb {L N : Nat} {x : UInt64} (h : gp L N x) : fb N x := by
  obtain ⟨⟨c, q, h1⟩, h2, h3⟩ := h
  exact ⟨⟨false, c, q, h1⟩, h3⟩
theorem fb_n {N : Nat} {x : UInt64} (h : fb N x) : isNaN64 x = false := by
  rw [fp_n, FP.Core.notNaN_iff]
  obtain ⟨⟨s, c, q, h1⟩, -⟩ := h
  rw [h1]
  exact FP.Core.Datum.noConfusion
theorem fb_le {N M : Nat} {x : UInt64} (h : fb N x) (hM : N ≤ M) : fb M x := ⟨h.1, Nat.le_trans h.2 hM⟩
theorem gp_le {L N L' N' : Nat} {x : UInt64} (h : gp L N x) (h1 : L' ≤ L) (h2 : N ≤ N') : gp L' N' x := ⟨h.1, Nat.le_trans h1 h.2.1, Nat.le_trans h.2.2 h2⟩
theorem rp_val {x : UInt64} {N : Nat} (h : fb N x) (e : fz x = N) : rp N := by
  obtain ⟨⟨s, c, q, h1⟩, -⟩ := h
  have hf := FP.Core.val64_fits x
  unfold fz at e
  rw [h1] at hf e
  exact ⟨s, c, q, hf, e⟩
theorem rr_le {s : Bool} {A B N : Nat} {e e0 : Int} (hB : 0 < B) (hN : rp N) (h0 : e0 ≤ FP.Core.b64.qmin) (h0e : e0 ≤ e) (h : FP.Core.inUnits A e e0 ≤ N * 2 ^ (FP.Core.b64.qmin - e0).toNat * B) :
    (∃ c q, FP.Core.roundRatio FP.Core.b64 s A B e = .fin s c q) ∧ FP.Core.zmag FP.Core.b64 (FP.Core.roundRatio FP.Core.b64 s A B e) ≤ N := by
  obtain ⟨t, c', q', h1, h2⟩ := hN
  have h3 := FP.Core.zmag_roundRatio_le FP.Core.good_b64 (s := s) hB h1 FP.Core.Datum.noConfusion h0 h0e (by rw [h2]; exact h)
  rw [h2] at h3
  refine ⟨?_, h3⟩
  rcases FP.Core.roundRatio_cases FP.Core.b64 s A B e with h4 | h4
  · exact h4
  · exfalso
    have h5 := FP.Core.zmag_lt_top FP.Core.good_b64 h1
    rw [h4] at h3
    have h6 : FP.Core.zmag FP.Core.b64 (.fin t c' q') = FP.Core.inUnits c' q' FP.Core.b64.qmin := rfl
    rw [← h6, h2] at h5
    exact absurd h5 (Nat.not_lt.mpr h3)
theorem rr_ge {s : Bool} {A B L : Nat} {e e0 : Int} (hB : 0 < B) (hL : rp L) (h0 : e0 ≤ FP.Core.b64.qmin) (h0e : e0 ≤ e) (h : L * 2 ^ (FP.Core.b64.qmin - e0).toNat * B ≤ FP.Core.inUnits A e e0) :
    L ≤ FP.Core.zmag FP.Core.b64 (FP.Core.roundRatio FP.Core.b64 s A B e) := by
  obtain ⟨t, c', q', h1, h2⟩ := hL
  have h3 := FP.Core.zmag_roundRatio_ge FP.Core.good_b64 (s := s) (e := e) (A := A) hB h1 h0 h0e (by rw [h2]; exact h)
  rw [h2] at h3
  exact h3
theorem fb_add {A B N : Nat} {a b : UInt64} (ha : fb A a) (hb : fb B b) (hN : rp N) (h : A + B ≤ N) : fb N (FP.dadd a b) := by
  obtain ⟨⟨s, c, q, ea⟩, la⟩ := ha
  obtain ⟨⟨t, d, r, eb⟩, lb⟩ := hb
  have fa := FP.Core.val64_fits a
  have f2 := FP.Core.val64_fits b
  unfold fz at la lb
  rw [ea] at fa la
  rw [eb] at f2 lb
  obtain ⟨sg, n, e, h1, h2, h3⟩ := FP.Core.sum_units fa f2
  have h4 : FP.Core.inUnits n e FP.Core.b64.qmin ≤ N := by
    have h5 := FP.Core.natAbs_signed sg (FP.Core.inUnits n e FP.Core.b64.qmin)
    rw [h3] at h5
    have h6 := Int.natAbs_add_le (FP.Core.zval FP.Core.b64 (.fin s c q)) (FP.Core.zval FP.Core.b64 (.fin t d r))
    have h7 : (FP.Core.zval FP.Core.b64 (.fin s c q)).natAbs = FP.Core.zmag FP.Core.b64 (.fin s c q) := FP.Core.natAbs_signed _ _
    have h8 : (FP.Core.zval FP.Core.b64 (.fin t d r)).natAbs = FP.Core.zmag FP.Core.b64 (.fin t d r) := FP.Core.natAbs_signed _ _
    omega
  have h9 : FP.Core.val64 (FP.dadd a b) = FP.Core.roundRatio FP.Core.b64 sg n 1 e := by
    have := FP.Core.val64_dadd a b
    rw [ea, eb, h1] at this
    exact this
  obtain ⟨⟨c2, q2, k1⟩, k2⟩ := rr_le (s := sg) (A := n) (B := 1) (e := e) (e0 := FP.Core.b64.qmin) (by decide) hN (Int.le_refl _) h2 (by rw [Int.sub_self, Nat.mul_one, show (2 : Nat) ^ (0 : Int).toNat = 1 from rfl, Nat.mul_one]; exact h4)
  refine ⟨⟨sg, c2, q2, by rw [h9]; exact k1⟩, ?_⟩
  unfold fz
  rw [h9]
  exact k2
theorem fb_neg {A : Nat} {a : UInt64} (ha : fb A a) : fb A (FP.Core.dneg a) := by
  obtain ⟨⟨s, c, q, ea⟩, la⟩ := ha
  have e : FP.Core.val64 (FP.Core.dneg a) = FP.Core.negate (FP.Core.val64 a) := FP.Core.val64_dneg a
  unfold fz at la
  rw [ea] at e la
  refine ⟨⟨!s, c, q, e⟩, ?_⟩
  unfold fz
  rw [e]
  exact la
theorem fb_sub {A B N : Nat} {a b : UInt64} (ha : fb A a) (hb : fb B b) (hN : rp N) (h : A + B ≤ N) : fb N (FP.dsub a b) := by
  have e : FP.dsub a b = FP.dadd a (FP.Core.dneg b) := FP.Core.dsub_eq a b
  rw [e]
  exact fb_add ha (fb_neg hb) hN h
/-- one, in units -/
def uo : Nat := 2 ^ 1074
theorem uo_pos : 0 < uo := Nat.two_pow_pos _
theorem uo_e : (2 : Nat) ^ (FP.Core.b64.qmin - 2 * FP.Core.b64.qmin).toNat = uo := by
  have : (FP.Core.b64.qmin - 2 * FP.Core.b64.qmin).toNat = 1074 := by decide
  rw [this]
  rfl
theorem mul_v {a b : UInt64} {s t : Bool} {c d : Nat} {q r : Int} (ea : FP.Core.val64 a = .fin s c q) (eb : FP.Core.val64 b = .fin t d r) : FP.Core.val64 (FP.dmul a b) = FP.Core.roundRatio FP.Core.b64 (s != t) (c * d) 1 (q + r) ∧ 2 * FP.Core.b64.qmin ≤ q + r ∧ FP.Core.inUnits (c * d) (q + r) (2 * FP.Core.b64.qmin) = fz a * fz b := by
  have fa := FP.Core.val64_fits a
  have f2 := FP.Core.val64_fits b
  unfold fz
  rw [ea] at fa ⊢
  rw [eb] at f2 ⊢
  obtain ⟨h1, h2, h3⟩ := FP.Core.product_units fa f2
  refine ⟨?_, h2, h3⟩
  have := FP.Core.val64_dmul a b
  rw [ea, eb, h1] at this
  exact this
theorem fb_mul {A B N : Nat} {a b : UInt64} (ha : fb A a) (hb : fb B b) (hN : rp N) (h : A * B ≤ N * uo) : fb N (FP.dmul a b) := by
  obtain ⟨⟨s, c, q, ea⟩, la⟩ := ha
  obtain ⟨⟨t, d, r, eb⟩, lb⟩ := hb
  obtain ⟨h1, h2, h3⟩ := mul_v ea eb
  obtain ⟨⟨c2, q2, k1⟩, k2⟩ := rr_le (s := s != t) (A := c * d) (B := 1) (e := q + r) (e0 := 2 * FP.Core.b64.qmin) (by decide) hN (by decide) h2 (by rw [h3, uo_e, Nat.mul_one]; exact Nat.le_trans (Nat.mul_le_mul la lb) h)
  refine ⟨⟨_, c2, q2, by rw [h1]; exact k1⟩, ?_⟩
  unfold fz
  rw [h1]
  exact k2
theorem gp_mul {L L' l A B N : Nat} {a b : UInt64} (ha : gp L A a) (hb : gp L' B b) (hN : rp N) (h : A * B ≤ N * uo) (hl : rp l) (h' : l * uo ≤ L * L') : gp l N (FP.dmul a b) := by
  obtain ⟨⟨c, q, ea⟩, ga, la⟩ := ha
  obtain ⟨⟨d, r, eb⟩, gb, lb⟩ := hb
  obtain ⟨h1, h2, h3⟩ := mul_v ea eb
  obtain ⟨⟨c2, q2, k1⟩, k2⟩ := rr_le (s := false != false) (A := c * d) (B := 1) (e := q + r) (e0 := 2 * FP.Core.b64.qmin) (by decide) hN (by decide) h2 (by rw [h3, uo_e, Nat.mul_one]; exact Nat.le_trans (Nat.mul_le_mul la lb) h)
  have k3 := rr_ge (s := false != false) (A := c * d) (B := 1) (e := q + r) (e0 := 2 * FP.Core.b64.qmin) (by decide) hl (by decide) h2 (by rw [h3, uo_e, Nat.mul_one]; exact Nat.le_trans h' (Nat.mul_le_mul ga gb))
  refine ⟨⟨c2, q2, by rw [h1]; exact k1⟩, ?_, ?_⟩
  · unfold fz
    rw [h1]
    exact k3
  · unfold fz
    rw [h1]
    exact k2
theorem gp_add {L L' l A B N : Nat} {a b : UInt64} (ha : gp L A a) (hb : gp L' B b) (hN : rp N) (h : A + B ≤ N) (hl : rp l) (h' : l ≤ L + L') : gp l N (FP.dadd a b) := by
  have hfb := fb_add (gp_fb ha) (gp_fb hb) hN h
  obtain ⟨⟨c, q, ea⟩, ga, la⟩ := ha
  obtain ⟨⟨d, r, eb⟩, gb, lb⟩ := hb
  have fa := FP.Core.val64_fits a
  have f2 := FP.Core.val64_fits b
  unfold fz at ga gb
  rw [ea] at fa ga
  rw [eb] at f2 gb
  obtain ⟨sg, n, e, h1, h2, h3⟩ := FP.Core.sum_units fa f2
  have h9 : FP.Core.val64 (FP.dadd a b) = FP.Core.roundRatio FP.Core.b64 sg n 1 e := by
    have := FP.Core.val64_dadd a b
    rw [ea, eb, h1] at this
    exact this
  have hz : FP.Core.zval FP.Core.b64 (.fin false c q) + FP.Core.zval FP.Core.b64 (.fin false d r) = ((FP.Core.zmag FP.Core.b64 (.fin false c q) + FP.Core.zmag FP.Core.b64 (.fin false d r) : Nat) : Int) := rfl
  have hsg : sg = false := by
    have e1 : FP.Core.exactSum (.fin false c q) (.fin false d r) = .fin (FP.Core.sumSign false false (FP.Core.sumUnits false c q false d r (min q r))) (FP.Core.sumUnits false c q false d r (min q r)).natAbs (min q r) := rfl
    rw [h1] at e1
    have e2 := (FP.Core.Datum.fin.inj e1).1
    rw [e2]
    unfold FP.Core.sumSign
    split
    · rfl
    · refine decide_eq_false (fun hlt => ?_)
      have e3 : FP.Core.sumUnits false c q false d r (min q r) = ((FP.Core.inUnits c q (min q r) + FP.Core.inUnits d r (min q r) : Nat) : Int) := rfl
      rw [e3] at hlt
      omega
  subst hsg
  have h4 : l ≤ FP.Core.inUnits n e FP.Core.b64.qmin := by
    rw [hz] at h3
    have h5 : FP.Core.signed false (FP.Core.inUnits n e FP.Core.b64.qmin) = (FP.Core.inUnits n e FP.Core.b64.qmin : Int) := rfl
    rw [h5] at h3
    omega
  have k3 := rr_ge (s := false) (A := n) (B := 1) (e := e) (e0 := FP.Core.b64.qmin) (by decide) hl (Int.le_refl _) h2 (by rw [Int.sub_self, Nat.mul_one, show (2 : Nat) ^ (0 : Int).toNat = 1 from rfl, Nat.mul_one]; exact h4)
  obtain ⟨⟨s2, c2, q2, k1⟩, k2⟩ := hfb
  refine ⟨⟨c2, q2, ?_⟩, ?_, k2⟩
  · have := FP.Core.sgn_roundRatio FP.Core.b64 false n 1 e
    rw [← h9, k1] at this
    have e4 : s2 = false := this
    rw [k1, e4]
  · unfold fz
    rw [h9]
    exact k3
theorem div_v {a b : UInt64} {s t : Bool} {c d : Nat} {q r : Int} (ea : FP.Core.val64 a = .fin s c q) (eb : FP.Core.val64 b = .fin t d r) (hd : 0 < fz b) : 0 < d ∧ FP.Core.val64 (FP.ddiv a b) = FP.Core.roundRatio FP.Core.b64 (s != t) c d (q - r) ∧ FP.Core.b64.qmin - 971 ≤ q - r - 1074 + 1074 ∧ ∃ P, 0 < P ∧ FP.Core.inUnits c (q - r) (FP.Core.b64.qmin - 2000) * P = fz a * 2 ^ 2000 * uo ∧ d * P = fz b := by
  have fa := FP.Core.val64_fits a
  have f2 := FP.Core.val64_fits b
  unfold fz at hd ⊢
  rw [ea] at fa ⊢
  rw [eb] at f2 hd ⊢
  have hd0 : 0 < d := by
    rcases Nat.eq_zero_or_pos d with h | h
    · subst h
      have : FP.Core.zmag FP.Core.b64 (.fin t 0 r) = 0 * 2 ^ (r - FP.Core.b64.qmin).toNat := rfl
      rw [this, Nat.zero_mul] at hd
      exact absurd hd (Nat.lt_irrefl 0)
    · exact h
  have q1 : (-1074 : Int) ≤ q := by have := fa.2.1; rw [FP.Core.qmin_b64] at this; exact this
  have q3 : (-1074 : Int) ≤ r := by have := f2.2.1; rw [FP.Core.qmin_b64] at this; exact this
  have q2 : q ≤ 971 := by have := fa.2.2.1; exact Int.le_trans this (by decide)
  have q4 : r ≤ 971 := by have := f2.2.2.1; exact Int.le_trans this (by decide)
  refine ⟨hd0, ?_, by rw [FP.Core.qmin_b64]; omega, 2 ^ (r - FP.Core.b64.qmin).toNat, Nat.two_pow_pos _, ?_, rfl⟩
  · have := FP.Core.val64_ddiv a b
    rw [ea, eb] at this
    have e1 : FP.Core.quotient FP.Core.b64 (.fin s c q) (.fin t d r) = if d = 0 then (if c = 0 then .nan else .inf (s != t)) else FP.Core.roundRatio FP.Core.b64 (s != t) c d (q - r) := rfl
    rw [e1, if_neg (by omega)] at this
    exact this
  · show c * 2 ^ (q - r - (FP.Core.b64.qmin - 2000)).toNat * 2 ^ (r - FP.Core.b64.qmin).toNat = c * 2 ^ (q - FP.Core.b64.qmin).toNat * 2 ^ 2000 * uo
    unfold uo
    rw [FP.Core.qmin_b64, Nat.mul_assoc, ← Nat.pow_add, Nat.mul_assoc, Nat.mul_assoc, ← Nat.pow_add, ← Nat.pow_add]
    congr 2
    omega
theorem gp_div {L L' l A B N : Nat} {a b : UInt64} (ha : gp L A a) (hb : gp L' B b) (h0 : 0 < L') (hN : rp N) (h : A * uo ≤ N * L') (hl : rp l) (h' : l * B ≤ L * uo) : gp l N (FP.ddiv a b) := by
  obtain ⟨⟨c, q, ea⟩, ga, la⟩ := ha
  obtain ⟨⟨d, r, eb⟩, gb, lb⟩ := hb
  obtain ⟨h1, h2, h3, P, p0, p1, p2⟩ := div_v ea eb (Nat.lt_of_lt_of_le h0 gb)
  have e0 : (FP.Core.b64.qmin - (FP.Core.b64.qmin - 2000)).toNat = 2000 := by decide
  have hq : FP.Core.b64.qmin - 2000 ≤ q - r := by
    rw [FP.Core.qmin_b64] at h3 ⊢
    omega
  obtain ⟨⟨c2, q2, k1⟩, k2⟩ := rr_le (s := false != false) (A := c) (B := d) (e := q - r) (e0 := FP.Core.b64.qmin - 2000) h1 hN (by decide) hq (by
    rw [e0]
    refine Nat.le_of_mul_le_mul_right (c := P) ?_ p0
    rw [p1, Nat.mul_assoc (N * 2 ^ 2000), p2]
    have k : fz a * uo ≤ N * fz b := Nat.le_trans (Nat.mul_le_mul_right _ la) (Nat.le_trans h (Nat.mul_le_mul_left _ gb))
    calc fz a * 2 ^ 2000 * uo = fz a * uo * 2 ^ 2000 := by rw [Nat.mul_right_comm]
      _ ≤ N * fz b * 2 ^ 2000 := Nat.mul_le_mul_right _ k
      _ = N * 2 ^ 2000 * fz b := by rw [Nat.mul_right_comm])
  have k3 := rr_ge (s := false != false) (A := c) (B := d) (e := q - r) (e0 := FP.Core.b64.qmin - 2000) h1 hl (by decide) hq (by
    rw [e0]
    refine Nat.le_of_mul_le_mul_right (c := P) ?_ p0
    rw [p1, Nat.mul_assoc (l * 2 ^ 2000), p2]
    have k : l * fz b ≤ fz a * uo := Nat.le_trans (Nat.mul_le_mul_left _ lb) (Nat.le_trans h' (Nat.mul_le_mul_right _ ga))
    calc l * 2 ^ 2000 * fz b = l * fz b * 2 ^ 2000 := by rw [Nat.mul_right_comm]
      _ ≤ fz a * uo * 2 ^ 2000 := Nat.mul_le_mul_right _ k
      _ = fz a * 2 ^ 2000 * uo := by rw [Nat.mul_right_comm])
  refine ⟨⟨c2, q2, by rw [h2]; exact k1⟩, ?_, ?_⟩
  · unfold fz
    rw [h2]
    exact k3
  · unfold fz
    rw [h2]
    exact k2
theorem fb_div {L' A B N : Nat} {a b : UInt64} (ha : fb A a) (hb : gp L' B b) (h0 : 0 < L') (hN : rp N) (h : A * uo ≤ N * L') : fb N (FP.ddiv a b) := by
  obtain ⟨⟨s, c, q, ea⟩, la⟩ := ha
  obtain ⟨⟨d, r, eb⟩, gb, lb⟩ := hb
  obtain ⟨h1, h2, h3, P, p0, p1, p2⟩ := div_v ea eb (Nat.lt_of_lt_of_le h0 gb)
  have e0 : (FP.Core.b64.qmin - (FP.Core.b64.qmin - 2000)).toNat = 2000 := by decide
  have hq : FP.Core.b64.qmin - 2000 ≤ q - r := by
    rw [FP.Core.qmin_b64] at h3 ⊢
    omega
  obtain ⟨⟨c2, q2, k1⟩, k2⟩ := rr_le (s := s != false) (A := c) (B := d) (e := q - r) (e0 := FP.Core.b64.qmin - 2000) h1 hN (by decide) hq (by
    rw [e0]
    refine Nat.le_of_mul_le_mul_right (c := P) ?_ p0
    rw [p1, Nat.mul_assoc (N * 2 ^ 2000), p2]
    have k : fz a * uo ≤ N * fz b := Nat.le_trans (Nat.mul_le_mul_right _ la) (Nat.le_trans h (Nat.mul_le_mul_left _ gb))
    calc fz a * 2 ^ 2000 * uo = fz a * uo * 2 ^ 2000 := by rw [Nat.mul_right_comm]
      _ ≤ N * fz b * 2 ^ 2000 := Nat.mul_le_mul_right _ k
      _ = N * 2 ^ 2000 * fz b := by rw [Nat.mul_right_comm])
  refine ⟨⟨_, c2, q2, by rw [h2]; exact k1⟩, ?_⟩
  unfold fz
  rw [h2]
  exact k2
theorem gp_0 : gp 0 0 FP.dconst0 := ⟨⟨0, _, FP.Core.val64_dconst0⟩, Nat.zero_le _, by
  unfold fz
  have e : FP.Core.val64 FP.dconst0 = .fin false 0 FP.Core.b64.qmin := FP.Core.val64_dconst0
  rw [e]
  show 0 * _ ≤ 0
  rw [Nat.zero_mul]
  exact Nat.le_refl 0⟩
/-- a whole number as a double -/
theorem l2d_z {a : Int64} {k : Nat} (h : a.toInt.natAbs = k) (hk : k < 9007199254740992) : fb (k * uo) (FP.l2d a) ∧ fz (FP.l2d a) = k * uo := by
  have hw : FP.Core.Whole a.toInt (FP.Core.val64 (FP.l2d a)) := FP.Core.l2d_whole (a := a) ⟨by omega, by omega⟩
  have h1 := FP.Core.whole_zval FP.Core.good_b64 (FP.Core.val64_fits (FP.l2d a)) hw
  have h2 : (FP.Core.zval FP.Core.b64 (FP.Core.val64 (FP.l2d a))).natAbs = fz (FP.l2d a) := FP.Core.natAbs_signed _ _
  have h3 : fz (FP.l2d a) = k * uo := by
    have e : (2 : Nat) ^ (-FP.Core.b64.qmin).toNat = uo := by
      have : (-FP.Core.b64.qmin).toNat = 1074 := by decide
      rw [this]
      rfl
    rw [← h2, h1, Int.natAbs_mul, Int.natAbs_natCast, h, e]
  obtain ⟨c, q, h4⟩ := FP.Core.l2d_shape a
  exact ⟨⟨⟨_, c, q, h4⟩, Nat.le_of_eq h3⟩, h3⟩
theorem rp_n {k : Nat} (hk : k < 9007199254740992) : rp (k * uo) := by
  have h := l2d_z (a := lN k) (k := k) (by
    rw [pk_lT (by omega)]
    exact Int.natAbs_natCast k) hk
  exact rp_val h.1 h.2
theorem rp_0 : rp 0 := by
  have := rp_n (k := 0) (by decide)
  rw [Nat.zero_mul] at this
  exact this
theorem i2d_n {k : Nat} (hk : k < 2147483648) : gp (k * uo) (k * uo) (FP.i2d (nI k)) := by
  have e : FP.i2d (nI k) = FP.l2d (nI k).toInt64 := FP.Core.i2d_l2d (nI k)
  have e2 : (nI k).toInt64 = lN k := nI_l hk
  have hT : (lN k).toInt = (k : Int) := pk_lT (by omega)
  rw [e, e2]
  obtain ⟨h1, h2⟩ := l2d_z (a := lN k) (k := k) (by rw [hT]; exact Int.natAbs_natCast k) (by omega)
  obtain ⟨c, q, h3⟩ := FP.Core.l2d_shape (lN k)
  rw [hT, decide_eq_false (by omega)] at h3
  exact ⟨⟨c, q, h3⟩, Nat.le_of_eq h2.symm, Nat.le_of_eq h2⟩
theorem gp_1 : gp uo uo FP.dconst1 := by
  have h := i2d_n (k := 1) (by decide)
  rw [Nat.one_mul] at h
  have e : FP.i2d (nI 1) = FP.dconst1 := by decide +kernel
  rw [e] at h
  exact h
/-- greater than nothing -/
theorem gp_cmp {L N : Nat} {x : UInt64} (h : gp L N x) (h0 : 0 < L) : FP.dcmp x FP.dconst0 = some .gt := by
  obtain ⟨⟨c, q, h1⟩, h2, h3⟩ := h
  refine FP.Core.dcmp_gt.mpr ⟨by rw [h1]; exact FP.Core.Datum.noConfusion, by decide +kernel, ?_⟩
  have e1 : FP.Core.zval FP.Core.b64 (FP.Core.val64 FP.dconst0) = 0 := by decide +kernel
  have e2 : FP.Core.zval FP.Core.b64 (FP.Core.val64 x) = (fz x : Int) := by
    unfold FP.Core.zval fz
    rw [h1]
    rfl
  rw [e1, e2]
  omega
end
/-! ===== weights and sums ===== -/
section
/-- the ratio; its powers -/
def rtP (a b : Nat) : UInt64 := FP.ddiv (FP.i2d (nI a)) (FP.i2d (nI b))
def wP (r : UInt64) : Nat → UInt64
  | 0 => FP.dconst1
  | i + 1 => FP.dmul (wP r i) r
def AB (a b : Nat) : Prop := 0 < a ∧ a < b ∧ b ≤ 99
theorem rtP_gp {a b : Nat} (h : AB a b) : gp 0 uo (rtP a b) := by
  obtain ⟨h1, h2, h3⟩ := h
  have u0 := uo_pos
  refine gp_div (i2d_n (k := a) (by omega)) (i2d_n (k := b) (by omega)) (Nat.mul_pos (by omega) u0) ?_ ?_ rp_0 (by rw [Nat.zero_mul]; exact Nat.zero_le _)
  · have := rp_n (k := 1) (by decide)
    rw [Nat.one_mul] at this
    exact this
  · rw [Nat.mul_assoc, Nat.mul_left_comm uo b uo]
    exact Nat.mul_le_mul_right _ (by omega)
theorem rp_u : rp uo := by
  have := rp_n (k := 1) (by decide)
  rw [Nat.one_mul] at this
  exact this
theorem wP_gp {r : UInt64} (h : gp 0 uo r) : ∀ i, gp 0 uo (wP r i)
  | 0 => gp_le gp_1 (Nat.zero_le _) (Nat.le_refl _)
  | i + 1 => gp_mul (wP_gp h i) h rp_u (Nat.le_refl _) rp_0 (by rw [Nat.zero_mul, Nat.zero_mul]; exact Nat.le_refl _)
variable {S : xS} {I : xI} {J : xJ} {D : xDb} {R : xR} {b : Nat × Nat} {Q : xQ} {n : Nat} {E : Nat → Int32} {x y : Nat}
theorem L106_16 (hL : LC S R) (h : AB x y)
    (kk : ∀ D', (∀ k, k < 289 → D' 139 k = wP (rtP x y) k) → (∀ o k, o ≠ 139 → D' o k = D o k) → Q (.ok none) (S, I, J, D', R) b) :
    ∀ (j i : Nat) (D1 : xDb), i + j = 289 → 0 < i → (∀ k, k < i → D1 139 k = wP (rtP x y) k) → (∀ o k, o ≠ 139 → D1 o k = D o k) → xRun xT 106 16 [(0, .ref 130), (3, .double (rtP x y)), (5, .int (nI i))] [] (S, I, J, D1, R) b Q
  | 0, i, D1, hi, h0, h1, h2 => by
    have e : i = 289 := by omega
    subst e
    rw [e106_16]
    simp only [B106_16, xSeq, i_push, i_load, i_iload, i_lload, i_dload, i_aload, i_istore, i_astore, i_lstore, i_dstore, i_iinc, i_ii, i_iiz, i_ll, i_llz, i_lli, i_li, i_i, i_l, i_i2l, i_l2i, i_dup, i_dup2, i_dup2w, i_dupx1, i_pop, i_pop2, i_goto, i_ifc, i_icmp, i_getI, i_getL, i_getR, i_putI, i_putZ, i_putL, i_putR, i_aldI, i_aldB, i_aldL, i_aldD, i_astI, i_astL, i_astD, i_alen, i_ret, i_iret, i_zret, i_lret, i_fret, i_dret, i_aret, i_invS0, i_invV0, i_m2, i_m1, i_ml, i_obj, lk, lkp, stf1, stf2, Value.category, rV, xTo, lv_args, xCk, xCat, xRc, xAk, hg_S, hg_I, hg_J, hg_D, hg_R, hs_I, hs_J, hs_D, hs_R, uI_at, uJ_at, uD_at, uR_at, List.take_succ_cons, List.take_zero, List.drop_succ_cons, List.drop_zero, List.reverse_cons, List.reverse_nil, List.nil_append, List.cons_append, List.map_cons, List.map_nil, List.sum_cons, List.sum_nil, List.length_cons, List.length_nil, Option.toList_some, Option.toList_none, true_and, and_true, false_and, and_false, true_implies, false_implies, implies_true, not_true_eq_false, not_false_eq_true, ne_eq, if_true, if_false, Bool.and_true, Bool.true_and, decide_true, decide_false, reduceIte, reduceCtorEq, Bool.and_self, Bool.and_eq_true, decide_eq_true_eq, and_self, true_or, or_true, false_or, or_false, Nat.zero_add, Nat.add_zero, eq_self, Nat.reduceEqDiff, Nat.reduceLeDiff, Nat.reduceLT, Nat.reduceAdd, Nat.reduceSub, Nat.reduceMul, show ((289 : Int32) ≤ nI 289) = True from eq_true (by decide), e106_48, B106_48]
    exact kk D1 h1 h2
  | j + 1, i, D1, hi, h0, h1, h2 => by
    have e1 : ((289 : Int32) ≤ nI i) = False := eq_false (by rw [show (289 : Int32) = nI 289 from rfl]; exact nI_ge (by omega) (by decide))
    have e2 : nI i - 1 = nI (i - 1) := by rw [show (1 : Int32) = nI 1 from rfl, nI_subn h0]
    have hn : isNaN64 (wP (rtP x y) i) = false := fb_n (gp_fb (wP_gp (rtP_gp h) i))
    have e3 : FP.dmul (wP (rtP x y) (i - 1)) (rtP x y) = wP (rtP x y) i := by
      obtain ⟨i', rfl⟩ : ∃ i', i = i' + 1 := ⟨i - 1, by omega⟩
      rfl
    rw [e106_16]
    simp only [B106_16, xSeq, i_push, i_load, i_iload, i_lload, i_dload, i_aload, i_istore, i_astore, i_lstore, i_dstore, i_iinc, i_ii, i_iiz, i_ll, i_llz, i_lli, i_li, i_i, i_l, i_i2l, i_l2i, i_dup, i_dup2, i_dup2w, i_dupx1, i_pop, i_pop2, i_goto, i_ifc, i_icmp, i_getI, i_getL, i_getR, i_putI, i_putZ, i_putL, i_putR, i_aldI, i_aldB, i_aldL, i_aldD, i_astI, i_astL, i_astD, i_alen, i_ret, i_iret, i_zret, i_lret, i_fret, i_dret, i_aret, i_invS0, i_invV0, i_m2, i_m1, i_ml, i_obj, lk, lkp, stf1, stf2, Value.category, rV, xTo, lv_args, xCk, xCat, xRc, xAk, hg_S, hg_I, hg_J, hg_D, hg_R, hs_I, hs_J, hs_D, hs_R, uI_at, uJ_at, uD_at, uR_at, List.take_succ_cons, List.take_zero, List.drop_succ_cons, List.drop_zero, List.reverse_cons, List.reverse_nil, List.nil_append, List.cons_append, List.map_cons, List.map_nil, List.sum_cons, List.sum_nil, List.length_cons, List.length_nil, Option.toList_some, Option.toList_none, true_and, and_true, false_and, and_false, true_implies, false_implies, implies_true, not_true_eq_false, not_false_eq_true, ne_eq, if_true, if_false, Bool.and_true, Bool.true_and, decide_true, decide_false, reduceIte, reduceCtorEq, Bool.and_self, Bool.and_eq_true, decide_eq_true_eq, and_self, true_or, or_true, false_or, or_false, Nat.zero_add, Nat.add_zero, eq_self, Nat.reduceEqDiff, Nat.reduceLeDiff, Nat.reduceLT, Nat.reduceAdd, Nat.reduceSub, Nat.reduceMul, LC_out hL, e1, e2, nI_inP (show i < 289 by omega) (by decide), nI_ix (show i < 2147483648 by omega), nI_inP (show i - 1 < 289 by omega) (by decide), nI_ix (show i - 1 < 2147483648 by omega), h1 (i - 1) (by omega), i_dd, e3, al_eq hn, nI_1]
    refine L106_16 hL h kk j (i + 1) _ (by omega) (by omega) (fun k hk => ?_) (fun o k ho => ?_)
    · rw [uD_at]
      by_cases e : k = i
      · rw [if_pos ⟨rfl, e⟩, e]
      · rw [if_neg (fun h => e h.2)]
        exact h1 k (by omega)
    · rw [uD_at, if_neg (fun h => ho h.1)]
      exact h2 o k ho
theorem L106 (hL : LC S R) (h : AB x y)
    (kk : ∀ D', (∀ k, k < 289 → D' 139 k = wP (rtP x y) k) → (∀ o k, o ≠ 139 → D' o k = D o k) → Q (.ok none) (S, I, J, D', R) b) :
    xRun xT 106 0 [(0, .ref 130), (1, .int (nI x)), (2, .int (nI y))] [] (S, I, J, D, R) b Q := by
  have hn : isNaN64 (FP.ddiv (FP.i2d (nI x)) (FP.i2d (nI y))) = false := fb_n (gp_fb (rtP_gp h))
  have h16 := L106_16 (I := I) (J := J) (b := b) (Q := Q) hL h kk 288 1 (uD D 139 0 FP.dconst1) (by decide) (by decide) (fun k hk => by
    rw [uD_at, if_pos ⟨rfl, by omega⟩, show k = 0 by omega]
    rfl) (fun o k ho => by rw [uD_at, if_neg (fun h => ho h.1)])
  rw [e106_0]
  simp only [B106_0, xSeq, i_push, i_load, i_iload, i_lload, i_dload, i_aload, i_istore, i_astore, i_lstore, i_dstore, i_iinc, i_ii, i_iiz, i_ll, i_llz, i_lli, i_li, i_i, i_l, i_i2l, i_l2i, i_dup, i_dup2, i_dup2w, i_dupx1, i_pop, i_pop2, i_goto, i_ifc, i_icmp, i_getI, i_getL, i_getR, i_putI, i_putZ, i_putL, i_putR, i_aldI, i_aldB, i_aldL, i_aldD, i_astI, i_astL, i_astD, i_alen, i_ret, i_iret, i_zret, i_lret, i_fret, i_dret, i_aret, i_invS0, i_invV0, i_m2, i_m1, i_ml, i_obj, lk, lkp, stf1, stf2, Value.category, rV, xTo, lv_args, xCk, xCat, xRc, xAk, hg_S, hg_I, hg_J, hg_D, hg_R, hs_I, hs_J, hs_D, hs_R, uI_at, uJ_at, uD_at, uR_at, List.take_succ_cons, List.take_zero, List.drop_succ_cons, List.drop_zero, List.reverse_cons, List.reverse_nil, List.nil_append, List.cons_append, List.map_cons, List.map_nil, List.sum_cons, List.sum_nil, List.length_cons, List.length_nil, Option.toList_some, Option.toList_none, true_and, and_true, false_and, and_false, true_implies, false_implies, implies_true, not_true_eq_false, not_false_eq_true, ne_eq, if_true, if_false, Bool.and_true, Bool.true_and, decide_true, decide_false, reduceIte, reduceCtorEq, Bool.and_self, Bool.and_eq_true, decide_eq_true_eq, and_self, true_or, or_true, false_or, or_false, Nat.zero_add, Nat.add_zero, eq_self, Nat.reduceEqDiff, Nat.reduceLeDiff, Nat.reduceLT, Nat.reduceAdd, Nat.reduceSub, Nat.reduceMul, i_i2d, i_dd, al_eq hn, LC_out hL, xi0 (show 0 < 289 by decide) (by decide), ix_0]
  exact h16
theorem R108 {p q : UInt64} (hq : FP.dcmp q FP.dconst0 = some .gt) (hn : isNaN64 (FP.ddiv p q) = false) {o : Nat} : xRun xT 108 0 [(0, .ref o), (1, .double p), (3, .double q)] [] (S, I, J, D, R) b Q = Q (.ok (some (.double (FP.ddiv p q)))) (S, I, J, D, R) b := by
  have e1 : (Op.cmpValue (some .gt) .l ≤ 0) = False := eq_false (by decide)
  rw [e108_0]
  simp only [B108_0, xSeq, i_push, i_load, i_iload, i_lload, i_dload, i_aload, i_istore, i_astore, i_lstore, i_dstore, i_iinc, i_ii, i_iiz, i_ll, i_llz, i_lli, i_li, i_i, i_l, i_i2l, i_l2i, i_dup, i_dup2, i_dup2w, i_dupx1, i_pop, i_pop2, i_goto, i_ifc, i_icmp, i_getI, i_getL, i_getR, i_putI, i_putZ, i_putL, i_putR, i_aldI, i_aldB, i_aldL, i_aldD, i_astI, i_astL, i_astD, i_alen, i_ret, i_iret, i_zret, i_lret, i_fret, i_dret, i_aret, i_invS0, i_invV0, i_m2, i_m1, i_ml, i_obj, lk, lkp, stf1, stf2, Value.category, rV, xTo, lv_args, xCk, xCat, xRc, xAk, hg_S, hg_I, hg_J, hg_D, hg_R, hs_I, hs_J, hs_D, hs_R, uI_at, uJ_at, uD_at, uR_at, List.take_succ_cons, List.take_zero, List.drop_succ_cons, List.drop_zero, List.reverse_cons, List.reverse_nil, List.nil_append, List.cons_append, List.map_cons, List.map_nil, List.sum_cons, List.sum_nil, List.length_cons, List.length_nil, Option.toList_some, Option.toList_none, true_and, and_true, false_and, and_false, true_implies, false_implies, implies_true, not_true_eq_false, not_false_eq_true, ne_eq, if_true, if_false, Bool.and_true, Bool.true_and, decide_true, decide_false, reduceIte, reduceCtorEq, Bool.and_self, Bool.and_eq_true, decide_eq_true_eq, and_self, true_or, or_true, false_or, or_false, Nat.zero_add, Nat.add_zero, eq_self, Nat.reduceEqDiff, Nat.reduceLeDiff, Nat.reduceLT, Nat.reduceAdd, Nat.reduceSub, Nat.reduceMul, i_ddi, hq, e1, i_dd, al_eq hn, e108_13, B108_13]
/-- the values of which means are taken -/
def vF (w e m : Int32) : Int64 := if w = 0 then e.toInt64 else if w = 1 then (jAbs m).toInt64 else if w = 2 then m.toInt64 * m.toInt64 else if w = 3 then m.toInt64 * m.toInt64 * (m.toInt64 * m.toInt64) else e.toInt64 * e.toInt64
theorem R139 {w e m : Int32} : xRun xT 139 0 [(0, .int w), (1, .int e), (2, .int m)] [] (S, I, J, D, R) b Q = Q (.ok (some (.long (vF w e m)))) (S, I, J, D, R) b := by
  have h10 : ((1 : Int32) = 0) = False := eq_false (by decide)
  have h20 : ((2 : Int32) = 0) = False := eq_false (by decide)
  have h21 : ((2 : Int32) = 1) = False := eq_false (by decide)
  have h30 : ((3 : Int32) = 0) = False := eq_false (by decide)
  have h31 : ((3 : Int32) = 1) = False := eq_false (by decide)
  have h32 : ((3 : Int32) = 2) = False := eq_false (by decide)
  rw [e139_0]
  by_cases h0 : w = 0
  · subst h0
    simp only [B139_0, xSeq, i_push, i_load, i_iload, i_lload, i_dload, i_aload, i_istore, i_astore, i_lstore, i_dstore, i_iinc, i_ii, i_iiz, i_ll, i_llz, i_lli, i_li, i_i, i_l, i_i2l, i_l2i, i_dup, i_dup2, i_dup2w, i_dupx1, i_pop, i_pop2, i_goto, i_ifc, i_icmp, i_getI, i_getL, i_getR, i_putI, i_putZ, i_putL, i_putR, i_aldI, i_aldB, i_aldL, i_aldD, i_astI, i_astL, i_astD, i_alen, i_ret, i_iret, i_zret, i_lret, i_fret, i_dret, i_aret, i_invS0, i_invV0, i_m2, i_m1, i_ml, i_obj, lk, lkp, stf1, stf2, Value.category, rV, xTo, lv_args, xCk, xCat, xRc, xAk, hg_S, hg_I, hg_J, hg_D, hg_R, hs_I, hs_J, hs_D, hs_R, uI_at, uJ_at, uD_at, uR_at, List.take_succ_cons, List.take_zero, List.drop_succ_cons, List.drop_zero, List.reverse_cons, List.reverse_nil, List.nil_append, List.cons_append, List.map_cons, List.map_nil, List.sum_cons, List.sum_nil, List.length_cons, List.length_nil, Option.toList_some, Option.toList_none, true_and, and_true, false_and, and_false, true_implies, false_implies, implies_true, not_true_eq_false, not_false_eq_true, ne_eq, if_true, if_false, Bool.and_true, Bool.true_and, decide_true, decide_false, reduceIte, reduceCtorEq, Bool.and_self, Bool.and_eq_true, decide_eq_true_eq, and_self, true_or, or_true, false_or, or_false, Nat.zero_add, Nat.add_zero, eq_self, Nat.reduceEqDiff, Nat.reduceLeDiff, Nat.reduceLT, Nat.reduceAdd, Nat.reduceSub, Nat.reduceMul, i_sw_eq, swf, e139_36, B139_36, vF]
  · by_cases h1 : w = 1
    · subst h1
      simp only [B139_0, xSeq, i_push, i_load, i_iload, i_lload, i_dload, i_aload, i_istore, i_astore, i_lstore, i_dstore, i_iinc, i_ii, i_iiz, i_ll, i_llz, i_lli, i_li, i_i, i_l, i_i2l, i_l2i, i_dup, i_dup2, i_dup2w, i_dupx1, i_pop, i_pop2, i_goto, i_ifc, i_icmp, i_getI, i_getL, i_getR, i_putI, i_putZ, i_putL, i_putR, i_aldI, i_aldB, i_aldL, i_aldD, i_astI, i_astL, i_astD, i_alen, i_ret, i_iret, i_zret, i_lret, i_fret, i_dret, i_aret, i_invS0, i_invV0, i_m2, i_m1, i_ml, i_obj, lk, lkp, stf1, stf2, Value.category, rV, xTo, lv_args, xCk, xCat, xRc, xAk, hg_S, hg_I, hg_J, hg_D, hg_R, hs_I, hs_J, hs_D, hs_R, uI_at, uJ_at, uD_at, uR_at, List.take_succ_cons, List.take_zero, List.drop_succ_cons, List.drop_zero, List.reverse_cons, List.reverse_nil, List.nil_append, List.cons_append, List.map_cons, List.map_nil, List.sum_cons, List.sum_nil, List.length_cons, List.length_nil, Option.toList_some, Option.toList_none, true_and, and_true, false_and, and_false, true_implies, false_implies, implies_true, not_true_eq_false, not_false_eq_true, ne_eq, if_true, if_false, Bool.and_true, Bool.true_and, decide_true, decide_false, reduceIte, reduceCtorEq, Bool.and_self, Bool.and_eq_true, decide_eq_true_eq, and_self, true_or, or_true, false_or, or_false, Nat.zero_add, Nat.add_zero, eq_self, Nat.reduceEqDiff, Nat.reduceLeDiff, Nat.reduceLT, Nat.reduceAdd, Nat.reduceSub, Nat.reduceMul, i_sw_eq, swf, h10, e139_39, B139_39, vF]
    · by_cases h2 : w = 2
      · subst h2
        simp only [B139_0, xSeq, i_push, i_load, i_iload, i_lload, i_dload, i_aload, i_istore, i_astore, i_lstore, i_dstore, i_iinc, i_ii, i_iiz, i_ll, i_llz, i_lli, i_li, i_i, i_l, i_i2l, i_l2i, i_dup, i_dup2, i_dup2w, i_dupx1, i_pop, i_pop2, i_goto, i_ifc, i_icmp, i_getI, i_getL, i_getR, i_putI, i_putZ, i_putL, i_putR, i_aldI, i_aldB, i_aldL, i_aldD, i_astI, i_astL, i_astD, i_alen, i_ret, i_iret, i_zret, i_lret, i_fret, i_dret, i_aret, i_invS0, i_invV0, i_m2, i_m1, i_ml, i_obj, lk, lkp, stf1, stf2, Value.category, rV, xTo, lv_args, xCk, xCat, xRc, xAk, hg_S, hg_I, hg_J, hg_D, hg_R, hs_I, hs_J, hs_D, hs_R, uI_at, uJ_at, uD_at, uR_at, List.take_succ_cons, List.take_zero, List.drop_succ_cons, List.drop_zero, List.reverse_cons, List.reverse_nil, List.nil_append, List.cons_append, List.map_cons, List.map_nil, List.sum_cons, List.sum_nil, List.length_cons, List.length_nil, Option.toList_some, Option.toList_none, true_and, and_true, false_and, and_false, true_implies, false_implies, implies_true, not_true_eq_false, not_false_eq_true, ne_eq, if_true, if_false, Bool.and_true, Bool.true_and, decide_true, decide_false, reduceIte, reduceCtorEq, Bool.and_self, Bool.and_eq_true, decide_eq_true_eq, and_self, true_or, or_true, false_or, or_false, Nat.zero_add, Nat.add_zero, eq_self, Nat.reduceEqDiff, Nat.reduceLeDiff, Nat.reduceLT, Nat.reduceAdd, Nat.reduceSub, Nat.reduceMul, i_sw_eq, swf, h20, h21, e139_45, B139_45, vF]
      · by_cases h3 : w = 3
        · subst h3
          simp only [B139_0, xSeq, i_push, i_load, i_iload, i_lload, i_dload, i_aload, i_istore, i_astore, i_lstore, i_dstore, i_iinc, i_ii, i_iiz, i_ll, i_llz, i_lli, i_li, i_i, i_l, i_i2l, i_l2i, i_dup, i_dup2, i_dup2w, i_dupx1, i_pop, i_pop2, i_goto, i_ifc, i_icmp, i_getI, i_getL, i_getR, i_putI, i_putZ, i_putL, i_putR, i_aldI, i_aldB, i_aldL, i_aldD, i_astI, i_astL, i_astD, i_alen, i_ret, i_iret, i_zret, i_lret, i_fret, i_dret, i_aret, i_invS0, i_invV0, i_m2, i_m1, i_ml, i_obj, lk, lkp, stf1, stf2, Value.category, rV, xTo, lv_args, xCk, xCat, xRc, xAk, hg_S, hg_I, hg_J, hg_D, hg_R, hs_I, hs_J, hs_D, hs_R, uI_at, uJ_at, uD_at, uR_at, List.take_succ_cons, List.take_zero, List.drop_succ_cons, List.drop_zero, List.reverse_cons, List.reverse_nil, List.nil_append, List.cons_append, List.map_cons, List.map_nil, List.sum_cons, List.sum_nil, List.length_cons, List.length_nil, Option.toList_some, Option.toList_none, true_and, and_true, false_and, and_false, true_implies, false_implies, implies_true, not_true_eq_false, not_false_eq_true, ne_eq, if_true, if_false, Bool.and_true, Bool.true_and, decide_true, decide_false, reduceIte, reduceCtorEq, Bool.and_self, Bool.and_eq_true, decide_eq_true_eq, and_self, true_or, or_true, false_or, or_false, Nat.zero_add, Nat.add_zero, eq_self, Nat.reduceEqDiff, Nat.reduceLeDiff, Nat.reduceLT, Nat.reduceAdd, Nat.reduceSub, Nat.reduceMul, i_sw_eq, swf, h30, h31, h32, e139_47, B139_47, vF]
        · simp only [B139_0, xSeq, i_push, i_load, i_iload, i_lload, i_dload, i_aload, i_istore, i_astore, i_lstore, i_dstore, i_iinc, i_ii, i_iiz, i_ll, i_llz, i_lli, i_li, i_i, i_l, i_i2l, i_l2i, i_dup, i_dup2, i_dup2w, i_dupx1, i_pop, i_pop2, i_goto, i_ifc, i_icmp, i_getI, i_getL, i_getR, i_putI, i_putZ, i_putL, i_putR, i_aldI, i_aldB, i_aldL, i_aldD, i_astI, i_astL, i_astD, i_alen, i_ret, i_iret, i_zret, i_lret, i_fret, i_dret, i_aret, i_invS0, i_invV0, i_m2, i_m1, i_ml, i_obj, lk, lkp, stf1, stf2, Value.category, rV, xTo, lv_args, xCk, xCat, xRc, xAk, hg_S, hg_I, hg_J, hg_D, hg_R, hs_I, hs_J, hs_D, hs_R, uI_at, uJ_at, uD_at, uR_at, List.take_succ_cons, List.take_zero, List.drop_succ_cons, List.drop_zero, List.reverse_cons, List.reverse_nil, List.nil_append, List.cons_append, List.map_cons, List.map_nil, List.sum_cons, List.sum_nil, List.length_cons, List.length_nil, Option.toList_some, Option.toList_none, true_and, and_true, false_and, and_false, true_implies, false_implies, implies_true, not_true_eq_false, not_false_eq_true, ne_eq, if_true, if_false, Bool.and_true, Bool.true_and, decide_true, decide_false, reduceIte, reduceCtorEq, Bool.and_self, Bool.and_eq_true, decide_eq_true_eq, and_self, true_or, or_true, false_or, or_false, Nat.zero_add, Nat.add_zero, eq_self, Nat.reduceEqDiff, Nat.reduceLeDiff, Nat.reduceLT, Nat.reduceAdd, Nat.reduceSub, Nat.reduceMul, i_sw_eq, swf, h0, h1, h2, h3, e139_51, B139_51, vF]
theorem abs_m : ∀ n, n < 17 → ∀ p, p < 17 → jAbsL (2 * nI p - nI n).toInt64 = (jAbs (2 * nI p - nI n)).toInt64 := by decide +kernel
theorem R295 {w e m : Int32} (hm : jAbsL m.toInt64 = (jAbs m).toInt64) : xRun xT 295 0 [(0, .int w), (1, .long e.toInt64), (3, .long m.toInt64)] [] (S, I, J, D, R) b Q = Q (.ok (some (.long (vF w e m)))) (S, I, J, D, R) b := by
  have h10 : ((1 : Int32) = 0) = False := eq_false (by decide)
  have h20 : ((2 : Int32) = 0) = False := eq_false (by decide)
  have h21 : ((2 : Int32) = 1) = False := eq_false (by decide)
  have h30 : ((3 : Int32) = 0) = False := eq_false (by decide)
  have h31 : ((3 : Int32) = 1) = False := eq_false (by decide)
  have h32 : ((3 : Int32) = 2) = False := eq_false (by decide)
  have e4 : m.toInt64 * m.toInt64 * m.toInt64 * m.toInt64 = m.toInt64 * m.toInt64 * (m.toInt64 * m.toInt64) := by rw [Int64.mul_assoc (m.toInt64 * m.toInt64)]
  rw [e295_0]
  by_cases h0 : w = 0
  · subst h0
    simp only [B295_0, xSeq, i_push, i_load, i_iload, i_lload, i_dload, i_aload, i_istore, i_astore, i_lstore, i_dstore, i_iinc, i_ii, i_iiz, i_ll, i_llz, i_lli, i_li, i_i, i_l, i_i2l, i_l2i, i_dup, i_dup2, i_dup2w, i_dupx1, i_pop, i_pop2, i_goto, i_ifc, i_icmp, i_getI, i_getL, i_getR, i_putI, i_putZ, i_putL, i_putR, i_aldI, i_aldB, i_aldL, i_aldD, i_astI, i_astL, i_astD, i_alen, i_ret, i_iret, i_zret, i_lret, i_fret, i_dret, i_aret, i_invS0, i_invV0, i_m2, i_m1, i_ml, i_obj, lk, lkp, stf1, stf2, Value.category, rV, xTo, lv_args, xCk, xCat, xRc, xAk, hg_S, hg_I, hg_J, hg_D, hg_R, hs_I, hs_J, hs_D, hs_R, uI_at, uJ_at, uD_at, uR_at, List.take_succ_cons, List.take_zero, List.drop_succ_cons, List.drop_zero, List.reverse_cons, List.reverse_nil, List.nil_append, List.cons_append, List.map_cons, List.map_nil, List.sum_cons, List.sum_nil, List.length_cons, List.length_nil, Option.toList_some, Option.toList_none, true_and, and_true, false_and, and_false, true_implies, false_implies, implies_true, not_true_eq_false, not_false_eq_true, ne_eq, if_true, if_false, Bool.and_true, Bool.true_and, decide_true, decide_false, reduceIte, reduceCtorEq, Bool.and_self, Bool.and_eq_true, decide_eq_true_eq, and_self, true_or, or_true, false_or, or_false, Nat.zero_add, Nat.add_zero, eq_self, Nat.reduceEqDiff, Nat.reduceLeDiff, Nat.reduceLT, Nat.reduceAdd, Nat.reduceSub, Nat.reduceMul, i_sw_eq, swf, e295_32, B295_32, vF]
  · by_cases h1 : w = 1
    · subst h1
      simp only [B295_0, xSeq, i_push, i_load, i_iload, i_lload, i_dload, i_aload, i_istore, i_astore, i_lstore, i_dstore, i_iinc, i_ii, i_iiz, i_ll, i_llz, i_lli, i_li, i_i, i_l, i_i2l, i_l2i, i_dup, i_dup2, i_dup2w, i_dupx1, i_pop, i_pop2, i_goto, i_ifc, i_icmp, i_getI, i_getL, i_getR, i_putI, i_putZ, i_putL, i_putR, i_aldI, i_aldB, i_aldL, i_aldD, i_astI, i_astL, i_astD, i_alen, i_ret, i_iret, i_zret, i_lret, i_fret, i_dret, i_aret, i_invS0, i_invV0, i_m2, i_m1, i_ml, i_obj, lk, lkp, stf1, stf2, Value.category, rV, xTo, lv_args, xCk, xCat, xRc, xAk, hg_S, hg_I, hg_J, hg_D, hg_R, hs_I, hs_J, hs_D, hs_R, uI_at, uJ_at, uD_at, uR_at, List.take_succ_cons, List.take_zero, List.drop_succ_cons, List.drop_zero, List.reverse_cons, List.reverse_nil, List.nil_append, List.cons_append, List.map_cons, List.map_nil, List.sum_cons, List.sum_nil, List.length_cons, List.length_nil, Option.toList_some, Option.toList_none, true_and, and_true, false_and, and_false, true_implies, false_implies, implies_true, not_true_eq_false, not_false_eq_true, ne_eq, if_true, if_false, Bool.and_true, Bool.true_and, decide_true, decide_false, reduceIte, reduceCtorEq, Bool.and_self, Bool.and_eq_true, decide_eq_true_eq, and_self, true_or, or_true, false_or, or_false, Nat.zero_add, Nat.add_zero, eq_self, Nat.reduceEqDiff, Nat.reduceLeDiff, Nat.reduceLT, Nat.reduceAdd, Nat.reduceSub, Nat.reduceMul, i_sw_eq, swf, h10, e295_34, B295_34, hm, vF]
    · by_cases h2 : w = 2
      · subst h2
        simp only [B295_0, xSeq, i_push, i_load, i_iload, i_lload, i_dload, i_aload, i_istore, i_astore, i_lstore, i_dstore, i_iinc, i_ii, i_iiz, i_ll, i_llz, i_lli, i_li, i_i, i_l, i_i2l, i_l2i, i_dup, i_dup2, i_dup2w, i_dupx1, i_pop, i_pop2, i_goto, i_ifc, i_icmp, i_getI, i_getL, i_getR, i_putI, i_putZ, i_putL, i_putR, i_aldI, i_aldB, i_aldL, i_aldD, i_astI, i_astL, i_astD, i_alen, i_ret, i_iret, i_zret, i_lret, i_fret, i_dret, i_aret, i_invS0, i_invV0, i_m2, i_m1, i_ml, i_obj, lk, lkp, stf1, stf2, Value.category, rV, xTo, lv_args, xCk, xCat, xRc, xAk, hg_S, hg_I, hg_J, hg_D, hg_R, hs_I, hs_J, hs_D, hs_R, uI_at, uJ_at, uD_at, uR_at, List.take_succ_cons, List.take_zero, List.drop_succ_cons, List.drop_zero, List.reverse_cons, List.reverse_nil, List.nil_append, List.cons_append, List.map_cons, List.map_nil, List.sum_cons, List.sum_nil, List.length_cons, List.length_nil, Option.toList_some, Option.toList_none, true_and, and_true, false_and, and_false, true_implies, false_implies, implies_true, not_true_eq_false, not_false_eq_true, ne_eq, if_true, if_false, Bool.and_true, Bool.true_and, decide_true, decide_false, reduceIte, reduceCtorEq, Bool.and_self, Bool.and_eq_true, decide_eq_true_eq, and_self, true_or, or_true, false_or, or_false, Nat.zero_add, Nat.add_zero, eq_self, Nat.reduceEqDiff, Nat.reduceLeDiff, Nat.reduceLT, Nat.reduceAdd, Nat.reduceSub, Nat.reduceMul, i_sw_eq, swf, h20, h21, e295_39, B295_39, vF]
      · by_cases h3 : w = 3
        · subst h3
          simp only [B295_0, xSeq, i_push, i_load, i_iload, i_lload, i_dload, i_aload, i_istore, i_astore, i_lstore, i_dstore, i_iinc, i_ii, i_iiz, i_ll, i_llz, i_lli, i_li, i_i, i_l, i_i2l, i_l2i, i_dup, i_dup2, i_dup2w, i_dupx1, i_pop, i_pop2, i_goto, i_ifc, i_icmp, i_getI, i_getL, i_getR, i_putI, i_putZ, i_putL, i_putR, i_aldI, i_aldB, i_aldL, i_aldD, i_astI, i_astL, i_astD, i_alen, i_ret, i_iret, i_zret, i_lret, i_fret, i_dret, i_aret, i_invS0, i_invV0, i_m2, i_m1, i_ml, i_obj, lk, lkp, stf1, stf2, Value.category, rV, xTo, lv_args, xCk, xCat, xRc, xAk, hg_S, hg_I, hg_J, hg_D, hg_R, hs_I, hs_J, hs_D, hs_R, uI_at, uJ_at, uD_at, uR_at, List.take_succ_cons, List.take_zero, List.drop_succ_cons, List.drop_zero, List.reverse_cons, List.reverse_nil, List.nil_append, List.cons_append, List.map_cons, List.map_nil, List.sum_cons, List.sum_nil, List.length_cons, List.length_nil, Option.toList_some, Option.toList_none, true_and, and_true, false_and, and_false, true_implies, false_implies, implies_true, not_true_eq_false, not_false_eq_true, ne_eq, if_true, if_false, Bool.and_true, Bool.true_and, decide_true, decide_false, reduceIte, reduceCtorEq, Bool.and_self, Bool.and_eq_true, decide_eq_true_eq, and_self, true_or, or_true, false_or, or_false, Nat.zero_add, Nat.add_zero, eq_self, Nat.reduceEqDiff, Nat.reduceLeDiff, Nat.reduceLT, Nat.reduceAdd, Nat.reduceSub, Nat.reduceMul, i_sw_eq, swf, h30, h31, h32, e295_43, B295_43, e4, vF]
        · simp only [B295_0, xSeq, i_push, i_load, i_iload, i_lload, i_dload, i_aload, i_istore, i_astore, i_lstore, i_dstore, i_iinc, i_ii, i_iiz, i_ll, i_llz, i_lli, i_li, i_i, i_l, i_i2l, i_l2i, i_dup, i_dup2, i_dup2w, i_dupx1, i_pop, i_pop2, i_goto, i_ifc, i_icmp, i_getI, i_getL, i_getR, i_putI, i_putZ, i_putL, i_putR, i_aldI, i_aldB, i_aldL, i_aldD, i_astI, i_astL, i_astD, i_alen, i_ret, i_iret, i_zret, i_lret, i_fret, i_dret, i_aret, i_invS0, i_invV0, i_m2, i_m1, i_ml, i_obj, lk, lkp, stf1, stf2, Value.category, rV, xTo, lv_args, xCk, xCat, xRc, xAk, hg_S, hg_I, hg_J, hg_D, hg_R, hs_I, hs_J, hs_D, hs_R, uI_at, uJ_at, uD_at, uR_at, List.take_succ_cons, List.take_zero, List.drop_succ_cons, List.drop_zero, List.reverse_cons, List.reverse_nil, List.nil_append, List.cons_append, List.map_cons, List.map_nil, List.sum_cons, List.sum_nil, List.length_cons, List.length_nil, Option.toList_some, Option.toList_none, true_and, and_true, false_and, and_false, true_implies, false_implies, implies_true, not_true_eq_false, not_false_eq_true, ne_eq, if_true, if_false, Bool.and_true, Bool.true_and, decide_true, decide_false, reduceIte, reduceCtorEq, Bool.and_self, Bool.and_eq_true, decide_eq_true_eq, and_self, true_or, or_true, false_or, or_false, Nat.zero_add, Nat.add_zero, eq_self, Nat.reduceEqDiff, Nat.reduceLeDiff, Nat.reduceLT, Nat.reduceAdd, Nat.reduceSub, Nat.reduceMul, i_sw_eq, swf, h0, h1, h2, h3, e295_51, B295_51, vF]
end
/-! ===== means ===== -/
section
/-- a level's place among the weights -/
def xi (l : List Nat) (i : Nat) : Nat := l.getD i 0 / 17 - l.getD 0 0 / 17
def wt (E : Nat → Int32) (n : Nat) (r : UInt64) (i : Nat) : UInt64 := FP.dmul (FP.i2d (gN E n ((lv E n).getD i 0))) (wP r (xi (lv E n) i))
def vl (E : Nat → Int32) (n : Nat) (w : Int32) (i : Nat) : Int64 := vF w (gE ((lv E n).getD i 0)) (gM n ((lv E n).getD i 0))
def tm (E : Nat → Int32) (n : Nat) (r : UInt64) (w : Int32) (i : Nat) : UInt64 := FP.dmul (wt E n r i) (FP.l2d (vl E n w i))
def sS (E : Nat → Int32) (n : Nat) (r : UInt64) (w : Int32) : Nat → UInt64
  | 0 => FP.dconst0
  | j + 1 => FP.dadd (sS E n r w j) (tm E n r w j)
def sA (E : Nat → Int32) (n : Nat) (r : UInt64) : Nat → UInt64
  | 0 => FP.dconst0
  | j + 1 => FP.dadd (sA E n r j) (wt E n r j)
def mn (E : Nat → Int32) (n : Nat) (r : UInt64) (w : Int32) : UInt64 := FP.ddiv (sS E n r w (lv E n).length) (sA E n r (lv E n).length)
variable {E : Nat → Int32} {n : Nat} {r : UInt64} {w : Int32}
theorem lv_x (hB : EB E n) {i : Nat} (hi : i < (lv E n).length) : (lv E n).getD 0 0 ≤ (lv E n).getD i 0 ∧ xi (lv E n) i < 289 ∧ gE ((lv E n).getD i 0) - gE ((lv E n).getD 0 0) = nI (xi (lv E n) i) := by
  have h1 : (lv E n).getD 0 0 ≤ (lv E n).getD i 0 := by
    rcases Nat.eq_zero_or_pos i with h | h
    · rw [h]; exact Nat.le_refl _
    · have hp := fl_srt (fun k => decide (0 < cL E n k)) 4913
      have h2 : 0 < (lv E n).length := by omega
      have := List.pairwise_iff_getElem.mp hp 0 i h2 hi h
      rw [getD_lt h2, getD_lt hi]
      exact Nat.le_of_lt this
  have h3 := (lv_get hB hi).1
  have h4 : (lv E n).getD 0 0 / 17 ≤ (lv E n).getD i 0 / 17 := Nat.div_le_div_right h1
  refine ⟨h1, by unfold xi; omega, ?_⟩
  unfold gE xi
  rw [← nI_subn h4]
  grind
theorem cL_le {k : Nat} (hB : EB E n) : cL E n k ≤ 65536 := Nat.le_trans (ct_le _ _) (pow16 hB.1)
theorem wt_gp (hB : EB E n) (hr : gp 0 uo r) {i : Nat} : gp 0 (65536 * uo) (wt E n r i) := by
  have hc := cL_le (k := (lv E n).getD i 0) hB
  exact gp_mul (i2d_n (k := cL E n ((lv E n).getD i 0)) (by omega)) (wP_gp hr _) (rp_n (by decide)) (Nat.mul_le_mul_right _ (Nat.mul_le_mul_right _ hc)) rp_0 (by rw [Nat.zero_mul]; exact Nat.zero_le _)
theorem wt_0 (hB : EB E n) : gp uo (65536 * uo) (wt E n r 0) := by
  have hc := cL_le (k := (lv E n).getD 0 0) hB
  have h0 := (lv_get hB (lv_pos hB)).2.1
  have e : wP r (xi (lv E n) 0) = FP.dconst1 := by
    unfold xi
    rw [Nat.sub_self]
    rfl
  unfold wt
  rw [e]
  exact gp_mul (i2d_n (k := cL E n ((lv E n).getD 0 0)) (by omega)) gp_1 (rp_n (by decide)) (Nat.mul_le_mul_right _ (Nat.mul_le_mul_right _ hc)) rp_u (by
    rw [Nat.mul_assoc]
    exact Nat.le_mul_of_pos_left _ h0)
theorem v_e : ∀ k, k < 289 → (Nat.ble ((nI k - 144).toInt64).toInt.natAbs 65536 && Nat.ble ((nI k - 144).toInt64 * (nI k - 144).toInt64).toInt.natAbs 65536) = true := by decide +kernel
theorem v_m : ∀ n, n < 17 → ∀ p, p < n + 1 → (Nat.ble ((jAbs (2 * nI p - nI n)).toInt64).toInt.natAbs 65536 && Nat.ble ((2 * nI p - nI n).toInt64 * (2 * nI p - nI n).toInt64).toInt.natAbs 65536 && Nat.ble ((2 * nI p - nI n).toInt64 * (2 * nI p - nI n).toInt64 * ((2 * nI p - nI n).toInt64 * (2 * nI p - nI n).toInt64)).toInt.natAbs 65536) = true := by decide +kernel
theorem vl_bd (hB : EB E n) {i : Nat} (hi : i < (lv E n).length) : (vl E n w i).toInt.natAbs ≤ 65536 := by
  obtain ⟨h1, h2, h3⟩ := lv_get hB hi
  have hn := hB.1
  have he := v_e ((lv E n).getD i 0 / 17) (by omega)
  have hm := v_m n (by omega) ((lv E n).getD i 0 % 17) (by omega)
  rw [Bool.and_eq_true, Nat.ble_eq, Nat.ble_eq] at he
  rw [Bool.and_eq_true, Bool.and_eq_true, Nat.ble_eq, Nat.ble_eq, Nat.ble_eq] at hm
  unfold vl vF gE gM
  split
  · exact he.1
  · split
    · exact hm.1.1
    · split
      · exact hm.1.2
      · split
        · exact hm.2
        · exact he.2
theorem l2d_fb {a : Int64} {K : Nat} (h : a.toInt.natAbs ≤ K) (hK : K < 9007199254740992) : fb (K * uo) (FP.l2d a) :=
  fb_le (l2d_z rfl (by omega)).1 (Nat.mul_le_mul_right _ h)
theorem tm_fb (hB : EB E n) (hr : gp 0 uo r) {i : Nat} (hi : i < (lv E n).length) : fb (4294967296 * uo) (tm E n r w i) := by
  refine fb_mul (gp_fb (wt_gp hB hr)) (l2d_fb (vl_bd hB hi) (by decide)) (rp_n (by decide)) (Nat.le_of_eq ?_)
  rw [Nat.mul_mul_mul_comm, Nat.mul_assoc 4294967296]
theorem sS_fb (hB : EB E n) (hr : gp 0 uo r) : ∀ j, j ≤ (lv E n).length → fb (j * 4294967296 * uo) (sS E n r w j)
  | 0, _ => fb_le (gp_fb gp_0) (Nat.zero_le _)
  | j + 1, h => by
    have hl := lv_len E n
    refine fb_add (sS_fb hB hr j (by omega)) (tm_fb hB hr (by omega)) (rp_n (by omega)) (Nat.le_of_eq ?_)
    rw [Nat.succ_mul j, Nat.add_mul]
theorem sA_gp (hB : EB E n) (hr : gp 0 uo r) : ∀ j, j + 1 ≤ (lv E n).length → gp uo ((j + 1) * 65536 * uo) (sA E n r (j + 1))
  | 0, h => gp_add gp_0 (wt_0 hB) (rp_n (by decide)) (by rw [Nat.zero_add, Nat.one_mul]; exact Nat.le_refl _) rp_u (by rw [Nat.zero_add]; exact Nat.le_refl _)
  | j + 1, h => by
    have hl := lv_len E n
    have e : (j + 1) * 65536 * uo + 65536 * uo = (j + 1 + 1) * 65536 * uo := by
      have e2 : (j + 1 + 1) * 65536 = (j + 1) * 65536 + 65536 := Nat.succ_mul _ _
      rw [e2, Nat.add_mul ((j + 1) * 65536)]
    exact gp_add (sA_gp hB hr j (by omega)) (wt_gp hB hr) (rp_n (by omega)) (Nat.le_of_eq e) rp_u (Nat.le_add_right _ _)
theorem sA_n (hB : EB E n) (hr : gp 0 uo r) {j : Nat} (h : j ≤ (lv E n).length) : isNaN64 (sA E n r j) = false := by
  rcases Nat.eq_zero_or_pos j with e | e
  · subst e
    exact fb_n (gp_fb gp_0)
  · obtain ⟨j', rfl⟩ : ∃ j', j = j' + 1 := ⟨j - 1, by omega⟩
    exact fb_n (gp_fb (sA_gp hB hr j' h))
theorem sA_all (hB : EB E n) (hr : gp 0 uo r) : gp uo (4913 * 65536 * uo) (sA E n r (lv E n).length) := by
  have hl := lv_len E n
  have h0 := lv_pos hB
  obtain ⟨j', hj⟩ : ∃ j', (lv E n).length = j' + 1 := ⟨(lv E n).length - 1, by omega⟩
  rw [hj]
  exact gp_le (sA_gp hB hr j' (by omega)) (Nat.le_refl _) (Nat.mul_le_mul_right _ (Nat.mul_le_mul_right _ (by omega)))
theorem mn_fb (hB : EB E n) (hr : gp 0 uo r) : fb (4913 * 4294967296 * uo) (mn E n r w) := by
  have hl := lv_len E n
  exact fb_div (fb_le (sS_fb hB hr _ (Nat.le_refl _)) (Nat.mul_le_mul_right _ (Nat.mul_le_mul_right _ hl))) (sA_all hB hr) uo_pos (rp_n (by decide)) (Nat.le_refl _)
variable {S : xS} {I : xI} {J : xJ} {D : xDb} {R : xR} {b : Nat × Nat} {Q : xQ} {x y : Nat}
theorem R107_8 (hL : LC S R) (hX : XL n E S I R) (hB : EB E n) (h : AB x y) (hD : ∀ k, k < 289 → D 139 k = wP (rtP x y) k) : ∀ (j i : Nat), i + j = (lv E n).length → xRun xT 107 8 [(0, .ref 130), (1, .int w), (2, .double (sS E n (rtP x y) w i)), (4, .double (sA E n (rtP x y) i)), (6, .int (nI i))] [] (S, I, J, D, R) b Q = Q (.ok (some (.double (mn E n (rtP x y) w)))) (S, I, J, D, R) b
  | 0, i, hi => by
    have hl := lv_len E n
    have hr := rtP_gp h
    have e : i = (lv E n).length := by omega
    rw [e107_8]
    simp only [B107_8, xSeq, i_push, i_load, i_iload, i_lload, i_dload, i_aload, i_istore, i_astore, i_lstore, i_dstore, i_iinc, i_ii, i_iiz, i_ll, i_llz, i_lli, i_li, i_i, i_l, i_i2l, i_l2i, i_dup, i_dup2, i_dup2w, i_dupx1, i_pop, i_pop2, i_goto, i_ifc, i_icmp, i_getI, i_getL, i_getR, i_putI, i_putZ, i_putL, i_putR, i_aldI, i_aldB, i_aldL, i_aldD, i_astI, i_astL, i_astD, i_alen, i_ret, i_iret, i_zret, i_lret, i_fret, i_dret, i_aret, i_invS0, i_invV0, i_m2, i_m1, i_ml, i_obj, lk, lkp, stf1, stf2, Value.category, rV, xTo, lv_args, xCk, xCat, xRc, xAk, hg_S, hg_I, hg_J, hg_D, hg_R, hs_I, hs_J, hs_D, hs_R, uI_at, uJ_at, uD_at, uR_at, List.take_succ_cons, List.take_zero, List.drop_succ_cons, List.drop_zero, List.reverse_cons, List.reverse_nil, List.nil_append, List.cons_append, List.map_cons, List.map_nil, List.sum_cons, List.sum_nil, List.length_cons, List.length_nil, Option.toList_some, Option.toList_none, true_and, and_true, false_and, and_false, true_implies, false_implies, implies_true, not_true_eq_false, not_false_eq_true, ne_eq, if_true, if_false, Bool.and_true, Bool.true_and, decide_true, decide_false, reduceIte, reduceCtorEq, Bool.and_self, Bool.and_eq_true, decide_eq_true_eq, and_self, true_or, or_true, false_or, or_false, Nat.zero_add, Nat.add_zero, eq_self, Nat.reduceEqDiff, Nat.reduceLeDiff, Nat.reduceLT, Nat.reduceAdd, Nat.reduceSub, Nat.reduceMul, LC_out hL, hX.2.2.2.2.2.1, e, nI_leP (show (lv E n).length < 2147483648 by omega) (show (lv E n).length < 2147483648 by omega), Nat.le_refl, e107_83, B107_83, R108 (gp_cmp (sA_all hB hr) uo_pos) (fb_n (mn_fb (w := w) hB hr)), mn]
  | j + 1, i, hi => by
    have hl := lv_len E n
    have hr := rtP_gp h
    have ih := R107_8 hL hX hB h hD j (i + 1) (by omega)
    have hi2 : i < (lv E n).length := by omega
    obtain ⟨g1, g2, g3⟩ := hX.2.2.2.2.2.2.1 i hi2
    obtain ⟨-, x2, x3⟩ := lv_x hB hi2
    have e1 : FP.dmul (FP.i2d (gN E n ((lv E n).getD i 0))) (wP (rtP x y) (xi (lv E n) i)) = wt E n (rtP x y) i := rfl
    have e2 : vF w (gE ((lv E n).getD i 0)) (gM n ((lv E n).getD i 0)) = vl E n w i := rfl
    have e3 : FP.dmul (wt E n (rtP x y) i) (FP.l2d (vl E n w i)) = tm E n (rtP x y) w i := rfl
    have e4 : FP.dadd (sS E n (rtP x y) w i) (tm E n (rtP x y) w i) = sS E n (rtP x y) w (i + 1) := rfl
    have e5 : FP.dadd (sA E n (rtP x y) i) (wt E n (rtP x y) i) = sA E n (rtP x y) (i + 1) := rfl
    have n1 : isNaN64 (wt E n (rtP x y) i) = false := fb_n (gp_fb (wt_gp hB hr))
    have n3 : isNaN64 (tm E n (rtP x y) w i) = false := fb_n (tm_fb hB hr hi2)
    have n4 : isNaN64 (sS E n (rtP x y) w (i + 1)) = false := fb_n (sS_fb hB hr (i + 1) (by omega))
    have n5 : isNaN64 (sA E n (rtP x y) (i + 1)) = false := sA_n hB hr (by omega)
    rw [e107_8]
    simp only [B107_8, xSeq, i_push, i_load, i_iload, i_lload, i_dload, i_aload, i_istore, i_astore, i_lstore, i_dstore, i_iinc, i_ii, i_iiz, i_ll, i_llz, i_lli, i_li, i_i, i_l, i_i2l, i_l2i, i_dup, i_dup2, i_dup2w, i_dupx1, i_pop, i_pop2, i_goto, i_ifc, i_icmp, i_getI, i_getL, i_getR, i_putI, i_putZ, i_putL, i_putR, i_aldI, i_aldB, i_aldL, i_aldD, i_astI, i_astL, i_astD, i_alen, i_ret, i_iret, i_zret, i_lret, i_fret, i_dret, i_aret, i_invS0, i_invV0, i_m2, i_m1, i_ml, i_obj, lk, lkp, stf1, stf2, Value.category, rV, xTo, lv_args, xCk, xCat, xRc, xAk, hg_S, hg_I, hg_J, hg_D, hg_R, hs_I, hs_J, hs_D, hs_R, uI_at, uJ_at, uD_at, uR_at, List.take_succ_cons, List.take_zero, List.drop_succ_cons, List.drop_zero, List.reverse_cons, List.reverse_nil, List.nil_append, List.cons_append, List.map_cons, List.map_nil, List.sum_cons, List.sum_nil, List.length_cons, List.length_nil, Option.toList_some, Option.toList_none, true_and, and_true, false_and, and_false, true_implies, false_implies, implies_true, not_true_eq_false, not_false_eq_true, ne_eq, if_true, if_false, Bool.and_true, Bool.true_and, decide_true, decide_false, reduceIte, reduceCtorEq, Bool.and_self, Bool.and_eq_true, decide_eq_true_eq, and_self, true_or, or_true, false_or, or_false, Nat.zero_add, Nat.add_zero, eq_self, Nat.reduceEqDiff, Nat.reduceLeDiff, Nat.reduceLT, Nat.reduceAdd, Nat.reduceSub, Nat.reduceMul, LC_out hL, LE_out hX.1, hX.2.2.2.2.1, hX.2.2.2.2.2.1, nI_leP (show (lv E n).length < 2147483648 by omega) (show i < 2147483648 by omega), show ((lv E n).length ≤ i) = False from eq_false (by omega), nI_inP (show i < 4913 by omega) (by decide), nI_ix (show i < 2147483648 by omega), g1, g2, g3, x3, nI_inP x2 (by decide), nI_ix (show xi (lv E n) i < 2147483648 by omega), hD _ x2, i_i2d, i_l2d, i_dd, e1, al_eq n1, R139, e2, e3, al_eq n3, e4, al_eq n4, e5, al_eq n5, nI_1, ih]
theorem R107 (hL : LC S R) (hX : XL n E S I R) (hB : EB E n) (h : AB x y) (hD : ∀ k, k < 289 → D 139 k = wP (rtP x y) k) : xRun xT 107 0 [(0, .ref 130), (1, .int w)] [] (S, I, J, D, R) b Q = Q (.ok (some (.double (mn E n (rtP x y) w)))) (S, I, J, D, R) b := by
  have h8 := R107_8 (J := J) (b := b) (Q := Q) (w := w) hL hX hB h hD (lv E n).length 0 (by omega)
  rw [nI_0] at h8
  rw [e107_0]
  simp only [B107_0, xSeq, i_push, i_load, i_iload, i_lload, i_dload, i_aload, i_istore, i_astore, i_lstore, i_dstore, i_iinc, i_ii, i_iiz, i_ll, i_llz, i_lli, i_li, i_i, i_l, i_i2l, i_l2i, i_dup, i_dup2, i_dup2w, i_dupx1, i_pop, i_pop2, i_goto, i_ifc, i_icmp, i_getI, i_getL, i_getR, i_putI, i_putZ, i_putL, i_putR, i_aldI, i_aldB, i_aldL, i_aldD, i_astI, i_astL, i_astD, i_alen, i_ret, i_iret, i_zret, i_lret, i_fret, i_dret, i_aret, i_invS0, i_invV0, i_m2, i_m1, i_ml, i_obj, lk, lkp, stf1, stf2, Value.category, rV, xTo, lv_args, xCk, xCat, xRc, xAk, hg_S, hg_I, hg_J, hg_D, hg_R, hs_I, hs_J, hs_D, hs_R, uI_at, uJ_at, uD_at, uR_at, List.take_succ_cons, List.take_zero, List.drop_succ_cons, List.drop_zero, List.reverse_cons, List.reverse_nil, List.nil_append, List.cons_append, List.map_cons, List.map_nil, List.sum_cons, List.sum_nil, List.length_cons, List.length_nil, Option.toList_some, Option.toList_none, true_and, and_true, false_and, and_false, true_implies, false_implies, implies_true, not_true_eq_false, not_false_eq_true, ne_eq, if_true, if_false, Bool.and_true, Bool.true_and, decide_true, decide_false, reduceIte, reduceCtorEq, Bool.and_self, Bool.and_eq_true, decide_eq_true_eq, and_self, true_or, or_true, false_or, or_false, Nat.zero_add, Nat.add_zero, eq_self, Nat.reduceEqDiff, Nat.reduceLeDiff, Nat.reduceLT, Nat.reduceAdd, Nat.reduceSub, Nat.reduceMul]
  exact h8
theorem L316_9 (hL : LM S R) (h : AB x y)
    (kk : ∀ D', (∀ k, k < 401 → D' 352 k = wP (rtP x y) k) → (∀ o k, o ≠ 352 → D' o k = D o k) → Q (.ok none) (S, I, J, D', R) b) :
    ∀ (j i : Nat) (D1 : xDb), i + j = 401 → 0 < i → (∀ k, k < i → D1 352 k = wP (rtP x y) k) → (∀ o k, o ≠ 352 → D1 o k = D o k) → xRun xT 316 9 [(0, .ref 200), (1, .int (nI x)), (2, .int (nI y)), (3, .int (nI i))] [] (S, I, J, D1, R) b Q
  | 0, i, D1, hi, h0, h1, h2 => by
    have e : i = 401 := by omega
    subst e
    rw [e316_9]
    simp only [B316_9, xSeq, i_push, i_load, i_iload, i_lload, i_dload, i_aload, i_istore, i_astore, i_lstore, i_dstore, i_iinc, i_ii, i_iiz, i_ll, i_llz, i_lli, i_li, i_i, i_l, i_i2l, i_l2i, i_dup, i_dup2, i_dup2w, i_dupx1, i_pop, i_pop2, i_goto, i_ifc, i_icmp, i_getI, i_getL, i_getR, i_putI, i_putZ, i_putL, i_putR, i_aldI, i_aldB, i_aldL, i_aldD, i_astI, i_astL, i_astD, i_alen, i_ret, i_iret, i_zret, i_lret, i_fret, i_dret, i_aret, i_invS0, i_invV0, i_m2, i_m1, i_ml, i_obj, lk, lkp, stf1, stf2, Value.category, rV, xTo, lv_args, xCk, xCat, xRc, xAk, hg_S, hg_I, hg_J, hg_D, hg_R, hs_I, hs_J, hs_D, hs_R, uI_at, uJ_at, uD_at, uR_at, List.take_succ_cons, List.take_zero, List.drop_succ_cons, List.drop_zero, List.reverse_cons, List.reverse_nil, List.nil_append, List.cons_append, List.map_cons, List.map_nil, List.sum_cons, List.sum_nil, List.length_cons, List.length_nil, Option.toList_some, Option.toList_none, true_and, and_true, false_and, and_false, true_implies, false_implies, implies_true, not_true_eq_false, not_false_eq_true, ne_eq, if_true, if_false, Bool.and_true, Bool.true_and, decide_true, decide_false, reduceIte, reduceCtorEq, Bool.and_self, Bool.and_eq_true, decide_eq_true_eq, and_self, true_or, or_true, false_or, or_false, Nat.zero_add, Nat.add_zero, eq_self, Nat.reduceEqDiff, Nat.reduceLeDiff, Nat.reduceLT, Nat.reduceAdd, Nat.reduceSub, Nat.reduceMul, show ((401 : Int32) ≤ nI 401) = True from eq_true (by decide), e316_42, B316_42]
    exact kk D1 h1 h2
  | j + 1, i, D1, hi, h0, h1, h2 => by
    have e1 : ((401 : Int32) ≤ nI i) = False := eq_false (by rw [show (401 : Int32) = nI 401 from rfl]; exact nI_ge (by omega) (by decide))
    have e2 : nI i - 1 = nI (i - 1) := by rw [show (1 : Int32) = nI 1 from rfl, nI_subn h0]
    have hn0 : isNaN64 (rtP x y) = false := fb_n (gp_fb (rtP_gp h))
    have hn : isNaN64 (wP (rtP x y) i) = false := fb_n (gp_fb (wP_gp (rtP_gp h) i))
    have e4 : FP.ddiv (FP.i2d (nI x)) (FP.i2d (nI y)) = rtP x y := rfl
    have e3 : FP.dmul (wP (rtP x y) (i - 1)) (rtP x y) = wP (rtP x y) i := by
      obtain ⟨i', rfl⟩ : ∃ i', i = i' + 1 := ⟨i - 1, by omega⟩
      rfl
    rw [e316_9]
    simp only [B316_9, xSeq, i_push, i_load, i_iload, i_lload, i_dload, i_aload, i_istore, i_astore, i_lstore, i_dstore, i_iinc, i_ii, i_iiz, i_ll, i_llz, i_lli, i_li, i_i, i_l, i_i2l, i_l2i, i_dup, i_dup2, i_dup2w, i_dupx1, i_pop, i_pop2, i_goto, i_ifc, i_icmp, i_getI, i_getL, i_getR, i_putI, i_putZ, i_putL, i_putR, i_aldI, i_aldB, i_aldL, i_aldD, i_astI, i_astL, i_astD, i_alen, i_ret, i_iret, i_zret, i_lret, i_fret, i_dret, i_aret, i_invS0, i_invV0, i_m2, i_m1, i_ml, i_obj, lk, lkp, stf1, stf2, Value.category, rV, xTo, lv_args, xCk, xCat, xRc, xAk, hg_S, hg_I, hg_J, hg_D, hg_R, hs_I, hs_J, hs_D, hs_R, uI_at, uJ_at, uD_at, uR_at, List.take_succ_cons, List.take_zero, List.drop_succ_cons, List.drop_zero, List.reverse_cons, List.reverse_nil, List.nil_append, List.cons_append, List.map_cons, List.map_nil, List.sum_cons, List.sum_nil, List.length_cons, List.length_nil, Option.toList_some, Option.toList_none, true_and, and_true, false_and, and_false, true_implies, false_implies, implies_true, not_true_eq_false, not_false_eq_true, ne_eq, if_true, if_false, Bool.and_true, Bool.true_and, decide_true, decide_false, reduceIte, reduceCtorEq, Bool.and_self, Bool.and_eq_true, decide_eq_true_eq, and_self, true_or, or_true, false_or, or_false, Nat.zero_add, Nat.add_zero, eq_self, Nat.reduceEqDiff, Nat.reduceLeDiff, Nat.reduceLT, Nat.reduceAdd, Nat.reduceSub, Nat.reduceMul, LM_out hL, e1, e2, nI_inP (show i < 401 by omega) (by decide), nI_ix (show i < 2147483648 by omega), nI_inP (show i - 1 < 401 by omega) (by decide), nI_ix (show i - 1 < 2147483648 by omega), h1 (i - 1) (by omega), i_i2d, i_dd, e4, al_eq hn0, e3, al_eq hn, nI_1]
    refine L316_9 hL h kk j (i + 1) _ (by omega) (by omega) (fun k hk => ?_) (fun o k ho => ?_)
    · rw [uD_at]
      by_cases e : k = i
      · rw [if_pos ⟨rfl, e⟩, e]
      · rw [if_neg (fun h => e h.2)]
        exact h1 k (by omega)
    · rw [uD_at, if_neg (fun h => ho h.1)]
      exact h2 o k ho
theorem L316 (hL : LM S R) (h : AB x y)
    (kk : ∀ D', (∀ k, k < 401 → D' 352 k = wP (rtP x y) k) → (∀ o k, o ≠ 352 → D' o k = D o k) → Q (.ok none) (S, I, J, D', R) b) :
    xRun xT 316 0 [(0, .ref 200), (1, .int (nI x)), (2, .int (nI y))] [] (S, I, J, D, R) b Q := by
  have h9 := L316_9 (I := I) (J := J) (b := b) (Q := Q) hL h kk 400 1 (uD D 352 0 FP.dconst1) (by decide) (by decide) (fun k hk => by
    rw [uD_at, if_pos ⟨rfl, by omega⟩, show k = 0 by omega]
    rfl) (fun o k ho => by rw [uD_at, if_neg (fun h => ho h.1)])
  rw [e316_0]
  simp only [B316_0, xSeq, i_push, i_load, i_iload, i_lload, i_dload, i_aload, i_istore, i_astore, i_lstore, i_dstore, i_iinc, i_ii, i_iiz, i_ll, i_llz, i_lli, i_li, i_i, i_l, i_i2l, i_l2i, i_dup, i_dup2, i_dup2w, i_dupx1, i_pop, i_pop2, i_goto, i_ifc, i_icmp, i_getI, i_getL, i_getR, i_putI, i_putZ, i_putL, i_putR, i_aldI, i_aldB, i_aldL, i_aldD, i_astI, i_astL, i_astD, i_alen, i_ret, i_iret, i_zret, i_lret, i_fret, i_dret, i_aret, i_invS0, i_invV0, i_m2, i_m1, i_ml, i_obj, lk, lkp, stf1, stf2, Value.category, rV, xTo, lv_args, xCk, xCat, xRc, xAk, hg_S, hg_I, hg_J, hg_D, hg_R, hs_I, hs_J, hs_D, hs_R, uI_at, uJ_at, uD_at, uR_at, List.take_succ_cons, List.take_zero, List.drop_succ_cons, List.drop_zero, List.reverse_cons, List.reverse_nil, List.nil_append, List.cons_append, List.map_cons, List.map_nil, List.sum_cons, List.sum_nil, List.length_cons, List.length_nil, Option.toList_some, Option.toList_none, true_and, and_true, false_and, and_false, true_implies, false_implies, implies_true, not_true_eq_false, not_false_eq_true, ne_eq, if_true, if_false, Bool.and_true, Bool.true_and, decide_true, decide_false, reduceIte, reduceCtorEq, Bool.and_self, Bool.and_eq_true, decide_eq_true_eq, and_self, true_or, or_true, false_or, or_false, Nat.zero_add, Nat.add_zero, eq_self, Nat.reduceEqDiff, Nat.reduceLeDiff, Nat.reduceLT, Nat.reduceAdd, Nat.reduceSub, Nat.reduceMul, LM_out hL, xi0 (show 0 < 401 by decide) (by decide), ix_0]
  exact h9
theorem R317_11 (hL : LM S R) (hX : XM n E I) (hB : EB E n) (h : AB x y) (hD : ∀ k, k < 401 → D 352 k = wP (rtP x y) k) : ∀ (j i : Nat), i + j = (lv E n).length → xRun xT 317 11 [(0, .ref 200), (3, .double (sA E n (rtP x y) i)), (5, .int (nI i))] [] (S, I, J, D, R) b Q = Q (.ok (some (.double (sA E n (rtP x y) (lv E n).length)))) (S, I, J, D, R) b
  | 0, i, hi => by
    have hl := lv_len E n
    have e : i = (lv E n).length := by omega
    rw [e317_11]
    simp only [B317_11, xSeq, i_push, i_load, i_iload, i_lload, i_dload, i_aload, i_istore, i_astore, i_lstore, i_dstore, i_iinc, i_ii, i_iiz, i_ll, i_llz, i_lli, i_li, i_i, i_l, i_i2l, i_l2i, i_dup, i_dup2, i_dup2w, i_dupx1, i_pop, i_pop2, i_goto, i_ifc, i_icmp, i_getI, i_getL, i_getR, i_putI, i_putZ, i_putL, i_putR, i_aldI, i_aldB, i_aldL, i_aldD, i_astI, i_astL, i_astD, i_alen, i_ret, i_iret, i_zret, i_lret, i_fret, i_dret, i_aret, i_invS0, i_invV0, i_m2, i_m1, i_ml, i_obj, lk, lkp, stf1, stf2, Value.category, rV, xTo, lv_args, xCk, xCat, xRc, xAk, hg_S, hg_I, hg_J, hg_D, hg_R, hs_I, hs_J, hs_D, hs_R, uI_at, uJ_at, uD_at, uR_at, List.take_succ_cons, List.take_zero, List.drop_succ_cons, List.drop_zero, List.reverse_cons, List.reverse_nil, List.nil_append, List.cons_append, List.map_cons, List.map_nil, List.sum_cons, List.sum_nil, List.length_cons, List.length_nil, Option.toList_some, Option.toList_none, true_and, and_true, false_and, and_false, true_implies, false_implies, implies_true, not_true_eq_false, not_false_eq_true, ne_eq, if_true, if_false, Bool.and_true, Bool.true_and, decide_true, decide_false, reduceIte, reduceCtorEq, Bool.and_self, Bool.and_eq_true, decide_eq_true_eq, and_self, true_or, or_true, false_or, or_false, Nat.zero_add, Nat.add_zero, eq_self, Nat.reduceEqDiff, Nat.reduceLeDiff, Nat.reduceLT, Nat.reduceAdd, Nat.reduceSub, Nat.reduceMul, LM_out hL, hX.2.1, e, nI_leP (show (lv E n).length < 2147483648 by omega) (show (lv E n).length < 2147483648 by omega), Nat.le_refl, e317_55, B317_55]
  | j + 1, i, hi => by
    have hl := lv_len E n
    have hr := rtP_gp h
    have ih := R317_11 hL hX hB h hD j (i + 1) (by omega)
    have hi2 : i < (lv E n).length := by omega
    obtain ⟨g1, g2, g3⟩ := hX.2.2.2.1 i hi2
    obtain ⟨-, x2, x3⟩ := lv_x hB hi2
    have e1 : FP.dmul (FP.i2d (gN E n ((lv E n).getD i 0))) (wP (rtP x y) (xi (lv E n) i)) = wt E n (rtP x y) i := rfl
    have e5 : FP.dadd (sA E n (rtP x y) i) (wt E n (rtP x y) i) = sA E n (rtP x y) (i + 1) := rfl
    have n1 : isNaN64 (wt E n (rtP x y) i) = false := fb_n (gp_fb (wt_gp hB hr))
    have n5 : isNaN64 (sA E n (rtP x y) (i + 1)) = false := sA_n hB hr (by omega)
    rw [e317_11]
    simp only [B317_11, xSeq, i_push, i_load, i_iload, i_lload, i_dload, i_aload, i_istore, i_astore, i_lstore, i_dstore, i_iinc, i_ii, i_iiz, i_ll, i_llz, i_lli, i_li, i_i, i_l, i_i2l, i_l2i, i_dup, i_dup2, i_dup2w, i_dupx1, i_pop, i_pop2, i_goto, i_ifc, i_icmp, i_getI, i_getL, i_getR, i_putI, i_putZ, i_putL, i_putR, i_aldI, i_aldB, i_aldL, i_aldD, i_astI, i_astL, i_astD, i_alen, i_ret, i_iret, i_zret, i_lret, i_fret, i_dret, i_aret, i_invS0, i_invV0, i_m2, i_m1, i_ml, i_obj, lk, lkp, stf1, stf2, Value.category, rV, xTo, lv_args, xCk, xCat, xRc, xAk, hg_S, hg_I, hg_J, hg_D, hg_R, hs_I, hs_J, hs_D, hs_R, uI_at, uJ_at, uD_at, uR_at, List.take_succ_cons, List.take_zero, List.drop_succ_cons, List.drop_zero, List.reverse_cons, List.reverse_nil, List.nil_append, List.cons_append, List.map_cons, List.map_nil, List.sum_cons, List.sum_nil, List.length_cons, List.length_nil, Option.toList_some, Option.toList_none, true_and, and_true, false_and, and_false, true_implies, false_implies, implies_true, not_true_eq_false, not_false_eq_true, ne_eq, if_true, if_false, Bool.and_true, Bool.true_and, decide_true, decide_false, reduceIte, reduceCtorEq, Bool.and_self, Bool.and_eq_true, decide_eq_true_eq, and_self, true_or, or_true, false_or, or_false, Nat.zero_add, Nat.add_zero, eq_self, Nat.reduceEqDiff, Nat.reduceLeDiff, Nat.reduceLT, Nat.reduceAdd, Nat.reduceSub, Nat.reduceMul, LM_out hL, hX.2.1, hX.2.2.1, nI_leP (show (lv E n).length < 2147483648 by omega) (show i < 2147483648 by omega), show ((lv E n).length ≤ i) = False from eq_false (by omega), nI_inP (show i < 6000 by omega) (by decide), nI_ix (show i < 2147483648 by omega), g1, g3, x3, nI_inP (show xi (lv E n) i < 401 by omega) (by decide), nI_ix (show xi (lv E n) i < 2147483648 by omega), hD _ (show xi (lv E n) i < 401 by omega), i_i2d, i_dd, e1, al_eq n1, e5, al_eq n5, nI_1, ih]
theorem L317 (hL : LM S R) (hX : XM n E I) (hB : EB E n) (h : AB x y)
    (kk : ∀ D', (∀ k, k < 401 → D' 352 k = wP (rtP x y) k) → (∀ o k, o ≠ 352 → D' o k = D o k) → Q (.ok (some (.double (sA E n (rtP x y) (lv E n).length)))) (S, I, J, D', R) b) :
    xRun xT 317 0 [(0, .ref 200), (1, .int (nI x)), (2, .int (nI y))] [] (S, I, J, D, R) b Q := by
  rw [e317_0]
  simp only [B317_0, xSeq, i_push, i_load, i_iload, i_lload, i_dload, i_aload, i_istore, i_astore, i_lstore, i_dstore, i_iinc, i_ii, i_iiz, i_ll, i_llz, i_lli, i_li, i_i, i_l, i_i2l, i_l2i, i_dup, i_dup2, i_dup2w, i_dupx1, i_pop, i_pop2, i_goto, i_ifc, i_icmp, i_getI, i_getL, i_getR, i_putI, i_putZ, i_putL, i_putR, i_aldI, i_aldB, i_aldL, i_aldD, i_astI, i_astL, i_astD, i_alen, i_ret, i_iret, i_zret, i_lret, i_fret, i_dret, i_aret, i_invS0, i_invV0, i_m2, i_m1, i_ml, i_obj, lk, lkp, stf1, stf2, Value.category, rV, xTo, lv_args, xCk, xCat, xRc, xAk, hg_S, hg_I, hg_J, hg_D, hg_R, hs_I, hs_J, hs_D, hs_R, uI_at, uJ_at, uD_at, uR_at, List.take_succ_cons, List.take_zero, List.drop_succ_cons, List.drop_zero, List.reverse_cons, List.reverse_nil, List.nil_append, List.cons_append, List.map_cons, List.map_nil, List.sum_cons, List.sum_nil, List.length_cons, List.length_nil, Option.toList_some, Option.toList_none, true_and, and_true, false_and, and_false, true_implies, false_implies, implies_true, not_true_eq_false, not_false_eq_true, ne_eq, if_true, if_false, Bool.and_true, Bool.true_and, decide_true, decide_false, reduceIte, reduceCtorEq, Bool.and_self, Bool.and_eq_true, decide_eq_true_eq, and_self, true_or, or_true, false_or, or_false, Nat.zero_add, Nat.add_zero, eq_self, Nat.reduceEqDiff, Nat.reduceLeDiff, Nat.reduceLT, Nat.reduceAdd, Nat.reduceSub, Nat.reduceMul, LM_out hL]
  refine L316 hL h (fun D' d1 d2 => ?_)
  have h11 := R317_11 (J := J) (b := b) (Q := Q) hL hX hB h d1 (lv E n).length 0 (by omega)
  rw [nI_0] at h11
  simp only [xSeq, i_push, i_load, i_iload, i_lload, i_dload, i_aload, i_istore, i_astore, i_lstore, i_dstore, i_iinc, i_ii, i_iiz, i_ll, i_llz, i_lli, i_li, i_i, i_l, i_i2l, i_l2i, i_dup, i_dup2, i_dup2w, i_dupx1, i_pop, i_pop2, i_goto, i_ifc, i_icmp, i_getI, i_getL, i_getR, i_putI, i_putZ, i_putL, i_putR, i_aldI, i_aldB, i_aldL, i_aldD, i_astI, i_astL, i_astD, i_alen, i_ret, i_iret, i_zret, i_lret, i_fret, i_dret, i_aret, i_invS0, i_invV0, i_m2, i_m1, i_ml, i_obj, lk, lkp, stf1, stf2, Value.category, rV, xTo, lv_args, xCk, xCat, xRc, xAk, hg_S, hg_I, hg_J, hg_D, hg_R, hs_I, hs_J, hs_D, hs_R, uI_at, uJ_at, uD_at, uR_at, List.take_succ_cons, List.take_zero, List.drop_succ_cons, List.drop_zero, List.reverse_cons, List.reverse_nil, List.nil_append, List.cons_append, List.map_cons, List.map_nil, List.sum_cons, List.sum_nil, List.length_cons, List.length_nil, Option.toList_some, Option.toList_none, true_and, and_true, false_and, and_false, true_implies, false_implies, implies_true, not_true_eq_false, not_false_eq_true, ne_eq, if_true, if_false, Bool.and_true, Bool.true_and, decide_true, decide_false, reduceIte, reduceCtorEq, Bool.and_self, Bool.and_eq_true, decide_eq_true_eq, and_self, true_or, or_true, false_or, or_false, Nat.zero_add, Nat.add_zero, eq_self, Nat.reduceEqDiff, Nat.reduceLeDiff, Nat.reduceLT, Nat.reduceAdd, Nat.reduceSub, Nat.reduceMul]
  have e0 : sA E n (rtP x y) 0 = FP.dconst0 := rfl
  rw [e0] at h11
  rw [h11]
  exact kk D' d1 d2
theorem L315_12 (hL : LM S R) (hX : XM n E I) (hB : EB E n) (h : AB x y) (hD : ∀ k, k < 401 → D 352 k = wP (rtP x y) k)
    (kk : ∀ D', (∀ k, k < 401 → D' 352 k = wP (rtP x y) k) → (∀ o k, o ≠ 352 → D' o k = D o k) → Q (.ok (some (.double (mn E n (rtP x y) w)))) (S, I, J, D', R) b) : ∀ (j i : Nat), i + j = (lv E n).length → xRun xT 315 12 [(0, .ref 200), (1, .int w), (2, .int (nI x)), (3, .int (nI y)), (4, .double (sS E n (rtP x y) w i)), (6, .int (nI i))] [] (S, I, J, D, R) b Q
  | 0, i, hi => by
    have hl := lv_len E n
    have hr := rtP_gp h
    have e : i = (lv E n).length := by omega
    have nm : isNaN64 (mn E n (rtP x y) w) = false := fb_n (mn_fb hB hr)
    have em : FP.ddiv (sS E n (rtP x y) w (lv E n).length) (sA E n (rtP x y) (lv E n).length) = mn E n (rtP x y) w := rfl
    rw [e315_12]
    simp only [B315_12, xSeq, i_push, i_load, i_iload, i_lload, i_dload, i_aload, i_istore, i_astore, i_lstore, i_dstore, i_iinc, i_ii, i_iiz, i_ll, i_llz, i_lli, i_li, i_i, i_l, i_i2l, i_l2i, i_dup, i_dup2, i_dup2w, i_dupx1, i_pop, i_pop2, i_goto, i_ifc, i_icmp, i_getI, i_getL, i_getR, i_putI, i_putZ, i_putL, i_putR, i_aldI, i_aldB, i_aldL, i_aldD, i_astI, i_astL, i_astD, i_alen, i_ret, i_iret, i_zret, i_lret, i_fret, i_dret, i_aret, i_invS0, i_invV0, i_m2, i_m1, i_ml, i_obj, lk, lkp, stf1, stf2, Value.category, rV, xTo, lv_args, xCk, xCat, xRc, xAk, hg_S, hg_I, hg_J, hg_D, hg_R, hs_I, hs_J, hs_D, hs_R, uI_at, uJ_at, uD_at, uR_at, List.take_succ_cons, List.take_zero, List.drop_succ_cons, List.drop_zero, List.reverse_cons, List.reverse_nil, List.nil_append, List.cons_append, List.map_cons, List.map_nil, List.sum_cons, List.sum_nil, List.length_cons, List.length_nil, Option.toList_some, Option.toList_none, true_and, and_true, false_and, and_false, true_implies, false_implies, implies_true, not_true_eq_false, not_false_eq_true, ne_eq, if_true, if_false, Bool.and_true, Bool.true_and, decide_true, decide_false, reduceIte, reduceCtorEq, Bool.and_self, Bool.and_eq_true, decide_eq_true_eq, and_self, true_or, or_true, false_or, or_false, Nat.zero_add, Nat.add_zero, eq_self, Nat.reduceEqDiff, Nat.reduceLeDiff, Nat.reduceLT, Nat.reduceAdd, Nat.reduceSub, Nat.reduceMul, LM_out hL, hX.2.1, e, nI_leP (show (lv E n).length < 2147483648 by omega) (show (lv E n).length < 2147483648 by omega), Nat.le_refl, e315_80, B315_80]
    refine L317 hL hX hB h (fun D' d1 d2 => ?_)
    simp only [xSeq, i_push, i_load, i_iload, i_lload, i_dload, i_aload, i_istore, i_astore, i_lstore, i_dstore, i_iinc, i_ii, i_iiz, i_ll, i_llz, i_lli, i_li, i_i, i_l, i_i2l, i_l2i, i_dup, i_dup2, i_dup2w, i_dupx1, i_pop, i_pop2, i_goto, i_ifc, i_icmp, i_getI, i_getL, i_getR, i_putI, i_putZ, i_putL, i_putR, i_aldI, i_aldB, i_aldL, i_aldD, i_astI, i_astL, i_astD, i_alen, i_ret, i_iret, i_zret, i_lret, i_fret, i_dret, i_aret, i_invS0, i_invV0, i_m2, i_m1, i_ml, i_obj, lk, lkp, stf1, stf2, Value.category, rV, xTo, lv_args, xCk, xCat, xRc, xAk, hg_S, hg_I, hg_J, hg_D, hg_R, hs_I, hs_J, hs_D, hs_R, uI_at, uJ_at, uD_at, uR_at, List.take_succ_cons, List.take_zero, List.drop_succ_cons, List.drop_zero, List.reverse_cons, List.reverse_nil, List.nil_append, List.cons_append, List.map_cons, List.map_nil, List.sum_cons, List.sum_nil, List.length_cons, List.length_nil, Option.toList_some, Option.toList_none, true_and, and_true, false_and, and_false, true_implies, false_implies, implies_true, not_true_eq_false, not_false_eq_true, ne_eq, if_true, if_false, Bool.and_true, Bool.true_and, decide_true, decide_false, reduceIte, reduceCtorEq, Bool.and_self, Bool.and_eq_true, decide_eq_true_eq, and_self, true_or, or_true, false_or, or_false, Nat.zero_add, Nat.add_zero, eq_self, Nat.reduceEqDiff, Nat.reduceLeDiff, Nat.reduceLT, Nat.reduceAdd, Nat.reduceSub, Nat.reduceMul, i_dd, em, al_eq nm]
    exact kk D' d1 d2
  | j + 1, i, hi => by
    have hl := lv_len E n
    have hr := rtP_gp h
    have ih := L315_12 hL hX hB h hD kk j (i + 1) (by omega)
    have hi2 : i < (lv E n).length := by omega
    have hn := hB.1
    obtain ⟨g1, g2, g3⟩ := hX.2.2.2.1 i hi2
    obtain ⟨-, x2, x3⟩ := lv_x hB hi2
    have hmm := (lv_get hB hi2).2.2
    have ha : jAbsL (gM n ((lv E n).getD i 0)).toInt64 = (jAbs (gM n ((lv E n).getD i 0))).toInt64 := abs_m n (by omega) ((lv E n).getD i 0 % 17) (by omega)
    have e1 : FP.dmul (FP.i2d (gN E n ((lv E n).getD i 0))) (wP (rtP x y) (xi (lv E n) i)) = wt E n (rtP x y) i := rfl
    have e2 : vF w (gE ((lv E n).getD i 0)) (gM n ((lv E n).getD i 0)) = vl E n w i := rfl
    have e3 : FP.dmul (wt E n (rtP x y) i) (FP.l2d (vl E n w i)) = tm E n (rtP x y) w i := rfl
    have e4 : FP.dadd (sS E n (rtP x y) w i) (tm E n (rtP x y) w i) = sS E n (rtP x y) w (i + 1) := rfl
    have n1 : isNaN64 (wt E n (rtP x y) i) = false := fb_n (gp_fb (wt_gp hB hr))
    have n3 : isNaN64 (tm E n (rtP x y) w i) = false := fb_n (tm_fb hB hr hi2)
    have n4 : isNaN64 (sS E n (rtP x y) w (i + 1)) = false := fb_n (sS_fb hB hr (i + 1) (by omega))
    rw [e315_12]
    simp only [B315_12, xSeq, i_push, i_load, i_iload, i_lload, i_dload, i_aload, i_istore, i_astore, i_lstore, i_dstore, i_iinc, i_ii, i_iiz, i_ll, i_llz, i_lli, i_li, i_i, i_l, i_i2l, i_l2i, i_dup, i_dup2, i_dup2w, i_dupx1, i_pop, i_pop2, i_goto, i_ifc, i_icmp, i_getI, i_getL, i_getR, i_putI, i_putZ, i_putL, i_putR, i_aldI, i_aldB, i_aldL, i_aldD, i_astI, i_astL, i_astD, i_alen, i_ret, i_iret, i_zret, i_lret, i_fret, i_dret, i_aret, i_invS0, i_invV0, i_m2, i_m1, i_ml, i_obj, lk, lkp, stf1, stf2, Value.category, rV, xTo, lv_args, xCk, xCat, xRc, xAk, hg_S, hg_I, hg_J, hg_D, hg_R, hs_I, hs_J, hs_D, hs_R, uI_at, uJ_at, uD_at, uR_at, List.take_succ_cons, List.take_zero, List.drop_succ_cons, List.drop_zero, List.reverse_cons, List.reverse_nil, List.nil_append, List.cons_append, List.map_cons, List.map_nil, List.sum_cons, List.sum_nil, List.length_cons, List.length_nil, Option.toList_some, Option.toList_none, true_and, and_true, false_and, and_false, true_implies, false_implies, implies_true, not_true_eq_false, not_false_eq_true, ne_eq, if_true, if_false, Bool.and_true, Bool.true_and, decide_true, decide_false, reduceIte, reduceCtorEq, Bool.and_self, Bool.and_eq_true, decide_eq_true_eq, and_self, true_or, or_true, false_or, or_false, Nat.zero_add, Nat.add_zero, eq_self, Nat.reduceEqDiff, Nat.reduceLeDiff, Nat.reduceLT, Nat.reduceAdd, Nat.reduceSub, Nat.reduceMul, LM_out hL, hX.2.1, hX.2.2.1, nI_leP (show (lv E n).length < 2147483648 by omega) (show i < 2147483648 by omega), show ((lv E n).length ≤ i) = False from eq_false (by omega), nI_inP (show i < 6000 by omega) (by decide), nI_ix (show i < 2147483648 by omega), g1, g2, g3, x3, nI_inP (show xi (lv E n) i < 401 by omega) (by decide), nI_ix (show xi (lv E n) i < 2147483648 by omega), hD _ (show xi (lv E n) i < 401 by omega), i_i2d, i_l2d, i_dd, e1, al_eq n1, R295 ha, e2, e3, al_eq n3, e4, al_eq n4, nI_1]
    exact ih
theorem L315 (hL : LM S R) (hX : XM n E I) (hB : EB E n) (h : AB x y)
    (kk : ∀ D', (∀ o k, o ≠ 352 → D' o k = D o k) → Q (.ok (some (.double (mn E n (rtP x y) w)))) (S, I, J, D', R) b) :
    xRun xT 315 0 [(0, .ref 200), (1, .int w), (2, .int (nI x)), (3, .int (nI y))] [] (S, I, J, D, R) b Q := by
  rw [e315_0]
  simp only [B315_0, xSeq, i_push, i_load, i_iload, i_lload, i_dload, i_aload, i_istore, i_astore, i_lstore, i_dstore, i_iinc, i_ii, i_iiz, i_ll, i_llz, i_lli, i_li, i_i, i_l, i_i2l, i_l2i, i_dup, i_dup2, i_dup2w, i_dupx1, i_pop, i_pop2, i_goto, i_ifc, i_icmp, i_getI, i_getL, i_getR, i_putI, i_putZ, i_putL, i_putR, i_aldI, i_aldB, i_aldL, i_aldD, i_astI, i_astL, i_astD, i_alen, i_ret, i_iret, i_zret, i_lret, i_fret, i_dret, i_aret, i_invS0, i_invV0, i_m2, i_m1, i_ml, i_obj, lk, lkp, stf1, stf2, Value.category, rV, xTo, lv_args, xCk, xCat, xRc, xAk, hg_S, hg_I, hg_J, hg_D, hg_R, hs_I, hs_J, hs_D, hs_R, uI_at, uJ_at, uD_at, uR_at, List.take_succ_cons, List.take_zero, List.drop_succ_cons, List.drop_zero, List.reverse_cons, List.reverse_nil, List.nil_append, List.cons_append, List.map_cons, List.map_nil, List.sum_cons, List.sum_nil, List.length_cons, List.length_nil, Option.toList_some, Option.toList_none, true_and, and_true, false_and, and_false, true_implies, false_implies, implies_true, not_true_eq_false, not_false_eq_true, ne_eq, if_true, if_false, Bool.and_true, Bool.true_and, decide_true, decide_false, reduceIte, reduceCtorEq, Bool.and_self, Bool.and_eq_true, decide_eq_true_eq, and_self, true_or, or_true, false_or, or_false, Nat.zero_add, Nat.add_zero, eq_self, Nat.reduceEqDiff, Nat.reduceLeDiff, Nat.reduceLT, Nat.reduceAdd, Nat.reduceSub, Nat.reduceMul, LM_out hL]
  refine L316 hL h (fun D' d1 d2 => ?_)
  have h12 := L315_12 (J := J) (D := D') (b := b) (Q := Q) (w := w) hL hX hB h d1 (fun D2 k1 k2 => kk D2 (fun o k ho => (k2 o k ho).trans (d2 o k ho))) (lv E n).length 0 (by omega)
  rw [nI_0] at h12
  simp only [xSeq, i_push, i_load, i_iload, i_lload, i_dload, i_aload, i_istore, i_astore, i_lstore, i_dstore, i_iinc, i_ii, i_iiz, i_ll, i_llz, i_lli, i_li, i_i, i_l, i_i2l, i_l2i, i_dup, i_dup2, i_dup2w, i_dupx1, i_pop, i_pop2, i_goto, i_ifc, i_icmp, i_getI, i_getL, i_getR, i_putI, i_putZ, i_putL, i_putR, i_aldI, i_aldB, i_aldL, i_aldD, i_astI, i_astL, i_astD, i_alen, i_ret, i_iret, i_zret, i_lret, i_fret, i_dret, i_aret, i_invS0, i_invV0, i_m2, i_m1, i_ml, i_obj, lk, lkp, stf1, stf2, Value.category, rV, xTo, lv_args, xCk, xCat, xRc, xAk, hg_S, hg_I, hg_J, hg_D, hg_R, hs_I, hs_J, hs_D, hs_R, uI_at, uJ_at, uD_at, uR_at, List.take_succ_cons, List.take_zero, List.drop_succ_cons, List.drop_zero, List.reverse_cons, List.reverse_nil, List.nil_append, List.cons_append, List.map_cons, List.map_nil, List.sum_cons, List.sum_nil, List.length_cons, List.length_nil, Option.toList_some, Option.toList_none, true_and, and_true, false_and, and_false, true_implies, false_implies, implies_true, not_true_eq_false, not_false_eq_true, ne_eq, if_true, if_false, Bool.and_true, Bool.true_and, decide_true, decide_false, reduceIte, reduceCtorEq, Bool.and_self, Bool.and_eq_true, decide_eq_true_eq, and_self, true_or, or_true, false_or, or_false, Nat.zero_add, Nat.add_zero, eq_self, Nat.reduceEqDiff, Nat.reduceLeDiff, Nat.reduceLT, Nat.reduceAdd, Nat.reduceSub, Nat.reduceMul]
  exact h12
end
/-! ===== figures ===== -/
section
theorem dc_eq {x : UInt64} (h : isNaN64 x = false) : Op.cmpValue (FP.dcmp x x) .l = 0 := by
  rw [fp_n] at h
  have e : FP.dcmp x x = some .eq := FP.Core.dcmp_refl h
  rw [e]
  decide
theorem al_i {c : UInt64} (h : isNaN64 c = false) {P : UInt64 → Prop} (k : P c) : ∀ v : UInt64, alike64 v c = true → P v := by
  rw [al_eq h]
  exact k
theorem rp_p {j : Nat} (h1 : 52 ≤ j) (h2 : j ≤ 2045) : rp (2 ^ j) := by
  refine ⟨false, 2 ^ 52, (j : Int) - 52 - 1074, ⟨?_, ?_, ?_, Or.inr ?_⟩, ?_⟩
  · show (2 : Nat) ^ 52 < 2 ^ 53
    decide
  · rw [FP.Core.qmin_b64]
    omega
  · show (j : Int) - 52 - 1074 ≤ 971
    omega
  · show (2 : Nat) ^ 52 ≤ 2 ^ 52
    exact Nat.le_refl _
  · show 2 ^ 52 * 2 ^ ((j : Int) - 52 - 1074 - FP.Core.b64.qmin).toNat = 2 ^ j
    rw [FP.Core.qmin_b64, ← Nat.pow_add]
    congr 1
    omega
variable {E : Nat → Int32} {n : Nat} {r : UInt64} {w : Int32}
theorem mn_p (hB : EB E n) (hr : gp 0 uo r) : fb (2 ^ 1119) (mn E n r w) := fb_le (mn_fb hB hr) (by decide +kernel)
/-- the mean square never vanishes -/
def PQ (E : Nat → Int32) (n : Nat) : Prop := ∀ r, gp (2 ^ 1067) uo r → gp (2 ^ 834) (2 ^ 1119) (mn E n r 2)
theorem gl0 (h : gp (2 ^ 1067) uo r) : gp 0 uo r := gp_le h (Nat.zero_le _) (Nat.le_refl _)
theorem rtP_gl {a b : Nat} (h : AB a b) : gp (2 ^ 1067) uo (rtP a b) := by
  obtain ⟨h1, h2, h3⟩ := h
  have u0 := uo_pos
  refine gp_div (i2d_n (k := a) (by omega)) (i2d_n (k := b) (by omega)) (Nat.mul_pos (by omega) u0) ?_ ?_ (rp_p (by decide) (by decide)) ?_
  · have := rp_n (k := 1) (by decide)
    rw [Nat.one_mul] at this
    exact this
  · rw [Nat.mul_assoc, Nat.mul_left_comm uo b uo]
    exact Nat.mul_le_mul_right _ (by omega)
  · have e1 : 2 ^ 1067 * (99 * uo) ≤ 1 * uo * uo := by decide +kernel
    have e2 : 2 ^ 1067 * (b * uo) ≤ 2 ^ 1067 * (99 * uo) := Nat.mul_le_mul_left _ (Nat.mul_le_mul_right _ h3)
    have e3 : 1 * uo * uo ≤ a * uo * uo := Nat.mul_le_mul_right _ (Nat.mul_le_mul_right _ h1)
    exact Nat.le_trans e2 (Nat.le_trans e1 e3)
def d3 : UInt64 := 4613937818241073152
theorem d3_gp : gp (3 * uo) (3 * uo) d3 := by
  have h := i2d_n (k := 3) (by decide)
  have e : FP.i2d (nI 3) = d3 := by decide +kernel
  rw [e] at h
  exact h
def q3 (E : Nat → Int32) (n : Nat) (r : UInt64) : UInt64 := FP.dmul (FP.dmul d3 (mn E n r 2)) (mn E n r 2)
def fg (E : Nat → Int32) (n : Nat) (r : UInt64) (w : Int32) : UInt64 :=
  if w = 2 then FP.dsub FP.dconst1 (FP.ddiv (mn E n r 3) (q3 E n r))
  else FP.dsub (mn E n r (if w = 0 then 4 else 2)) (FP.dmul (mn E n r w) (mn E n r w))
theorem fg_0 : FP.dsub (mn E n r 4) (FP.dmul (mn E n r 0) (mn E n r 0)) = fg E n r 0 := by
  unfold fg
  rw [if_neg (show ¬ (0 : Int32) = 2 by decide), if_pos (show (0 : Int32) = 0 from rfl)]
theorem fg_1 : FP.dsub (mn E n r 2) (FP.dmul (mn E n r 1) (mn E n r 1)) = fg E n r 1 := by
  unfold fg
  rw [if_neg (show ¬ (1 : Int32) = 2 by decide), if_neg (show ¬ (1 : Int32) = 0 by decide)]
theorem fg_2 : FP.dsub FP.dconst1 (FP.ddiv (mn E n r 3) (q3 E n r)) = fg E n r 2 := by
  unfold fg
  rw [if_pos (show (2 : Int32) = 2 from rfl)]
theorem q30_gp (hB : EB E n) (hr : gp (2 ^ 1067) uo r) (hp : PQ E n) : gp (2 ^ 835) (2 ^ 1121) (FP.dmul d3 (mn E n r 2)) :=
  gp_mul d3_gp (hp r hr) (rp_p (by decide) (by decide)) (by decide +kernel) (rp_p (by decide) (by decide)) (by decide +kernel)
theorem q3_gp (hB : EB E n) (hr : gp (2 ^ 1067) uo r) (hp : PQ E n) : gp (2 ^ 594) (2 ^ 1166) (q3 E n r) :=
  gp_mul (q30_gp hB hr hp) (hp r hr) (rp_p (by decide) (by decide)) (by decide +kernel) (rp_p (by decide) (by decide)) (by decide +kernel)
theorem q4_fb (hB : EB E n) (hr : gp (2 ^ 1067) uo r) (hp : PQ E n) : fb (2 ^ 1599) (FP.ddiv (mn E n r 3) (q3 E n r)) :=
  fb_div (mn_p hB (gl0 hr)) (q3_gp hB hr hp) (Nat.two_pow_pos _) (rp_p (by decide) (by decide)) (by decide +kernel)
theorem mm_fb (hB : EB E n) (hr : gp 0 uo r) : fb (2 ^ 1164) (FP.dmul (mn E n r w) (mn E n r w)) :=
  fb_mul (mn_p hB hr) (mn_p hB hr) (rp_p (by decide) (by decide)) (by decide +kernel)
theorem fg_fb (hB : EB E n) (hr : gp (2 ^ 1067) uo r) (hp : PQ E n) : fb (2 ^ 1600) (fg E n r w) := by
  unfold fg
  split
  · exact fb_sub (gp_fb gp_1) (q4_fb hB hr hp) (rp_p (by decide) (by decide)) (by decide +kernel)
  · exact fb_sub (mn_p hB (gl0 hr)) (mm_fb hB (gl0 hr)) (rp_p (by decide) (by decide)) (by decide +kernel)
theorem q3_cmp (hB : EB E n) (hr : gp (2 ^ 1067) uo r) (hp : PQ E n) : FP.dcmp (q3 E n r) FP.dconst0 = some .gt := gp_cmp (q3_gp hB hr hp) (Nat.two_pow_pos _)
theorem rg_02 {w : Int32} (hw : rg w 0 2 = true) : w = 0 ∨ w = 1 ∨ w = 2 := by
  unfold rg at hw
  rw [Bool.and_eq_true, Bool.not_eq_true', Bool.not_eq_true', decide_eq_false_iff_not, decide_eq_false_iff_not] at hw
  have k1 := hw.1
  have k2 := hw.2
  have t0 : (0 : Int32).toInt = 0 := rfl
  have t1 : (1 : Int32).toInt = 1 := rfl
  have t2 : (2 : Int32).toInt = 2 := rfl
  rw [Int32.lt_iff_toInt_lt] at k1 k2
  by_cases n0 : w.toInt = 0
  · exact Or.inl (Int32.toInt_inj.mp (n0.trans t0.symm))
  · by_cases n1 : w.toInt = 1
    · exact Or.inr (Or.inl (Int32.toInt_inj.mp (n1.trans t1.symm)))
    · exact Or.inr (Or.inr (Int32.toInt_inj.mp (by omega)))
variable {S : xS} {I : xI} {J : xJ} {D : xDb} {R : xR} {b : Nat × Nat} {Q : xQ} {x y : Nat}
theorem L109 (hL : LC S R) (hX : XL n E S I R) (hB : EB E n) (hp : PQ E n) (h : AB x y) (hw : rg w 0 2 = true)
    (kk : ∀ D', (∀ o k, o ≠ 139 → D' o k = D o k) → Q (.ok (some (.double (fg E n (rtP x y) w)))) (S, I, J, D', R) b) :
    xRun xT 109 0 [(0, .ref 130), (1, .int w), (2, .int (nI x)), (3, .int (nI y))] [] (S, I, J, D, R) b Q := by
  have hr := rtP_gl h
  rw [e109_0]
  simp only [B109_0, xSeq, i_push, i_load, i_iload, i_lload, i_dload, i_aload, i_istore, i_astore, i_lstore, i_dstore, i_iinc, i_ii, i_iiz, i_ll, i_llz, i_lli, i_li, i_i, i_l, i_i2l, i_l2i, i_dup, i_dup2, i_dup2w, i_dupx1, i_pop, i_pop2, i_goto, i_ifc, i_icmp, i_getI, i_getL, i_getR, i_putI, i_putZ, i_putL, i_putR, i_aldI, i_aldB, i_aldL, i_aldD, i_astI, i_astL, i_astD, i_alen, i_ret, i_iret, i_zret, i_lret, i_fret, i_dret, i_aret, i_invS0, i_invV0, i_m2, i_m1, i_ml, i_obj, lk, lkp, stf1, stf2, Value.category, rV, xTo, lv_args, xCk, xCat, xRc, xAk, hg_S, hg_I, hg_J, hg_D, hg_R, hs_I, hs_J, hs_D, hs_R, uI_at, uJ_at, uD_at, uR_at, List.take_succ_cons, List.take_zero, List.drop_succ_cons, List.drop_zero, List.reverse_cons, List.reverse_nil, List.nil_append, List.cons_append, List.map_cons, List.map_nil, List.sum_cons, List.sum_nil, List.length_cons, List.length_nil, Option.toList_some, Option.toList_none, true_and, and_true, false_and, and_false, true_implies, false_implies, implies_true, not_true_eq_false, not_false_eq_true, ne_eq, if_true, if_false, Bool.and_true, Bool.true_and, decide_true, decide_false, reduceIte, reduceCtorEq, Bool.and_self, Bool.and_eq_true, decide_eq_true_eq, and_self, true_or, or_true, false_or, or_false, Nat.zero_add, Nat.add_zero, eq_self, Nat.reduceEqDiff, Nat.reduceLeDiff, Nat.reduceLT, Nat.reduceAdd, Nat.reduceSub, Nat.reduceMul, LC_out hL]
  refine L106 hL h (fun D' d1 d2 => ?_)
  have h107 := fun (w : Int32) (b : Nat × Nat) (Q : xQ) => R107 (J := J) (b := b) (Q := Q) (w := w) hL hX hB h d1
  have h10 : ((1 : Int32) = 0) = False := eq_false (by decide)
  have h20 : ((2 : Int32) = 0) = False := eq_false (by decide)
  have h21 : ((2 : Int32) = 1) = False := eq_false (by decide)
  have h12 : ((1 : Int32) = 2) = False := eq_false (by decide)
  have h02 : ((0 : Int32) = 2) = False := eq_false (by decide)
  have nm : ∀ w, isNaN64 (FP.dmul (mn E n (rtP x y) w) (mn E n (rtP x y) w)) = false := fun w => fb_n (mm_fb hB (gl0 hr))
  have nf : isNaN64 (fg E n (rtP x y) w) = false := fb_n (fg_fb hB hr hp)
  by_cases h0 : w = 0
  · subst h0
    have ef := fg_0 (E := E) (n := n) (r := rtP x y)
    simp only [xSeq, i_push, i_load, i_iload, i_lload, i_dload, i_aload, i_istore, i_astore, i_lstore, i_dstore, i_iinc, i_ii, i_iiz, i_ll, i_llz, i_lli, i_li, i_i, i_l, i_i2l, i_l2i, i_dup, i_dup2, i_dup2w, i_dupx1, i_pop, i_pop2, i_goto, i_ifc, i_icmp, i_getI, i_getL, i_getR, i_putI, i_putZ, i_putL, i_putR, i_aldI, i_aldB, i_aldL, i_aldD, i_astI, i_astL, i_astD, i_alen, i_ret, i_iret, i_zret, i_lret, i_fret, i_dret, i_aret, i_invS0, i_invV0, i_m2, i_m1, i_ml, i_obj, lk, lkp, stf1, stf2, Value.category, rV, xTo, lv_args, xCk, xCat, xRc, xAk, hg_S, hg_I, hg_J, hg_D, hg_R, hs_I, hs_J, hs_D, hs_R, uI_at, uJ_at, uD_at, uR_at, List.take_succ_cons, List.take_zero, List.drop_succ_cons, List.drop_zero, List.reverse_cons, List.reverse_nil, List.nil_append, List.cons_append, List.map_cons, List.map_nil, List.sum_cons, List.sum_nil, List.length_cons, List.length_nil, Option.toList_some, Option.toList_none, true_and, and_true, false_and, and_false, true_implies, false_implies, implies_true, not_true_eq_false, not_false_eq_true, ne_eq, if_true, if_false, Bool.and_true, Bool.true_and, decide_true, decide_false, reduceIte, reduceCtorEq, Bool.and_self, Bool.and_eq_true, decide_eq_true_eq, and_self, true_or, or_true, false_or, or_false, Nat.zero_add, Nat.add_zero, eq_self, Nat.reduceEqDiff, Nat.reduceLeDiff, Nat.reduceLT, Nat.reduceAdd, Nat.reduceSub, Nat.reduceMul, LC_out hL, ne_eq]
    rw [h107 0]
    simp only [xSeq, i_push, i_load, i_iload, i_lload, i_dload, i_aload, i_istore, i_astore, i_lstore, i_dstore, i_iinc, i_ii, i_iiz, i_ll, i_llz, i_lli, i_li, i_i, i_l, i_i2l, i_l2i, i_dup, i_dup2, i_dup2w, i_dupx1, i_pop, i_pop2, i_goto, i_ifc, i_icmp, i_getI, i_getL, i_getR, i_putI, i_putZ, i_putL, i_putR, i_aldI, i_aldB, i_aldL, i_aldD, i_astI, i_astL, i_astD, i_alen, i_ret, i_iret, i_zret, i_lret, i_fret, i_dret, i_aret, i_invS0, i_invV0, i_m2, i_m1, i_ml, i_obj, lk, lkp, stf1, stf2, Value.category, rV, xTo, lv_args, xCk, xCat, xRc, xAk, hg_S, hg_I, hg_J, hg_D, hg_R, hs_I, hs_J, hs_D, hs_R, uI_at, uJ_at, uD_at, uR_at, List.take_succ_cons, List.take_zero, List.drop_succ_cons, List.drop_zero, List.reverse_cons, List.reverse_nil, List.nil_append, List.cons_append, List.map_cons, List.map_nil, List.sum_cons, List.sum_nil, List.length_cons, List.length_nil, Option.toList_some, Option.toList_none, true_and, and_true, false_and, and_false, true_implies, false_implies, implies_true, not_true_eq_false, not_false_eq_true, ne_eq, if_true, if_false, Bool.and_true, Bool.true_and, decide_true, decide_false, reduceIte, reduceCtorEq, Bool.and_self, Bool.and_eq_true, decide_eq_true_eq, and_self, true_or, or_true, false_or, or_false, Nat.zero_add, Nat.add_zero, eq_self, Nat.reduceEqDiff, Nat.reduceLeDiff, Nat.reduceLT, Nat.reduceAdd, Nat.reduceSub, Nat.reduceMul, LC_out hL]
    rw [h107 4]
    simp only [xSeq, i_push, i_load, i_iload, i_lload, i_dload, i_aload, i_istore, i_astore, i_lstore, i_dstore, i_iinc, i_ii, i_iiz, i_ll, i_llz, i_lli, i_li, i_i, i_l, i_i2l, i_l2i, i_dup, i_dup2, i_dup2w, i_dupx1, i_pop, i_pop2, i_goto, i_ifc, i_icmp, i_getI, i_getL, i_getR, i_putI, i_putZ, i_putL, i_putR, i_aldI, i_aldB, i_aldL, i_aldD, i_astI, i_astL, i_astD, i_alen, i_ret, i_iret, i_zret, i_lret, i_fret, i_dret, i_aret, i_invS0, i_invV0, i_m2, i_m1, i_ml, i_obj, lk, lkp, stf1, stf2, Value.category, rV, xTo, lv_args, xCk, xCat, xRc, xAk, hg_S, hg_I, hg_J, hg_D, hg_R, hs_I, hs_J, hs_D, hs_R, uI_at, uJ_at, uD_at, uR_at, List.take_succ_cons, List.take_zero, List.drop_succ_cons, List.drop_zero, List.reverse_cons, List.reverse_nil, List.nil_append, List.cons_append, List.map_cons, List.map_nil, List.sum_cons, List.sum_nil, List.length_cons, List.length_nil, Option.toList_some, Option.toList_none, true_and, and_true, false_and, and_false, true_implies, false_implies, implies_true, not_true_eq_false, not_false_eq_true, ne_eq, if_true, if_false, Bool.and_true, Bool.true_and, decide_true, decide_false, reduceIte, reduceCtorEq, Bool.and_self, Bool.and_eq_true, decide_eq_true_eq, and_self, true_or, or_true, false_or, or_false, Nat.zero_add, Nat.add_zero, eq_self, Nat.reduceEqDiff, Nat.reduceLeDiff, Nat.reduceLT, Nat.reduceAdd, Nat.reduceSub, Nat.reduceMul, i_dd, al_eq (nm 0), ef, al_eq nf]
    exact kk D' d2
  · by_cases h1 : w = 1
    · subst h1
      have ef := fg_1 (E := E) (n := n) (r := rtP x y)
      have n1 := nm 1
      have a1 := h107 1
      have a2 := h107 2
      obtain ⟨v1, hv1⟩ : ∃ v, v = mn E n (rtP x y) 1 := ⟨_, rfl⟩
      obtain ⟨v2, hv2⟩ : ∃ v, v = mn E n (rtP x y) 2 := ⟨_, rfl⟩
      rw [← hv1] at ef n1 a1
      rw [← hv2] at ef a2
      simp only [xSeq, i_push, i_load, i_iload, i_lload, i_dload, i_aload, i_istore, i_astore, i_lstore, i_dstore, i_iinc, i_ii, i_iiz, i_ll, i_llz, i_lli, i_li, i_i, i_l, i_i2l, i_l2i, i_dup, i_dup2, i_dup2w, i_dupx1, i_pop, i_pop2, i_goto, i_ifc, i_icmp, i_getI, i_getL, i_getR, i_putI, i_putZ, i_putL, i_putR, i_aldI, i_aldB, i_aldL, i_aldD, i_astI, i_astL, i_astD, i_alen, i_ret, i_iret, i_zret, i_lret, i_fret, i_dret, i_aret, i_invS0, i_invV0, i_m2, i_m1, i_ml, i_obj, lk, lkp, stf1, stf2, Value.category, rV, xTo, lv_args, xCk, xCat, xRc, xAk, hg_S, hg_I, hg_J, hg_D, hg_R, hs_I, hs_J, hs_D, hs_R, uI_at, uJ_at, uD_at, uR_at, List.take_succ_cons, List.take_zero, List.drop_succ_cons, List.drop_zero, List.reverse_cons, List.reverse_nil, List.nil_append, List.cons_append, List.map_cons, List.map_nil, List.sum_cons, List.sum_nil, List.length_cons, List.length_nil, Option.toList_some, Option.toList_none, true_and, and_true, false_and, and_false, true_implies, false_implies, implies_true, not_true_eq_false, not_false_eq_true, ne_eq, if_true, if_false, Bool.and_true, Bool.true_and, decide_true, decide_false, reduceIte, reduceCtorEq, Bool.and_self, Bool.and_eq_true, decide_eq_true_eq, and_self, true_or, or_true, false_or, or_false, Nat.zero_add, Nat.add_zero, eq_self, Nat.reduceEqDiff, Nat.reduceLeDiff, Nat.reduceLT, Nat.reduceAdd, Nat.reduceSub, Nat.reduceMul, LC_out hL, ne_eq, h10, not_false_eq_true]
      rw [e109_29]
      simp only [B109_29, xSeq, i_push, i_load, i_iload, i_lload, i_dload, i_aload, i_istore, i_astore, i_lstore, i_dstore, i_iinc, i_ii, i_iiz, i_ll, i_llz, i_lli, i_li, i_i, i_l, i_i2l, i_l2i, i_dup, i_dup2, i_dup2w, i_dupx1, i_pop, i_pop2, i_goto, i_ifc, i_icmp, i_getI, i_getL, i_getR, i_putI, i_putZ, i_putL, i_putR, i_aldI, i_aldB, i_aldL, i_aldD, i_astI, i_astL, i_astD, i_alen, i_ret, i_iret, i_zret, i_lret, i_fret, i_dret, i_aret, i_invS0, i_invV0, i_m2, i_m1, i_ml, i_obj, lk, lkp, stf1, stf2, Value.category, rV, xTo, lv_args, xCk, xCat, xRc, xAk, hg_S, hg_I, hg_J, hg_D, hg_R, hs_I, hs_J, hs_D, hs_R, uI_at, uJ_at, uD_at, uR_at, List.take_succ_cons, List.take_zero, List.drop_succ_cons, List.drop_zero, List.reverse_cons, List.reverse_nil, List.nil_append, List.cons_append, List.map_cons, List.map_nil, List.sum_cons, List.sum_nil, List.length_cons, List.length_nil, Option.toList_some, Option.toList_none, true_and, and_true, false_and, and_false, true_implies, false_implies, implies_true, not_true_eq_false, not_false_eq_true, ne_eq, if_true, if_false, Bool.and_true, Bool.true_and, decide_true, decide_false, reduceIte, reduceCtorEq, Bool.and_self, Bool.and_eq_true, decide_eq_true_eq, and_self, true_or, or_true, false_or, or_false, Nat.zero_add, Nat.add_zero, eq_self, Nat.reduceEqDiff, Nat.reduceLeDiff, Nat.reduceLT, Nat.reduceAdd, Nat.reduceSub, Nat.reduceMul, LC_out hL]
      rw [a2]
      simp only [xSeq, i_push, i_load, i_iload, i_lload, i_dload, i_aload, i_istore, i_astore, i_lstore, i_dstore, i_iinc, i_ii, i_iiz, i_ll, i_llz, i_lli, i_li, i_i, i_l, i_i2l, i_l2i, i_dup, i_dup2, i_dup2w, i_dupx1, i_pop, i_pop2, i_goto, i_ifc, i_icmp, i_getI, i_getL, i_getR, i_putI, i_putZ, i_putL, i_putR, i_aldI, i_aldB, i_aldL, i_aldD, i_astI, i_astL, i_astD, i_alen, i_ret, i_iret, i_zret, i_lret, i_fret, i_dret, i_aret, i_invS0, i_invV0, i_m2, i_m1, i_ml, i_obj, lk, lkp, stf1, stf2, Value.category, rV, xTo, lv_args, xCk, xCat, xRc, xAk, hg_S, hg_I, hg_J, hg_D, hg_R, hs_I, hs_J, hs_D, hs_R, uI_at, uJ_at, uD_at, uR_at, List.take_succ_cons, List.take_zero, List.drop_succ_cons, List.drop_zero, List.reverse_cons, List.reverse_nil, List.nil_append, List.cons_append, List.map_cons, List.map_nil, List.sum_cons, List.sum_nil, List.length_cons, List.length_nil, Option.toList_some, Option.toList_none, true_and, and_true, false_and, and_false, true_implies, false_implies, implies_true, not_true_eq_false, not_false_eq_true, ne_eq, if_true, if_false, Bool.and_true, Bool.true_and, decide_true, decide_false, reduceIte, reduceCtorEq, Bool.and_self, Bool.and_eq_true, decide_eq_true_eq, and_self, true_or, or_true, false_or, or_false, Nat.zero_add, Nat.add_zero, eq_self, Nat.reduceEqDiff, Nat.reduceLeDiff, Nat.reduceLT, Nat.reduceAdd, Nat.reduceSub, Nat.reduceMul, LC_out hL, ne_eq]
      rw [a1]
      simp only [xSeq, i_push, i_load, i_iload, i_lload, i_dload, i_aload, i_istore, i_astore, i_lstore, i_dstore, i_iinc, i_ii, i_iiz, i_ll, i_llz, i_lli, i_li, i_i, i_l, i_i2l, i_l2i, i_dup, i_dup2, i_dup2w, i_dupx1, i_pop, i_pop2, i_goto, i_ifc, i_icmp, i_getI, i_getL, i_getR, i_putI, i_putZ, i_putL, i_putR, i_aldI, i_aldB, i_aldL, i_aldD, i_astI, i_astL, i_astD, i_alen, i_ret, i_iret, i_zret, i_lret, i_fret, i_dret, i_aret, i_invS0, i_invV0, i_m2, i_m1, i_ml, i_obj, lk, lkp, stf1, stf2, Value.category, rV, xTo, lv_args, xCk, xCat, xRc, xAk, hg_S, hg_I, hg_J, hg_D, hg_R, hs_I, hs_J, hs_D, hs_R, uI_at, uJ_at, uD_at, uR_at, List.take_succ_cons, List.take_zero, List.drop_succ_cons, List.drop_zero, List.reverse_cons, List.reverse_nil, List.nil_append, List.cons_append, List.map_cons, List.map_nil, List.sum_cons, List.sum_nil, List.length_cons, List.length_nil, Option.toList_some, Option.toList_none, true_and, and_true, false_and, and_false, true_implies, false_implies, implies_true, not_true_eq_false, not_false_eq_true, ne_eq, if_true, if_false, Bool.and_true, Bool.true_and, decide_true, decide_false, reduceIte, reduceCtorEq, Bool.and_self, Bool.and_eq_true, decide_eq_true_eq, and_self, true_or, or_true, false_or, or_false, Nat.zero_add, Nat.add_zero, eq_self, Nat.reduceEqDiff, Nat.reduceLeDiff, Nat.reduceLT, Nat.reduceAdd, Nat.reduceSub, Nat.reduceMul, i_dd, al_eq n1, ef, al_eq nf]
      exact kk D' d2
    · have h2 : w = 2 := (rg_02 hw).resolve_left h0 |>.resolve_left h1
      subst h2
      have ef := fg_2 (E := E) (n := n) (r := rtP x y)
      have eq : FP.dmul (FP.dmul d3 (mn E n (rtP x y) 2)) (mn E n (rtP x y) 2) = q3 E n (rtP x y) := rfl
      have n1 : isNaN64 (FP.dmul d3 (mn E n (rtP x y) 2)) = false := fb_n (gp_fb (q30_gp hB hr hp))
      have n2 : isNaN64 (q3 E n (rtP x y)) = false := fb_n (gp_fb (q3_gp hB hr hp))
      have n3 : isNaN64 (FP.ddiv (mn E n (rtP x y) 3) (q3 E n (rtP x y))) = false := fb_n (q4_fb hB hr hp)
      have h3 : (4613937818241073152 : UInt64) = d3 := rfl
      simp only [xSeq, i_push, i_load, i_iload, i_lload, i_dload, i_aload, i_istore, i_astore, i_lstore, i_dstore, i_iinc, i_ii, i_iiz, i_ll, i_llz, i_lli, i_li, i_i, i_l, i_i2l, i_l2i, i_dup, i_dup2, i_dup2w, i_dupx1, i_pop, i_pop2, i_goto, i_ifc, i_icmp, i_getI, i_getL, i_getR, i_putI, i_putZ, i_putL, i_putR, i_aldI, i_aldB, i_aldL, i_aldD, i_astI, i_astL, i_astD, i_alen, i_ret, i_iret, i_zret, i_lret, i_fret, i_dret, i_aret, i_invS0, i_invV0, i_m2, i_m1, i_ml, i_obj, lk, lkp, stf1, stf2, Value.category, rV, xTo, lv_args, xCk, xCat, xRc, xAk, hg_S, hg_I, hg_J, hg_D, hg_R, hs_I, hs_J, hs_D, hs_R, uI_at, uJ_at, uD_at, uR_at, List.take_succ_cons, List.take_zero, List.drop_succ_cons, List.drop_zero, List.reverse_cons, List.reverse_nil, List.nil_append, List.cons_append, List.map_cons, List.map_nil, List.sum_cons, List.sum_nil, List.length_cons, List.length_nil, Option.toList_some, Option.toList_none, true_and, and_true, false_and, and_false, true_implies, false_implies, implies_true, not_true_eq_false, not_false_eq_true, ne_eq, if_true, if_false, Bool.and_true, Bool.true_and, decide_true, decide_false, reduceIte, reduceCtorEq, Bool.and_self, Bool.and_eq_true, decide_eq_true_eq, and_self, true_or, or_true, false_or, or_false, Nat.zero_add, Nat.add_zero, eq_self, Nat.reduceEqDiff, Nat.reduceLeDiff, Nat.reduceLT, Nat.reduceAdd, Nat.reduceSub, Nat.reduceMul, LC_out hL, ne_eq, h20, not_false_eq_true]
      rw [e109_29]
      simp only [B109_29, xSeq, i_push, i_load, i_iload, i_lload, i_dload, i_aload, i_istore, i_astore, i_lstore, i_dstore, i_iinc, i_ii, i_iiz, i_ll, i_llz, i_lli, i_li, i_i, i_l, i_i2l, i_l2i, i_dup, i_dup2, i_dup2w, i_dupx1, i_pop, i_pop2, i_goto, i_ifc, i_icmp, i_getI, i_getL, i_getR, i_putI, i_putZ, i_putL, i_putR, i_aldI, i_aldB, i_aldL, i_aldD, i_astI, i_astL, i_astD, i_alen, i_ret, i_iret, i_zret, i_lret, i_fret, i_dret, i_aret, i_invS0, i_invV0, i_m2, i_m1, i_ml, i_obj, lk, lkp, stf1, stf2, Value.category, rV, xTo, lv_args, xCk, xCat, xRc, xAk, hg_S, hg_I, hg_J, hg_D, hg_R, hs_I, hs_J, hs_D, hs_R, uI_at, uJ_at, uD_at, uR_at, List.take_succ_cons, List.take_zero, List.drop_succ_cons, List.drop_zero, List.reverse_cons, List.reverse_nil, List.nil_append, List.cons_append, List.map_cons, List.map_nil, List.sum_cons, List.sum_nil, List.length_cons, List.length_nil, Option.toList_some, Option.toList_none, true_and, and_true, false_and, and_false, true_implies, false_implies, implies_true, not_true_eq_false, not_false_eq_true, ne_eq, if_true, if_false, Bool.and_true, Bool.true_and, decide_true, decide_false, reduceIte, reduceCtorEq, Bool.and_self, Bool.and_eq_true, decide_eq_true_eq, and_self, true_or, or_true, false_or, or_false, Nat.zero_add, Nat.add_zero, eq_self, Nat.reduceEqDiff, Nat.reduceLeDiff, Nat.reduceLT, Nat.reduceAdd, Nat.reduceSub, Nat.reduceMul, LC_out hL]
      rw [h107 2]
      simp only [xSeq, i_push, i_load, i_iload, i_lload, i_dload, i_aload, i_istore, i_astore, i_lstore, i_dstore, i_iinc, i_ii, i_iiz, i_ll, i_llz, i_lli, i_li, i_i, i_l, i_i2l, i_l2i, i_dup, i_dup2, i_dup2w, i_dupx1, i_pop, i_pop2, i_goto, i_ifc, i_icmp, i_getI, i_getL, i_getR, i_putI, i_putZ, i_putL, i_putR, i_aldI, i_aldB, i_aldL, i_aldD, i_astI, i_astL, i_astD, i_alen, i_ret, i_iret, i_zret, i_lret, i_fret, i_dret, i_aret, i_invS0, i_invV0, i_m2, i_m1, i_ml, i_obj, lk, lkp, stf1, stf2, Value.category, rV, xTo, lv_args, xCk, xCat, xRc, xAk, hg_S, hg_I, hg_J, hg_D, hg_R, hs_I, hs_J, hs_D, hs_R, uI_at, uJ_at, uD_at, uR_at, List.take_succ_cons, List.take_zero, List.drop_succ_cons, List.drop_zero, List.reverse_cons, List.reverse_nil, List.nil_append, List.cons_append, List.map_cons, List.map_nil, List.sum_cons, List.sum_nil, List.length_cons, List.length_nil, Option.toList_some, Option.toList_none, true_and, and_true, false_and, and_false, true_implies, false_implies, implies_true, not_true_eq_false, not_false_eq_true, ne_eq, if_true, if_false, Bool.and_true, Bool.true_and, decide_true, decide_false, reduceIte, reduceCtorEq, Bool.and_self, Bool.and_eq_true, decide_eq_true_eq, and_self, true_or, or_true, false_or, or_false, Nat.zero_add, Nat.add_zero, eq_self, Nat.reduceEqDiff, Nat.reduceLeDiff, Nat.reduceLT, Nat.reduceAdd, Nat.reduceSub, Nat.reduceMul, LC_out hL, ne_eq, h21, not_false_eq_true]
      rw [e109_57]
      simp only [B109_57, xSeq, i_push, i_load, i_iload, i_lload, i_dload, i_aload, i_istore, i_astore, i_lstore, i_dstore, i_iinc, i_ii, i_iiz, i_ll, i_llz, i_lli, i_li, i_i, i_l, i_i2l, i_l2i, i_dup, i_dup2, i_dup2w, i_dupx1, i_pop, i_pop2, i_goto, i_ifc, i_icmp, i_getI, i_getL, i_getR, i_putI, i_putZ, i_putL, i_putR, i_aldI, i_aldB, i_aldL, i_aldD, i_astI, i_astL, i_astD, i_alen, i_ret, i_iret, i_zret, i_lret, i_fret, i_dret, i_aret, i_invS0, i_invV0, i_m2, i_m1, i_ml, i_obj, lk, lkp, stf1, stf2, Value.category, rV, xTo, lv_args, xCk, xCat, xRc, xAk, hg_S, hg_I, hg_J, hg_D, hg_R, hs_I, hs_J, hs_D, hs_R, uI_at, uJ_at, uD_at, uR_at, List.take_succ_cons, List.take_zero, List.drop_succ_cons, List.drop_zero, List.reverse_cons, List.reverse_nil, List.nil_append, List.cons_append, List.map_cons, List.map_nil, List.sum_cons, List.sum_nil, List.length_cons, List.length_nil, Option.toList_some, Option.toList_none, true_and, and_true, false_and, and_false, true_implies, false_implies, implies_true, not_true_eq_false, not_false_eq_true, ne_eq, if_true, if_false, Bool.and_true, Bool.true_and, decide_true, decide_false, reduceIte, reduceCtorEq, Bool.and_self, Bool.and_eq_true, decide_eq_true_eq, and_self, true_or, or_true, false_or, or_false, Nat.zero_add, Nat.add_zero, eq_self, Nat.reduceEqDiff, Nat.reduceLeDiff, Nat.reduceLT, Nat.reduceAdd, Nat.reduceSub, Nat.reduceMul, LC_out hL]
      rw [h107 3]
      simp only [xSeq, i_push, i_load, i_iload, i_lload, i_dload, i_aload, i_istore, i_astore, i_lstore, i_dstore, i_iinc, i_ii, i_iiz, i_ll, i_llz, i_lli, i_li, i_i, i_l, i_i2l, i_l2i, i_dup, i_dup2, i_dup2w, i_dupx1, i_pop, i_pop2, i_goto, i_ifc, i_icmp, i_getI, i_getL, i_getR, i_putI, i_putZ, i_putL, i_putR, i_aldI, i_aldB, i_aldL, i_aldD, i_astI, i_astL, i_astD, i_alen, i_ret, i_iret, i_zret, i_lret, i_fret, i_dret, i_aret, i_invS0, i_invV0, i_m2, i_m1, i_ml, i_obj, lk, lkp, stf1, stf2, Value.category, rV, xTo, lv_args, xCk, xCat, xRc, xAk, hg_S, hg_I, hg_J, hg_D, hg_R, hs_I, hs_J, hs_D, hs_R, uI_at, uJ_at, uD_at, uR_at, List.take_succ_cons, List.take_zero, List.drop_succ_cons, List.drop_zero, List.reverse_cons, List.reverse_nil, List.nil_append, List.cons_append, List.map_cons, List.map_nil, List.sum_cons, List.sum_nil, List.length_cons, List.length_nil, Option.toList_some, Option.toList_none, true_and, and_true, false_and, and_false, true_implies, false_implies, implies_true, not_true_eq_false, not_false_eq_true, ne_eq, if_true, if_false, Bool.and_true, Bool.true_and, decide_true, decide_false, reduceIte, reduceCtorEq, Bool.and_self, Bool.and_eq_true, decide_eq_true_eq, and_self, true_or, or_true, false_or, or_false, Nat.zero_add, Nat.add_zero, eq_self, Nat.reduceEqDiff, Nat.reduceLeDiff, Nat.reduceLT, Nat.reduceAdd, Nat.reduceSub, Nat.reduceMul, LC_out hL, i_dd, h3, al_eq n1, eq, al_eq n2]
      rw [R108 (q3_cmp hB hr hp) n3]
      simp only [xSeq, i_push, i_load, i_iload, i_lload, i_dload, i_aload, i_istore, i_astore, i_lstore, i_dstore, i_iinc, i_ii, i_iiz, i_ll, i_llz, i_lli, i_li, i_i, i_l, i_i2l, i_l2i, i_dup, i_dup2, i_dup2w, i_dupx1, i_pop, i_pop2, i_goto, i_ifc, i_icmp, i_getI, i_getL, i_getR, i_putI, i_putZ, i_putL, i_putR, i_aldI, i_aldB, i_aldL, i_aldD, i_astI, i_astL, i_astD, i_alen, i_ret, i_iret, i_zret, i_lret, i_fret, i_dret, i_aret, i_invS0, i_invV0, i_m2, i_m1, i_ml, i_obj, lk, lkp, stf1, stf2, Value.category, rV, xTo, lv_args, xCk, xCat, xRc, xAk, hg_S, hg_I, hg_J, hg_D, hg_R, hs_I, hs_J, hs_D, hs_R, uI_at, uJ_at, uD_at, uR_at, List.take_succ_cons, List.take_zero, List.drop_succ_cons, List.drop_zero, List.reverse_cons, List.reverse_nil, List.nil_append, List.cons_append, List.map_cons, List.map_nil, List.sum_cons, List.sum_nil, List.length_cons, List.length_nil, Option.toList_some, Option.toList_none, true_and, and_true, false_and, and_false, true_implies, false_implies, implies_true, not_true_eq_false, not_false_eq_true, ne_eq, if_true, if_false, Bool.and_true, Bool.true_and, decide_true, decide_false, reduceIte, reduceCtorEq, Bool.and_self, Bool.and_eq_true, decide_eq_true_eq, and_self, true_or, or_true, false_or, or_false, Nat.zero_add, Nat.add_zero, eq_self, Nat.reduceEqDiff, Nat.reduceLeDiff, Nat.reduceLT, Nat.reduceAdd, Nat.reduceSub, Nat.reduceMul, i_dd, ef, al_eq nf]
      exact kk D' d2
theorem L319 (hL : LM S R) (hX : XM n E I) (hB : EB E n) (hp : PQ E n) (h : AB x y) (hw : rg w 0 2 = true)
    (kk : ∀ D', (∀ o k, o ≠ 352 → D' o k = D o k) → Q (.ok (some (.double (fg E n (rtP x y) w)))) (S, I, J, D', R) b) :
    xRun xT 319 0 [(0, .ref 200), (1, .int w), (2, .int (nI x)), (3, .int (nI y))] [] (S, I, J, D, R) b Q := by
  have hr := rtP_gl h
  have nm : ∀ w, isNaN64 (FP.dmul (mn E n (rtP x y) w) (mn E n (rtP x y) w)) = false := fun w => fb_n (mm_fb hB (gl0 hr))
  have nf : isNaN64 (fg E n (rtP x y) w) = false := fb_n (fg_fb hB hr hp)
  rw [e319_0]
  by_cases h2 : w = 2
  · subst h2
    have ef := fg_2 (E := E) (n := n) (r := rtP x y)
    have eq : FP.dmul (FP.dmul d3 (mn E n (rtP x y) 2)) (mn E n (rtP x y) 2) = q3 E n (rtP x y) := rfl
    have n1 : isNaN64 (FP.dmul d3 (mn E n (rtP x y) 2)) = false := fb_n (gp_fb (q30_gp hB hr hp))
    have n2 : isNaN64 (q3 E n (rtP x y)) = false := fb_n (gp_fb (q3_gp hB hr hp))
    have n3 : isNaN64 (FP.ddiv (mn E n (rtP x y) 3) (q3 E n (rtP x y))) = false := fb_n (q4_fb hB hr hp)
    have h3 : (4613937818241073152 : UInt64) = d3 := rfl
    simp only [B319_0, xSeq, i_push, i_load, i_iload, i_lload, i_dload, i_aload, i_istore, i_astore, i_lstore, i_dstore, i_iinc, i_ii, i_iiz, i_ll, i_llz, i_lli, i_li, i_i, i_l, i_i2l, i_l2i, i_dup, i_dup2, i_dup2w, i_dupx1, i_pop, i_pop2, i_goto, i_ifc, i_icmp, i_getI, i_getL, i_getR, i_putI, i_putZ, i_putL, i_putR, i_aldI, i_aldB, i_aldL, i_aldD, i_astI, i_astL, i_astD, i_alen, i_ret, i_iret, i_zret, i_lret, i_fret, i_dret, i_aret, i_invS0, i_invV0, i_m2, i_m1, i_ml, i_obj, lk, lkp, stf1, stf2, Value.category, rV, xTo, lv_args, xCk, xCat, xRc, xAk, hg_S, hg_I, hg_J, hg_D, hg_R, hs_I, hs_J, hs_D, hs_R, uI_at, uJ_at, uD_at, uR_at, List.take_succ_cons, List.take_zero, List.drop_succ_cons, List.drop_zero, List.reverse_cons, List.reverse_nil, List.nil_append, List.cons_append, List.map_cons, List.map_nil, List.sum_cons, List.sum_nil, List.length_cons, List.length_nil, Option.toList_some, Option.toList_none, true_and, and_true, false_and, and_false, true_implies, false_implies, implies_true, not_true_eq_false, not_false_eq_true, ne_eq, if_true, if_false, Bool.and_true, Bool.true_and, decide_true, decide_false, reduceIte, reduceCtorEq, Bool.and_self, Bool.and_eq_true, decide_eq_true_eq, and_self, true_or, or_true, false_or, or_false, Nat.zero_add, Nat.add_zero, eq_self, Nat.reduceEqDiff, Nat.reduceLeDiff, Nat.reduceLT, Nat.reduceAdd, Nat.reduceSub, Nat.reduceMul, LM_out hL, ne_eq, not_true_eq_false]
    refine L315 hL hX hB h (fun D1 k1 => ?_)
    simp only [xSeq, i_push, i_load, i_iload, i_lload, i_dload, i_aload, i_istore, i_astore, i_lstore, i_dstore, i_iinc, i_ii, i_iiz, i_ll, i_llz, i_lli, i_li, i_i, i_l, i_i2l, i_l2i, i_dup, i_dup2, i_dup2w, i_dupx1, i_pop, i_pop2, i_goto, i_ifc, i_icmp, i_getI, i_getL, i_getR, i_putI, i_putZ, i_putL, i_putR, i_aldI, i_aldB, i_aldL, i_aldD, i_astI, i_astL, i_astD, i_alen, i_ret, i_iret, i_zret, i_lret, i_fret, i_dret, i_aret, i_invS0, i_invV0, i_m2, i_m1, i_ml, i_obj, lk, lkp, stf1, stf2, Value.category, rV, xTo, lv_args, xCk, xCat, xRc, xAk, hg_S, hg_I, hg_J, hg_D, hg_R, hs_I, hs_J, hs_D, hs_R, uI_at, uJ_at, uD_at, uR_at, List.take_succ_cons, List.take_zero, List.drop_succ_cons, List.drop_zero, List.reverse_cons, List.reverse_nil, List.nil_append, List.cons_append, List.map_cons, List.map_nil, List.sum_cons, List.sum_nil, List.length_cons, List.length_nil, Option.toList_some, Option.toList_none, true_and, and_true, false_and, and_false, true_implies, false_implies, implies_true, not_true_eq_false, not_false_eq_true, ne_eq, if_true, if_false, Bool.and_true, Bool.true_and, decide_true, decide_false, reduceIte, reduceCtorEq, Bool.and_self, Bool.and_eq_true, decide_eq_true_eq, and_self, true_or, or_true, false_or, or_false, Nat.zero_add, Nat.add_zero, eq_self, Nat.reduceEqDiff, Nat.reduceLeDiff, Nat.reduceLT, Nat.reduceAdd, Nat.reduceSub, Nat.reduceMul, LM_out hL]
    refine L315 hL hX hB h (fun D2 k2 => ?_)
    simp only [xSeq, i_push, i_load, i_iload, i_lload, i_dload, i_aload, i_istore, i_astore, i_lstore, i_dstore, i_iinc, i_ii, i_iiz, i_ll, i_llz, i_lli, i_li, i_i, i_l, i_i2l, i_l2i, i_dup, i_dup2, i_dup2w, i_dupx1, i_pop, i_pop2, i_goto, i_ifc, i_icmp, i_getI, i_getL, i_getR, i_putI, i_putZ, i_putL, i_putR, i_aldI, i_aldB, i_aldL, i_aldD, i_astI, i_astL, i_astD, i_alen, i_ret, i_iret, i_zret, i_lret, i_fret, i_dret, i_aret, i_invS0, i_invV0, i_m2, i_m1, i_ml, i_obj, lk, lkp, stf1, stf2, Value.category, rV, xTo, lv_args, xCk, xCat, xRc, xAk, hg_S, hg_I, hg_J, hg_D, hg_R, hs_I, hs_J, hs_D, hs_R, uI_at, uJ_at, uD_at, uR_at, List.take_succ_cons, List.take_zero, List.drop_succ_cons, List.drop_zero, List.reverse_cons, List.reverse_nil, List.nil_append, List.cons_append, List.map_cons, List.map_nil, List.sum_cons, List.sum_nil, List.length_cons, List.length_nil, Option.toList_some, Option.toList_none, true_and, and_true, false_and, and_false, true_implies, false_implies, implies_true, not_true_eq_false, not_false_eq_true, ne_eq, if_true, if_false, Bool.and_true, Bool.true_and, decide_true, decide_false, reduceIte, reduceCtorEq, Bool.and_self, Bool.and_eq_true, decide_eq_true_eq, and_self, true_or, or_true, false_or, or_false, Nat.zero_add, Nat.add_zero, eq_self, Nat.reduceEqDiff, Nat.reduceLeDiff, Nat.reduceLT, Nat.reduceAdd, Nat.reduceSub, Nat.reduceMul, i_dd, h3, al_eq n1, eq, al_eq n2, al_eq n3, ef, al_eq nf]
    exact kk D2 (fun o k ho => (k2 o k ho).trans (k1 o k ho))
  · simp only [B319_0, xSeq, i_push, i_load, i_iload, i_lload, i_dload, i_aload, i_istore, i_astore, i_lstore, i_dstore, i_iinc, i_ii, i_iiz, i_ll, i_llz, i_lli, i_li, i_i, i_l, i_i2l, i_l2i, i_dup, i_dup2, i_dup2w, i_dupx1, i_pop, i_pop2, i_goto, i_ifc, i_icmp, i_getI, i_getL, i_getR, i_putI, i_putZ, i_putL, i_putR, i_aldI, i_aldB, i_aldL, i_aldD, i_astI, i_astL, i_astD, i_alen, i_ret, i_iret, i_zret, i_lret, i_fret, i_dret, i_aret, i_invS0, i_invV0, i_m2, i_m1, i_ml, i_obj, lk, lkp, stf1, stf2, Value.category, rV, xTo, lv_args, xCk, xCat, xRc, xAk, hg_S, hg_I, hg_J, hg_D, hg_R, hs_I, hs_J, hs_D, hs_R, uI_at, uJ_at, uD_at, uR_at, List.take_succ_cons, List.take_zero, List.drop_succ_cons, List.drop_zero, List.reverse_cons, List.reverse_nil, List.nil_append, List.cons_append, List.map_cons, List.map_nil, List.sum_cons, List.sum_nil, List.length_cons, List.length_nil, Option.toList_some, Option.toList_none, true_and, and_true, false_and, and_false, true_implies, false_implies, implies_true, not_true_eq_false, not_false_eq_true, ne_eq, if_true, if_false, Bool.and_true, Bool.true_and, decide_true, decide_false, reduceIte, reduceCtorEq, Bool.and_self, Bool.and_eq_true, decide_eq_true_eq, and_self, true_or, or_true, false_or, or_false, Nat.zero_add, Nat.add_zero, eq_self, Nat.reduceEqDiff, Nat.reduceLeDiff, Nat.reduceLT, Nat.reduceAdd, Nat.reduceSub, Nat.reduceMul, LM_out hL, ne_eq, h2, not_false_eq_true, e319_34, B319_34]
    refine L315 hL hX hB h (fun D1 k1 => ?_)
    by_cases h0 : w = 0
    · subst h0
      have ef := fg_0 (E := E) (n := n) (r := rtP x y)
      simp only [xSeq, i_push, i_load, i_iload, i_lload, i_dload, i_aload, i_istore, i_astore, i_lstore, i_dstore, i_iinc, i_ii, i_iiz, i_ll, i_llz, i_lli, i_li, i_i, i_l, i_i2l, i_l2i, i_dup, i_dup2, i_dup2w, i_dupx1, i_pop, i_pop2, i_goto, i_ifc, i_icmp, i_getI, i_getL, i_getR, i_putI, i_putZ, i_putL, i_putR, i_aldI, i_aldB, i_aldL, i_aldD, i_astI, i_astL, i_astD, i_alen, i_ret, i_iret, i_zret, i_lret, i_fret, i_dret, i_aret, i_invS0, i_invV0, i_m2, i_m1, i_ml, i_obj, lk, lkp, stf1, stf2, Value.category, rV, xTo, lv_args, xCk, xCat, xRc, xAk, hg_S, hg_I, hg_J, hg_D, hg_R, hs_I, hs_J, hs_D, hs_R, uI_at, uJ_at, uD_at, uR_at, List.take_succ_cons, List.take_zero, List.drop_succ_cons, List.drop_zero, List.reverse_cons, List.reverse_nil, List.nil_append, List.cons_append, List.map_cons, List.map_nil, List.sum_cons, List.sum_nil, List.length_cons, List.length_nil, Option.toList_some, Option.toList_none, true_and, and_true, false_and, and_false, true_implies, false_implies, implies_true, not_true_eq_false, not_false_eq_true, ne_eq, if_true, if_false, Bool.and_true, Bool.true_and, decide_true, decide_false, reduceIte, reduceCtorEq, Bool.and_self, Bool.and_eq_true, decide_eq_true_eq, and_self, true_or, or_true, false_or, or_false, Nat.zero_add, Nat.add_zero, eq_self, Nat.reduceEqDiff, Nat.reduceLeDiff, Nat.reduceLT, Nat.reduceAdd, Nat.reduceSub, Nat.reduceMul, LM_out hL, ne_eq, not_true_eq_false, e319_53, B319_53]
      refine L315 hL hX hB h (fun D2 k2 => ?_)
      simp only [xSeq, i_push, i_load, i_iload, i_lload, i_dload, i_aload, i_istore, i_astore, i_lstore, i_dstore, i_iinc, i_ii, i_iiz, i_ll, i_llz, i_lli, i_li, i_i, i_l, i_i2l, i_l2i, i_dup, i_dup2, i_dup2w, i_dupx1, i_pop, i_pop2, i_goto, i_ifc, i_icmp, i_getI, i_getL, i_getR, i_putI, i_putZ, i_putL, i_putR, i_aldI, i_aldB, i_aldL, i_aldD, i_astI, i_astL, i_astD, i_alen, i_ret, i_iret, i_zret, i_lret, i_fret, i_dret, i_aret, i_invS0, i_invV0, i_m2, i_m1, i_ml, i_obj, lk, lkp, stf1, stf2, Value.category, rV, xTo, lv_args, xCk, xCat, xRc, xAk, hg_S, hg_I, hg_J, hg_D, hg_R, hs_I, hs_J, hs_D, hs_R, uI_at, uJ_at, uD_at, uR_at, List.take_succ_cons, List.take_zero, List.drop_succ_cons, List.drop_zero, List.reverse_cons, List.reverse_nil, List.nil_append, List.cons_append, List.map_cons, List.map_nil, List.sum_cons, List.sum_nil, List.length_cons, List.length_nil, Option.toList_some, Option.toList_none, true_and, and_true, false_and, and_false, true_implies, false_implies, implies_true, not_true_eq_false, not_false_eq_true, ne_eq, if_true, if_false, Bool.and_true, Bool.true_and, decide_true, decide_false, reduceIte, reduceCtorEq, Bool.and_self, Bool.and_eq_true, decide_eq_true_eq, and_self, true_or, or_true, false_or, or_false, Nat.zero_add, Nat.add_zero, eq_self, Nat.reduceEqDiff, Nat.reduceLeDiff, Nat.reduceLT, Nat.reduceAdd, Nat.reduceSub, Nat.reduceMul, i_dd, al_eq (nm 0), ef, al_eq nf]
      exact kk D2 (fun o k ho => (k2 o k ho).trans (k1 o k ho))
    · have ef : FP.dsub (mn E n (rtP x y) 2) (FP.dmul (mn E n (rtP x y) w) (mn E n (rtP x y) w)) = fg E n (rtP x y) w := by
        unfold fg
        rw [if_neg h2, if_neg h0]
      simp only [xSeq, i_push, i_load, i_iload, i_lload, i_dload, i_aload, i_istore, i_astore, i_lstore, i_dstore, i_iinc, i_ii, i_iiz, i_ll, i_llz, i_lli, i_li, i_i, i_l, i_i2l, i_l2i, i_dup, i_dup2, i_dup2w, i_dupx1, i_pop, i_pop2, i_goto, i_ifc, i_icmp, i_getI, i_getL, i_getR, i_putI, i_putZ, i_putL, i_putR, i_aldI, i_aldB, i_aldL, i_aldD, i_astI, i_astL, i_astD, i_alen, i_ret, i_iret, i_zret, i_lret, i_fret, i_dret, i_aret, i_invS0, i_invV0, i_m2, i_m1, i_ml, i_obj, lk, lkp, stf1, stf2, Value.category, rV, xTo, lv_args, xCk, xCat, xRc, xAk, hg_S, hg_I, hg_J, hg_D, hg_R, hs_I, hs_J, hs_D, hs_R, uI_at, uJ_at, uD_at, uR_at, List.take_succ_cons, List.take_zero, List.drop_succ_cons, List.drop_zero, List.reverse_cons, List.reverse_nil, List.nil_append, List.cons_append, List.map_cons, List.map_nil, List.sum_cons, List.sum_nil, List.length_cons, List.length_nil, Option.toList_some, Option.toList_none, true_and, and_true, false_and, and_false, true_implies, false_implies, implies_true, not_true_eq_false, not_false_eq_true, ne_eq, if_true, if_false, Bool.and_true, Bool.true_and, decide_true, decide_false, reduceIte, reduceCtorEq, Bool.and_self, Bool.and_eq_true, decide_eq_true_eq, and_self, true_or, or_true, false_or, or_false, Nat.zero_add, Nat.add_zero, eq_self, Nat.reduceEqDiff, Nat.reduceLeDiff, Nat.reduceLT, Nat.reduceAdd, Nat.reduceSub, Nat.reduceMul, LM_out hL, ne_eq, h0, not_false_eq_true, e319_52, B319_52, e319_53, B319_53]
      refine L315 hL hX hB h (fun D2 k2 => ?_)
      simp only [xSeq, i_push, i_load, i_iload, i_lload, i_dload, i_aload, i_istore, i_astore, i_lstore, i_dstore, i_iinc, i_ii, i_iiz, i_ll, i_llz, i_lli, i_li, i_i, i_l, i_i2l, i_l2i, i_dup, i_dup2, i_dup2w, i_dupx1, i_pop, i_pop2, i_goto, i_ifc, i_icmp, i_getI, i_getL, i_getR, i_putI, i_putZ, i_putL, i_putR, i_aldI, i_aldB, i_aldL, i_aldD, i_astI, i_astL, i_astD, i_alen, i_ret, i_iret, i_zret, i_lret, i_fret, i_dret, i_aret, i_invS0, i_invV0, i_m2, i_m1, i_ml, i_obj, lk, lkp, stf1, stf2, Value.category, rV, xTo, lv_args, xCk, xCat, xRc, xAk, hg_S, hg_I, hg_J, hg_D, hg_R, hs_I, hs_J, hs_D, hs_R, uI_at, uJ_at, uD_at, uR_at, List.take_succ_cons, List.take_zero, List.drop_succ_cons, List.drop_zero, List.reverse_cons, List.reverse_nil, List.nil_append, List.cons_append, List.map_cons, List.map_nil, List.sum_cons, List.sum_nil, List.length_cons, List.length_nil, Option.toList_some, Option.toList_none, true_and, and_true, false_and, and_false, true_implies, false_implies, implies_true, not_true_eq_false, not_false_eq_true, ne_eq, if_true, if_false, Bool.and_true, Bool.true_and, decide_true, decide_false, reduceIte, reduceCtorEq, Bool.and_self, Bool.and_eq_true, decide_eq_true_eq, and_self, true_or, or_true, false_or, or_false, Nat.zero_add, Nat.add_zero, eq_self, Nat.reduceEqDiff, Nat.reduceLeDiff, Nat.reduceLT, Nat.reduceAdd, Nat.reduceSub, Nat.reduceMul, i_dd, al_eq (nm w), ef, al_eq nf]
      exact kk D2 (fun o k ho => (k2 o k ho).trans (k1 o k ho))
/-- a power of the ratio, multiplied together -/
theorem R266_w (h : AB x y) {u : Nat} (hu : u < 2147483648) : ∀ (j i : Nat), i + j = u → xRun xT 266 5 [(0, .int (nI u)), (1, .int (nI x)), (2, .int (nI y)), (3, .double (wP (rtP x y) i)), (5, .int (nI i))] [] (S, I, J, D, R) b Q = Q (.ok (some (.double (wP (rtP x y) u)))) (S, I, J, D, R) b
  | 0, i, hi => by
    have e : i = u := by omega
    subst e
    rw [e266_5]
    simp only [B266_5, xSeq, i_push, i_load, i_iload, i_lload, i_dload, i_aload, i_istore, i_astore, i_lstore, i_dstore, i_iinc, i_ii, i_iiz, i_ll, i_llz, i_lli, i_li, i_i, i_l, i_i2l, i_l2i, i_dup, i_dup2, i_dup2w, i_dupx1, i_pop, i_pop2, i_goto, i_ifc, i_icmp, i_getI, i_getL, i_getR, i_putI, i_putZ, i_putL, i_putR, i_aldI, i_aldB, i_aldL, i_aldD, i_astI, i_astL, i_astD, i_alen, i_ret, i_iret, i_zret, i_lret, i_fret, i_dret, i_aret, i_invS0, i_invV0, i_m2, i_m1, i_ml, i_obj, lk, lkp, stf1, stf2, Value.category, rV, xTo, lv_args, xCk, xCat, xRc, xAk, hg_S, hg_I, hg_J, hg_D, hg_R, hs_I, hs_J, hs_D, hs_R, uI_at, uJ_at, uD_at, uR_at, List.take_succ_cons, List.take_zero, List.drop_succ_cons, List.drop_zero, List.reverse_cons, List.reverse_nil, List.nil_append, List.cons_append, List.map_cons, List.map_nil, List.sum_cons, List.sum_nil, List.length_cons, List.length_nil, Option.toList_some, Option.toList_none, true_and, and_true, false_and, and_false, true_implies, false_implies, implies_true, not_true_eq_false, not_false_eq_true, ne_eq, if_true, if_false, Bool.and_true, Bool.true_and, decide_true, decide_false, reduceIte, reduceCtorEq, Bool.and_self, Bool.and_eq_true, decide_eq_true_eq, and_self, true_or, or_true, false_or, or_false, Nat.zero_add, Nat.add_zero, eq_self, Nat.reduceEqDiff, Nat.reduceLeDiff, Nat.reduceLT, Nat.reduceAdd, Nat.reduceSub, Nat.reduceMul, nI_leP hu hu, Nat.le_refl, e266_25, B266_25]
  | j + 1, i, hi => by
    have ih := R266_w h hu j (i + 1) (by omega)
    have hn0 : isNaN64 (rtP x y) = false := fb_n (gp_fb (rtP_gp h))
    have hn : isNaN64 (wP (rtP x y) (i + 1)) = false := fb_n (gp_fb (wP_gp (rtP_gp h) (i + 1)))
    have e4 : FP.ddiv (FP.i2d (nI x)) (FP.i2d (nI y)) = rtP x y := rfl
    have e3 : FP.dmul (wP (rtP x y) i) (rtP x y) = wP (rtP x y) (i + 1) := rfl
    rw [e266_5]
    simp only [B266_5, xSeq, i_push, i_load, i_iload, i_lload, i_dload, i_aload, i_istore, i_astore, i_lstore, i_dstore, i_iinc, i_ii, i_iiz, i_ll, i_llz, i_lli, i_li, i_i, i_l, i_i2l, i_l2i, i_dup, i_dup2, i_dup2w, i_dupx1, i_pop, i_pop2, i_goto, i_ifc, i_icmp, i_getI, i_getL, i_getR, i_putI, i_putZ, i_putL, i_putR, i_aldI, i_aldB, i_aldL, i_aldD, i_astI, i_astL, i_astD, i_alen, i_ret, i_iret, i_zret, i_lret, i_fret, i_dret, i_aret, i_invS0, i_invV0, i_m2, i_m1, i_ml, i_obj, lk, lkp, stf1, stf2, Value.category, rV, xTo, lv_args, xCk, xCat, xRc, xAk, hg_S, hg_I, hg_J, hg_D, hg_R, hs_I, hs_J, hs_D, hs_R, uI_at, uJ_at, uD_at, uR_at, List.take_succ_cons, List.take_zero, List.drop_succ_cons, List.drop_zero, List.reverse_cons, List.reverse_nil, List.nil_append, List.cons_append, List.map_cons, List.map_nil, List.sum_cons, List.sum_nil, List.length_cons, List.length_nil, Option.toList_some, Option.toList_none, true_and, and_true, false_and, and_false, true_implies, false_implies, implies_true, not_true_eq_false, not_false_eq_true, ne_eq, if_true, if_false, Bool.and_true, Bool.true_and, decide_true, decide_false, reduceIte, reduceCtorEq, Bool.and_self, Bool.and_eq_true, decide_eq_true_eq, and_self, true_or, or_true, false_or, or_false, Nat.zero_add, Nat.add_zero, eq_self, Nat.reduceEqDiff, Nat.reduceLeDiff, Nat.reduceLT, Nat.reduceAdd, Nat.reduceSub, Nat.reduceMul, nI_leP hu (show i < 2147483648 by omega), show (u ≤ i) = False from eq_false (by omega), i_i2d, i_dd, e4, al_eq hn0, e3, al_eq hn, nI_1, ih]
theorem R266g (h : AB x y) {u : Nat} (hu : u < 2147483648) : xRun xT 266 0 [(0, .int (nI u)), (1, .int (nI x)), (2, .int (nI y))] [] (S, I, J, D, R) b Q = Q (.ok (some (.double (wP (rtP x y) u)))) (S, I, J, D, R) b := by
  have h5 := R266_w (S := S) (I := I) (J := J) (D := D) (R := R) (b := b) (Q := Q) h hu u 0 (by omega)
  rw [nI_0] at h5
  rw [e266_0]
  simp only [B266_0, xSeq, i_push, i_load, i_iload, i_lload, i_dload, i_aload, i_istore, i_astore, i_lstore, i_dstore, i_iinc, i_ii, i_iiz, i_ll, i_llz, i_lli, i_li, i_i, i_l, i_i2l, i_l2i, i_dup, i_dup2, i_dup2w, i_dupx1, i_pop, i_pop2, i_goto, i_ifc, i_icmp, i_getI, i_getL, i_getR, i_putI, i_putZ, i_putL, i_putR, i_aldI, i_aldB, i_aldL, i_aldD, i_astI, i_astL, i_astD, i_alen, i_ret, i_iret, i_zret, i_lret, i_fret, i_dret, i_aret, i_invS0, i_invV0, i_m2, i_m1, i_ml, i_obj, lk, lkp, stf1, stf2, Value.category, rV, xTo, lv_args, xCk, xCat, xRc, xAk, hg_S, hg_I, hg_J, hg_D, hg_R, hs_I, hs_J, hs_D, hs_R, uI_at, uJ_at, uD_at, uR_at, List.take_succ_cons, List.take_zero, List.drop_succ_cons, List.drop_zero, List.reverse_cons, List.reverse_nil, List.nil_append, List.cons_append, List.map_cons, List.map_nil, List.sum_cons, List.sum_nil, List.length_cons, List.length_nil, Option.toList_some, Option.toList_none, true_and, and_true, false_and, and_false, true_implies, false_implies, implies_true, not_true_eq_false, not_false_eq_true, ne_eq, if_true, if_false, Bool.and_true, Bool.true_and, decide_true, decide_false, reduceIte, reduceCtorEq, Bool.and_self, Bool.and_eq_true, decide_eq_true_eq, and_self, true_or, or_true, false_or, or_false, Nat.zero_add, Nat.add_zero, eq_self, Nat.reduceEqDiff, Nat.reduceLeDiff, Nat.reduceLT, Nat.reduceAdd, Nat.reduceSub, Nat.reduceMul]
  exact h5
theorem rt_AB {u v : Int32} (h : rt u v = true) : ∃ x y, AB x y ∧ u = nI x ∧ v = nI y := by
  unfold rt rg at h
  simp only [Bool.and_eq_true, Bool.not_eq_true', decide_eq_false_iff_not] at h
  obtain ⟨⟨⟨h1, h2⟩, h3⟩, h4⟩ := h
  have t1 : (1 : Int32).toInt = 1 := rfl
  have t98 : (98 : Int32).toInt = 98 := rfl
  have t99 : (99 : Int32).toInt = 99 := rfl
  rw [Int32.lt_iff_toInt_lt] at h1 h2 h4
  rw [Int32.le_iff_toInt_le] at h3
  obtain ⟨x, hx, rfl⟩ := nI_of (x := u) (fun e => by
    rw [Int32.lt_iff_toInt_lt, show (0 : Int32).toInt = 0 from rfl] at e
    omega)
  obtain ⟨y, hy, rfl⟩ := nI_of (x := v) (fun e => by
    rw [Int32.lt_iff_toInt_lt, show (0 : Int32).toInt = 0 from rfl] at e
    omega)
  rw [nI_toInt hx] at h1 h2 h3
  rw [nI_toInt hy] at h3 h4
  exact ⟨x, y, ⟨by omega, by omega, by omega⟩, rfl, rfl⟩
end
/-! ===== the mean square of any small grid ===== -/
section
variable {E : Nat → Int32} {n : Nat} {r : UInt64}
theorem v_sq : ∀ n, n < 17 → ∀ p, p < n + 1 → (decide (0 ≤ ((2 * nI p - nI n).toInt64 * (2 * nI p - nI n).toInt64).toInt) && decide (2 * p = n ∨ 1 ≤ ((2 * nI p - nI n).toInt64 * (2 * nI p - nI n).toInt64).toInt)) = true := by decide +kernel
theorem vl_2 {i : Nat} : vl E n 2 i = (2 * nI ((lv E n).getD i 0 % 17) - nI n).toInt64 * (2 * nI ((lv E n).getD i 0 % 17) - nI n).toInt64 := by
  unfold vl vF
  rw [if_neg (by decide), if_neg (by decide), if_pos rfl]
  rfl
theorem vl2_pos (hB : EB E n) {i : Nat} (hi : i < (lv E n).length) : 0 ≤ (vl E n 2 i).toInt ∧ (2 * ((lv E n).getD i 0 % 17) = n ∨ 1 ≤ (vl E n 2 i).toInt) := by
  have hn := hB.1
  have hm := v_sq n (by omega) ((lv E n).getD i 0 % 17) (by have := (lv_get hB hi).2.2; omega)
  rw [Bool.and_eq_true, decide_eq_true_eq, decide_eq_true_eq] at hm
  rw [vl_2]
  exact hm
theorem vl2_gp (hB : EB E n) {i : Nat} (hi : i < (lv E n).length) : gp 0 (65536 * uo) (FP.l2d (vl E n 2 i)) := by
  have h1 := l2d_fb (vl_bd (w := 2) hB hi) (by decide)
  obtain ⟨c, q, h2⟩ := FP.Core.l2d_shape (vl E n 2 i)
  rw [decide_eq_false (by have := (vl2_pos hB hi).1; omega)] at h2
  exact ⟨⟨c, q, h2⟩, Nat.zero_le _, h1.2⟩
theorem vl2_1 (hB : EB E n) {i : Nat} (hi : i < (lv E n).length) (hm : 2 * ((lv E n).getD i 0 % 17) ≠ n) : gp uo (65536 * uo) (FP.l2d (vl E n 2 i)) := by
  have h1 := vl2_gp hB hi
  have h2 := (vl2_pos hB hi).2.resolve_left hm
  have hb := vl_bd (w := 2) hB hi
  have h3 := (l2d_z (a := vl E n 2 i) rfl (by omega)).2
  refine ⟨h1.1, ?_, h1.2.2⟩
  rw [h3]
  exact Nat.le_mul_of_pos_left _ (by omega)
theorem wP_l (hr : gp (2 ^ 1067) uo r) : ∀ i, i ≤ 30 → gp (2 ^ (1074 - 7 * i)) uo (wP r i)
  | 0, _ => gp_1
  | i + 1, h => by
    refine gp_mul (wP_l hr i (by omega)) hr rp_u (Nat.le_refl _) (rp_p (by omega) (by omega)) ?_
    show 2 ^ (1074 - 7 * (i + 1)) * 2 ^ 1074 ≤ 2 ^ (1074 - 7 * i) * 2 ^ 1067
    rw [← Nat.pow_add, ← Nat.pow_add]
    exact Nat.pow_le_pow_right (by decide) (by omega)
theorem wt_l (hB : EB E n) (hr : gp (2 ^ 1067) uo r) {i : Nat} (hi : i < (lv E n).length) (hx : xi (lv E n) i ≤ 30) : gp (2 ^ 864) (65536 * uo) (wt E n r i) := by
  have hc := cL_le (k := (lv E n).getD i 0) hB
  have h0 := (lv_get hB hi).2.1
  have h1 : gp (2 ^ 864) uo (wP r (xi (lv E n) i)) := gp_le (wP_l hr _ hx) (Nat.pow_le_pow_right (by decide) (by omega)) (Nat.le_refl _)
  refine gp_mul (i2d_n (k := cL E n ((lv E n).getD i 0)) (by omega)) h1 (rp_n (by decide)) (Nat.mul_le_mul_right _ (Nat.mul_le_mul_right _ hc)) (rp_p (by decide) (by decide)) ?_
  rw [Nat.mul_comm]
  exact Nat.mul_le_mul_right _ (Nat.le_mul_of_pos_left _ h0)
theorem tm2_gp (hB : EB E n) (hr : gp 0 uo r) {i : Nat} (hi : i < (lv E n).length) : gp 0 (4294967296 * uo) (tm E n r 2 i) :=
  gp_mul (wt_gp hB hr) (vl2_gp hB hi) (rp_n (by decide)) (by decide +kernel) rp_0 (by rw [Nat.zero_mul]; exact Nat.zero_le _)
theorem tm2_l (hB : EB E n) (hr : gp (2 ^ 1067) uo r) {i : Nat} (hi : i < (lv E n).length) (hx : xi (lv E n) i ≤ 30) (hm : 2 * ((lv E n).getD i 0 % 17) ≠ n) : gp (2 ^ 864) (4294967296 * uo) (tm E n r 2 i) :=
  gp_mul (wt_l hB hr hi hx) (vl2_1 hB hi hm) (rp_n (by decide)) (by decide +kernel) (rp_p (by decide) (by decide)) (Nat.le_refl _)
theorem sS2_0 (hB : EB E n) (hr : gp 0 uo r) : ∀ j, j ≤ (lv E n).length → gp 0 (j * 4294967296 * uo) (sS E n r 2 j)
  | 0, h => gp_le gp_0 (Nat.le_refl _) (Nat.zero_le _)
  | j + 1, h => by
    have hl := lv_len E n
    have e : j * 4294967296 * uo + 4294967296 * uo = (j + 1) * 4294967296 * uo := by
      have e2 : (j + 1) * 4294967296 = j * 4294967296 + 4294967296 := Nat.succ_mul _ _
      rw [e2, Nat.add_mul (j * 4294967296)]
    exact gp_add (sS2_0 hB hr j (by omega)) (tm2_gp hB hr (by omega)) (rp_n (by omega)) (Nat.le_of_eq e) rp_0 (Nat.zero_le _)
theorem sS2_l (hB : EB E n) (hr : gp (2 ^ 1067) uo r) {i : Nat} (hi : i < (lv E n).length) (hx : xi (lv E n) i ≤ 30) (hm : 2 * ((lv E n).getD i 0 % 17) ≠ n) : ∀ d, i + 1 + d ≤ (lv E n).length → gp (2 ^ 864) ((i + 1 + d) * 4294967296 * uo) (sS E n r 2 (i + 1 + d))
  | 0, h => by
    have hl := lv_len E n
    have e : i * 4294967296 * uo + 4294967296 * uo = (i + 1) * 4294967296 * uo := by
      have e2 : (i + 1) * 4294967296 = i * 4294967296 + 4294967296 := Nat.succ_mul _ _
      rw [e2, Nat.add_mul (i * 4294967296)]
    exact gp_add (sS2_0 hB (gl0 hr) i (by omega)) (tm2_l hB hr hi hx hm) (rp_n (by omega)) (Nat.le_of_eq e) (rp_p (by decide) (by decide)) (Nat.le_add_left _ _)
  | d + 1, h => by
    have hl := lv_len E n
    have e : (i + 1 + d) * 4294967296 * uo + 4294967296 * uo = (i + 1 + (d + 1)) * 4294967296 * uo := by
      have e2 : (i + 1 + (d + 1)) * 4294967296 = (i + 1 + d) * 4294967296 + 4294967296 := Nat.succ_mul _ _
      rw [e2, Nat.add_mul ((i + 1 + d) * 4294967296)]
    show gp (2 ^ 864) _ (FP.dadd (sS E n r 2 (i + 1 + d)) (tm E n r 2 (i + 1 + d)))
    exact gp_add (sS2_l hB hr hi hx hm d (by omega)) (tm2_gp hB (gl0 hr) (i := i + 1 + d) (by omega)) (rp_n (by omega)) (Nat.le_of_eq e) (rp_p (by decide) (by decide)) (Nat.le_add_right _ _)
/-- a level with a magnetization, not far above the ground: the mean square never vanishes -/
theorem PQ_l (hB : EB E n) {i : Nat} (hi : i < (lv E n).length) (hx : xi (lv E n) i ≤ 30) (hm : 2 * ((lv E n).getD i 0 % 17) ≠ n) : PQ E n := fun r hr => by
  have hl := lv_len E n
  have h1 : gp (2 ^ 864) (4913 * 4294967296 * uo) (sS E n r 2 (lv E n).length) := by
    have h2 := sS2_l hB hr hi hx hm ((lv E n).length - (i + 1)) (by omega)
    rw [show i + 1 + ((lv E n).length - (i + 1)) = (lv E n).length by omega] at h2
    exact gp_le h2 (Nat.le_refl _) (Nat.mul_le_mul_right _ (Nat.mul_le_mul_right _ hl))
  exact gp_div h1 (sA_all hB (gl0 hr)) uo_pos (rp_p (by decide) (by decide)) (by decide +kernel) (rp_p (by decide) (by decide)) (by decide +kernel)
end
/-! ===== probabilities ===== -/
section
variable {E : Nat → Int32} {n : Nat} {r : UInt64}
/-- a configuration's place among the weights -/
def ui (E : Nat → Int32) (n c : Nat) : Nat := eN E c - (lv E n).getD 0 0 / 17
theorem lv_min (hB : EB E n) {c : Nat} (hc : c < 2 ^ n) : (lv E n).getD 0 0 ≤ yL E n c := by
  have h1 := yL_ok hB hc
  have h2 : yL E n c ∈ lv E n := (fl_mem _ _ _).mpr ⟨h1.1, decide_eq_true (ct_pos.mpr ⟨c, hc, decide_eq_true rfl⟩)⟩
  obtain ⟨i, hi, he⟩ := List.getElem_of_mem h2
  have h3 := (lv_x hB hi).1
  rw [getD_lt hi, he] at h3
  exact h3
theorem ui_ok (hB : EB E n) {c : Nat} (hc : c < 2 ^ n) : E c - gE ((lv E n).getD 0 0) = nI (ui E n c) ∧ ui E n c < 289 := by
  have h0 := lv_min hB hc
  obtain ⟨h1, h2, h3, h4⟩ := yL_ok hB hc
  obtain ⟨-, -, h5, h6⟩ := eN_ok hB hc
  have h7 : (lv E n).getD 0 0 / 17 ≤ eN E c := by
    rw [← h2]
    exact Nat.div_le_div_right h0
  refine ⟨?_, by unfold ui; omega⟩
  unfold gE ui
  rw [h6, ← nI_subn h7]
  grind
def pb (E : Nat → Int32) (n : Nat) (r : UInt64) (c : Nat) : UInt64 := FP.ddiv (wP r (ui E n c)) (sA E n r (lv E n).length)
theorem pb_fb (hB : EB E n) (hr : gp 0 uo r) {c : Nat} : fb uo (pb E n r c) := fb_div (gp_fb (wP_gp hr _)) (sA_all hB hr) uo_pos rp_u (Nat.le_refl _)
variable {S : xS} {I : xI} {J : xJ} {D : xDb} {R : xR} {b : Nat × Nat} {Q : xQ} {x y : Nat}
theorem R110_5 (hL : LC S R) (hX : XL n E S I R) (hB : EB E n) (h : AB x y) (hD : ∀ k, k < 289 → D 139 k = wP (rtP x y) k) {c : Nat} (hc : c < 2 ^ n) : ∀ (j i : Nat), i + j = (lv E n).length → xRun xT 110 5 [(0, .ref 130), (1, .int (nI c)), (2, .double (sA E n (rtP x y) i)), (4, .int (nI i))] [] (S, I, J, D, R) b Q = Q (.ok (some (.double (pb E n (rtP x y) c)))) (S, I, J, D, R) b
  | 0, i, hi => by
    have hl := lv_len E n
    have hr := rtP_gp h
    have hp := pow16 hB.1
    have e : i = (lv E n).length := by omega
    obtain ⟨u1, u2⟩ := ui_ok hB hc
    rw [e110_5]
    simp only [B110_5, xSeq, i_push, i_load, i_iload, i_lload, i_dload, i_aload, i_istore, i_astore, i_lstore, i_dstore, i_iinc, i_ii, i_iiz, i_ll, i_llz, i_lli, i_li, i_i, i_l, i_i2l, i_l2i, i_dup, i_dup2, i_dup2w, i_dupx1, i_pop, i_pop2, i_goto, i_ifc, i_icmp, i_getI, i_getL, i_getR, i_putI, i_putZ, i_putL, i_putR, i_aldI, i_aldB, i_aldL, i_aldD, i_astI, i_astL, i_astD, i_alen, i_ret, i_iret, i_zret, i_lret, i_fret, i_dret, i_aret, i_invS0, i_invV0, i_m2, i_m1, i_ml, i_obj, lk, lkp, stf1, stf2, Value.category, rV, xTo, lv_args, xCk, xCat, xRc, xAk, hg_S, hg_I, hg_J, hg_D, hg_R, hs_I, hs_J, hs_D, hs_R, uI_at, uJ_at, uD_at, uR_at, List.take_succ_cons, List.take_zero, List.drop_succ_cons, List.drop_zero, List.reverse_cons, List.reverse_nil, List.nil_append, List.cons_append, List.map_cons, List.map_nil, List.sum_cons, List.sum_nil, List.length_cons, List.length_nil, Option.toList_some, Option.toList_none, true_and, and_true, false_and, and_false, true_implies, false_implies, implies_true, not_true_eq_false, not_false_eq_true, ne_eq, if_true, if_false, Bool.and_true, Bool.true_and, decide_true, decide_false, reduceIte, reduceCtorEq, Bool.and_self, Bool.and_eq_true, decide_eq_true_eq, and_self, true_or, or_true, false_or, or_false, Nat.zero_add, Nat.add_zero, eq_self, Nat.reduceEqDiff, Nat.reduceLeDiff, Nat.reduceLT, Nat.reduceAdd, Nat.reduceSub, Nat.reduceMul, LC_out hL, hX.2.2.2.2.2.1, e, nI_leP (show (lv E n).length < 2147483648 by omega) (show (lv E n).length < 2147483648 by omega), Nat.le_refl, e110_49, B110_49, LE_out hX.1, hX.2.2.2.2.1, nI_inP (show c < 65536 by omega) (by decide), nI_ix (show c < 2147483648 by omega), hX.2.2.2.2.2.2.2 c hc, u1, nI_inP u2 (by decide), nI_ix (show ui E n c < 2147483648 by omega), hD _ u2]
    rw [R108 (gp_cmp (sA_all hB hr) uo_pos) (fb_n (pb_fb (c := c) hB hr))]
    simp only [xSeq, i_push, i_load, i_iload, i_lload, i_dload, i_aload, i_istore, i_astore, i_lstore, i_dstore, i_iinc, i_ii, i_iiz, i_ll, i_llz, i_lli, i_li, i_i, i_l, i_i2l, i_l2i, i_dup, i_dup2, i_dup2w, i_dupx1, i_pop, i_pop2, i_goto, i_ifc, i_icmp, i_getI, i_getL, i_getR, i_putI, i_putZ, i_putL, i_putR, i_aldI, i_aldB, i_aldL, i_aldD, i_astI, i_astL, i_astD, i_alen, i_ret, i_iret, i_zret, i_lret, i_fret, i_dret, i_aret, i_invS0, i_invV0, i_m2, i_m1, i_ml, i_obj, lk, lkp, stf1, stf2, Value.category, rV, xTo, lv_args, xCk, xCat, xRc, xAk, hg_S, hg_I, hg_J, hg_D, hg_R, hs_I, hs_J, hs_D, hs_R, uI_at, uJ_at, uD_at, uR_at, List.take_succ_cons, List.take_zero, List.drop_succ_cons, List.drop_zero, List.reverse_cons, List.reverse_nil, List.nil_append, List.cons_append, List.map_cons, List.map_nil, List.sum_cons, List.sum_nil, List.length_cons, List.length_nil, Option.toList_some, Option.toList_none, true_and, and_true, false_and, and_false, true_implies, false_implies, implies_true, not_true_eq_false, not_false_eq_true, ne_eq, if_true, if_false, Bool.and_true, Bool.true_and, decide_true, decide_false, reduceIte, reduceCtorEq, Bool.and_self, Bool.and_eq_true, decide_eq_true_eq, and_self, true_or, or_true, false_or, or_false, Nat.zero_add, Nat.add_zero, eq_self, Nat.reduceEqDiff, Nat.reduceLeDiff, Nat.reduceLT, Nat.reduceAdd, Nat.reduceSub, Nat.reduceMul]
    rfl
  | j + 1, i, hi => by
    have hl := lv_len E n
    have hr := rtP_gp h
    have ih := R110_5 hL hX hB h hD hc j (i + 1) (by omega)
    have hi2 : i < (lv E n).length := by omega
    obtain ⟨g1, g2, g3⟩ := hX.2.2.2.2.2.2.1 i hi2
    obtain ⟨-, x2, x3⟩ := lv_x hB hi2
    have e1 : FP.dmul (FP.i2d (gN E n ((lv E n).getD i 0))) (wP (rtP x y) (xi (lv E n) i)) = wt E n (rtP x y) i := rfl
    have e5 : FP.dadd (sA E n (rtP x y) i) (wt E n (rtP x y) i) = sA E n (rtP x y) (i + 1) := rfl
    have n1 : isNaN64 (wt E n (rtP x y) i) = false := fb_n (gp_fb (wt_gp hB hr))
    have n5 : isNaN64 (sA E n (rtP x y) (i + 1)) = false := sA_n hB hr (by omega)
    rw [e110_5]
    simp only [B110_5, xSeq, i_push, i_load, i_iload, i_lload, i_dload, i_aload, i_istore, i_astore, i_lstore, i_dstore, i_iinc, i_ii, i_iiz, i_ll, i_llz, i_lli, i_li, i_i, i_l, i_i2l, i_l2i, i_dup, i_dup2, i_dup2w, i_dupx1, i_pop, i_pop2, i_goto, i_ifc, i_icmp, i_getI, i_getL, i_getR, i_putI, i_putZ, i_putL, i_putR, i_aldI, i_aldB, i_aldL, i_aldD, i_astI, i_astL, i_astD, i_alen, i_ret, i_iret, i_zret, i_lret, i_fret, i_dret, i_aret, i_invS0, i_invV0, i_m2, i_m1, i_ml, i_obj, lk, lkp, stf1, stf2, Value.category, rV, xTo, lv_args, xCk, xCat, xRc, xAk, hg_S, hg_I, hg_J, hg_D, hg_R, hs_I, hs_J, hs_D, hs_R, uI_at, uJ_at, uD_at, uR_at, List.take_succ_cons, List.take_zero, List.drop_succ_cons, List.drop_zero, List.reverse_cons, List.reverse_nil, List.nil_append, List.cons_append, List.map_cons, List.map_nil, List.sum_cons, List.sum_nil, List.length_cons, List.length_nil, Option.toList_some, Option.toList_none, true_and, and_true, false_and, and_false, true_implies, false_implies, implies_true, not_true_eq_false, not_false_eq_true, ne_eq, if_true, if_false, Bool.and_true, Bool.true_and, decide_true, decide_false, reduceIte, reduceCtorEq, Bool.and_self, Bool.and_eq_true, decide_eq_true_eq, and_self, true_or, or_true, false_or, or_false, Nat.zero_add, Nat.add_zero, eq_self, Nat.reduceEqDiff, Nat.reduceLeDiff, Nat.reduceLT, Nat.reduceAdd, Nat.reduceSub, Nat.reduceMul, LC_out hL, LE_out hX.1, hX.2.2.2.2.1, hX.2.2.2.2.2.1, nI_leP (show (lv E n).length < 2147483648 by omega) (show i < 2147483648 by omega), show ((lv E n).length ≤ i) = False from eq_false (by omega), nI_inP (show i < 4913 by omega) (by decide), nI_ix (show i < 2147483648 by omega), g1, g3, x3, nI_inP x2 (by decide), nI_ix (show xi (lv E n) i < 2147483648 by omega), hD _ x2, i_i2d, i_dd, e1, al_eq n1, e5, al_eq n5, nI_1, ih]
theorem R110 (hL : LC S R) (hX : XL n E S I R) (hB : EB E n) (h : AB x y) (hD : ∀ k, k < 289 → D 139 k = wP (rtP x y) k) {c : Nat} (hc : c < 2 ^ n) : xRun xT 110 0 [(0, .ref 130), (1, .int (nI c))] [] (S, I, J, D, R) b Q = Q (.ok (some (.double (pb E n (rtP x y) c)))) (S, I, J, D, R) b := by
  have h5 := R110_5 (J := J) (b := b) (Q := Q) hL hX hB h hD hc (lv E n).length 0 (by omega)
  rw [nI_0] at h5
  rw [e110_0]
  simp only [B110_0, xSeq, i_push, i_load, i_iload, i_lload, i_dload, i_aload, i_istore, i_astore, i_lstore, i_dstore, i_iinc, i_ii, i_iiz, i_ll, i_llz, i_lli, i_li, i_i, i_l, i_i2l, i_l2i, i_dup, i_dup2, i_dup2w, i_dupx1, i_pop, i_pop2, i_goto, i_ifc, i_icmp, i_getI, i_getL, i_getR, i_putI, i_putZ, i_putL, i_putR, i_aldI, i_aldB, i_aldL, i_aldD, i_astI, i_astL, i_astD, i_alen, i_ret, i_iret, i_zret, i_lret, i_fret, i_dret, i_aret, i_invS0, i_invV0, i_m2, i_m1, i_ml, i_obj, lk, lkp, stf1, stf2, Value.category, rV, xTo, lv_args, xCk, xCat, xRc, xAk, hg_S, hg_I, hg_J, hg_D, hg_R, hs_I, hs_J, hs_D, hs_R, uI_at, uJ_at, uD_at, uR_at, List.take_succ_cons, List.take_zero, List.drop_succ_cons, List.drop_zero, List.reverse_cons, List.reverse_nil, List.nil_append, List.cons_append, List.map_cons, List.map_nil, List.sum_cons, List.sum_nil, List.length_cons, List.length_nil, Option.toList_some, Option.toList_none, true_and, and_true, false_and, and_false, true_implies, false_implies, implies_true, not_true_eq_false, not_false_eq_true, ne_eq, if_true, if_false, Bool.and_true, Bool.true_and, decide_true, decide_false, reduceIte, reduceCtorEq, Bool.and_self, Bool.and_eq_true, decide_eq_true_eq, and_self, true_or, or_true, false_or, or_false, Nat.zero_add, Nat.add_zero, eq_self, Nat.reduceEqDiff, Nat.reduceLeDiff, Nat.reduceLT, Nat.reduceAdd, Nat.reduceSub, Nat.reduceMul]
  exact h5
end
