/-! ===== questions about the levels ===== -/
section
variable {S : xS} {I : xI} {J : xJ} {D : xDb} {R : xR} {b : Nat × Nat} {Q : xQ} {n : Nat} {E : Nat → Int32}
/-- the number of the level with an energy and a magnetization -/
def cof (w4 w5 w6 : Nat → Int32) (x y : Int32) : Nat → Nat → Int32
  | 0, _ => 0
  | j + 1, i => if w4 i = x ∧ w5 i = y then w6 i else cof w4 w5 w6 x y j (i + 1)
theorem cof_congr {w4 w5 w6 v4 v5 v6 : Nat → Int32} {x y : Int32} : ∀ (j i : Nat), (∀ k, i ≤ k → k < i + j → w4 k = v4 k ∧ w5 k = v5 k ∧ w6 k = v6 k) → cof w4 w5 w6 x y j i = cof v4 v5 v6 x y j i
  | 0, _, _ => rfl
  | j + 1, i, h => by
    obtain ⟨h1, h2, h3⟩ := h i (Nat.le_refl i) (by omega)
    rw [cof, cof, h1, h2, h3, cof_congr j (i + 1) (fun k a c => h k (by omega) (by omega))]
theorem GL_eq {l : List Nat} {a b c w4 w5 w6 v4 v5 v6 : Nat → Int32} (h1 : GL l a b c w4 w5 w6) (h2 : GL l a b c v4 v5 v6) : ∀ i, i < l.length → w4 i = v4 i ∧ w5 i = v5 i ∧ w6 i = v6 i := fun i hi => by
  obtain ⟨p1, p2, p3⟩ := h1 i hi
  obtain ⟨q1, q2, q3⟩ := h2 i hi
  exact ⟨p1.trans q1.symm, p2.trans q2.symm, p3.trans q3.symm⟩
theorem R172_8 (hL : LC S R) (hX : XL n E S I R) {x y : Int32} : ∀ (j i : Nat), i + j = (lv E n).length → xRun xT 172 8 [(1, .int x), (2, .int y), (3, .ref 130), (4, .int (nI i))] [] (S, I, J, D, R) b Q = Q (.ok (some (.int (cof (I 154) (I 155) (I 156) x y j i)))) (S, I, J, D, R) b
  | 0, i, hi => by
    have hl := lv_len E n
    have e : i = (lv E n).length := by omega
    rw [e172_8]
    simp only [B172_8, xSeq, i_push, i_load, i_iload, i_lload, i_dload, i_aload, i_istore, i_astore, i_lstore, i_dstore, i_iinc, i_ii, i_iiz, i_ll, i_llz, i_lli, i_li, i_i, i_l, i_i2l, i_l2i, i_dup, i_dup2, i_dup2w, i_dupx1, i_pop, i_pop2, i_goto, i_ifc, i_icmp, i_getI, i_getL, i_getR, i_putI, i_putZ, i_putL, i_putR, i_aldI, i_aldB, i_aldL, i_aldD, i_astI, i_astL, i_astD, i_alen, i_ret, i_iret, i_zret, i_lret, i_fret, i_dret, i_aret, i_invS0, i_invV0, i_m2, i_m1, i_ml, i_obj, lk, lkp, stf1, stf2, Value.category, rV, xTo, lv_args, xCk, xCat, xRc, xAk, hg_S, hg_I, hg_J, hg_D, hg_R, hs_I, hs_J, hs_D, hs_R, uI_at, uJ_at, uD_at, uR_at, List.take_succ_cons, List.take_zero, List.drop_succ_cons, List.drop_zero, List.reverse_cons, List.reverse_nil, List.nil_append, List.cons_append, List.map_cons, List.map_nil, List.sum_cons, List.sum_nil, List.length_cons, List.length_nil, Option.toList_some, Option.toList_none, true_and, and_true, false_and, and_false, true_implies, false_implies, implies_true, not_true_eq_false, not_false_eq_true, ne_eq, if_true, if_false, Bool.and_true, Bool.true_and, decide_true, decide_false, reduceIte, reduceCtorEq, Bool.and_self, Bool.and_eq_true, decide_eq_true_eq, and_self, true_or, or_true, false_or, or_false, Nat.zero_add, Nat.add_zero, eq_self, Nat.reduceEqDiff, Nat.reduceLeDiff, Nat.reduceLT, Nat.reduceAdd, Nat.reduceSub, Nat.reduceMul, LC_out hL, hX.2.2.2.2.2.1, ← e, nI_leP (show i < 2147483648 by omega) (show i < 2147483648 by omega), Nat.le_refl, e172_53, B172_53, cof]
  | j + 1, i, hi => by
    have hl := lv_len E n
    have ih := R172_8 hL hX (x := x) (y := y) j (i + 1) (by omega)
    rw [e172_8]
    simp only [B172_8, xSeq, i_push, i_load, i_iload, i_lload, i_dload, i_aload, i_istore, i_astore, i_lstore, i_dstore, i_iinc, i_ii, i_iiz, i_ll, i_llz, i_lli, i_li, i_i, i_l, i_i2l, i_l2i, i_dup, i_dup2, i_dup2w, i_dupx1, i_pop, i_pop2, i_goto, i_ifc, i_icmp, i_getI, i_getL, i_getR, i_putI, i_putZ, i_putL, i_putR, i_aldI, i_aldB, i_aldL, i_aldD, i_astI, i_astL, i_astD, i_alen, i_ret, i_iret, i_zret, i_lret, i_fret, i_dret, i_aret, i_invS0, i_invV0, i_m2, i_m1, i_ml, i_obj, lk, lkp, stf1, stf2, Value.category, rV, xTo, lv_args, xCk, xCat, xRc, xAk, hg_S, hg_I, hg_J, hg_D, hg_R, hs_I, hs_J, hs_D, hs_R, uI_at, uJ_at, uD_at, uR_at, List.take_succ_cons, List.take_zero, List.drop_succ_cons, List.drop_zero, List.reverse_cons, List.reverse_nil, List.nil_append, List.cons_append, List.map_cons, List.map_nil, List.sum_cons, List.sum_nil, List.length_cons, List.length_nil, Option.toList_some, Option.toList_none, true_and, and_true, false_and, and_false, true_implies, false_implies, implies_true, not_true_eq_false, not_false_eq_true, ne_eq, if_true, if_false, Bool.and_true, Bool.true_and, decide_true, decide_false, reduceIte, reduceCtorEq, Bool.and_self, Bool.and_eq_true, decide_eq_true_eq, and_self, true_or, or_true, false_or, or_false, Nat.zero_add, Nat.add_zero, eq_self, Nat.reduceEqDiff, Nat.reduceLeDiff, Nat.reduceLT, Nat.reduceAdd, Nat.reduceSub, Nat.reduceMul, LC_out hL, LE_out hX.1, hX.2.2.2.2.2.1, nI_leP (show (lv E n).length < 2147483648 by omega) (show i < 2147483648 by omega), show ((lv E n).length ≤ i) = False from eq_false (by omega), nI_inP (show i < 4913 by omega) (by decide), nI_ix (show i < 2147483648 by omega), e172_47, B172_47, nI_1, ih, cof, ne_eq]
    by_cases h1 : I 154 i = x
    · by_cases h2 : I 155 i = y
      · simp only [h1, h2, true_and, and_true, false_and, and_false, true_implies, false_implies, implies_true, not_true_eq_false, not_false_eq_true, ne_eq, if_true, if_false, Bool.and_true, Bool.true_and, decide_true, decide_false, reduceIte, reduceCtorEq, Bool.and_self, Bool.and_eq_true, decide_eq_true_eq, and_self, true_or, or_true, false_or, or_false, Nat.zero_add, Nat.add_zero, eq_self, Nat.reduceEqDiff, Nat.reduceLeDiff, Nat.reduceLT, Nat.reduceAdd, Nat.reduceSub, Nat.reduceMul]
      · simp only [h1, h2, true_and, and_true, false_and, and_false, true_implies, false_implies, implies_true, not_true_eq_false, not_false_eq_true, ne_eq, if_true, if_false, Bool.and_true, Bool.true_and, decide_true, decide_false, reduceIte, reduceCtorEq, Bool.and_self, Bool.and_eq_true, decide_eq_true_eq, and_self, true_or, or_true, false_or, or_false, Nat.zero_add, Nat.add_zero, eq_self, Nat.reduceEqDiff, Nat.reduceLeDiff, Nat.reduceLT, Nat.reduceAdd, Nat.reduceSub, Nat.reduceMul]
    · simp only [h1, true_and, and_true, false_and, and_false, true_implies, false_implies, implies_true, not_true_eq_false, not_false_eq_true, ne_eq, if_true, if_false, Bool.and_true, Bool.true_and, decide_true, decide_false, reduceIte, reduceCtorEq, Bool.and_self, Bool.and_eq_true, decide_eq_true_eq, and_self, true_or, or_true, false_or, or_false, Nat.zero_add, Nat.add_zero, eq_self, Nat.reduceEqDiff, Nat.reduceLeDiff, Nat.reduceLT, Nat.reduceAdd, Nat.reduceSub, Nat.reduceMul]
theorem R306_21 (hL : LM S R) (hX : XM n E I) {x y : Int32} : ∀ (j i : Nat), i + j = (lv E n).length → xRun xT 306 21 [(0, .ref 200), (1, .int x), (2, .int y), (3, .int (nI i))] [] (S, I, J, D, R) b Q = Q (.ok (some (.int (cof (I 346) (I 347) (I 348) x y j i)))) (S, I, J, D, R) b
  | 0, i, hi => by
    have hl := lv_len E n
    have e : i = (lv E n).length := by omega
    rw [e306_21]
    simp only [B306_21, xSeq, i_push, i_load, i_iload, i_lload, i_dload, i_aload, i_istore, i_astore, i_lstore, i_dstore, i_iinc, i_ii, i_iiz, i_ll, i_llz, i_lli, i_li, i_i, i_l, i_i2l, i_l2i, i_dup, i_dup2, i_dup2w, i_dupx1, i_pop, i_pop2, i_goto, i_ifc, i_icmp, i_getI, i_getL, i_getR, i_putI, i_putZ, i_putL, i_putR, i_aldI, i_aldB, i_aldL, i_aldD, i_astI, i_astL, i_astD, i_alen, i_ret, i_iret, i_zret, i_lret, i_fret, i_dret, i_aret, i_invS0, i_invV0, i_m2, i_m1, i_ml, i_obj, lk, lkp, stf1, stf2, Value.category, rV, xTo, lv_args, xCk, xCat, xRc, xAk, hg_S, hg_I, hg_J, hg_D, hg_R, hs_I, hs_J, hs_D, hs_R, uI_at, uJ_at, uD_at, uR_at, List.take_succ_cons, List.take_zero, List.drop_succ_cons, List.drop_zero, List.reverse_cons, List.reverse_nil, List.nil_append, List.cons_append, List.map_cons, List.map_nil, List.sum_cons, List.sum_nil, List.length_cons, List.length_nil, Option.toList_some, Option.toList_none, true_and, and_true, false_and, and_false, true_implies, false_implies, implies_true, not_true_eq_false, not_false_eq_true, ne_eq, if_true, if_false, Bool.and_true, Bool.true_and, decide_true, decide_false, reduceIte, reduceCtorEq, Bool.and_self, Bool.and_eq_true, decide_eq_true_eq, and_self, true_or, or_true, false_or, or_false, Nat.zero_add, Nat.add_zero, eq_self, Nat.reduceEqDiff, Nat.reduceLeDiff, Nat.reduceLT, Nat.reduceAdd, Nat.reduceSub, Nat.reduceMul, LM_out hL, hX.2.1, ← e, nI_leP (show i < 2147483648 by omega) (show i < 2147483648 by omega), Nat.le_refl, e306_62, B306_62, cof]
  | j + 1, i, hi => by
    have hl := lv_len E n
    have ih := R306_21 hL hX (x := x) (y := y) j (i + 1) (by omega)
    rw [e306_21]
    simp only [B306_21, xSeq, i_push, i_load, i_iload, i_lload, i_dload, i_aload, i_istore, i_astore, i_lstore, i_dstore, i_iinc, i_ii, i_iiz, i_ll, i_llz, i_lli, i_li, i_i, i_l, i_i2l, i_l2i, i_dup, i_dup2, i_dup2w, i_dupx1, i_pop, i_pop2, i_goto, i_ifc, i_icmp, i_getI, i_getL, i_getR, i_putI, i_putZ, i_putL, i_putR, i_aldI, i_aldB, i_aldL, i_aldD, i_astI, i_astL, i_astD, i_alen, i_ret, i_iret, i_zret, i_lret, i_fret, i_dret, i_aret, i_invS0, i_invV0, i_m2, i_m1, i_ml, i_obj, lk, lkp, stf1, stf2, Value.category, rV, xTo, lv_args, xCk, xCat, xRc, xAk, hg_S, hg_I, hg_J, hg_D, hg_R, hs_I, hs_J, hs_D, hs_R, uI_at, uJ_at, uD_at, uR_at, List.take_succ_cons, List.take_zero, List.drop_succ_cons, List.drop_zero, List.reverse_cons, List.reverse_nil, List.nil_append, List.cons_append, List.map_cons, List.map_nil, List.sum_cons, List.sum_nil, List.length_cons, List.length_nil, Option.toList_some, Option.toList_none, true_and, and_true, false_and, and_false, true_implies, false_implies, implies_true, not_true_eq_false, not_false_eq_true, ne_eq, if_true, if_false, Bool.and_true, Bool.true_and, decide_true, decide_false, reduceIte, reduceCtorEq, Bool.and_self, Bool.and_eq_true, decide_eq_true_eq, and_self, true_or, or_true, false_or, or_false, Nat.zero_add, Nat.add_zero, eq_self, Nat.reduceEqDiff, Nat.reduceLeDiff, Nat.reduceLT, Nat.reduceAdd, Nat.reduceSub, Nat.reduceMul, LM_out hL, hX.2.1, nI_leP (show (lv E n).length < 2147483648 by omega) (show i < 2147483648 by omega), show ((lv E n).length ≤ i) = False from eq_false (by omega), nI_inP (show i < 6000 by omega) (by decide), nI_ix (show i < 2147483648 by omega), e306_56, B306_56, nI_1, ih, cof, ne_eq]
    by_cases h1 : I 346 i = x
    · by_cases h2 : I 347 i = y
      · simp only [h1, h2, true_and, and_true, false_and, and_false, true_implies, false_implies, implies_true, not_true_eq_false, not_false_eq_true, ne_eq, if_true, if_false, Bool.and_true, Bool.true_and, decide_true, decide_false, reduceIte, reduceCtorEq, Bool.and_self, Bool.and_eq_true, decide_eq_true_eq, and_self, true_or, or_true, false_or, or_false, Nat.zero_add, Nat.add_zero, eq_self, Nat.reduceEqDiff, Nat.reduceLeDiff, Nat.reduceLT, Nat.reduceAdd, Nat.reduceSub, Nat.reduceMul]
      · simp only [h1, h2, true_and, and_true, false_and, and_false, true_implies, false_implies, implies_true, not_true_eq_false, not_false_eq_true, ne_eq, if_true, if_false, Bool.and_true, Bool.true_and, decide_true, decide_false, reduceIte, reduceCtorEq, Bool.and_self, Bool.and_eq_true, decide_eq_true_eq, and_self, true_or, or_true, false_or, or_false, Nat.zero_add, Nat.add_zero, eq_self, Nat.reduceEqDiff, Nat.reduceLeDiff, Nat.reduceLT, Nat.reduceAdd, Nat.reduceSub, Nat.reduceMul]
    · simp only [h1, true_and, and_true, false_and, and_false, true_implies, false_implies, implies_true, not_true_eq_false, not_false_eq_true, ne_eq, if_true, if_false, Bool.and_true, Bool.true_and, decide_true, decide_false, reduceIte, reduceCtorEq, Bool.and_self, Bool.and_eq_true, decide_eq_true_eq, and_self, true_or, or_true, false_or, or_false, Nat.zero_add, Nat.add_zero, eq_self, Nat.reduceEqDiff, Nat.reduceLeDiff, Nat.reduceLT, Nat.reduceAdd, Nat.reduceSub, Nat.reduceMul]
/-- how many have at most an energy: until one has more; among all -/
def cup (w4 w6 : Nat → Int32) (x : Int32) : Nat → Nat → Int32 → Int32
  | 0, _, a => a
  | j + 1, i, a => if w4 i ≤ x then cup w4 w6 x j (i + 1) (a + w6 i) else a
def cun (p : Int32 → Bool) (w4 w6 : Nat → Int32) : Nat → Nat → Int32 → Int32
  | 0, _, a => a
  | j + 1, i, a => cun p w4 w6 j (i + 1) (a + if p (w4 i) = true then w6 i else 0)
theorem cun_none {p : Int32 → Bool} {w4 w6 : Nat → Int32} : ∀ (j i : Nat) (a : Int32), (∀ k, i ≤ k → k < i + j → p (w4 k) = false) → cun p w4 w6 j i a = a
  | 0, _, _, _ => rfl
  | j + 1, i, a, h => by
    rw [cun, h i (Nat.le_refl i) (by omega), if_neg (by decide), Int32.add_zero]
    exact cun_none j (i + 1) a (fun k h1 h2 => h k (by omega) (by omega))
theorem cun_congr {p q : Int32 → Bool} {w4 w6 v4 v6 : Nat → Int32} : ∀ (j i : Nat) (a : Int32), (∀ k, i ≤ k → k < i + j → p (w4 k) = q (v4 k) ∧ w6 k = v6 k) → cun p w4 w6 j i a = cun q v4 v6 j i a
  | 0, _, _, _ => rfl
  | j + 1, i, a, h => by
    obtain ⟨h1, h2⟩ := h i (Nat.le_refl i) (by omega)
    rw [cun, cun, h1, h2]
    exact cun_congr j (i + 1) _ (fun k a c => h k (by omega) (by omega))
theorem cup_cun {w4 w6 : Nat → Int32} {x : Int32} : ∀ (j i : Nat) (a : Int32), (∀ k l, i ≤ k → k ≤ l → l < i + j → w4 k ≤ w4 l) → cup w4 w6 x j i a = cun (fun y => decide (y ≤ x)) w4 w6 j i a
  | 0, _, _, _ => rfl
  | j + 1, i, a, h => by
    rw [cup]
    by_cases hx : w4 i ≤ x
    · rw [if_pos hx, cun, if_pos (decide_eq_true hx)]
      exact cup_cun j (i + 1) _ (fun k l h1 h2 h3 => h k l (by omega) h2 (by omega))
    · rw [if_neg hx, cun_none (j + 1) i a (fun k h1 h2 => decide_eq_false (fun h3 => hx (Int32.le_trans (h i k (Nat.le_refl i) h1 h2) h3)))]
theorem gE_toInt {k : Nat} (h : k < 4913) : (gE k).toInt = (k / 17 : Nat) - 144 := by
  unfold gE
  have e : (nI (k / 17) - 144 : Int32) = nI (k / 17) + -144 := by grind
  rw [e, i32_addT (x := 289) (y := 144) (by rw [nI_toInt (by omega)]; omega) (by decide) (by decide), nI_toInt (by omega)]
  rfl
theorem lv_le (h : EB E n) {w4 w5 w6 : Nat → Int32} (hg : GL (lv E n) gE (gM n) (gN E n) w4 w5 w6) {k l : Nat} (h1 : k ≤ l) (h2 : l < (lv E n).length) : w4 k ≤ w4 l := by
  rw [(hg k (by omega)).1, (hg l h2).1]
  have a1 := (lv_get h (i := k) (by omega)).1
  have a2 := (lv_get h h2).1
  have a3 : (lv E n).getD k 0 ≤ (lv E n).getD l 0 := by
    by_cases e : k = l
    · rw [e]; exact Nat.le_refl _
    · have hp := fl_srt (fun k => decide (0 < cL E n k)) 4913
      have := List.pairwise_iff_getElem.mp hp k l (by have : k < (lv E n).length := by omega
                                                      exact this) h2 (by omega)
      rw [getD_lt (show k < (lv E n).length by omega), getD_lt h2]
      exact Nat.le_of_lt this
  rw [Int32.le_iff_toInt_le, gE_toInt a1, gE_toInt a2]
  have := Nat.div_le_div_right (c := 17) a3
  omega
theorem R102_4 (hL : LC S R) (hX : XL n E S I R) {x : Int32} : ∀ (j i : Nat) (a : Int32), i + j = (lv E n).length → xRun xT 102 4 [(0, .ref 130), (1, .int x), (2, .int a), (3, .int (nI i))] [] (S, I, J, D, R) b Q = Q (.ok (some (.int (cup (I 154) (I 156) x j i a)))) (S, I, J, D, R) b
  | 0, i, a, hi => by
    have hl := lv_len E n
    have e : i = (lv E n).length := by omega
    rw [e102_4]
    simp only [B102_4, xSeq, i_push, i_load, i_iload, i_lload, i_dload, i_aload, i_istore, i_astore, i_lstore, i_dstore, i_iinc, i_ii, i_iiz, i_ll, i_llz, i_lli, i_li, i_i, i_l, i_i2l, i_l2i, i_dup, i_dup2, i_dup2w, i_dupx1, i_pop, i_pop2, i_goto, i_ifc, i_icmp, i_getI, i_getL, i_getR, i_putI, i_putZ, i_putL, i_putR, i_aldI, i_aldB, i_aldL, i_aldD, i_astI, i_astL, i_astD, i_alen, i_ret, i_iret, i_zret, i_lret, i_fret, i_dret, i_aret, i_invS0, i_invV0, i_m2, i_m1, i_ml, i_obj, lk, lkp, stf1, stf2, Value.category, rV, xTo, lv_args, xCk, xCat, xRc, xAk, hg_S, hg_I, hg_J, hg_D, hg_R, hs_I, hs_J, hs_D, hs_R, uI_at, uJ_at, uD_at, uR_at, List.take_succ_cons, List.take_zero, List.drop_succ_cons, List.drop_zero, List.reverse_cons, List.reverse_nil, List.nil_append, List.cons_append, List.map_cons, List.map_nil, List.sum_cons, List.sum_nil, List.length_cons, List.length_nil, Option.toList_some, Option.toList_none, true_and, and_true, false_and, and_false, true_implies, false_implies, implies_true, not_true_eq_false, not_false_eq_true, ne_eq, if_true, if_false, Bool.and_true, Bool.true_and, decide_true, decide_false, reduceIte, reduceCtorEq, Bool.and_self, Bool.and_eq_true, decide_eq_true_eq, and_self, true_or, or_true, false_or, or_false, Nat.zero_add, Nat.add_zero, eq_self, Nat.reduceEqDiff, Nat.reduceLeDiff, Nat.reduceLT, Nat.reduceAdd, Nat.reduceSub, Nat.reduceMul, LC_out hL, hX.2.2.2.2.2.1, ← e, nI_leP (show i < 2147483648 by omega) (show i < 2147483648 by omega), Nat.le_refl, e102_37, B102_37, cup]
  | j + 1, i, a, hi => by
    have hl := lv_len E n
    have ih := R102_4 hL hX (x := x) j (i + 1) (a + I 156 i) (by omega)
    rw [e102_4]
    simp only [B102_4, xSeq, i_push, i_load, i_iload, i_lload, i_dload, i_aload, i_istore, i_astore, i_lstore, i_dstore, i_iinc, i_ii, i_iiz, i_ll, i_llz, i_lli, i_li, i_i, i_l, i_i2l, i_l2i, i_dup, i_dup2, i_dup2w, i_dupx1, i_pop, i_pop2, i_goto, i_ifc, i_icmp, i_getI, i_getL, i_getR, i_putI, i_putZ, i_putL, i_putR, i_aldI, i_aldB, i_aldL, i_aldD, i_astI, i_astL, i_astD, i_alen, i_ret, i_iret, i_zret, i_lret, i_fret, i_dret, i_aret, i_invS0, i_invV0, i_m2, i_m1, i_ml, i_obj, lk, lkp, stf1, stf2, Value.category, rV, xTo, lv_args, xCk, xCat, xRc, xAk, hg_S, hg_I, hg_J, hg_D, hg_R, hs_I, hs_J, hs_D, hs_R, uI_at, uJ_at, uD_at, uR_at, List.take_succ_cons, List.take_zero, List.drop_succ_cons, List.drop_zero, List.reverse_cons, List.reverse_nil, List.nil_append, List.cons_append, List.map_cons, List.map_nil, List.sum_cons, List.sum_nil, List.length_cons, List.length_nil, Option.toList_some, Option.toList_none, true_and, and_true, false_and, and_false, true_implies, false_implies, implies_true, not_true_eq_false, not_false_eq_true, ne_eq, if_true, if_false, Bool.and_true, Bool.true_and, decide_true, decide_false, reduceIte, reduceCtorEq, Bool.and_self, Bool.and_eq_true, decide_eq_true_eq, and_self, true_or, or_true, false_or, or_false, Nat.zero_add, Nat.add_zero, eq_self, Nat.reduceEqDiff, Nat.reduceLeDiff, Nat.reduceLT, Nat.reduceAdd, Nat.reduceSub, Nat.reduceMul, LC_out hL, LE_out hX.1, hX.2.2.2.2.2.1, nI_leP (show (lv E n).length < 2147483648 by omega) (show i < 2147483648 by omega), show ((lv E n).length ≤ i) = False from eq_false (by omega), nI_inP (show i < 4913 by omega) (by decide), nI_ix (show i < 2147483648 by omega), e102_37, B102_37, nI_1, ih, cup]
    by_cases h1 : I 154 i ≤ x
    · simp only [show (x < I 154 i) = False from eq_false (Int32.not_lt.mpr h1), h1, true_and, and_true, false_and, and_false, true_implies, false_implies, implies_true, not_true_eq_false, not_false_eq_true, ne_eq, if_true, if_false, Bool.and_true, Bool.true_and, decide_true, decide_false, reduceIte, reduceCtorEq, Bool.and_self, Bool.and_eq_true, decide_eq_true_eq, and_self, true_or, or_true, false_or, or_false, Nat.zero_add, Nat.add_zero, eq_self, Nat.reduceEqDiff, Nat.reduceLeDiff, Nat.reduceLT, Nat.reduceAdd, Nat.reduceSub, Nat.reduceMul]
    · simp only [show (x < I 154 i) = True from eq_true (Int32.not_le.mp h1), h1, true_and, and_true, false_and, and_false, true_implies, false_implies, implies_true, not_true_eq_false, not_false_eq_true, ne_eq, if_true, if_false, Bool.and_true, Bool.true_and, decide_true, decide_false, reduceIte, reduceCtorEq, Bool.and_self, Bool.and_eq_true, decide_eq_true_eq, and_self, true_or, or_true, false_or, or_false, Nat.zero_add, Nat.add_zero, eq_self, Nat.reduceEqDiff, Nat.reduceLeDiff, Nat.reduceLT, Nat.reduceAdd, Nat.reduceSub, Nat.reduceMul]
theorem R102 (hL : LC S R) (hX : XL n E S I R) {x : Int32} : xRun xT 102 0 [(0, .ref 130), (1, .int x)] [] (S, I, J, D, R) b Q = Q (.ok (some (.int (cup (I 154) (I 156) x (lv E n).length 0 0)))) (S, I, J, D, R) b := by
  have h := R102_4 (J := J) (D := D) (b := b) (Q := Q) hL hX (x := x) (lv E n).length 0 0 (by omega)
  rw [nI_0] at h
  rw [e102_0]
  simp only [B102_0, xSeq, i_push, i_load, i_iload, i_lload, i_dload, i_aload, i_istore, i_astore, i_lstore, i_dstore, i_iinc, i_ii, i_iiz, i_ll, i_llz, i_lli, i_li, i_i, i_l, i_i2l, i_l2i, i_dup, i_dup2, i_dup2w, i_dupx1, i_pop, i_pop2, i_goto, i_ifc, i_icmp, i_getI, i_getL, i_getR, i_putI, i_putZ, i_putL, i_putR, i_aldI, i_aldB, i_aldL, i_aldD, i_astI, i_astL, i_astD, i_alen, i_ret, i_iret, i_zret, i_lret, i_fret, i_dret, i_aret, i_invS0, i_invV0, i_m2, i_m1, i_ml, i_obj, lk, lkp, stf1, stf2, Value.category, rV, xTo, lv_args, xCk, xCat, xRc, xAk, hg_S, hg_I, hg_J, hg_D, hg_R, hs_I, hs_J, hs_D, hs_R, uI_at, uJ_at, uD_at, uR_at, List.take_succ_cons, List.take_zero, List.drop_succ_cons, List.drop_zero, List.reverse_cons, List.reverse_nil, List.nil_append, List.cons_append, List.map_cons, List.map_nil, List.sum_cons, List.sum_nil, List.length_cons, List.length_nil, Option.toList_some, Option.toList_none, true_and, and_true, false_and, and_false, true_implies, false_implies, implies_true, not_true_eq_false, not_false_eq_true, ne_eq, if_true, if_false, Bool.and_true, Bool.true_and, decide_true, decide_false, reduceIte, reduceCtorEq, Bool.and_self, Bool.and_eq_true, decide_eq_true_eq, and_self, true_or, or_true, false_or, or_false, Nat.zero_add, Nat.add_zero, eq_self, Nat.reduceEqDiff, Nat.reduceLeDiff, Nat.reduceLT, Nat.reduceAdd, Nat.reduceSub, Nat.reduceMul]
  exact h
theorem R307_23 (hL : LM S R) (hX : XM n E I) {x : Int32} : ∀ (j i : Nat) (a : Int32), i + j = (lv E n).length → xRun xT 307 23 [(0, .ref 200), (1, .int x), (2, .int a), (3, .int (nI i))] [] (S, I, J, D, R) b Q = Q (.ok (some (.int (cun (fun y => decide (y ≤ x)) (I 346) (I 348) j i a)))) (S, I, J, D, R) b
  | 0, i, a, hi => by
    have hl := lv_len E n
    have e : i = (lv E n).length := by omega
    rw [e307_23]
    simp only [B307_23, xSeq, i_push, i_load, i_iload, i_lload, i_dload, i_aload, i_istore, i_astore, i_lstore, i_dstore, i_iinc, i_ii, i_iiz, i_ll, i_llz, i_lli, i_li, i_i, i_l, i_i2l, i_l2i, i_dup, i_dup2, i_dup2w, i_dupx1, i_pop, i_pop2, i_goto, i_ifc, i_icmp, i_getI, i_getL, i_getR, i_putI, i_putZ, i_putL, i_putR, i_aldI, i_aldB, i_aldL, i_aldD, i_astI, i_astL, i_astD, i_alen, i_ret, i_iret, i_zret, i_lret, i_fret, i_dret, i_aret, i_invS0, i_invV0, i_m2, i_m1, i_ml, i_obj, lk, lkp, stf1, stf2, Value.category, rV, xTo, lv_args, xCk, xCat, xRc, xAk, hg_S, hg_I, hg_J, hg_D, hg_R, hs_I, hs_J, hs_D, hs_R, uI_at, uJ_at, uD_at, uR_at, List.take_succ_cons, List.take_zero, List.drop_succ_cons, List.drop_zero, List.reverse_cons, List.reverse_nil, List.nil_append, List.cons_append, List.map_cons, List.map_nil, List.sum_cons, List.sum_nil, List.length_cons, List.length_nil, Option.toList_some, Option.toList_none, true_and, and_true, false_and, and_false, true_implies, false_implies, implies_true, not_true_eq_false, not_false_eq_true, ne_eq, if_true, if_false, Bool.and_true, Bool.true_and, decide_true, decide_false, reduceIte, reduceCtorEq, Bool.and_self, Bool.and_eq_true, decide_eq_true_eq, and_self, true_or, or_true, false_or, or_false, Nat.zero_add, Nat.add_zero, eq_self, Nat.reduceEqDiff, Nat.reduceLeDiff, Nat.reduceLT, Nat.reduceAdd, Nat.reduceSub, Nat.reduceMul, LM_out hL, hX.2.1, ← e, nI_leP (show i < 2147483648 by omega) (show i < 2147483648 by omega), Nat.le_refl, e307_60, B307_60, cun]
  | j + 1, i, a, hi => by
    have hl := lv_len E n
    have ih := fun a => R307_23 hL hX (x := x) j (i + 1) a (by omega)
    rw [e307_23]
    simp only [B307_23, xSeq, i_push, i_load, i_iload, i_lload, i_dload, i_aload, i_istore, i_astore, i_lstore, i_dstore, i_iinc, i_ii, i_iiz, i_ll, i_llz, i_lli, i_li, i_i, i_l, i_i2l, i_l2i, i_dup, i_dup2, i_dup2w, i_dupx1, i_pop, i_pop2, i_goto, i_ifc, i_icmp, i_getI, i_getL, i_getR, i_putI, i_putZ, i_putL, i_putR, i_aldI, i_aldB, i_aldL, i_aldD, i_astI, i_astL, i_astD, i_alen, i_ret, i_iret, i_zret, i_lret, i_fret, i_dret, i_aret, i_invS0, i_invV0, i_m2, i_m1, i_ml, i_obj, lk, lkp, stf1, stf2, Value.category, rV, xTo, lv_args, xCk, xCat, xRc, xAk, hg_S, hg_I, hg_J, hg_D, hg_R, hs_I, hs_J, hs_D, hs_R, uI_at, uJ_at, uD_at, uR_at, List.take_succ_cons, List.take_zero, List.drop_succ_cons, List.drop_zero, List.reverse_cons, List.reverse_nil, List.nil_append, List.cons_append, List.map_cons, List.map_nil, List.sum_cons, List.sum_nil, List.length_cons, List.length_nil, Option.toList_some, Option.toList_none, true_and, and_true, false_and, and_false, true_implies, false_implies, implies_true, not_true_eq_false, not_false_eq_true, ne_eq, if_true, if_false, Bool.and_true, Bool.true_and, decide_true, decide_false, reduceIte, reduceCtorEq, Bool.and_self, Bool.and_eq_true, decide_eq_true_eq, and_self, true_or, or_true, false_or, or_false, Nat.zero_add, Nat.add_zero, eq_self, Nat.reduceEqDiff, Nat.reduceLeDiff, Nat.reduceLT, Nat.reduceAdd, Nat.reduceSub, Nat.reduceMul, LM_out hL, hX.2.1, nI_leP (show (lv E n).length < 2147483648 by omega) (show i < 2147483648 by omega), show ((lv E n).length ≤ i) = False from eq_false (by omega), nI_inP (show i < 6000 by omega) (by decide), nI_ix (show i < 2147483648 by omega), e307_51, B307_51, e307_52, B307_52, nI_1, ih, cun]
    by_cases h1 : I 346 i ≤ x
    · simp only [show (x < I 346 i) = False from eq_false (Int32.not_lt.mpr h1), h1, true_and, and_true, false_and, and_false, true_implies, false_implies, implies_true, not_true_eq_false, not_false_eq_true, ne_eq, if_true, if_false, Bool.and_true, Bool.true_and, decide_true, decide_false, reduceIte, reduceCtorEq, Bool.and_self, Bool.and_eq_true, decide_eq_true_eq, and_self, true_or, or_true, false_or, or_false, Nat.zero_add, Nat.add_zero, eq_self, Nat.reduceEqDiff, Nat.reduceLeDiff, Nat.reduceLT, Nat.reduceAdd, Nat.reduceSub, Nat.reduceMul]
    · simp only [show (x < I 346 i) = True from eq_true (Int32.not_le.mp h1), h1, true_and, and_true, false_and, and_false, true_implies, false_implies, implies_true, not_true_eq_false, not_false_eq_true, ne_eq, if_true, if_false, Bool.and_true, Bool.true_and, decide_true, decide_false, reduceIte, reduceCtorEq, Bool.and_self, Bool.and_eq_true, decide_eq_true_eq, and_self, true_or, or_true, false_or, or_false, Nat.zero_add, Nat.add_zero, eq_self, Nat.reduceEqDiff, Nat.reduceLeDiff, Nat.reduceLT, Nat.reduceAdd, Nat.reduceSub, Nat.reduceMul, Bool.false_eq_true]
theorem R309_23 (hL : LM S R) (hX : XM n E I) : ∀ (j i : Nat) (a : Int32), i + j = (lv E n).length → xRun xT 309 23 [(0, .ref 200), (1, .int a), (2, .int (nI i))] [] (S, I, J, D, R) b Q = Q (.ok (some (.int (cun (fun y => decide (y = I 200 50)) (I 346) (I 348) j i a)))) (S, I, J, D, R) b
  | 0, i, a, hi => by
    have hl := lv_len E n
    have e : i = (lv E n).length := by omega
    rw [e309_23]
    simp only [B309_23, xSeq, i_push, i_load, i_iload, i_lload, i_dload, i_aload, i_istore, i_astore, i_lstore, i_dstore, i_iinc, i_ii, i_iiz, i_ll, i_llz, i_lli, i_li, i_i, i_l, i_i2l, i_l2i, i_dup, i_dup2, i_dup2w, i_dupx1, i_pop, i_pop2, i_goto, i_ifc, i_icmp, i_getI, i_getL, i_getR, i_putI, i_putZ, i_putL, i_putR, i_aldI, i_aldB, i_aldL, i_aldD, i_astI, i_astL, i_astD, i_alen, i_ret, i_iret, i_zret, i_lret, i_fret, i_dret, i_aret, i_invS0, i_invV0, i_m2, i_m1, i_ml, i_obj, lk, lkp, stf1, stf2, Value.category, rV, xTo, lv_args, xCk, xCat, xRc, xAk, hg_S, hg_I, hg_J, hg_D, hg_R, hs_I, hs_J, hs_D, hs_R, uI_at, uJ_at, uD_at, uR_at, List.take_succ_cons, List.take_zero, List.drop_succ_cons, List.drop_zero, List.reverse_cons, List.reverse_nil, List.nil_append, List.cons_append, List.map_cons, List.map_nil, List.sum_cons, List.sum_nil, List.length_cons, List.length_nil, Option.toList_some, Option.toList_none, true_and, and_true, false_and, and_false, true_implies, false_implies, implies_true, not_true_eq_false, not_false_eq_true, ne_eq, if_true, if_false, Bool.and_true, Bool.true_and, decide_true, decide_false, reduceIte, reduceCtorEq, Bool.and_self, Bool.and_eq_true, decide_eq_true_eq, and_self, true_or, or_true, false_or, or_false, Nat.zero_add, Nat.add_zero, eq_self, Nat.reduceEqDiff, Nat.reduceLeDiff, Nat.reduceLT, Nat.reduceAdd, Nat.reduceSub, Nat.reduceMul, LM_out hL, hX.2.1, ← e, nI_leP (show i < 2147483648 by omega) (show i < 2147483648 by omega), Nat.le_refl, e309_63, B309_63, cun]
  | j + 1, i, a, hi => by
    have hl := lv_len E n
    have ih := fun a => R309_23 hL hX j (i + 1) a (by omega)
    rw [e309_23]
    simp only [B309_23, xSeq, i_push, i_load, i_iload, i_lload, i_dload, i_aload, i_istore, i_astore, i_lstore, i_dstore, i_iinc, i_ii, i_iiz, i_ll, i_llz, i_lli, i_li, i_i, i_l, i_i2l, i_l2i, i_dup, i_dup2, i_dup2w, i_dupx1, i_pop, i_pop2, i_goto, i_ifc, i_icmp, i_getI, i_getL, i_getR, i_putI, i_putZ, i_putL, i_putR, i_aldI, i_aldB, i_aldL, i_aldD, i_astI, i_astL, i_astD, i_alen, i_ret, i_iret, i_zret, i_lret, i_fret, i_dret, i_aret, i_invS0, i_invV0, i_m2, i_m1, i_ml, i_obj, lk, lkp, stf1, stf2, Value.category, rV, xTo, lv_args, xCk, xCat, xRc, xAk, hg_S, hg_I, hg_J, hg_D, hg_R, hs_I, hs_J, hs_D, hs_R, uI_at, uJ_at, uD_at, uR_at, List.take_succ_cons, List.take_zero, List.drop_succ_cons, List.drop_zero, List.reverse_cons, List.reverse_nil, List.nil_append, List.cons_append, List.map_cons, List.map_nil, List.sum_cons, List.sum_nil, List.length_cons, List.length_nil, Option.toList_some, Option.toList_none, true_and, and_true, false_and, and_false, true_implies, false_implies, implies_true, not_true_eq_false, not_false_eq_true, ne_eq, if_true, if_false, Bool.and_true, Bool.true_and, decide_true, decide_false, reduceIte, reduceCtorEq, Bool.and_self, Bool.and_eq_true, decide_eq_true_eq, and_self, true_or, or_true, false_or, or_false, Nat.zero_add, Nat.add_zero, eq_self, Nat.reduceEqDiff, Nat.reduceLeDiff, Nat.reduceLT, Nat.reduceAdd, Nat.reduceSub, Nat.reduceMul, LM_out hL, hX.2.1, nI_leP (show (lv E n).length < 2147483648 by omega) (show i < 2147483648 by omega), show ((lv E n).length ≤ i) = False from eq_false (by omega), nI_inP (show i < 6000 by omega) (by decide), nI_ix (show i < 2147483648 by omega), e309_54, B309_54, e309_55, B309_55, nI_1, ih, cun, ne_eq]
    by_cases h1 : I 346 i = I 200 50
    · simp only [h1, true_and, and_true, false_and, and_false, true_implies, false_implies, implies_true, not_true_eq_false, not_false_eq_true, ne_eq, if_true, if_false, Bool.and_true, Bool.true_and, decide_true, decide_false, reduceIte, reduceCtorEq, Bool.and_self, Bool.and_eq_true, decide_eq_true_eq, and_self, true_or, or_true, false_or, or_false, Nat.zero_add, Nat.add_zero, eq_self, Nat.reduceEqDiff, Nat.reduceLeDiff, Nat.reduceLT, Nat.reduceAdd, Nat.reduceSub, Nat.reduceMul]
    · simp only [h1, true_and, and_true, false_and, and_false, true_implies, false_implies, implies_true, not_true_eq_false, not_false_eq_true, ne_eq, if_true, if_false, Bool.and_true, Bool.true_and, decide_true, decide_false, reduceIte, reduceCtorEq, Bool.and_self, Bool.and_eq_true, decide_eq_true_eq, and_self, true_or, or_true, false_or, or_false, Nat.zero_add, Nat.add_zero, eq_self, Nat.reduceEqDiff, Nat.reduceLeDiff, Nat.reduceLT, Nat.reduceAdd, Nat.reduceSub, Nat.reduceMul, Bool.false_eq_true]
/-- a ground state, the lowest -/
theorem gr_ex (h : EB E n) : ∃ c, c < 2 ^ n ∧ E c = gE ((lv E n).getD 0 0) ∧ ∀ j, j < c → ¬ E j = gE ((lv E n).getD 0 0) := by
  obtain ⟨h1, h2, h3⟩ := lv_get h (lv_pos h)
  obtain ⟨c, h4, h5⟩ := cL_pos h h2
  obtain ⟨h6, h7, h8, h9⟩ := yL_ok h h4
  have e : E c = gE ((lv E n).getD 0 0) := by
    rw [← h5]
    unfold gE
    rw [h7]
    exact (eN_ok h h4).2.2.2
  obtain ⟨c0, p1, p2⟩ := pk_least (fun c => c < 2 ^ n ∧ E c = gE ((lv E n).getD 0 0)) ⟨c, h4, e⟩
  exact ⟨c0, p1.1, p1.2, fun j hj hE => p2 j hj ⟨Nat.lt_trans hj p1.1, hE⟩⟩
theorem R103_2 (hL : LC S R) (hX : XL n E S I R) (hn : n ≤ 16) {c : Nat} (hc : c < 2 ^ n) (he : E c = gE ((lv E n).getD 0 0)) (hl : ∀ j, j < c → ¬ E j = gE ((lv E n).getD 0 0)) : ∀ (j i : Nat), i + j = c → xRun xT 103 2 [(0, .ref 130), (1, .int (nI i))] [] (S, I, J, D, R) b Q = Q (.ok (some (.int (nI c)))) (S, I, J, D, R) b
  | 0, i, hi => by
    have hp := pow16 hn
    have e : i = c := by omega
    rw [e103_2]
    simp only [B103_2, xSeq, i_push, i_load, i_iload, i_lload, i_dload, i_aload, i_istore, i_astore, i_lstore, i_dstore, i_iinc, i_ii, i_iiz, i_ll, i_llz, i_lli, i_li, i_i, i_l, i_i2l, i_l2i, i_dup, i_dup2, i_dup2w, i_dupx1, i_pop, i_pop2, i_goto, i_ifc, i_icmp, i_getI, i_getL, i_getR, i_putI, i_putZ, i_putL, i_putR, i_aldI, i_aldB, i_aldL, i_aldD, i_astI, i_astL, i_astD, i_alen, i_ret, i_iret, i_zret, i_lret, i_fret, i_dret, i_aret, i_invS0, i_invV0, i_m2, i_m1, i_ml, i_obj, lk, lkp, stf1, stf2, Value.category, rV, xTo, lv_args, xCk, xCat, xRc, xAk, hg_S, hg_I, hg_J, hg_D, hg_R, hs_I, hs_J, hs_D, hs_R, uI_at, uJ_at, uD_at, uR_at, List.take_succ_cons, List.take_zero, List.drop_succ_cons, List.drop_zero, List.reverse_cons, List.reverse_nil, List.nil_append, List.cons_append, List.map_cons, List.map_nil, List.sum_cons, List.sum_nil, List.length_cons, List.length_nil, Option.toList_some, Option.toList_none, true_and, and_true, false_and, and_false, true_implies, false_implies, implies_true, not_true_eq_false, not_false_eq_true, ne_eq, if_true, if_false, Bool.and_true, Bool.true_and, decide_true, decide_false, reduceIte, reduceCtorEq, Bool.and_self, Bool.and_eq_true, decide_eq_true_eq, and_self, true_or, or_true, false_or, or_false, Nat.zero_add, Nat.add_zero, eq_self, Nat.reduceEqDiff, Nat.reduceLeDiff, Nat.reduceLT, Nat.reduceAdd, Nat.reduceSub, Nat.reduceMul, LC_out hL, LE_out hX.1, hX.2.2.2.1, hX.2.2.2.2.1, e, nI_leP (show 2 ^ n < 2147483648 by omega) (show c < 2147483648 by omega), show (2 ^ n ≤ c) = False from eq_false (by omega), nI_inP (show c < 65536 by omega) (by decide), nI_ix (show c < 2147483648 by omega), hX.2.2.2.2.2.2.2 c hc, he, ne_eq, not_true_eq_false]
  | j + 1, i, hi => by
    have hp := pow16 hn
    have ih := R103_2 hL hX hn hc he hl j (i + 1) (by omega)
    have h1 : (E i = gE ((lv E n).getD 0 0)) = False := eq_false (hl i (by omega))
    rw [e103_2]
    simp only [B103_2, xSeq, i_push, i_load, i_iload, i_lload, i_dload, i_aload, i_istore, i_astore, i_lstore, i_dstore, i_iinc, i_ii, i_iiz, i_ll, i_llz, i_lli, i_li, i_i, i_l, i_i2l, i_l2i, i_dup, i_dup2, i_dup2w, i_dupx1, i_pop, i_pop2, i_goto, i_ifc, i_icmp, i_getI, i_getL, i_getR, i_putI, i_putZ, i_putL, i_putR, i_aldI, i_aldB, i_aldL, i_aldD, i_astI, i_astL, i_astD, i_alen, i_ret, i_iret, i_zret, i_lret, i_fret, i_dret, i_aret, i_invS0, i_invV0, i_m2, i_m1, i_ml, i_obj, lk, lkp, stf1, stf2, Value.category, rV, xTo, lv_args, xCk, xCat, xRc, xAk, hg_S, hg_I, hg_J, hg_D, hg_R, hs_I, hs_J, hs_D, hs_R, uI_at, uJ_at, uD_at, uR_at, List.take_succ_cons, List.take_zero, List.drop_succ_cons, List.drop_zero, List.reverse_cons, List.reverse_nil, List.nil_append, List.cons_append, List.map_cons, List.map_nil, List.sum_cons, List.sum_nil, List.length_cons, List.length_nil, Option.toList_some, Option.toList_none, true_and, and_true, false_and, and_false, true_implies, false_implies, implies_true, not_true_eq_false, not_false_eq_true, ne_eq, if_true, if_false, Bool.and_true, Bool.true_and, decide_true, decide_false, reduceIte, reduceCtorEq, Bool.and_self, Bool.and_eq_true, decide_eq_true_eq, and_self, true_or, or_true, false_or, or_false, Nat.zero_add, Nat.add_zero, eq_self, Nat.reduceEqDiff, Nat.reduceLeDiff, Nat.reduceLT, Nat.reduceAdd, Nat.reduceSub, Nat.reduceMul, LC_out hL, LE_out hX.1, hX.2.2.2.1, hX.2.2.2.2.1, nI_leP (show 2 ^ n < 2147483648 by omega) (show i < 2147483648 by omega), show (2 ^ n ≤ i) = False from eq_false (by omega), nI_inP (show i < 65536 by omega) (by decide), nI_ix (show i < 2147483648 by omega), hX.2.2.2.2.2.2.2 i (by omega), h1, ne_eq, not_false_eq_true, e103_25, B103_25, nI_1, ih]
theorem R310_21 (hL : LM S R) (hX : XM n E I) (hn : n ≤ 16) {c : Nat} (hc : c < 2 ^ n) (he : E c = gE ((lv E n).getD 0 0)) (hl : ∀ j, j < c → ¬ E j = gE ((lv E n).getD 0 0)) : ∀ (j i : Nat), i + j = c → xRun xT 310 21 [(0, .ref 200), (1, .int (nI i))] [] (S, I, J, D, R) b Q = Q (.ok (some (.int (nI c)))) (S, I, J, D, R) b
  | 0, i, hi => by
    have hp := pow16 hn
    have e : i = c := by omega
    rw [e310_21]
    simp only [B310_21, xSeq, i_push, i_load, i_iload, i_lload, i_dload, i_aload, i_istore, i_astore, i_lstore, i_dstore, i_iinc, i_ii, i_iiz, i_ll, i_llz, i_lli, i_li, i_i, i_l, i_i2l, i_l2i, i_dup, i_dup2, i_dup2w, i_dupx1, i_pop, i_pop2, i_goto, i_ifc, i_icmp, i_getI, i_getL, i_getR, i_putI, i_putZ, i_putL, i_putR, i_aldI, i_aldB, i_aldL, i_aldD, i_astI, i_astL, i_astD, i_alen, i_ret, i_iret, i_zret, i_lret, i_fret, i_dret, i_aret, i_invS0, i_invV0, i_m2, i_m1, i_ml, i_obj, lk, lkp, stf1, stf2, Value.category, rV, xTo, lv_args, xCk, xCat, xRc, xAk, hg_S, hg_I, hg_J, hg_D, hg_R, hs_I, hs_J, hs_D, hs_R, uI_at, uJ_at, uD_at, uR_at, List.take_succ_cons, List.take_zero, List.drop_succ_cons, List.drop_zero, List.reverse_cons, List.reverse_nil, List.nil_append, List.cons_append, List.map_cons, List.map_nil, List.sum_cons, List.sum_nil, List.length_cons, List.length_nil, Option.toList_some, Option.toList_none, true_and, and_true, false_and, and_false, true_implies, false_implies, implies_true, not_true_eq_false, not_false_eq_true, ne_eq, if_true, if_false, Bool.and_true, Bool.true_and, decide_true, decide_false, reduceIte, reduceCtorEq, Bool.and_self, Bool.and_eq_true, decide_eq_true_eq, and_self, true_or, or_true, false_or, or_false, Nat.zero_add, Nat.add_zero, eq_self, Nat.reduceEqDiff, Nat.reduceLeDiff, Nat.reduceLT, Nat.reduceAdd, Nat.reduceSub, Nat.reduceMul, LM_out hL, hX.2.2.1, e, nI_inP (show c < 65536 by omega) (by decide), nI_ix (show c < 2147483648 by omega), hX.2.2.2.2 c hc, he, e310_40, B310_40]
  | j + 1, i, hi => by
    have hp := pow16 hn
    have ih := R310_21 hL hX hn hc he hl j (i + 1) (by omega)
    have h1 : (E i = gE ((lv E n).getD 0 0)) = False := eq_false (hl i (by omega))
    rw [e310_21]
    simp only [B310_21, xSeq, i_push, i_load, i_iload, i_lload, i_dload, i_aload, i_istore, i_astore, i_lstore, i_dstore, i_iinc, i_ii, i_iiz, i_ll, i_llz, i_lli, i_li, i_i, i_l, i_i2l, i_l2i, i_dup, i_dup2, i_dup2w, i_dupx1, i_pop, i_pop2, i_goto, i_ifc, i_icmp, i_getI, i_getL, i_getR, i_putI, i_putZ, i_putL, i_putR, i_aldI, i_aldB, i_aldL, i_aldD, i_astI, i_astL, i_astD, i_alen, i_ret, i_iret, i_zret, i_lret, i_fret, i_dret, i_aret, i_invS0, i_invV0, i_m2, i_m1, i_ml, i_obj, lk, lkp, stf1, stf2, Value.category, rV, xTo, lv_args, xCk, xCat, xRc, xAk, hg_S, hg_I, hg_J, hg_D, hg_R, hs_I, hs_J, hs_D, hs_R, uI_at, uJ_at, uD_at, uR_at, List.take_succ_cons, List.take_zero, List.drop_succ_cons, List.drop_zero, List.reverse_cons, List.reverse_nil, List.nil_append, List.cons_append, List.map_cons, List.map_nil, List.sum_cons, List.sum_nil, List.length_cons, List.length_nil, Option.toList_some, Option.toList_none, true_and, and_true, false_and, and_false, true_implies, false_implies, implies_true, not_true_eq_false, not_false_eq_true, ne_eq, if_true, if_false, Bool.and_true, Bool.true_and, decide_true, decide_false, reduceIte, reduceCtorEq, Bool.and_self, Bool.and_eq_true, decide_eq_true_eq, and_self, true_or, or_true, false_or, or_false, Nat.zero_add, Nat.add_zero, eq_self, Nat.reduceEqDiff, Nat.reduceLeDiff, Nat.reduceLT, Nat.reduceAdd, Nat.reduceSub, Nat.reduceMul, LM_out hL, hX.2.2.1, nI_inP (show i < 65536 by omega) (by decide), nI_ix (show i < 2147483648 by omega), hX.2.2.2.2 i (by omega), h1, nI_1, ih]
/-- no flip leads to as little energy or less -/
def iMn (E : Nat → Int32) (c : Nat) : Nat → Nat → Bool
  | 0, _ => true
  | j + 1, t => if E (c ^^^ 2 ^ t) ≤ E c then false else iMn E c j (t + 1)
theorem x2n {c t : Nat} (hc : c < 2 ^ n) (ht : t < n) : c ^^^ 2 ^ t < 2 ^ n := Nat.xor_lt_two_pow hc (Nat.pow_lt_pow_right (by decide) ht)
theorem R105_2 (hL : LC S R) (hX : XL n E S I R) (hn : n ≤ 16) {c : Nat} (hc : c < 2 ^ n) : ∀ (j t : Nat), t + j = n → xRun xT 105 2 [(0, .ref 130), (1, .int (nI c)), (2, .int (nI t))] [] (S, I, J, D, R) b Q = Q (.ok (some (.int (if iMn E c j t = true then 1 else 0)))) (S, I, J, D, R) b
  | 0, t, ht => by
    have e : t = n := by omega
    subst e
    rw [e105_2]
    simp only [B105_2, xSeq, i_push, i_load, i_iload, i_lload, i_dload, i_aload, i_istore, i_astore, i_lstore, i_dstore, i_iinc, i_ii, i_iiz, i_ll, i_llz, i_lli, i_li, i_i, i_l, i_i2l, i_l2i, i_dup, i_dup2, i_dup2w, i_dupx1, i_pop, i_pop2, i_goto, i_ifc, i_icmp, i_getI, i_getL, i_getR, i_putI, i_putZ, i_putL, i_putR, i_aldI, i_aldB, i_aldL, i_aldD, i_astI, i_astL, i_astD, i_alen, i_ret, i_iret, i_zret, i_lret, i_fret, i_dret, i_aret, i_invS0, i_invV0, i_m2, i_m1, i_ml, i_obj, lk, lkp, stf1, stf2, Value.category, rV, xTo, lv_args, xCk, xCat, xRc, xAk, hg_S, hg_I, hg_J, hg_D, hg_R, hs_I, hs_J, hs_D, hs_R, uI_at, uJ_at, uD_at, uR_at, List.take_succ_cons, List.take_zero, List.drop_succ_cons, List.drop_zero, List.reverse_cons, List.reverse_nil, List.nil_append, List.cons_append, List.map_cons, List.map_nil, List.sum_cons, List.sum_nil, List.length_cons, List.length_nil, Option.toList_some, Option.toList_none, true_and, and_true, false_and, and_false, true_implies, false_implies, implies_true, not_true_eq_false, not_false_eq_true, ne_eq, if_true, if_false, Bool.and_true, Bool.true_and, decide_true, decide_false, reduceIte, reduceCtorEq, Bool.and_self, Bool.and_eq_true, decide_eq_true_eq, and_self, true_or, or_true, false_or, or_false, Nat.zero_add, Nat.add_zero, eq_self, Nat.reduceEqDiff, Nat.reduceLeDiff, Nat.reduceLT, Nat.reduceAdd, Nat.reduceSub, Nat.reduceMul, LC_out hL, hX.2.2.1, nI_leP (show t < 2147483648 by omega) (show t < 2147483648 by omega), Nat.le_refl, e105_37, B105_37, iMn]
  | j + 1, t, ht => by
    have hp := pow16 hn
    have hx := x2n hc (show t < n by omega)
    have ih := R105_2 hL hX hn hc j (t + 1) (by omega)
    rw [e105_2]
    simp only [B105_2, xSeq, i_push, i_load, i_iload, i_lload, i_dload, i_aload, i_istore, i_astore, i_lstore, i_dstore, i_iinc, i_ii, i_iiz, i_ll, i_llz, i_lli, i_li, i_i, i_l, i_i2l, i_l2i, i_dup, i_dup2, i_dup2w, i_dupx1, i_pop, i_pop2, i_goto, i_ifc, i_icmp, i_getI, i_getL, i_getR, i_putI, i_putZ, i_putL, i_putR, i_aldI, i_aldB, i_aldL, i_aldD, i_astI, i_astL, i_astD, i_alen, i_ret, i_iret, i_zret, i_lret, i_fret, i_dret, i_aret, i_invS0, i_invV0, i_m2, i_m1, i_ml, i_obj, lk, lkp, stf1, stf2, Value.category, rV, xTo, lv_args, xCk, xCat, xRc, xAk, hg_S, hg_I, hg_J, hg_D, hg_R, hs_I, hs_J, hs_D, hs_R, uI_at, uJ_at, uD_at, uR_at, List.take_succ_cons, List.take_zero, List.drop_succ_cons, List.drop_zero, List.reverse_cons, List.reverse_nil, List.nil_append, List.cons_append, List.map_cons, List.map_nil, List.sum_cons, List.sum_nil, List.length_cons, List.length_nil, Option.toList_some, Option.toList_none, true_and, and_true, false_and, and_false, true_implies, false_implies, implies_true, not_true_eq_false, not_false_eq_true, ne_eq, if_true, if_false, Bool.and_true, Bool.true_and, decide_true, decide_false, reduceIte, reduceCtorEq, Bool.and_self, Bool.and_eq_true, decide_eq_true_eq, and_self, true_or, or_true, false_or, or_false, Nat.zero_add, Nat.add_zero, eq_self, Nat.reduceEqDiff, Nat.reduceLeDiff, Nat.reduceLT, Nat.reduceAdd, Nat.reduceSub, Nat.reduceMul, LC_out hL, LE_out hX.1, hX.2.2.1, nI_leP (show n < 2147483648 by omega) (show t < 2147483648 by omega), show (n ≤ t) = False from eq_false (by omega), q_1shl (show t < 31 by omega), i_xorN, nI_inP (show c < 65536 by omega) (by decide), nI_ix (show c < 2147483648 by omega), nI_inP (show c ^^^ 2 ^ t < 65536 by omega) (by decide), nI_ix (show c ^^^ 2 ^ t < 2147483648 by omega), hX.2.2.2.2.2.2.2 c hc, hX.2.2.2.2.2.2.2 _ hx, e105_31, B105_31, nI_1, ih, iMn]
    by_cases h : E (c ^^^ 2 ^ t) ≤ E c
    · simp only [show (E c < E (c ^^^ 2 ^ t)) = False from eq_false (Int32.not_lt.mpr h), h, true_and, and_true, false_and, and_false, true_implies, false_implies, implies_true, not_true_eq_false, not_false_eq_true, ne_eq, if_true, if_false, Bool.and_true, Bool.true_and, decide_true, decide_false, reduceIte, reduceCtorEq, Bool.and_self, Bool.and_eq_true, decide_eq_true_eq, and_self, true_or, or_true, false_or, or_false, Nat.zero_add, Nat.add_zero, eq_self, Nat.reduceEqDiff, Nat.reduceLeDiff, Nat.reduceLT, Nat.reduceAdd, Nat.reduceSub, Nat.reduceMul, Bool.false_eq_true]
    · simp only [show (E c < E (c ^^^ 2 ^ t)) = True from eq_true (Int32.not_le.mp h), h, true_and, and_true, false_and, and_false, true_implies, false_implies, implies_true, not_true_eq_false, not_false_eq_true, ne_eq, if_true, if_false, Bool.and_true, Bool.true_and, decide_true, decide_false, reduceIte, reduceCtorEq, Bool.and_self, Bool.and_eq_true, decide_eq_true_eq, and_self, true_or, or_true, false_or, or_false, Nat.zero_add, Nat.add_zero, eq_self, Nat.reduceEqDiff, Nat.reduceLeDiff, Nat.reduceLT, Nat.reduceAdd, Nat.reduceSub, Nat.reduceMul]
theorem R312_2 (hL : LM S R) (hX : XM n E I) (h10 : I 300 10 = nI n) (hn : n ≤ 16) {c : Nat} (hc : c < 2 ^ n) : ∀ (j t : Nat), t + j = n → xRun xT 312 2 [(0, .ref 200), (1, .int (nI c)), (2, .int (nI t))] [] (S, I, J, D, R) b Q = Q (.ok (some (.int (if iMn E c j t = true then 1 else 0)))) (S, I, J, D, R) b
  | 0, t, ht => by
    have e : t = n := by omega
    subst e
    rw [e312_2]
    simp only [B312_2, xSeq, i_push, i_load, i_iload, i_lload, i_dload, i_aload, i_istore, i_astore, i_lstore, i_dstore, i_iinc, i_ii, i_iiz, i_ll, i_llz, i_lli, i_li, i_i, i_l, i_i2l, i_l2i, i_dup, i_dup2, i_dup2w, i_dupx1, i_pop, i_pop2, i_goto, i_ifc, i_icmp, i_getI, i_getL, i_getR, i_putI, i_putZ, i_putL, i_putR, i_aldI, i_aldB, i_aldL, i_aldD, i_astI, i_astL, i_astD, i_alen, i_ret, i_iret, i_zret, i_lret, i_fret, i_dret, i_aret, i_invS0, i_invV0, i_m2, i_m1, i_ml, i_obj, lk, lkp, stf1, stf2, Value.category, rV, xTo, lv_args, xCk, xCat, xRc, xAk, hg_S, hg_I, hg_J, hg_D, hg_R, hs_I, hs_J, hs_D, hs_R, uI_at, uJ_at, uD_at, uR_at, List.take_succ_cons, List.take_zero, List.drop_succ_cons, List.drop_zero, List.reverse_cons, List.reverse_nil, List.nil_append, List.cons_append, List.map_cons, List.map_nil, List.sum_cons, List.sum_nil, List.length_cons, List.length_nil, Option.toList_some, Option.toList_none, true_and, and_true, false_and, and_false, true_implies, false_implies, implies_true, not_true_eq_false, not_false_eq_true, ne_eq, if_true, if_false, Bool.and_true, Bool.true_and, decide_true, decide_false, reduceIte, reduceCtorEq, Bool.and_self, Bool.and_eq_true, decide_eq_true_eq, and_self, true_or, or_true, false_or, or_false, Nat.zero_add, Nat.add_zero, eq_self, Nat.reduceEqDiff, Nat.reduceLeDiff, Nat.reduceLT, Nat.reduceAdd, Nat.reduceSub, Nat.reduceMul, xi144_0, ix_0, xi144_1, ix_1, xi144_2, ix_2, xi144_3, ix_3, xi144_4, ix_4, xi144_5, ix_5, xi144_6, ix_6, xi144_7, ix_7, xi144_8, ix_8, xi144_9, ix_9, xi144_10, ix_10, LM_out hL, h10, nI_leP (show t < 2147483648 by omega) (show t < 2147483648 by omega), Nat.le_refl, e312_40, B312_40, iMn]
  | j + 1, t, ht => by
    have hp := pow16 hn
    have hx := x2n hc (show t < n by omega)
    have ih := R312_2 hL hX h10 hn hc j (t + 1) (by omega)
    rw [e312_2]
    simp only [B312_2, xSeq, i_push, i_load, i_iload, i_lload, i_dload, i_aload, i_istore, i_astore, i_lstore, i_dstore, i_iinc, i_ii, i_iiz, i_ll, i_llz, i_lli, i_li, i_i, i_l, i_i2l, i_l2i, i_dup, i_dup2, i_dup2w, i_dupx1, i_pop, i_pop2, i_goto, i_ifc, i_icmp, i_getI, i_getL, i_getR, i_putI, i_putZ, i_putL, i_putR, i_aldI, i_aldB, i_aldL, i_aldD, i_astI, i_astL, i_astD, i_alen, i_ret, i_iret, i_zret, i_lret, i_fret, i_dret, i_aret, i_invS0, i_invV0, i_m2, i_m1, i_ml, i_obj, lk, lkp, stf1, stf2, Value.category, rV, xTo, lv_args, xCk, xCat, xRc, xAk, hg_S, hg_I, hg_J, hg_D, hg_R, hs_I, hs_J, hs_D, hs_R, uI_at, uJ_at, uD_at, uR_at, List.take_succ_cons, List.take_zero, List.drop_succ_cons, List.drop_zero, List.reverse_cons, List.reverse_nil, List.nil_append, List.cons_append, List.map_cons, List.map_nil, List.sum_cons, List.sum_nil, List.length_cons, List.length_nil, Option.toList_some, Option.toList_none, true_and, and_true, false_and, and_false, true_implies, false_implies, implies_true, not_true_eq_false, not_false_eq_true, ne_eq, if_true, if_false, Bool.and_true, Bool.true_and, decide_true, decide_false, reduceIte, reduceCtorEq, Bool.and_self, Bool.and_eq_true, decide_eq_true_eq, and_self, true_or, or_true, false_or, or_false, Nat.zero_add, Nat.add_zero, eq_self, Nat.reduceEqDiff, Nat.reduceLeDiff, Nat.reduceLT, Nat.reduceAdd, Nat.reduceSub, Nat.reduceMul, xi144_0, ix_0, xi144_1, ix_1, xi144_2, ix_2, xi144_3, ix_3, xi144_4, ix_4, xi144_5, ix_5, xi144_6, ix_6, xi144_7, ix_7, xi144_8, ix_8, xi144_9, ix_9, xi144_10, ix_10, LM_out hL, h10, nI_leP (show n < 2147483648 by omega) (show t < 2147483648 by omega), show (n ≤ t) = False from eq_false (by omega), q_1shl (show t < 31 by omega), i_xorN, nI_inP (show c < 65536 by omega) (by decide), nI_ix (show c < 2147483648 by omega), nI_inP (show c ^^^ 2 ^ t < 65536 by omega) (by decide), nI_ix (show c ^^^ 2 ^ t < 2147483648 by omega), hX.2.2.2.2 c hc, hX.2.2.2.2 _ hx, e312_34, B312_34, nI_1, ih, iMn]
    by_cases h : E (c ^^^ 2 ^ t) ≤ E c
    · simp only [show (E c < E (c ^^^ 2 ^ t)) = False from eq_false (Int32.not_lt.mpr h), h, true_and, and_true, false_and, and_false, true_implies, false_implies, implies_true, not_true_eq_false, not_false_eq_true, ne_eq, if_true, if_false, Bool.and_true, Bool.true_and, decide_true, decide_false, reduceIte, reduceCtorEq, Bool.and_self, Bool.and_eq_true, decide_eq_true_eq, and_self, true_or, or_true, false_or, or_false, Nat.zero_add, Nat.add_zero, eq_self, Nat.reduceEqDiff, Nat.reduceLeDiff, Nat.reduceLT, Nat.reduceAdd, Nat.reduceSub, Nat.reduceMul, Bool.false_eq_true]
    · simp only [show (E c < E (c ^^^ 2 ^ t)) = True from eq_true (Int32.not_le.mp h), h, true_and, and_true, false_and, and_false, true_implies, false_implies, implies_true, not_true_eq_false, not_false_eq_true, ne_eq, if_true, if_false, Bool.and_true, Bool.true_and, decide_true, decide_false, reduceIte, reduceCtorEq, Bool.and_self, Bool.and_eq_true, decide_eq_true_eq, and_self, true_or, or_true, false_or, or_false, Nat.zero_add, Nat.add_zero, eq_self, Nat.reduceEqDiff, Nat.reduceLeDiff, Nat.reduceLT, Nat.reduceAdd, Nat.reduceSub, Nat.reduceMul]
theorem R104_4 (hL : LC S R) (hX : XL n E S I R) (hn : n ≤ 16) : ∀ (j i : Nat), i + j = 2 ^ n → xRun xT 104 4 [(0, .ref 130), (1, .int (nI (ct (fun c => iMn E c n 0) i))), (2, .int (nI i))] [] (S, I, J, D, R) b Q = Q (.ok (some (.int (nI (ct (fun c => iMn E c n 0) (2 ^ n)))))) (S, I, J, D, R) b
  | 0, i, hi => by
    have hp := pow16 hn
    have e : i = 2 ^ n := by omega
    subst e
    rw [e104_4]
    simp only [B104_4, xSeq, i_push, i_load, i_iload, i_lload, i_dload, i_aload, i_istore, i_astore, i_lstore, i_dstore, i_iinc, i_ii, i_iiz, i_ll, i_llz, i_lli, i_li, i_i, i_l, i_i2l, i_l2i, i_dup, i_dup2, i_dup2w, i_dupx1, i_pop, i_pop2, i_goto, i_ifc, i_icmp, i_getI, i_getL, i_getR, i_putI, i_putZ, i_putL, i_putR, i_aldI, i_aldB, i_aldL, i_aldD, i_astI, i_astL, i_astD, i_alen, i_ret, i_iret, i_zret, i_lret, i_fret, i_dret, i_aret, i_invS0, i_invV0, i_m2, i_m1, i_ml, i_obj, lk, lkp, stf1, stf2, Value.category, rV, xTo, lv_args, xCk, xCat, xRc, xAk, hg_S, hg_I, hg_J, hg_D, hg_R, hs_I, hs_J, hs_D, hs_R, uI_at, uJ_at, uD_at, uR_at, List.take_succ_cons, List.take_zero, List.drop_succ_cons, List.drop_zero, List.reverse_cons, List.reverse_nil, List.nil_append, List.cons_append, List.map_cons, List.map_nil, List.sum_cons, List.sum_nil, List.length_cons, List.length_nil, Option.toList_some, Option.toList_none, true_and, and_true, false_and, and_false, true_implies, false_implies, implies_true, not_true_eq_false, not_false_eq_true, ne_eq, if_true, if_false, Bool.and_true, Bool.true_and, decide_true, decide_false, reduceIte, reduceCtorEq, Bool.and_self, Bool.and_eq_true, decide_eq_true_eq, and_self, true_or, or_true, false_or, or_false, Nat.zero_add, Nat.add_zero, eq_self, Nat.reduceEqDiff, Nat.reduceLeDiff, Nat.reduceLT, Nat.reduceAdd, Nat.reduceSub, Nat.reduceMul, LC_out hL, hX.2.2.2.1, nI_leP (show 2 ^ n < 2147483648 by omega) (show 2 ^ n < 2147483648 by omega), Nat.le_refl, e104_29, B104_29]
  | j + 1, i, hi => by
    have hp := pow16 hn
    have ih := R104_4 hL hX hn j (i + 1) (by omega)
    have h105 := fun (b : Nat × Nat) (Q : xQ) => R105_2 (J := J) (D := D) (b := b) (Q := Q) hL hX hn (show i < 2 ^ n by omega) n 0 (by omega)
    rw [nI_0] at h105
    rw [ct] at ih
    rw [e104_4]
    simp only [B104_4, xSeq, i_push, i_load, i_iload, i_lload, i_dload, i_aload, i_istore, i_astore, i_lstore, i_dstore, i_iinc, i_ii, i_iiz, i_ll, i_llz, i_lli, i_li, i_i, i_l, i_i2l, i_l2i, i_dup, i_dup2, i_dup2w, i_dupx1, i_pop, i_pop2, i_goto, i_ifc, i_icmp, i_getI, i_getL, i_getR, i_putI, i_putZ, i_putL, i_putR, i_aldI, i_aldB, i_aldL, i_aldD, i_astI, i_astL, i_astD, i_alen, i_ret, i_iret, i_zret, i_lret, i_fret, i_dret, i_aret, i_invS0, i_invV0, i_m2, i_m1, i_ml, i_obj, lk, lkp, stf1, stf2, Value.category, rV, xTo, lv_args, xCk, xCat, xRc, xAk, hg_S, hg_I, hg_J, hg_D, hg_R, hs_I, hs_J, hs_D, hs_R, uI_at, uJ_at, uD_at, uR_at, List.take_succ_cons, List.take_zero, List.drop_succ_cons, List.drop_zero, List.reverse_cons, List.reverse_nil, List.nil_append, List.cons_append, List.map_cons, List.map_nil, List.sum_cons, List.sum_nil, List.length_cons, List.length_nil, Option.toList_some, Option.toList_none, true_and, and_true, false_and, and_false, true_implies, false_implies, implies_true, not_true_eq_false, not_false_eq_true, ne_eq, if_true, if_false, Bool.and_true, Bool.true_and, decide_true, decide_false, reduceIte, reduceCtorEq, Bool.and_self, Bool.and_eq_true, decide_eq_true_eq, and_self, true_or, or_true, false_or, or_false, Nat.zero_add, Nat.add_zero, eq_self, Nat.reduceEqDiff, Nat.reduceLeDiff, Nat.reduceLT, Nat.reduceAdd, Nat.reduceSub, Nat.reduceMul, LC_out hL, hX.2.2.2.1, nI_leP (show 2 ^ n < 2147483648 by omega) (show i < 2147483648 by omega), show (2 ^ n ≤ i) = False from eq_false (by omega), e105_0, B105_0]
    rw [h105]
    by_cases h : iMn E i n 0 = true
    · rw [if_pos h] at ih
      simp only [h, if_true, xSeq, i_push, i_load, i_iload, i_lload, i_dload, i_aload, i_istore, i_astore, i_lstore, i_dstore, i_iinc, i_ii, i_iiz, i_ll, i_llz, i_lli, i_li, i_i, i_l, i_i2l, i_l2i, i_dup, i_dup2, i_dup2w, i_dupx1, i_pop, i_pop2, i_goto, i_ifc, i_icmp, i_getI, i_getL, i_getR, i_putI, i_putZ, i_putL, i_putR, i_aldI, i_aldB, i_aldL, i_aldD, i_astI, i_astL, i_astD, i_alen, i_ret, i_iret, i_zret, i_lret, i_fret, i_dret, i_aret, i_invS0, i_invV0, i_m2, i_m1, i_ml, i_obj, lk, lkp, stf1, stf2, Value.category, rV, xTo, lv_args, xCk, xCat, xRc, xAk, hg_S, hg_I, hg_J, hg_D, hg_R, hs_I, hs_J, hs_D, hs_R, uI_at, uJ_at, uD_at, uR_at, List.take_succ_cons, List.take_zero, List.drop_succ_cons, List.drop_zero, List.reverse_cons, List.reverse_nil, List.nil_append, List.cons_append, List.map_cons, List.map_nil, List.sum_cons, List.sum_nil, List.length_cons, List.length_nil, Option.toList_some, Option.toList_none, true_and, and_true, false_and, and_false, true_implies, false_implies, implies_true, not_true_eq_false, not_false_eq_true, ne_eq, if_true, if_false, Bool.and_true, Bool.true_and, decide_true, decide_false, reduceIte, reduceCtorEq, Bool.and_self, Bool.and_eq_true, decide_eq_true_eq, and_self, true_or, or_true, false_or, or_false, Nat.zero_add, Nat.add_zero, eq_self, Nat.reduceEqDiff, Nat.reduceLeDiff, Nat.reduceLT, Nat.reduceAdd, Nat.reduceSub, Nat.reduceMul, i1_0, e104_23, B104_23, nI_1]
      exact ih
    · rw [if_neg h, Nat.add_zero] at ih
      simp only [h, if_false, xSeq, i_push, i_load, i_iload, i_lload, i_dload, i_aload, i_istore, i_astore, i_lstore, i_dstore, i_iinc, i_ii, i_iiz, i_ll, i_llz, i_lli, i_li, i_i, i_l, i_i2l, i_l2i, i_dup, i_dup2, i_dup2w, i_dupx1, i_pop, i_pop2, i_goto, i_ifc, i_icmp, i_getI, i_getL, i_getR, i_putI, i_putZ, i_putL, i_putR, i_aldI, i_aldB, i_aldL, i_aldD, i_astI, i_astL, i_astD, i_alen, i_ret, i_iret, i_zret, i_lret, i_fret, i_dret, i_aret, i_invS0, i_invV0, i_m2, i_m1, i_ml, i_obj, lk, lkp, stf1, stf2, Value.category, rV, xTo, lv_args, xCk, xCat, xRc, xAk, hg_S, hg_I, hg_J, hg_D, hg_R, hs_I, hs_J, hs_D, hs_R, uI_at, uJ_at, uD_at, uR_at, List.take_succ_cons, List.take_zero, List.drop_succ_cons, List.drop_zero, List.reverse_cons, List.reverse_nil, List.nil_append, List.cons_append, List.map_cons, List.map_nil, List.sum_cons, List.sum_nil, List.length_cons, List.length_nil, Option.toList_some, Option.toList_none, true_and, and_true, false_and, and_false, true_implies, false_implies, implies_true, not_true_eq_false, not_false_eq_true, ne_eq, if_true, if_false, Bool.and_true, Bool.true_and, decide_true, decide_false, reduceIte, reduceCtorEq, Bool.and_self, Bool.and_eq_true, decide_eq_true_eq, and_self, true_or, or_true, false_or, or_false, Nat.zero_add, Nat.add_zero, eq_self, Nat.reduceEqDiff, Nat.reduceLeDiff, Nat.reduceLT, Nat.reduceAdd, Nat.reduceSub, Nat.reduceMul, e104_23, B104_23, nI_1, Bool.false_eq_true]
      exact ih
theorem R311_23 (hL : LM S R) (hX : XM n E I) (h10 : I 300 10 = nI n) (hn : n ≤ 16) : ∀ (j i : Nat), i + j = 2 ^ n → xRun xT 311 23 [(0, .ref 200), (1, .int (nI (ct (fun c => iMn E c n 0) i))), (2, .int (nI i))] [] (S, I, J, D, R) b Q = Q (.ok (some (.int (nI (ct (fun c => iMn E c n 0) (2 ^ n)))))) (S, I, J, D, R) b
  | 0, i, hi => by
    have hp := pow16 hn
    have e : i = 2 ^ n := by omega
    subst e
    rw [e311_23]
    simp only [B311_23, xSeq, i_push, i_load, i_iload, i_lload, i_dload, i_aload, i_istore, i_astore, i_lstore, i_dstore, i_iinc, i_ii, i_iiz, i_ll, i_llz, i_lli, i_li, i_i, i_l, i_i2l, i_l2i, i_dup, i_dup2, i_dup2w, i_dupx1, i_pop, i_pop2, i_goto, i_ifc, i_icmp, i_getI, i_getL, i_getR, i_putI, i_putZ, i_putL, i_putR, i_aldI, i_aldB, i_aldL, i_aldD, i_astI, i_astL, i_astD, i_alen, i_ret, i_iret, i_zret, i_lret, i_fret, i_dret, i_aret, i_invS0, i_invV0, i_m2, i_m1, i_ml, i_obj, lk, lkp, stf1, stf2, Value.category, rV, xTo, lv_args, xCk, xCat, xRc, xAk, hg_S, hg_I, hg_J, hg_D, hg_R, hs_I, hs_J, hs_D, hs_R, uI_at, uJ_at, uD_at, uR_at, List.take_succ_cons, List.take_zero, List.drop_succ_cons, List.drop_zero, List.reverse_cons, List.reverse_nil, List.nil_append, List.cons_append, List.map_cons, List.map_nil, List.sum_cons, List.sum_nil, List.length_cons, List.length_nil, Option.toList_some, Option.toList_none, true_and, and_true, false_and, and_false, true_implies, false_implies, implies_true, not_true_eq_false, not_false_eq_true, ne_eq, if_true, if_false, Bool.and_true, Bool.true_and, decide_true, decide_false, reduceIte, reduceCtorEq, Bool.and_self, Bool.and_eq_true, decide_eq_true_eq, and_self, true_or, or_true, false_or, or_false, Nat.zero_add, Nat.add_zero, eq_self, Nat.reduceEqDiff, Nat.reduceLeDiff, Nat.reduceLT, Nat.reduceAdd, Nat.reduceSub, Nat.reduceMul, LM_out hL, R303 hL h10 (show n < 31 by omega), nI_leP (show 2 ^ n < 2147483648 by omega) (show 2 ^ n < 2147483648 by omega), Nat.le_refl, e311_53, B311_53]
  | j + 1, i, hi => by
    have hp := pow16 hn
    have ih := R311_23 hL hX h10 hn j (i + 1) (by omega)
    have h312 := fun (b : Nat × Nat) (Q : xQ) => R312_2 (J := J) (D := D) (b := b) (Q := Q) hL hX h10 hn (show i < 2 ^ n by omega) n 0 (by omega)
    rw [nI_0] at h312
    rw [ct] at ih
    rw [e311_23]
    simp only [B311_23, xSeq, i_push, i_load, i_iload, i_lload, i_dload, i_aload, i_istore, i_astore, i_lstore, i_dstore, i_iinc, i_ii, i_iiz, i_ll, i_llz, i_lli, i_li, i_i, i_l, i_i2l, i_l2i, i_dup, i_dup2, i_dup2w, i_dupx1, i_pop, i_pop2, i_goto, i_ifc, i_icmp, i_getI, i_getL, i_getR, i_putI, i_putZ, i_putL, i_putR, i_aldI, i_aldB, i_aldL, i_aldD, i_astI, i_astL, i_astD, i_alen, i_ret, i_iret, i_zret, i_lret, i_fret, i_dret, i_aret, i_invS0, i_invV0, i_m2, i_m1, i_ml, i_obj, lk, lkp, stf1, stf2, Value.category, rV, xTo, lv_args, xCk, xCat, xRc, xAk, hg_S, hg_I, hg_J, hg_D, hg_R, hs_I, hs_J, hs_D, hs_R, uI_at, uJ_at, uD_at, uR_at, List.take_succ_cons, List.take_zero, List.drop_succ_cons, List.drop_zero, List.reverse_cons, List.reverse_nil, List.nil_append, List.cons_append, List.map_cons, List.map_nil, List.sum_cons, List.sum_nil, List.length_cons, List.length_nil, Option.toList_some, Option.toList_none, true_and, and_true, false_and, and_false, true_implies, false_implies, implies_true, not_true_eq_false, not_false_eq_true, ne_eq, if_true, if_false, Bool.and_true, Bool.true_and, decide_true, decide_false, reduceIte, reduceCtorEq, Bool.and_self, Bool.and_eq_true, decide_eq_true_eq, and_self, true_or, or_true, false_or, or_false, Nat.zero_add, Nat.add_zero, eq_self, Nat.reduceEqDiff, Nat.reduceLeDiff, Nat.reduceLT, Nat.reduceAdd, Nat.reduceSub, Nat.reduceMul, LM_out hL, R303 hL h10 (show n < 31 by omega), nI_leP (show 2 ^ n < 2147483648 by omega) (show i < 2147483648 by omega), show (2 ^ n ≤ i) = False from eq_false (by omega), e312_0, B312_0]
    rw [h312]
    by_cases h : iMn E i n 0 = true
    · rw [if_pos h] at ih
      simp only [h, if_true, xSeq, i_push, i_load, i_iload, i_lload, i_dload, i_aload, i_istore, i_astore, i_lstore, i_dstore, i_iinc, i_ii, i_iiz, i_ll, i_llz, i_lli, i_li, i_i, i_l, i_i2l, i_l2i, i_dup, i_dup2, i_dup2w, i_dupx1, i_pop, i_pop2, i_goto, i_ifc, i_icmp, i_getI, i_getL, i_getR, i_putI, i_putZ, i_putL, i_putR, i_aldI, i_aldB, i_aldL, i_aldD, i_astI, i_astL, i_astD, i_alen, i_ret, i_iret, i_zret, i_lret, i_fret, i_dret, i_aret, i_invS0, i_invV0, i_m2, i_m1, i_ml, i_obj, lk, lkp, stf1, stf2, Value.category, rV, xTo, lv_args, xCk, xCat, xRc, xAk, hg_S, hg_I, hg_J, hg_D, hg_R, hs_I, hs_J, hs_D, hs_R, uI_at, uJ_at, uD_at, uR_at, List.take_succ_cons, List.take_zero, List.drop_succ_cons, List.drop_zero, List.reverse_cons, List.reverse_nil, List.nil_append, List.cons_append, List.map_cons, List.map_nil, List.sum_cons, List.sum_nil, List.length_cons, List.length_nil, Option.toList_some, Option.toList_none, true_and, and_true, false_and, and_false, true_implies, false_implies, implies_true, not_true_eq_false, not_false_eq_true, ne_eq, if_true, if_false, Bool.and_true, Bool.true_and, decide_true, decide_false, reduceIte, reduceCtorEq, Bool.and_self, Bool.and_eq_true, decide_eq_true_eq, and_self, true_or, or_true, false_or, or_false, Nat.zero_add, Nat.add_zero, eq_self, Nat.reduceEqDiff, Nat.reduceLeDiff, Nat.reduceLT, Nat.reduceAdd, Nat.reduceSub, Nat.reduceMul, i1_0, e311_45, B311_45, nI_1]
      exact ih
    · rw [if_neg h, Nat.add_zero] at ih
      simp only [h, if_false, xSeq, i_push, i_load, i_iload, i_lload, i_dload, i_aload, i_istore, i_astore, i_lstore, i_dstore, i_iinc, i_ii, i_iiz, i_ll, i_llz, i_lli, i_li, i_i, i_l, i_i2l, i_l2i, i_dup, i_dup2, i_dup2w, i_dupx1, i_pop, i_pop2, i_goto, i_ifc, i_icmp, i_getI, i_getL, i_getR, i_putI, i_putZ, i_putL, i_putR, i_aldI, i_aldB, i_aldL, i_aldD, i_astI, i_astL, i_astD, i_alen, i_ret, i_iret, i_zret, i_lret, i_fret, i_dret, i_aret, i_invS0, i_invV0, i_m2, i_m1, i_ml, i_obj, lk, lkp, stf1, stf2, Value.category, rV, xTo, lv_args, xCk, xCat, xRc, xAk, hg_S, hg_I, hg_J, hg_D, hg_R, hs_I, hs_J, hs_D, hs_R, uI_at, uJ_at, uD_at, uR_at, List.take_succ_cons, List.take_zero, List.drop_succ_cons, List.drop_zero, List.reverse_cons, List.reverse_nil, List.nil_append, List.cons_append, List.map_cons, List.map_nil, List.sum_cons, List.sum_nil, List.length_cons, List.length_nil, Option.toList_some, Option.toList_none, true_and, and_true, false_and, and_false, true_implies, false_implies, implies_true, not_true_eq_false, not_false_eq_true, ne_eq, if_true, if_false, Bool.and_true, Bool.true_and, decide_true, decide_false, reduceIte, reduceCtorEq, Bool.and_self, Bool.and_eq_true, decide_eq_true_eq, and_self, true_or, or_true, false_or, or_false, Nat.zero_add, Nat.add_zero, eq_self, Nat.reduceEqDiff, Nat.reduceLeDiff, Nat.reduceLT, Nat.reduceAdd, Nat.reduceSub, Nat.reduceMul, e311_44, B311_44, e311_45, B311_45, nI_1, Bool.false_eq_true, Int32.add_zero]
      exact ih
end
/-! ===== energies of the fresh grid ===== -/
section
theorem en_E4 {F : Int32} {st : Nat → Int32} (h0 : F = 0) (h : ∀ k, k < 32 → st k = 1) : en F st 16 32 (fE B4) (sE B4) = E4 := by
  funext s
  rw [h0]
  exact en_congr s h
theorem E4_B : EB E4 16 := by
  have h := en_EB (fi := fE B4) (se := sE B4) (n := 16) (m := 32) (SB_1 (F := 0) (st := fun _ => 1) rfl (fun _ _ => rfl)) (by decide) (by decide)
  exact h
end
/-! ===== questions about levels: printed by 99w.xcases.py ===== -/
section
theorem lvl_in {x : Int32} {L : Nat} (h0 : 0 < L) (hL : L < 2147483648) : (rg x 0 (nI L - 1) = true) = (¬ x < 0 ∧ x < nI L) := by
  unfold rg
  rw [Bool.and_eq_true, Bool.not_eq_true', Bool.not_eq_true', decide_eq_false_iff_not, decide_eq_false_iff_not, nI_m1 h0 hL, Classical.not_not]
theorem R171_35 {S : xS} {I : xI} {J : xJ} {D : xDb} {R : xR} {b : Nat × Nat} {Q : xQ} {n : Nat} {E : Nat → Int32} (hL : LC S R) (hX : XL n E S I R) {i : Nat} (hi : i < (lv E n).length) {w : Int32} (hw : rg w 0 2 = true) : xRun xT 171 35 [(1, .int (nI i)), (2, .int w), (3, .ref 130)] [] (S, I, J, D, R) b Q = Q (.ok (some (.int (if w = 0 then I 154 i else if w = 1 then I 155 i else I 156 i)))) (S, I, J, D, R) b := by
  have hl := lv_len E n
  have w0 : (0 : Int32) = nI 0 := rfl
  have ij := nI_inP (show i < 4913 by omega) (by decide)
  have ik := nI_ix (show i < 2147483648 by omega)
  have h01 : ((1 : Int32) = 0) = False := eq_false (by decide)
  rw [e171_35]
  by_cases h0 : w = 0
  · subst h0
    simp only [B171_35, xSeq, i_push, i_load, i_iload, i_lload, i_dload, i_aload, i_istore, i_astore, i_lstore, i_dstore, i_iinc, i_ii, i_iiz, i_ll, i_llz, i_lli, i_li, i_i, i_l, i_i2l, i_l2i, i_dup, i_dup2, i_dup2w, i_dupx1, i_pop, i_pop2, i_goto, i_ifc, i_icmp, i_getI, i_getL, i_getR, i_putI, i_putZ, i_putL, i_putR, i_aldI, i_aldB, i_aldL, i_aldD, i_astI, i_astL, i_astD, i_alen, i_ret, i_iret, i_zret, i_lret, i_fret, i_dret, i_aret, i_invS0, i_invV0, i_m2, i_m1, i_ml, i_obj, lk, lkp, stf1, stf2, Value.category, rV, xTo, lv_args, xCk, xCat, xRc, xAk, hg_S, hg_I, hg_J, hg_D, hg_R, hs_I, hs_J, hs_D, hs_R, uI_at, uJ_at, uD_at, uR_at, List.take_succ_cons, List.take_zero, List.drop_succ_cons, List.drop_zero, List.reverse_cons, List.reverse_nil, List.nil_append, List.cons_append, List.map_cons, List.map_nil, List.sum_cons, List.sum_nil, List.length_cons, List.length_nil, Option.toList_some, Option.toList_none, true_and, and_true, false_and, and_false, true_implies, false_implies, implies_true, not_true_eq_false, not_false_eq_true, ne_eq, if_true, if_false, Bool.and_true, Bool.true_and, decide_true, decide_false, reduceIte, reduceCtorEq, Bool.and_self, Bool.and_eq_true, decide_eq_true_eq, and_self, true_or, or_true, false_or, or_false, Nat.zero_add, Nat.add_zero, eq_self, Nat.reduceEqDiff, Nat.reduceLeDiff, Nat.reduceLT, Nat.reduceAdd, Nat.reduceSub, Nat.reduceMul, i_sw_eq, swf, e171_64, B171_64, LC_out hL, LE_out hX.1, ij, ik]
  · by_cases h1 : w = 1
    · subst h1
      simp only [B171_35, xSeq, i_push, i_load, i_iload, i_lload, i_dload, i_aload, i_istore, i_astore, i_lstore, i_dstore, i_iinc, i_ii, i_iiz, i_ll, i_llz, i_lli, i_li, i_i, i_l, i_i2l, i_l2i, i_dup, i_dup2, i_dup2w, i_dupx1, i_pop, i_pop2, i_goto, i_ifc, i_icmp, i_getI, i_getL, i_getR, i_putI, i_putZ, i_putL, i_putR, i_aldI, i_aldB, i_aldL, i_aldD, i_astI, i_astL, i_astD, i_alen, i_ret, i_iret, i_zret, i_lret, i_fret, i_dret, i_aret, i_invS0, i_invV0, i_m2, i_m1, i_ml, i_obj, lk, lkp, stf1, stf2, Value.category, rV, xTo, lv_args, xCk, xCat, xRc, xAk, hg_S, hg_I, hg_J, hg_D, hg_R, hs_I, hs_J, hs_D, hs_R, uI_at, uJ_at, uD_at, uR_at, List.take_succ_cons, List.take_zero, List.drop_succ_cons, List.drop_zero, List.reverse_cons, List.reverse_nil, List.nil_append, List.cons_append, List.map_cons, List.map_nil, List.sum_cons, List.sum_nil, List.length_cons, List.length_nil, Option.toList_some, Option.toList_none, true_and, and_true, false_and, and_false, true_implies, false_implies, implies_true, not_true_eq_false, not_false_eq_true, ne_eq, if_true, if_false, Bool.and_true, Bool.true_and, decide_true, decide_false, reduceIte, reduceCtorEq, Bool.and_self, Bool.and_eq_true, decide_eq_true_eq, and_self, true_or, or_true, false_or, or_false, Nat.zero_add, Nat.add_zero, eq_self, Nat.reduceEqDiff, Nat.reduceLeDiff, Nat.reduceLT, Nat.reduceAdd, Nat.reduceSub, Nat.reduceMul, i_sw_eq, swf, h01, e171_71, B171_71, LC_out hL, LE_out hX.1, ij, ik]
    · simp only [B171_35, xSeq, i_push, i_load, i_iload, i_lload, i_dload, i_aload, i_istore, i_astore, i_lstore, i_dstore, i_iinc, i_ii, i_iiz, i_ll, i_llz, i_lli, i_li, i_i, i_l, i_i2l, i_l2i, i_dup, i_dup2, i_dup2w, i_dupx1, i_pop, i_pop2, i_goto, i_ifc, i_icmp, i_getI, i_getL, i_getR, i_putI, i_putZ, i_putL, i_putR, i_aldI, i_aldB, i_aldL, i_aldD, i_astI, i_astL, i_astD, i_alen, i_ret, i_iret, i_zret, i_lret, i_fret, i_dret, i_aret, i_invS0, i_invV0, i_m2, i_m1, i_ml, i_obj, lk, lkp, stf1, stf2, Value.category, rV, xTo, lv_args, xCk, xCat, xRc, xAk, hg_S, hg_I, hg_J, hg_D, hg_R, hs_I, hs_J, hs_D, hs_R, uI_at, uJ_at, uD_at, uR_at, List.take_succ_cons, List.take_zero, List.drop_succ_cons, List.drop_zero, List.reverse_cons, List.reverse_nil, List.nil_append, List.cons_append, List.map_cons, List.map_nil, List.sum_cons, List.sum_nil, List.length_cons, List.length_nil, Option.toList_some, Option.toList_none, true_and, and_true, false_and, and_false, true_implies, false_implies, implies_true, not_true_eq_false, not_false_eq_true, ne_eq, if_true, if_false, Bool.and_true, Bool.true_and, decide_true, decide_false, reduceIte, reduceCtorEq, Bool.and_self, Bool.and_eq_true, decide_eq_true_eq, and_self, true_or, or_true, false_or, or_false, Nat.zero_add, Nat.add_zero, eq_self, Nat.reduceEqDiff, Nat.reduceLeDiff, Nat.reduceLT, Nat.reduceAdd, Nat.reduceSub, Nat.reduceMul, i_sw_eq, swf, h0, h1, e171_78, B171_78, LC_out hL, LE_out hX.1, ij, ik]
theorem R305_75 {S : xS} {I : xI} {J : xJ} {D : xDb} {R : xR} {b : Nat × Nat} {Q : xQ} {n : Nat} {E : Nat → Int32} (hL : LM S R) (hX : XM n E I) {i : Nat} (hi : i < (lv E n).length) {w : Int32} : xRun xT 305 75 [(0, .ref 200), (1, .int (nI i)), (2, .int w)] [] (S, I, J, D, R) b Q = Q (.ok (some (.int (if w = 0 then I 346 i else if w = 1 then I 347 i else I 348 i)))) (S, I, J, D, R) b := by
  have hl := lv_len E n
  have ij := nI_inP (show i < 6000 by omega) (by decide)
  have ik := nI_ix (show i < 2147483648 by omega)
  have h01 : ((1 : Int32) = 0) = False := eq_false (by decide)
  rw [e305_75]
  by_cases h0 : w = 0
  · subst h0
    simp only [B305_75, xSeq, i_push, i_load, i_iload, i_lload, i_dload, i_aload, i_istore, i_astore, i_lstore, i_dstore, i_iinc, i_ii, i_iiz, i_ll, i_llz, i_lli, i_li, i_i, i_l, i_i2l, i_l2i, i_dup, i_dup2, i_dup2w, i_dupx1, i_pop, i_pop2, i_goto, i_ifc, i_icmp, i_getI, i_getL, i_getR, i_putI, i_putZ, i_putL, i_putR, i_aldI, i_aldB, i_aldL, i_aldD, i_astI, i_astL, i_astD, i_alen, i_ret, i_iret, i_zret, i_lret, i_fret, i_dret, i_aret, i_invS0, i_invV0, i_m2, i_m1, i_ml, i_obj, lk, lkp, stf1, stf2, Value.category, rV, xTo, lv_args, xCk, xCat, xRc, xAk, hg_S, hg_I, hg_J, hg_D, hg_R, hs_I, hs_J, hs_D, hs_R, uI_at, uJ_at, uD_at, uR_at, List.take_succ_cons, List.take_zero, List.drop_succ_cons, List.drop_zero, List.reverse_cons, List.reverse_nil, List.nil_append, List.cons_append, List.map_cons, List.map_nil, List.sum_cons, List.sum_nil, List.length_cons, List.length_nil, Option.toList_some, Option.toList_none, true_and, and_true, false_and, and_false, true_implies, false_implies, implies_true, not_true_eq_false, not_false_eq_true, ne_eq, if_true, if_false, Bool.and_true, Bool.true_and, decide_true, decide_false, reduceIte, reduceCtorEq, Bool.and_self, Bool.and_eq_true, decide_eq_true_eq, and_self, true_or, or_true, false_or, or_false, Nat.zero_add, Nat.add_zero, eq_self, Nat.reduceEqDiff, Nat.reduceLeDiff, Nat.reduceLT, Nat.reduceAdd, Nat.reduceSub, Nat.reduceMul, LM_out hL, ij, ik, ne_eq, e305_108, B305_108]
  · by_cases h1 : w = 1
    · subst h1
      simp only [B305_75, xSeq, i_push, i_load, i_iload, i_lload, i_dload, i_aload, i_istore, i_astore, i_lstore, i_dstore, i_iinc, i_ii, i_iiz, i_ll, i_llz, i_lli, i_li, i_i, i_l, i_i2l, i_l2i, i_dup, i_dup2, i_dup2w, i_dupx1, i_pop, i_pop2, i_goto, i_ifc, i_icmp, i_getI, i_getL, i_getR, i_putI, i_putZ, i_putL, i_putR, i_aldI, i_aldB, i_aldL, i_aldD, i_astI, i_astL, i_astD, i_alen, i_ret, i_iret, i_zret, i_lret, i_fret, i_dret, i_aret, i_invS0, i_invV0, i_m2, i_m1, i_ml, i_obj, lk, lkp, stf1, stf2, Value.category, rV, xTo, lv_args, xCk, xCat, xRc, xAk, hg_S, hg_I, hg_J, hg_D, hg_R, hs_I, hs_J, hs_D, hs_R, uI_at, uJ_at, uD_at, uR_at, List.take_succ_cons, List.take_zero, List.drop_succ_cons, List.drop_zero, List.reverse_cons, List.reverse_nil, List.nil_append, List.cons_append, List.map_cons, List.map_nil, List.sum_cons, List.sum_nil, List.length_cons, List.length_nil, Option.toList_some, Option.toList_none, true_and, and_true, false_and, and_false, true_implies, false_implies, implies_true, not_true_eq_false, not_false_eq_true, ne_eq, if_true, if_false, Bool.and_true, Bool.true_and, decide_true, decide_false, reduceIte, reduceCtorEq, Bool.and_self, Bool.and_eq_true, decide_eq_true_eq, and_self, true_or, or_true, false_or, or_false, Nat.zero_add, Nat.add_zero, eq_self, Nat.reduceEqDiff, Nat.reduceLeDiff, Nat.reduceLT, Nat.reduceAdd, Nat.reduceSub, Nat.reduceMul, LM_out hL, ij, ik, ne_eq, h01, e305_88, B305_88, e305_108, B305_108]
    · simp only [B305_75, xSeq, i_push, i_load, i_iload, i_lload, i_dload, i_aload, i_istore, i_astore, i_lstore, i_dstore, i_iinc, i_ii, i_iiz, i_ll, i_llz, i_lli, i_li, i_i, i_l, i_i2l, i_l2i, i_dup, i_dup2, i_dup2w, i_dupx1, i_pop, i_pop2, i_goto, i_ifc, i_icmp, i_getI, i_getL, i_getR, i_putI, i_putZ, i_putL, i_putR, i_aldI, i_aldB, i_aldL, i_aldD, i_astI, i_astL, i_astD, i_alen, i_ret, i_iret, i_zret, i_lret, i_fret, i_dret, i_aret, i_invS0, i_invV0, i_m2, i_m1, i_ml, i_obj, lk, lkp, stf1, stf2, Value.category, rV, xTo, lv_args, xCk, xCat, xRc, xAk, hg_S, hg_I, hg_J, hg_D, hg_R, hs_I, hs_J, hs_D, hs_R, uI_at, uJ_at, uD_at, uR_at, List.take_succ_cons, List.take_zero, List.drop_succ_cons, List.drop_zero, List.reverse_cons, List.reverse_nil, List.nil_append, List.cons_append, List.map_cons, List.map_nil, List.sum_cons, List.sum_nil, List.length_cons, List.length_nil, Option.toList_some, Option.toList_none, true_and, and_true, false_and, and_false, true_implies, false_implies, implies_true, not_true_eq_false, not_false_eq_true, ne_eq, if_true, if_false, Bool.and_true, Bool.true_and, decide_true, decide_false, reduceIte, reduceCtorEq, Bool.and_self, Bool.and_eq_true, decide_eq_true_eq, and_self, true_or, or_true, false_or, or_false, Nat.zero_add, Nat.add_zero, eq_self, Nat.reduceEqDiff, Nat.reduceLeDiff, Nat.reduceLT, Nat.reduceAdd, Nat.reduceSub, Nat.reduceMul, LM_out hL, ij, ik, ne_eq, h0, h1, e305_88, B305_88, e305_102, B305_102, e305_108, B305_108]
end
/-! ===== unbalanced, under metropolis ===== -/
section
variable {S : xS} {I : xI} {J : xJ} {D : xDb} {R : xR} {b : Nat × Nat} {Q : xQ} {n : Nat} {E : Nat → Int32}
/-- what a pair's two sides come to -/
def bal (d : Int32) : Bool := decide ((if d ≤ 0 then 0 else d) = d + (if -d ≤ 0 then 0 else -d)) && !decide ((if d ≤ 0 then 0 else d) = -1) && !decide ((if -d ≤ 0 then 0 else -d) = -1)
theorem bal_n : ∀ k, k < 577 → bal (nI k - 288) = true := by decide +kernel
theorem R113 (hL : LC S R) (h9 : I 110 9 = 0) {d : Int32} (hd : bal d = true) : xRun xT 113 0 [(0, .ref 130), (1, .int d)] [] (S, I, J, D, R) b Q = Q (.ok (some (.int 1))) (S, I, J, D, R) b := by
  have h02 : ((0 : Int32) = 2) = False := eq_false (by decide)
  have h01 : ((0 : Int32) = 1) = False := eq_false (by decide)
  unfold bal at hd
  rw [Bool.and_eq_true, Bool.and_eq_true, Bool.not_eq_true', Bool.not_eq_true', decide_eq_true_eq, decide_eq_false_iff_not, decide_eq_false_iff_not] at hd
  obtain ⟨⟨q1, q2⟩, q3⟩ := hd
  have q2' : ((if d ≤ 0 then 0 else d) = -1) = False := eq_false q2
  have q3' : ((if -d ≤ 0 then 0 else -d) = -1) = False := eq_false q3
  have r1 := fun (Q : xQ) => R82 (S := S) (I := I) (J := J) (D := D) (R := R) (b := (0, 0)) (Q := Q) hL (d := d)
  have r2 := fun (Q : xQ) => R82 (S := S) (I := I) (J := J) (D := D) (R := R) (b := (0, 0)) (Q := Q) hL (d := -d)
  simp only [h9, h02, h01, false_or, if_false] at r1 r2
  obtain ⟨x, hx⟩ : ∃ x, x = (if d ≤ 0 then 0 else d) := ⟨_, rfl⟩
  obtain ⟨y, hy⟩ : ∃ y, y = (if -d ≤ 0 then 0 else -d) := ⟨_, rfl⟩
  rw [← hx] at q1 q2' r1
  rw [← hy] at q1 q3' r2
  rw [e113_0]
  simp only [B113_0, xSeq, i_push, i_load, i_iload, i_lload, i_dload, i_aload, i_istore, i_astore, i_lstore, i_dstore, i_iinc, i_ii, i_iiz, i_ll, i_llz, i_lli, i_li, i_i, i_l, i_i2l, i_l2i, i_dup, i_dup2, i_dup2w, i_dupx1, i_pop, i_pop2, i_goto, i_ifc, i_icmp, i_getI, i_getL, i_getR, i_putI, i_putZ, i_putL, i_putR, i_aldI, i_aldB, i_aldL, i_aldD, i_astI, i_astL, i_astD, i_alen, i_ret, i_iret, i_zret, i_lret, i_fret, i_dret, i_aret, i_invS0, i_invV0, i_m2, i_m1, i_ml, i_obj, lk, lkp, stf1, stf2, Value.category, rV, xTo, lv_args, xCk, xCat, xRc, xAk, hg_S, hg_I, hg_J, hg_D, hg_R, hs_I, hs_J, hs_D, hs_R, uI_at, uJ_at, uD_at, uR_at, List.take_succ_cons, List.take_zero, List.drop_succ_cons, List.drop_zero, List.reverse_cons, List.reverse_nil, List.nil_append, List.cons_append, List.map_cons, List.map_nil, List.sum_cons, List.sum_nil, List.length_cons, List.length_nil, Option.toList_some, Option.toList_none, true_and, and_true, false_and, and_false, true_implies, false_implies, implies_true, not_true_eq_false, not_false_eq_true, ne_eq, if_true, if_false, Bool.and_true, Bool.true_and, decide_true, decide_false, reduceIte, reduceCtorEq, Bool.and_self, Bool.and_eq_true, decide_eq_true_eq, and_self, true_or, or_true, false_or, or_false, Nat.zero_add, Nat.add_zero, eq_self, Nat.reduceEqDiff, Nat.reduceLeDiff, Nat.reduceLT, Nat.reduceAdd, Nat.reduceSub, Nat.reduceMul, LC_out hL, r1, r2, q2', q3']
  simp only [← q1, ne_eq, not_true_eq_false, xSeq, i_push, i_load, i_iload, i_lload, i_dload, i_aload, i_istore, i_astore, i_lstore, i_dstore, i_iinc, i_ii, i_iiz, i_ll, i_llz, i_lli, i_li, i_i, i_l, i_i2l, i_l2i, i_dup, i_dup2, i_dup2w, i_dupx1, i_pop, i_pop2, i_goto, i_ifc, i_icmp, i_getI, i_getL, i_getR, i_putI, i_putZ, i_putL, i_putR, i_aldI, i_aldB, i_aldL, i_aldD, i_astI, i_astL, i_astD, i_alen, i_ret, i_iret, i_zret, i_lret, i_fret, i_dret, i_aret, i_invS0, i_invV0, i_m2, i_m1, i_ml, i_obj, lk, lkp, stf1, stf2, Value.category, rV, xTo, lv_args, xCk, xCat, xRc, xAk, hg_S, hg_I, hg_J, hg_D, hg_R, hs_I, hs_J, hs_D, hs_R, uI_at, uJ_at, uD_at, uR_at, List.take_succ_cons, List.take_zero, List.drop_succ_cons, List.drop_zero, List.reverse_cons, List.reverse_nil, List.nil_append, List.cons_append, List.map_cons, List.map_nil, List.sum_cons, List.sum_nil, List.length_cons, List.length_nil, Option.toList_some, Option.toList_none, true_and, and_true, false_and, and_false, true_implies, false_implies, implies_true, not_true_eq_false, not_false_eq_true, ne_eq, if_true, if_false, Bool.and_true, Bool.true_and, decide_true, decide_false, reduceIte, reduceCtorEq, Bool.and_self, Bool.and_eq_true, decide_eq_true_eq, and_self, true_or, or_true, false_or, or_false, Nat.zero_add, Nat.add_zero, eq_self, Nat.reduceEqDiff, Nat.reduceLeDiff, Nat.reduceLT, Nat.reduceAdd, Nat.reduceSub, Nat.reduceMul, e113_41, B113_41]
theorem L112_24 (hL : LC S R) (hX : XL n E S I R) (hB : EB E n) {t : Nat} (ht : t < n)
    (kk : ∀ f, xRun xT 112 72 [(0, .ref 130), (1, .int (nI t))] [] (S, rI I 153 f, J, D, R) b Q) :
    ∀ (j i : Nat) (f : Nat → Int32), i + j = 2 ^ n → xRun xT 112 24 [(0, .ref 130), (1, .int (nI t)), (2, .int (nI (2 ^ t))), (3, .int (nI i))] [] (S, rI I 153 f, J, D, R) b Q
  | 0, i, f, hi => by
    have hp := pow16 hB.1
    have e : i = 2 ^ n := by omega
    rw [e112_24]
    simp only [B112_24, xSeq, i_push, i_load, i_iload, i_lload, i_dload, i_aload, i_istore, i_astore, i_lstore, i_dstore, i_iinc, i_ii, i_iiz, i_ll, i_llz, i_lli, i_li, i_i, i_l, i_i2l, i_l2i, i_dup, i_dup2, i_dup2w, i_dupx1, i_pop, i_pop2, i_goto, i_ifc, i_icmp, i_getI, i_getL, i_getR, i_putI, i_putZ, i_putL, i_putR, i_aldI, i_aldB, i_aldL, i_aldD, i_astI, i_astL, i_astD, i_alen, i_ret, i_iret, i_zret, i_lret, i_fret, i_dret, i_aret, i_invS0, i_invV0, i_m2, i_m1, i_ml, i_obj, lk, lkp, stf1, stf2, Value.category, rV, xTo, lv_args, xCk, xCat, xRc, xAk, hg_S, hg_I, hg_J, hg_D, hg_R, hs_I, hs_J, hs_D, hs_R, uI_at, uJ_at, uD_at, uR_at, List.take_succ_cons, List.take_zero, List.drop_succ_cons, List.drop_zero, List.reverse_cons, List.reverse_nil, List.nil_append, List.cons_append, List.map_cons, List.map_nil, List.sum_cons, List.sum_nil, List.length_cons, List.length_nil, Option.toList_some, Option.toList_none, true_and, and_true, false_and, and_false, true_implies, false_implies, implies_true, not_true_eq_false, not_false_eq_true, ne_eq, if_true, if_false, Bool.and_true, Bool.true_and, decide_true, decide_false, reduceIte, reduceCtorEq, Bool.and_self, Bool.and_eq_true, decide_eq_true_eq, and_self, true_or, or_true, false_or, or_false, Nat.zero_add, Nat.add_zero, eq_self, Nat.reduceEqDiff, Nat.reduceLeDiff, Nat.reduceLT, Nat.reduceAdd, Nat.reduceSub, Nat.reduceMul, LC_out hL, rI_at, hX.2.2.2.1, e, nI_leP (show 2 ^ n < 2147483648 by omega) (show 2 ^ n < 2147483648 by omega), Nat.le_refl]
    exact kk f
  | j + 1, i, f, hi => by
    have hp := pow16 hB.1
    have hn := hB.1
    have hi2 : i < 2 ^ n := by omega
    have ih := fun f => L112_24 hL hX hB ht kk j (i + 1) f (by omega)
    have h2t : 2 ^ t < 2 ^ n := Nat.pow_lt_pow_right (by decide) ht
    have ho : i ||| 2 ^ t < 2 ^ n := Nat.or_lt_two_pow hi2 h2t
    have ha : i &&& 2 ^ t < 65536 := Nat.lt_of_le_of_lt Nat.and_le_left (by omega)
    have e0 : (nI (i &&& 2 ^ t) = 0) = (i &&& 2 ^ t = 0) := by rw [show (0 : Int32) = nI 0 from rfl, nI_iff (by omega) (by decide)]
    have w1 := hX.2.2.2.2.2.2.2 i hi2
    have w2 := hX.2.2.2.2.2.2.2 _ ho
    obtain ⟨-, -, a1, a2⟩ := eN_ok hB hi2
    obtain ⟨-, -, b1, b2⟩ := eN_ok hB ho
    have e1 : E (i ||| 2 ^ t) - E i + 289 = nI (eN E (i ||| 2 ^ t) + 289 - eN E i) := by
      have e2 : nI (eN E (i ||| 2 ^ t) + 289 - eN E i) + nI (eN E i) = nI (eN E (i ||| 2 ^ t)) + 289 := by
        rw [nI_add, show eN E (i ||| 2 ^ t) + 289 - eN E i + eN E i = eN E (i ||| 2 ^ t) + 289 by omega, ← nI_add]
        rfl
      rw [a2, b2]
      grind
    rw [e112_24]
    simp only [B112_24, xSeq, i_push, i_load, i_iload, i_lload, i_dload, i_aload, i_istore, i_astore, i_lstore, i_dstore, i_iinc, i_ii, i_iiz, i_ll, i_llz, i_lli, i_li, i_i, i_l, i_i2l, i_l2i, i_dup, i_dup2, i_dup2w, i_dupx1, i_pop, i_pop2, i_goto, i_ifc, i_icmp, i_getI, i_getL, i_getR, i_putI, i_putZ, i_putL, i_putR, i_aldI, i_aldB, i_aldL, i_aldD, i_astI, i_astL, i_astD, i_alen, i_ret, i_iret, i_zret, i_lret, i_fret, i_dret, i_aret, i_invS0, i_invV0, i_m2, i_m1, i_ml, i_obj, lk, lkp, stf1, stf2, Value.category, rV, xTo, lv_args, xCk, xCat, xRc, xAk, hg_S, hg_I, hg_J, hg_D, hg_R, hs_I, hs_J, hs_D, hs_R, uI_at, uJ_at, uD_at, uR_at, List.take_succ_cons, List.take_zero, List.drop_succ_cons, List.drop_zero, List.reverse_cons, List.reverse_nil, List.nil_append, List.cons_append, List.map_cons, List.map_nil, List.sum_cons, List.sum_nil, List.length_cons, List.length_nil, Option.toList_some, Option.toList_none, true_and, and_true, false_and, and_false, true_implies, false_implies, implies_true, not_true_eq_false, not_false_eq_true, ne_eq, if_true, if_false, Bool.and_true, Bool.true_and, decide_true, decide_false, reduceIte, reduceCtorEq, Bool.and_self, Bool.and_eq_true, decide_eq_true_eq, and_self, true_or, or_true, false_or, or_false, Nat.zero_add, Nat.add_zero, eq_self, Nat.reduceEqDiff, Nat.reduceLeDiff, Nat.reduceLT, Nat.reduceAdd, Nat.reduceSub, Nat.reduceMul, LC_out hL, LE_out hX.1, rI_at, hX.2.2.2.1, nI_leP (show 2 ^ n < 2147483648 by omega) (show i < 2147483648 by omega), show (2 ^ n ≤ i) = False from eq_false (by omega), i_andN, i_orN, ne_eq, e0, nI_inP (show i < 65536 by omega) (by decide), nI_ix (show i < 2147483648 by omega), nI_inP (show i ||| 2 ^ t < 65536 by omega) (by decide), nI_ix (show i ||| 2 ^ t < 2147483648 by omega), w1, w2, e1, nI_inP (show eN E (i ||| 2 ^ t) + 289 - eN E i < 4913 by omega) (by decide), nI_ix (show eN E (i ||| 2 ^ t) + 289 - eN E i < 2147483648 by omega), uI_rI, e112_66, B112_66, nI_1]
    by_cases h : i &&& 2 ^ t = 0
    · simp only [h, true_and, and_true, false_and, and_false, true_implies, false_implies, implies_true, not_true_eq_false, not_false_eq_true, ne_eq, if_true, if_false, Bool.and_true, Bool.true_and, decide_true, decide_false, reduceIte, reduceCtorEq, Bool.and_self, Bool.and_eq_true, decide_eq_true_eq, and_self, true_or, or_true, false_or, or_false, Nat.zero_add, Nat.add_zero, eq_self, Nat.reduceEqDiff, Nat.reduceLeDiff, Nat.reduceLT, Nat.reduceAdd, Nat.reduceSub, Nat.reduceMul]
      exact ih _
    · simp only [h, true_and, and_true, false_and, and_false, true_implies, false_implies, implies_true, not_true_eq_false, not_false_eq_true, ne_eq, if_true, if_false, Bool.and_true, Bool.true_and, decide_true, decide_false, reduceIte, reduceCtorEq, Bool.and_self, Bool.and_eq_true, decide_eq_true_eq, and_self, true_or, or_true, false_or, or_false, Nat.zero_add, Nat.add_zero, eq_self, Nat.reduceEqDiff, Nat.reduceLeDiff, Nat.reduceLT, Nat.reduceAdd, Nat.reduceSub, Nat.reduceMul]
      exact ih f
theorem L112_10 (hL : LC S R) (hX : XL n E S I R) (hB : EB E n)
    (kk : ∀ f, xRun xT 112 78 [(0, .ref 130)] [] (S, rI I 153 f, J, D, R) b Q) :
    ∀ (j t : Nat) (f : Nat → Int32), t + j = n → xRun xT 112 10 [(0, .ref 130), (1, .int (nI t))] [] (S, rI I 153 f, J, D, R) b Q
  | 0, t, f, ht => by
    have hn := hB.1
    have e : t = n := by omega
    rw [e112_10]
    simp only [B112_10, xSeq, i_push, i_load, i_iload, i_lload, i_dload, i_aload, i_istore, i_astore, i_lstore, i_dstore, i_iinc, i_ii, i_iiz, i_ll, i_llz, i_lli, i_li, i_i, i_l, i_i2l, i_l2i, i_dup, i_dup2, i_dup2w, i_dupx1, i_pop, i_pop2, i_goto, i_ifc, i_icmp, i_getI, i_getL, i_getR, i_putI, i_putZ, i_putL, i_putR, i_aldI, i_aldB, i_aldL, i_aldD, i_astI, i_astL, i_astD, i_alen, i_ret, i_iret, i_zret, i_lret, i_fret, i_dret, i_aret, i_invS0, i_invV0, i_m2, i_m1, i_ml, i_obj, lk, lkp, stf1, stf2, Value.category, rV, xTo, lv_args, xCk, xCat, xRc, xAk, hg_S, hg_I, hg_J, hg_D, hg_R, hs_I, hs_J, hs_D, hs_R, uI_at, uJ_at, uD_at, uR_at, List.take_succ_cons, List.take_zero, List.drop_succ_cons, List.drop_zero, List.reverse_cons, List.reverse_nil, List.nil_append, List.cons_append, List.map_cons, List.map_nil, List.sum_cons, List.sum_nil, List.length_cons, List.length_nil, Option.toList_some, Option.toList_none, true_and, and_true, false_and, and_false, true_implies, false_implies, implies_true, not_true_eq_false, not_false_eq_true, ne_eq, if_true, if_false, Bool.and_true, Bool.true_and, decide_true, decide_false, reduceIte, reduceCtorEq, Bool.and_self, Bool.and_eq_true, decide_eq_true_eq, and_self, true_or, or_true, false_or, or_false, Nat.zero_add, Nat.add_zero, eq_self, Nat.reduceEqDiff, Nat.reduceLeDiff, Nat.reduceLT, Nat.reduceAdd, Nat.reduceSub, Nat.reduceMul, LC_out hL, rI_at, hX.2.2.1, e, nI_leP (show n < 2147483648 by omega) (show n < 2147483648 by omega), Nat.le_refl]
    exact kk f
  | j + 1, t, f, ht => by
    have hn := hB.1
    have h24 := L112_24 hL hX hB (show t < n by omega) (fun f => by
      rw [e112_72]
      simp only [B112_72, xSeq, i_push, i_load, i_iload, i_lload, i_dload, i_aload, i_istore, i_astore, i_lstore, i_dstore, i_iinc, i_ii, i_iiz, i_ll, i_llz, i_lli, i_li, i_i, i_l, i_i2l, i_l2i, i_dup, i_dup2, i_dup2w, i_dupx1, i_pop, i_pop2, i_goto, i_ifc, i_icmp, i_getI, i_getL, i_getR, i_putI, i_putZ, i_putL, i_putR, i_aldI, i_aldB, i_aldL, i_aldD, i_astI, i_astL, i_astD, i_alen, i_ret, i_iret, i_zret, i_lret, i_fret, i_dret, i_aret, i_invS0, i_invV0, i_m2, i_m1, i_ml, i_obj, lk, lkp, stf1, stf2, Value.category, rV, xTo, lv_args, xCk, xCat, xRc, xAk, hg_S, hg_I, hg_J, hg_D, hg_R, hs_I, hs_J, hs_D, hs_R, uI_at, uJ_at, uD_at, uR_at, List.take_succ_cons, List.take_zero, List.drop_succ_cons, List.drop_zero, List.reverse_cons, List.reverse_nil, List.nil_append, List.cons_append, List.map_cons, List.map_nil, List.sum_cons, List.sum_nil, List.length_cons, List.length_nil, Option.toList_some, Option.toList_none, true_and, and_true, false_and, and_false, true_implies, false_implies, implies_true, not_true_eq_false, not_false_eq_true, ne_eq, if_true, if_false, Bool.and_true, Bool.true_and, decide_true, decide_false, reduceIte, reduceCtorEq, Bool.and_self, Bool.and_eq_true, decide_eq_true_eq, and_self, true_or, or_true, false_or, or_false, Nat.zero_add, Nat.add_zero, eq_self, Nat.reduceEqDiff, Nat.reduceLeDiff, Nat.reduceLT, Nat.reduceAdd, Nat.reduceSub, Nat.reduceMul, nI_1]
      exact L112_10 hL hX hB kk j (t + 1) f (by omega)) (2 ^ n) 0 f (by omega)
    rw [nI_0] at h24
    rw [e112_10]
    simp only [B112_10, xSeq, i_push, i_load, i_iload, i_lload, i_dload, i_aload, i_istore, i_astore, i_lstore, i_dstore, i_iinc, i_ii, i_iiz, i_ll, i_llz, i_lli, i_li, i_i, i_l, i_i2l, i_l2i, i_dup, i_dup2, i_dup2w, i_dupx1, i_pop, i_pop2, i_goto, i_ifc, i_icmp, i_getI, i_getL, i_getR, i_putI, i_putZ, i_putL, i_putR, i_aldI, i_aldB, i_aldL, i_aldD, i_astI, i_astL, i_astD, i_alen, i_ret, i_iret, i_zret, i_lret, i_fret, i_dret, i_aret, i_invS0, i_invV0, i_m2, i_m1, i_ml, i_obj, lk, lkp, stf1, stf2, Value.category, rV, xTo, lv_args, xCk, xCat, xRc, xAk, hg_S, hg_I, hg_J, hg_D, hg_R, hs_I, hs_J, hs_D, hs_R, uI_at, uJ_at, uD_at, uR_at, List.take_succ_cons, List.take_zero, List.drop_succ_cons, List.drop_zero, List.reverse_cons, List.reverse_nil, List.nil_append, List.cons_append, List.map_cons, List.map_nil, List.sum_cons, List.sum_nil, List.length_cons, List.length_nil, Option.toList_some, Option.toList_none, true_and, and_true, false_and, and_false, true_implies, false_implies, implies_true, not_true_eq_false, not_false_eq_true, ne_eq, if_true, if_false, Bool.and_true, Bool.true_and, decide_true, decide_false, reduceIte, reduceCtorEq, Bool.and_self, Bool.and_eq_true, decide_eq_true_eq, and_self, true_or, or_true, false_or, or_false, Nat.zero_add, Nat.add_zero, eq_self, Nat.reduceEqDiff, Nat.reduceLeDiff, Nat.reduceLT, Nat.reduceAdd, Nat.reduceSub, Nat.reduceMul, LC_out hL, rI_at, hX.2.2.1, nI_leP (show n < 2147483648 by omega) (show t < 2147483648 by omega), show (n ≤ t) = False from eq_false (by omega), q_1shl (show t < 31 by omega)]
    exact h24
theorem q_288 (k : Nat) : (nI k - 288 + 289 : Int32) = nI (k + 1) := by
  rw [← nI_add, show nI 1 = 1 from rfl]
  grind
theorem q_288s (k : Nat) : (nI k - 288 + 1 : Int32) = nI (k + 1) - 288 := by
  rw [← nI_add, show nI 1 = 1 from rfl]
  grind
theorem q_288l : ∀ k, k < 578 → decide ((289 : Int32) ≤ nI k - 288) = decide (577 ≤ k) := by decide +kernel
theorem R112_84 (hL : LC S R) (hE : LE S R) (h9 : I 110 9 = 0) : ∀ (j k : Nat), k + j = 577 → xRun xT 112 84 [(0, .ref 130), (1, .int 0), (2, .int (nI k - 288))] [] (S, I, J, D, R) b Q = Q (.ok (some (.int 0))) (S, I, J, D, R) b
  | 0, k, hk => by
    have e1 : ((289 : Int32) ≤ nI k - 288) = True := by rw [show (k : Nat) = 577 by omega]; exact eq_true (by decide)
    rw [e112_84]
    simp only [B112_84, xSeq, i_push, i_load, i_iload, i_lload, i_dload, i_aload, i_istore, i_astore, i_lstore, i_dstore, i_iinc, i_ii, i_iiz, i_ll, i_llz, i_lli, i_li, i_i, i_l, i_i2l, i_l2i, i_dup, i_dup2, i_dup2w, i_dupx1, i_pop, i_pop2, i_goto, i_ifc, i_icmp, i_getI, i_getL, i_getR, i_putI, i_putZ, i_putL, i_putR, i_aldI, i_aldB, i_aldL, i_aldD, i_astI, i_astL, i_astD, i_alen, i_ret, i_iret, i_zret, i_lret, i_fret, i_dret, i_aret, i_invS0, i_invV0, i_m2, i_m1, i_ml, i_obj, lk, lkp, stf1, stf2, Value.category, rV, xTo, lv_args, xCk, xCat, xRc, xAk, hg_S, hg_I, hg_J, hg_D, hg_R, hs_I, hs_J, hs_D, hs_R, uI_at, uJ_at, uD_at, uR_at, List.take_succ_cons, List.take_zero, List.drop_succ_cons, List.drop_zero, List.reverse_cons, List.reverse_nil, List.nil_append, List.cons_append, List.map_cons, List.map_nil, List.sum_cons, List.sum_nil, List.length_cons, List.length_nil, Option.toList_some, Option.toList_none, true_and, and_true, false_and, and_false, true_implies, false_implies, implies_true, not_true_eq_false, not_false_eq_true, ne_eq, if_true, if_false, Bool.and_true, Bool.true_and, decide_true, decide_false, reduceIte, reduceCtorEq, Bool.and_self, Bool.and_eq_true, decide_eq_true_eq, and_self, true_or, or_true, false_or, or_false, Nat.zero_add, Nat.add_zero, eq_self, Nat.reduceEqDiff, Nat.reduceLeDiff, Nat.reduceLT, Nat.reduceAdd, Nat.reduceSub, Nat.reduceMul, e1, e112_118, B112_118]
  | j + 1, k, hk => by
    have e1 : ((289 : Int32) ≤ nI k - 288) = False := eq_false (fun h => by
      have h2 := decide_eq_decide.mp (q_288l k (by omega))
      have := h2.mp h
      omega)
    have ih := R112_84 hL hE h9 j (k + 1) (by omega)
    rw [e112_84]
    simp only [B112_84, xSeq, i_push, i_load, i_iload, i_lload, i_dload, i_aload, i_istore, i_astore, i_lstore, i_dstore, i_iinc, i_ii, i_iiz, i_ll, i_llz, i_lli, i_li, i_i, i_l, i_i2l, i_l2i, i_dup, i_dup2, i_dup2w, i_dupx1, i_pop, i_pop2, i_goto, i_ifc, i_icmp, i_getI, i_getL, i_getR, i_putI, i_putZ, i_putL, i_putR, i_aldI, i_aldB, i_aldL, i_aldD, i_astI, i_astL, i_astD, i_alen, i_ret, i_iret, i_zret, i_lret, i_fret, i_dret, i_aret, i_invS0, i_invV0, i_m2, i_m1, i_ml, i_obj, lk, lkp, stf1, stf2, Value.category, rV, xTo, lv_args, xCk, xCat, xRc, xAk, hg_S, hg_I, hg_J, hg_D, hg_R, hs_I, hs_J, hs_D, hs_R, uI_at, uJ_at, uD_at, uR_at, List.take_succ_cons, List.take_zero, List.drop_succ_cons, List.drop_zero, List.reverse_cons, List.reverse_nil, List.nil_append, List.cons_append, List.map_cons, List.map_nil, List.sum_cons, List.sum_nil, List.length_cons, List.length_nil, Option.toList_some, Option.toList_none, true_and, and_true, false_and, and_false, true_implies, false_implies, implies_true, not_true_eq_false, not_false_eq_true, ne_eq, if_true, if_false, Bool.and_true, Bool.true_and, decide_true, decide_false, reduceIte, reduceCtorEq, Bool.and_self, Bool.and_eq_true, decide_eq_true_eq, and_self, true_or, or_true, false_or, or_false, Nat.zero_add, Nat.add_zero, eq_self, Nat.reduceEqDiff, Nat.reduceLeDiff, Nat.reduceLT, Nat.reduceAdd, Nat.reduceSub, Nat.reduceMul, LC_out hL, e1, R113 hL h9 (bal_n k (by omega)), ne_eq, i1_0, not_false_eq_true, e112_112, B112_112, q_288s, ih]
theorem L112 (hL : LC S R) (hX : XL n E S I R) (hB : EB E n) (h9 : I 110 9 = 0) (kk : ∀ f, Q (.ok (some (.int 0))) (S, rI I 153 f, J, D, R) b) : xRun xT 112 0 [(0, .ref 130)] [] (S, I, J, D, R) b Q := by
  have S153 : S 153 = (100, 4913) := (LE_out hX.1).2.2.2.2.2.2.2.2.1
  have h10 := L112_10 (J := J) (D := D) (b := b) (Q := Q) hL hX hB (fun f => by
    have h84 := R112_84 (I := rI I 153 f) (J := J) (D := D) (b := b) (Q := Q) hL hX.1 h9 577 0 (by decide)
    rw [show (nI 0 - 288 : Int32) = -288 from by decide] at h84
    rw [e112_78]
    simp only [B112_78, xSeq, i_push, i_load, i_iload, i_lload, i_dload, i_aload, i_istore, i_astore, i_lstore, i_dstore, i_iinc, i_ii, i_iiz, i_ll, i_llz, i_lli, i_li, i_i, i_l, i_i2l, i_l2i, i_dup, i_dup2, i_dup2w, i_dupx1, i_pop, i_pop2, i_goto, i_ifc, i_icmp, i_getI, i_getL, i_getR, i_putI, i_putZ, i_putL, i_putR, i_aldI, i_aldB, i_aldL, i_aldD, i_astI, i_astL, i_astD, i_alen, i_ret, i_iret, i_zret, i_lret, i_fret, i_dret, i_aret, i_invS0, i_invV0, i_m2, i_m1, i_ml, i_obj, lk, lkp, stf1, stf2, Value.category, rV, xTo, lv_args, xCk, xCat, xRc, xAk, hg_S, hg_I, hg_J, hg_D, hg_R, hs_I, hs_J, hs_D, hs_R, uI_at, uJ_at, uD_at, uR_at, List.take_succ_cons, List.take_zero, List.drop_succ_cons, List.drop_zero, List.reverse_cons, List.reverse_nil, List.nil_append, List.cons_append, List.map_cons, List.map_nil, List.sum_cons, List.sum_nil, List.length_cons, List.length_nil, Option.toList_some, Option.toList_none, true_and, and_true, false_and, and_false, true_implies, false_implies, implies_true, not_true_eq_false, not_false_eq_true, ne_eq, if_true, if_false, Bool.and_true, Bool.true_and, decide_true, decide_false, reduceIte, reduceCtorEq, Bool.and_self, Bool.and_eq_true, decide_eq_true_eq, and_self, true_or, or_true, false_or, or_false, Nat.zero_add, Nat.add_zero, eq_self, Nat.reduceEqDiff, Nat.reduceLeDiff, Nat.reduceLT, Nat.reduceAdd, Nat.reduceSub, Nat.reduceMul, h84]
    exact kk f) n 0 (fill (I 153) 0 4913) (by omega)
  rw [nI_0] at h10
  rw [e112_0]
  simp only [B112_0, xSeq, i_push, i_load, i_iload, i_lload, i_dload, i_aload, i_istore, i_astore, i_lstore, i_dstore, i_iinc, i_ii, i_iiz, i_ll, i_llz, i_lli, i_li, i_i, i_l, i_i2l, i_l2i, i_dup, i_dup2, i_dup2w, i_dupx1, i_pop, i_pop2, i_goto, i_ifc, i_icmp, i_getI, i_getL, i_getR, i_putI, i_putZ, i_putL, i_putR, i_aldI, i_aldB, i_aldL, i_aldD, i_astI, i_astL, i_astD, i_alen, i_ret, i_iret, i_zret, i_lret, i_fret, i_dret, i_aret, i_invS0, i_invV0, i_m2, i_m1, i_ml, i_obj, lk, lkp, stf1, stf2, Value.category, rV, xTo, lv_args, xCk, xCat, xRc, xAk, hg_S, hg_I, hg_J, hg_D, hg_R, hs_I, hs_J, hs_D, hs_R, uI_at, uJ_at, uD_at, uR_at, List.take_succ_cons, List.take_zero, List.drop_succ_cons, List.drop_zero, List.reverse_cons, List.reverse_nil, List.nil_append, List.cons_append, List.map_cons, List.map_nil, List.sum_cons, List.sum_nil, List.length_cons, List.length_nil, Option.toList_some, Option.toList_none, true_and, and_true, false_and, and_false, true_implies, false_implies, implies_true, not_true_eq_false, not_false_eq_true, ne_eq, if_true, if_false, Bool.and_true, Bool.true_and, decide_true, decide_false, reduceIte, reduceCtorEq, Bool.and_self, Bool.and_eq_true, decide_eq_true_eq, and_self, true_or, or_true, false_or, or_false, Nat.zero_add, Nat.add_zero, eq_self, Nat.reduceEqDiff, Nat.reduceLeDiff, Nat.reduceLT, Nat.reduceAdd, Nat.reduceSub, Nat.reduceMul, LC_out hL, LE_out hX.1, Y6 (o := 153) (L := 4913) S153 (by decide)]
  exact h10
theorem R313_23 (hL : LM S R) (h5 : I 300 5 = 0) (h10 : I 300 10 = nI n) (hn : n ≤ 16) : xRun xT 313 23 [(0, .ref 200), (1, .int 0), (2, .int 0)] [] (S, I, J, D, R) b Q = Q (.ok (some (.int 0))) (S, I, J, D, R) b := by
  have hp := pow16 hn
  have hp0 := Nat.two_pow_pos n
  have e1 : (nI (2 ^ n) ≤ 0) = False := eq_false (nI_nle hp0 (by omega))
  rw [e313_23]
  simp only [B313_23, xSeq, i_push, i_load, i_iload, i_lload, i_dload, i_aload, i_istore, i_astore, i_lstore, i_dstore, i_iinc, i_ii, i_iiz, i_ll, i_llz, i_lli, i_li, i_i, i_l, i_i2l, i_l2i, i_dup, i_dup2, i_dup2w, i_dupx1, i_pop, i_pop2, i_goto, i_ifc, i_icmp, i_getI, i_getL, i_getR, i_putI, i_putZ, i_putL, i_putR, i_aldI, i_aldB, i_aldL, i_aldD, i_astI, i_astL, i_astD, i_alen, i_ret, i_iret, i_zret, i_lret, i_fret, i_dret, i_aret, i_invS0, i_invV0, i_m2, i_m1, i_ml, i_obj, lk, lkp, stf1, stf2, Value.category, rV, xTo, lv_args, xCk, xCat, xRc, xAk, hg_S, hg_I, hg_J, hg_D, hg_R, hs_I, hs_J, hs_D, hs_R, uI_at, uJ_at, uD_at, uR_at, List.take_succ_cons, List.take_zero, List.drop_succ_cons, List.drop_zero, List.reverse_cons, List.reverse_nil, List.nil_append, List.cons_append, List.map_cons, List.map_nil, List.sum_cons, List.sum_nil, List.length_cons, List.length_nil, Option.toList_some, Option.toList_none, true_and, and_true, false_and, and_false, true_implies, false_implies, implies_true, not_true_eq_false, not_false_eq_true, ne_eq, if_true, if_false, Bool.and_true, Bool.true_and, decide_true, decide_false, reduceIte, reduceCtorEq, Bool.and_self, Bool.and_eq_true, decide_eq_true_eq, and_self, true_or, or_true, false_or, or_false, Nat.zero_add, Nat.add_zero, eq_self, Nat.reduceEqDiff, Nat.reduceLeDiff, Nat.reduceLT, Nat.reduceAdd, Nat.reduceSub, Nat.reduceMul, xi144_0, ix_0, xi144_1, ix_1, xi144_2, ix_2, xi144_3, ix_3, xi144_4, ix_4, xi144_5, ix_5, xi144_6, ix_6, xi144_7, ix_7, xi144_8, ix_8, xi144_9, ix_9, xi144_10, ix_10, LM_out hL, R303 hL h10 (show n < 31 by omega), e1, h5, e313_100, B313_100]
end
/-! ===== doubles within bounds ===== -/
section
theorem fp_n (a : UInt64) : isNaN64 a = FP.Core.dIsNaN a := by
  rw [Bool.eq_iff_iff, FP.Core.isNaN_bits]
  unfold isNaN64
  rw [decide_eq_true_eq, ← FP.Core.mask_toNat]
  exact UInt64.lt_iff_toNat_lt
/-- a double's magnitude, in units of the least one -/
def fz (x : UInt64) : Nat := FP.Core.zmag FP.Core.b64 (FP.Core.val64 x)
/-- finite, at most N units -/
def fb (N : Nat) (x : UInt64) : Prop := (∃ s c q, FP.Core.val64 x = .fin s c q) ∧ fz x ≤ N
/-- not negative, finite, from L to N units -/
def gp (L N : Nat) (x : UInt64) : Prop := (∃ c q, FP.Core.val64 x = .fin false c q) ∧ L ≤ fz x ∧ fz x ≤ N
/-- a number of the format -/
def rp (N : Nat) : Prop := ∃ s c q, FP.Core.fits FP.Core.b64 (.fin s c q) ∧ FP.Core.zmag FP.Core.b64 (.fin s c q) = N
theorem gp_fb {L N : Nat} {x : UInt64} (h : gp L N x) : fb N x := by
  obtain ⟨⟨c, q, h1⟩, h2, h3⟩ := h
  exact ⟨⟨false, c, q, h1⟩, h3⟩
theorem fb_n {N : Nat} {x : UInt64} (h : fb N x) : isNaN64 x = false := by
  rw [fp_n, FP.Core.notNaN_iff]
  obtain ⟨⟨s, c, q, h1⟩, -⟩ := h
  rw [h1]
  exact FP.Core.Datum.noConfusion
theorem fb_le {N M : Nat} {x : UInt64} (h : fb N x) (hM : N ≤ M) : fb M x := ⟨h.1, Nat.le_trans h.2 hM⟩
theorem gp_le {L N L' N' : Nat} {x : UInt64} (h : gp L N x) (h1 : L' ≤ L) (h2 : N ≤ N') : gp L' N' x := ⟨h.1, Nat.le_trans h1 h.2.1, Nat.le_trans h.2.2 h2⟩
theorem rp_val {x : UInt64} {N : Nat} (h : fb N x) (e : fz x = N) : rp N := by
  obtain ⟨⟨s, c, q, h1⟩, -⟩ := h
  have hf := FP.Core.val64_fits x
  unfold fz at e
  rw [h1] at hf e
  exact ⟨s, c, q, hf, e⟩
theorem rr_le {s : Bool} {A B N : Nat} {e e0 : Int} (hB : 0 < B) (hN : rp N) (h0 : e0 ≤ FP.Core.b64.qmin) (h0e : e0 ≤ e) (h : FP.Core.inUnits A e e0 ≤ N * 2 ^ (FP.Core.b64.qmin - e0).toNat * B) :
    (∃ c q, FP.Core.roundRatio FP.Core.b64 s A B e = .fin s c q) ∧ FP.Core.zmag FP.Core.b64 (FP.Core.roundRatio FP.Core.b64 s A B e) ≤ N := by
  obtain ⟨t, c', q', h1, h2⟩ := hN
  have h3 := FP.Core.zmag_roundRatio_le FP.Core.good_b64 (s := s) hB h1 FP.Core.Datum.noConfusion h0 h0e (by rw [h2]; exact h)
  rw [h2] at h3
  refine ⟨?_, h3⟩
  rcases FP.Core.roundRatio_cases FP.Core.b64 s A B e with h4 | h4
  · exact h4
  · exfalso
    have h5 := FP.Core.zmag_lt_top FP.Core.good_b64 h1
    rw [h4] at h3
    have h6 : FP.Core.zmag FP.Core.b64 (.fin t c' q') = FP.Core.inUnits c' q' FP.Core.b64.qmin := rfl
    rw [← h6, h2] at h5
    exact absurd h5 (Nat.not_lt.mpr h3)
theorem rr_ge {s : Bool} {A B L : Nat} {e e0 : Int} (hB : 0 < B) (hL : rp L) (h0 : e0 ≤ FP.Core.b64.qmin) (h0e : e0 ≤ e) (h : L * 2 ^ (FP.Core.b64.qmin - e0).toNat * B ≤ FP.Core.inUnits A e e0) :
    L ≤ FP.Core.zmag FP.Core.b64 (FP.Core.roundRatio FP.Core.b64 s A B e) := by
  obtain ⟨t, c', q', h1, h2⟩ := hL
  have h3 := FP.Core.zmag_roundRatio_ge FP.Core.good_b64 (s := s) (e := e) (A := A) hB h1 h0 h0e (by rw [h2]; exact h)
  rw [h2] at h3
  exact h3
theorem fb_add {A B N : Nat} {a b : UInt64} (ha : fb A a) (hb : fb B b) (hN : rp N) (h : A + B ≤ N) : fb N (FP.dadd a b) := by
  obtain ⟨⟨s, c, q, ea⟩, la⟩ := ha
  obtain ⟨⟨t, d, r, eb⟩, lb⟩ := hb
  have fa := FP.Core.val64_fits a
  have f2 := FP.Core.val64_fits b
  unfold fz at la lb
  rw [ea] at fa la
  rw [eb] at f2 lb
  obtain ⟨sg, n, e, h1, h2, h3⟩ := FP.Core.sum_units fa f2
  have h4 : FP.Core.inUnits n e FP.Core.b64.qmin ≤ N := by
    have h5 := FP.Core.natAbs_signed sg (FP.Core.inUnits n e FP.Core.b64.qmin)
    rw [h3] at h5
    have h6 := Int.natAbs_add_le (FP.Core.zval FP.Core.b64 (.fin s c q)) (FP.Core.zval FP.Core.b64 (.fin t d r))
    have h7 : (FP.Core.zval FP.Core.b64 (.fin s c q)).natAbs = FP.Core.zmag FP.Core.b64 (.fin s c q) := FP.Core.natAbs_signed _ _
    have h8 : (FP.Core.zval FP.Core.b64 (.fin t d r)).natAbs = FP.Core.zmag FP.Core.b64 (.fin t d r) := FP.Core.natAbs_signed _ _
    omega
  have h9 : FP.Core.val64 (FP.dadd a b) = FP.Core.roundRatio FP.Core.b64 sg n 1 e := by
    have := FP.Core.val64_dadd a b
    rw [ea, eb, h1] at this
    exact this
  obtain ⟨⟨c2, q2, k1⟩, k2⟩ := rr_le (s := sg) (A := n) (B := 1) (e := e) (e0 := FP.Core.b64.qmin) (by decide) hN (Int.le_refl _) h2 (by rw [Int.sub_self, Nat.mul_one, show (2 : Nat) ^ (0 : Int).toNat = 1 from rfl, Nat.mul_one]; exact h4)
  refine ⟨⟨sg, c2, q2, by rw [h9]; exact k1⟩, ?_⟩
  unfold fz
  rw [h9]
  exact k2
theorem fb_neg {A : Nat} {a : UInt64} (ha : fb A a) : fb A (FP.Core.dneg a) := by
  obtain ⟨⟨s, c, q, ea⟩, la⟩ := ha
  have e : FP.Core.val64 (FP.Core.dneg a) = FP.Core.negate (FP.Core.val64 a) := FP.Core.val64_dneg a
  unfold fz at la
  rw [ea] at e la
  refine ⟨⟨!s, c, q, e⟩, ?_⟩
  unfold fz
  rw [e]
  exact la
theorem fb_sub {A B N : Nat} {a b : UInt64} (ha : fb A a) (hb : fb B b) (hN : rp N) (h : A + B ≤ N) : fb N (FP.dsub a b) := by
  have e : FP.dsub a b = FP.dadd a (FP.Core.dneg b) := FP.Core.dsub_eq a b
  rw [e]
  exact fb_add ha (fb_neg hb) hN h
/-- one, in units -/
def uo : Nat := 2 ^ 1074
theorem uo_pos : 0 < uo := Nat.two_pow_pos _
theorem uo_e : (2 : Nat) ^ (FP.Core.b64.qmin - 2 * FP.Core.b64.qmin).toNat = uo := by
  have : (FP.Core.b64.qmin - 2 * FP.Core.b64.qmin).toNat = 1074 := by decide
  rw [this]
  rfl
theorem mul_v {a b : UInt64} {s t : Bool} {c d : Nat} {q r : Int} (ea : FP.Core.val64 a = .fin s c q) (eb : FP.Core.val64 b = .fin t d r) : FP.Core.val64 (FP.dmul a b) = FP.Core.roundRatio FP.Core.b64 (s != t) (c * d) 1 (q + r) ∧ 2 * FP.Core.b64.qmin ≤ q + r ∧ FP.Core.inUnits (c * d) (q + r) (2 * FP.Core.b64.qmin) = fz a * fz b := by
  have fa := FP.Core.val64_fits a
  have f2 := FP.Core.val64_fits b
  unfold fz
  rw [ea] at fa ⊢
  rw [eb] at f2 ⊢
  obtain ⟨h1, h2, h3⟩ := FP.Core.product_units fa f2
  refine ⟨?_, h2, h3⟩
  have := FP.Core.val64_dmul a b
  rw [ea, eb, h1] at this
  exact this
theorem fb_mul {A B N : Nat} {a b : UInt64} (ha : fb A a) (hb : fb B b) (hN : rp N) (h : A * B ≤ N * uo) : fb N (FP.dmul a b) := by
  obtain ⟨⟨s, c, q, ea⟩, la⟩ := ha
  obtain ⟨⟨t, d, r, eb⟩, lb⟩ := hb
  obtain ⟨h1, h2, h3⟩ := mul_v ea eb
  obtain ⟨⟨c2, q2, k1⟩, k2⟩ := rr_le (s := s != t) (A := c * d) (B := 1) (e := q + r) (e0 := 2 * FP.Core.b64.qmin) (by decide) hN (by decide) h2 (by rw [h3, uo_e, Nat.mul_one]; exact Nat.le_trans (Nat.mul_le_mul la lb) h)
  refine ⟨⟨_, c2, q2, by rw [h1]; exact k1⟩, ?_⟩
  unfold fz
  rw [h1]
  exact k2
theorem gp_mul {L L' l A B N : Nat} {a b : UInt64} (ha : gp L A a) (hb : gp L' B b) (hN : rp N) (h : A * B ≤ N * uo) (hl : rp l) (h' : l * uo ≤ L * L') : gp l N (FP.dmul a b) := by
  obtain ⟨⟨c, q, ea⟩, ga, la⟩ := ha
  obtain ⟨⟨d, r, eb⟩, gb, lb⟩ := hb
  obtain ⟨h1, h2, h3⟩ := mul_v ea eb
  obtain ⟨⟨c2, q2, k1⟩, k2⟩ := rr_le (s := false != false) (A := c * d) (B := 1) (e := q + r) (e0 := 2 * FP.Core.b64.qmin) (by decide) hN (by decide) h2 (by rw [h3, uo_e, Nat.mul_one]; exact Nat.le_trans (Nat.mul_le_mul la lb) h)
  have k3 := rr_ge (s := false != false) (A := c * d) (B := 1) (e := q + r) (e0 := 2 * FP.Core.b64.qmin) (by decide) hl (by decide) h2 (by rw [h3, uo_e, Nat.mul_one]; exact Nat.le_trans h' (Nat.mul_le_mul ga gb))
  refine ⟨⟨c2, q2, by rw [h1]; exact k1⟩, ?_, ?_⟩
  · unfold fz
    rw [h1]
    exact k3
  · unfold fz
    rw [h1]
    exact k2
theorem gp_add {L L' l A B N : Nat} {a b : UInt64} (ha : gp L A a) (hb : gp L' B b) (hN : rp N) (h : A + B ≤ N) (hl : rp l) (h' : l ≤ L + L') : gp l N (FP.dadd a b) := by
  have hfb := fb_add (gp_fb ha) (gp_fb hb) hN h
  obtain ⟨⟨c, q, ea⟩, ga, la⟩ := ha
  obtain ⟨⟨d, r, eb⟩, gb, lb⟩ := hb
  have fa := FP.Core.val64_fits a
  have f2 := FP.Core.val64_fits b
  unfold fz at ga gb
  rw [ea] at fa ga
  rw [eb] at f2 gb
  obtain ⟨sg, n, e, h1, h2, h3⟩ := FP.Core.sum_units fa f2
  have h9 : FP.Core.val64 (FP.dadd a b) = FP.Core.roundRatio FP.Core.b64 sg n 1 e := by
    have := FP.Core.val64_dadd a b
    rw [ea, eb, h1] at this
    exact this
  have hz : FP.Core.zval FP.Core.b64 (.fin false c q) + FP.Core.zval FP.Core.b64 (.fin false d r) = ((FP.Core.zmag FP.Core.b64 (.fin false c q) + FP.Core.zmag FP.Core.b64 (.fin false d r) : Nat) : Int) := rfl
  have hsg : sg = false := by
    have e1 : FP.Core.exactSum (.fin false c q) (.fin false d r) = .fin (FP.Core.sumSign false false (FP.Core.sumUnits false c q false d r (min q r))) (FP.Core.sumUnits false c q false d r (min q r)).natAbs (min q r) := rfl
    rw [h1] at e1
    have e2 := (FP.Core.Datum.fin.inj e1).1
    rw [e2]
    unfold FP.Core.sumSign
    split
    · rfl
    · refine decide_eq_false (fun hlt => ?_)
      have e3 : FP.Core.sumUnits false c q false d r (min q r) = ((FP.Core.inUnits c q (min q r) + FP.Core.inUnits d r (min q r) : Nat) : Int) := rfl
      rw [e3] at hlt
      omega
  subst hsg
  have h4 : l ≤ FP.Core.inUnits n e FP.Core.b64.qmin := by
    rw [hz] at h3
    have h5 : FP.Core.signed false (FP.Core.inUnits n e FP.Core.b64.qmin) = (FP.Core.inUnits n e FP.Core.b64.qmin : Int) := rfl
    rw [h5] at h3
    omega
  have k3 := rr_ge (s := false) (A := n) (B := 1) (e := e) (e0 := FP.Core.b64.qmin) (by decide) hl (Int.le_refl _) h2 (by rw [Int.sub_self, Nat.mul_one, show (2 : Nat) ^ (0 : Int).toNat = 1 from rfl, Nat.mul_one]; exact h4)
  obtain ⟨⟨s2, c2, q2, k1⟩, k2⟩ := hfb
  refine ⟨⟨c2, q2, ?_⟩, ?_, k2⟩
  · have := FP.Core.sgn_roundRatio FP.Core.b64 false n 1 e
    rw [← h9, k1] at this
    have e4 : s2 = false := this
    rw [k1, e4]
  · unfold fz
    rw [h9]
    exact k3
theorem div_v {a b : UInt64} {s t : Bool} {c d : Nat} {q r : Int} (ea : FP.Core.val64 a = .fin s c q) (eb : FP.Core.val64 b = .fin t d r) (hd : 0 < fz b) : 0 < d ∧ FP.Core.val64 (FP.ddiv a b) = FP.Core.roundRatio FP.Core.b64 (s != t) c d (q - r) ∧ FP.Core.b64.qmin - 971 ≤ q - r - 1074 + 1074 ∧ ∃ P, 0 < P ∧ FP.Core.inUnits c (q - r) (FP.Core.b64.qmin - 2000) * P = fz a * 2 ^ 2000 * uo ∧ d * P = fz b := by
  have fa := FP.Core.val64_fits a
  have f2 := FP.Core.val64_fits b
  unfold fz at hd ⊢
  rw [ea] at fa ⊢
  rw [eb] at f2 hd ⊢
  have hd0 : 0 < d := by
    rcases Nat.eq_zero_or_pos d with h | h
    · subst h
      have : FP.Core.zmag FP.Core.b64 (.fin t 0 r) = 0 * 2 ^ (r - FP.Core.b64.qmin).toNat := rfl
      rw [this, Nat.zero_mul] at hd
      exact absurd hd (Nat.lt_irrefl 0)
    · exact h
  have q1 : (-1074 : Int) ≤ q := by have := fa.2.1; rw [FP.Core.qmin_b64] at this; exact this
  have q3 : (-1074 : Int) ≤ r := by have := f2.2.1; rw [FP.Core.qmin_b64] at this; exact this
  have q2 : q ≤ 971 := by have := fa.2.2.1; exact Int.le_trans this (by decide)
  have q4 : r ≤ 971 := by have := f2.2.2.1; exact Int.le_trans this (by decide)
  refine ⟨hd0, ?_, by rw [FP.Core.qmin_b64]; omega, 2 ^ (r - FP.Core.b64.qmin).toNat, Nat.two_pow_pos _, ?_, rfl⟩
  · have := FP.Core.val64_ddiv a b
    rw [ea, eb] at this
    have e1 : FP.Core.quotient FP.Core.b64 (.fin s c q) (.fin t d r) = if d = 0 then (if c = 0 then .nan else .inf (s != t)) else FP.Core.roundRatio FP.Core.b64 (s != t) c d (q - r) := rfl
    rw [e1, if_neg (by omega)] at this
    exact this
  · show c * 2 ^ (q - r - (FP.Core.b64.qmin - 2000)).toNat * 2 ^ (r - FP.Core.b64.qmin).toNat = c * 2 ^ (q - FP.Core.b64.qmin).toNat * 2 ^ 2000 * uo
    unfold uo
    rw [FP.Core.qmin_b64, Nat.mul_assoc, ← Nat.pow_add, Nat.mul_assoc, Nat.mul_assoc, ← Nat.pow_add, ← Nat.pow_add]
    congr 2
    omega
theorem gp_div {L L' l A B N : Nat} {a b : UInt64} (ha : gp L A a) (hb : gp L' B b) (h0 : 0 < L') (hN : rp N) (h : A * uo ≤ N * L') (hl : rp l) (h' : l * B ≤ L * uo) : gp l N (FP.ddiv a b) := by
  obtain ⟨⟨c, q, ea⟩, ga, la⟩ := ha
  obtain ⟨⟨d, r, eb⟩, gb, lb⟩ := hb
  obtain ⟨h1, h2, h3, P, p0, p1, p2⟩ := div_v ea eb (Nat.lt_of_lt_of_le h0 gb)
  have e0 : (FP.Core.b64.qmin - (FP.Core.b64.qmin - 2000)).toNat = 2000 := by decide
  have hq : FP.Core.b64.qmin - 2000 ≤ q - r := by
    rw [FP.Core.qmin_b64] at h3 ⊢
    omega
  obtain ⟨⟨c2, q2, k1⟩, k2⟩ := rr_le (s := false != false) (A := c) (B := d) (e := q - r) (e0 := FP.Core.b64.qmin - 2000) h1 hN (by decide) hq (by
    rw [e0]
    refine Nat.le_of_mul_le_mul_right (c := P) ?_ p0
    rw [p1, Nat.mul_assoc (N * 2 ^ 2000), p2]
    have k : fz a * uo ≤ N * fz b := Nat.le_trans (Nat.mul_le_mul_right _ la) (Nat.le_trans h (Nat.mul_le_mul_left _ gb))
    calc fz a * 2 ^ 2000 * uo = fz a * uo * 2 ^ 2000 := by rw [Nat.mul_right_comm]
      _ ≤ N * fz b * 2 ^ 2000 := Nat.mul_le_mul_right _ k
      _ = N * 2 ^ 2000 * fz b := by rw [Nat.mul_right_comm])
  have k3 := rr_ge (s := false != false) (A := c) (B := d) (e := q - r) (e0 := FP.Core.b64.qmin - 2000) h1 hl (by decide) hq (by
    rw [e0]
    refine Nat.le_of_mul_le_mul_right (c := P) ?_ p0
    rw [p1, Nat.mul_assoc (l * 2 ^ 2000), p2]
    have k : l * fz b ≤ fz a * uo := Nat.le_trans (Nat.mul_le_mul_left _ lb) (Nat.le_trans h' (Nat.mul_le_mul_right _ ga))
    calc l * 2 ^ 2000 * fz b = l * fz b * 2 ^ 2000 := by rw [Nat.mul_right_comm]
      _ ≤ fz a * uo * 2 ^ 2000 := Nat.mul_le_mul_right _ k
      _ = fz a * 2 ^ 2000 * uo := by rw [Nat.mul_right_comm])
  refine ⟨⟨c2, q2, by rw [h2]; exact k1⟩, ?_, ?_⟩
  · unfold fz
    rw [h2]
    exact k3
  · unfold fz
    rw [h2]
    exact k2
theorem fb_div {L' A B N : Nat} {a b : UInt64} (ha : fb A a) (hb : gp L' B b) (h0 : 0 < L') (hN : rp N) (h : A * uo ≤ N * L') : fb N (FP.ddiv a b) := by
  obtain ⟨⟨s, c, q, ea⟩, la⟩ := ha
  obtain ⟨⟨d, r, eb⟩, gb, lb⟩ := hb
  obtain ⟨h1, h2, h3, P, p0, p1, p2⟩ := div_v ea eb (Nat.lt_of_lt_of_le h0 gb)
  have e0 : (FP.Core.b64.qmin - (FP.Core.b64.qmin - 2000)).toNat = 2000 := by decide
  have hq : FP.Core.b64.qmin - 2000 ≤ q - r := by
    rw [FP.Core.qmin_b64] at h3 ⊢
    omega
  obtain ⟨⟨c2, q2, k1⟩, k2⟩ := rr_le (s := s != false) (A := c) (B := d) (e := q - r) (e0 := FP.Core.b64.qmin - 2000) h1 hN (by decide) hq (by
    rw [e0]
    refine Nat.le_of_mul_le_mul_right (c := P) ?_ p0
    rw [p1, Nat.mul_assoc (N * 2 ^ 2000), p2]
    have k : fz a * uo ≤ N * fz b := Nat.le_trans (Nat.mul_le_mul_right _ la) (Nat.le_trans h (Nat.mul_le_mul_left _ gb))
    calc fz a * 2 ^ 2000 * uo = fz a * uo * 2 ^ 2000 := by rw [Nat.mul_right_comm]
      _ ≤ N * fz b * 2 ^ 2000 := Nat.mul_le_mul_right _ k
      _ = N * 2 ^ 2000 * fz b := by rw [Nat.mul_right_comm])
  refine ⟨⟨_, c2, q2, by rw [h2]; exact k1⟩, ?_⟩
  unfold fz
  rw [h2]
  exact k2
theorem gp_0 : gp 0 0 FP.dconst0 := ⟨⟨0, _, FP.Core.val64_dconst0⟩, Nat.zero_le _, by
  unfold fz
  have e : FP.Core.val64 FP.dconst0 = .fin false 0 FP.Core.b64.qmin := FP.Core.val64_dconst0
  rw [e]
  show 0 * _ ≤ 0
  rw [Nat.zero_mul]
  exact Nat.le_refl 0⟩
/-- a whole number as a double -/
theorem l2d_z {a : Int64} {k : Nat} (h : a.toInt.natAbs = k) (hk : k < 9007199254740992) : fb (k * uo) (FP.l2d a) ∧ fz (FP.l2d a) = k * uo := by
  have hw : FP.Core.Whole a.toInt (FP.Core.val64 (FP.l2d a)) := FP.Core.l2d_whole (a := a) ⟨by omega, by omega⟩
  have h1 := FP.Core.whole_zval FP.Core.good_b64 (FP.Core.val64_fits (FP.l2d a)) hw
  have h2 : (FP.Core.zval FP.Core.b64 (FP.Core.val64 (FP.l2d a))).natAbs = fz (FP.l2d a) := FP.Core.natAbs_signed _ _
  have h3 : fz (FP.l2d a) = k * uo := by
    have e : (2 : Nat) ^ (-FP.Core.b64.qmin).toNat = uo := by
      have : (-FP.Core.b64.qmin).toNat = 1074 := by decide
      rw [this]
      rfl
    rw [← h2, h1, Int.natAbs_mul, Int.natAbs_natCast, h, e]
  obtain ⟨c, q, h4⟩ := FP.Core.l2d_shape a
  exact ⟨⟨⟨_, c, q, h4⟩, Nat.le_of_eq h3⟩, h3⟩
theorem rp_n {k : Nat} (hk : k < 9007199254740992) : rp (k * uo) := by
  have h := l2d_z (a := lN k) (k := k) (by
    rw [pk_lT (by omega)]
    exact Int.natAbs_natCast k) hk
  exact rp_val h.1 h.2
theorem rp_0 : rp 0 := by
  have := rp_n (k := 0) (by decide)
  rw [Nat.zero_mul] at this
  exact this
theorem i2d_n {k : Nat} (hk : k < 2147483648) : gp (k * uo) (k * uo) (FP.i2d (nI k)) := by
  have e : FP.i2d (nI k) = FP.l2d (nI k).toInt64 := FP.Core.i2d_l2d (nI k)
  have e2 : (nI k).toInt64 = lN k := nI_l hk
  have hT : (lN k).toInt = (k : Int) := pk_lT (by omega)
  rw [e, e2]
  obtain ⟨h1, h2⟩ := l2d_z (a := lN k) (k := k) (by rw [hT]; exact Int.natAbs_natCast k) (by omega)
  obtain ⟨c, q, h3⟩ := FP.Core.l2d_shape (lN k)
  rw [hT, decide_eq_false (by omega)] at h3
  exact ⟨⟨c, q, h3⟩, Nat.le_of_eq h2.symm, Nat.le_of_eq h2⟩
theorem gp_1 : gp uo uo FP.dconst1 := by
  have h := i2d_n (k := 1) (by decide)
  rw [Nat.one_mul] at h
  have e : FP.i2d (nI 1) = FP.dconst1 := by decide +kernel
  rw [e] at h
  exact h
/-- greater than nothing -/
theorem gp_cmp {L N : Nat} {x : UInt64} (h : gp L N x) (h0 : 0 < L) : FP.dcmp x FP.dconst0 = some .gt := by
  obtain ⟨⟨c, q, h1⟩, h2, h3⟩ := h
  refine FP.Core.dcmp_gt.mpr ⟨by rw [h1]; exact FP.Core.Datum.noConfusion, by decide +kernel, ?_⟩
  have e1 : FP.Core.zval FP.Core.b64 (FP.Core.val64 FP.dconst0) = 0 := by decide +kernel
  have e2 : FP.Core.zval FP.Core.b64 (FP.Core.val64 x) = (fz x : Int) := by
    unfold FP.Core.zval fz
    rw [h1]
    rfl
  rw [e1, e2]
  omega
end
/-! ===== weights and sums ===== -/
section
/-- the ratio; its powers -/
def rtP (a b : Nat) : UInt64 := FP.ddiv (FP.i2d (nI a)) (FP.i2d (nI b))
def wP (r : UInt64) : Nat → UInt64
  | 0 => FP.dconst1
  | i + 1 => FP.dmul (wP r i) r
def AB (a b : Nat) : Prop := 0 < a ∧ a < b ∧ b ≤ 99
theorem rtP_gp {a b : Nat} (h : AB a b) : gp 0 uo (rtP a b) := by
  obtain ⟨h1, h2, h3⟩ := h
  have u0 := uo_pos
  refine gp_div (i2d_n (k := a) (by omega)) (i2d_n (k := b) (by omega)) (Nat.mul_pos (by omega) u0) ?_ ?_ rp_0 (by rw [Nat.zero_mul]; exact Nat.zero_le _)
  · have := rp_n (k := 1) (by decide)
    rw [Nat.one_mul] at this
    exact this
  · rw [Nat.mul_assoc, Nat.mul_left_comm uo b uo]
    exact Nat.mul_le_mul_right _ (by omega)
theorem rp_u : rp uo := by
  have := rp_n (k := 1) (by decide)
  rw [Nat.one_mul] at this
  exact this
theorem wP_gp {r : UInt64} (h : gp 0 uo r) : ∀ i, gp 0 uo (wP r i)
  | 0 => gp_le gp_1 (Nat.zero_le _) (Nat.le_refl _)
  | i + 1 => gp_mul (wP_gp h i) h rp_u (Nat.le_refl _) rp_0 (by rw [Nat.zero_mul, Nat.zero_mul]; exact Nat.le_refl _)
variable {S : xS} {I : xI} {J : xJ} {D : xDb} {R : xR} {b : Nat × Nat} {Q : xQ} {n : Nat} {E : Nat → Int32} {x y : Nat}
theorem L106_16 (hL : LC S R) (h : AB x y)
    (kk : ∀ D', (∀ k, k < 289 → D' 139 k = wP (rtP x y) k) → (∀ o k, o ≠ 139 → D' o k = D o k) → Q (.ok none) (S, I, J, D', R) b) :
    ∀ (j i : Nat) (D1 : xDb), i + j = 289 → 0 < i → (∀ k, k < i → D1 139 k = wP (rtP x y) k) → (∀ o k, o ≠ 139 → D1 o k = D o k) → xRun xT 106 16 [(0, .ref 130), (3, .double (rtP x y)), (5, .int (nI i))] [] (S, I, J, D1, R) b Q
  | 0, i, D1, hi, h0, h1, h2 => by
    have e : i = 289 := by omega
    subst e
    rw [e106_16]
    simp only [B106_16, xSeq, i_push, i_load, i_iload, i_lload, i_dload, i_aload, i_istore, i_astore, i_lstore, i_dstore, i_iinc, i_ii, i_iiz, i_ll, i_llz, i_lli, i_li, i_i, i_l, i_i2l, i_l2i, i_dup, i_dup2, i_dup2w, i_dupx1, i_pop, i_pop2, i_goto, i_ifc, i_icmp, i_getI, i_getL, i_getR, i_putI, i_putZ, i_putL, i_putR, i_aldI, i_aldB, i_aldL, i_aldD, i_astI, i_astL, i_astD, i_alen, i_ret, i_iret, i_zret, i_lret, i_fret, i_dret, i_aret, i_invS0, i_invV0, i_m2, i_m1, i_ml, i_obj, lk, lkp, stf1, stf2, Value.category, rV, xTo, lv_args, xCk, xCat, xRc, xAk, hg_S, hg_I, hg_J, hg_D, hg_R, hs_I, hs_J, hs_D, hs_R, uI_at, uJ_at, uD_at, uR_at, List.take_succ_cons, List.take_zero, List.drop_succ_cons, List.drop_zero, List.reverse_cons, List.reverse_nil, List.nil_append, List.cons_append, List.map_cons, List.map_nil, List.sum_cons, List.sum_nil, List.length_cons, List.length_nil, Option.toList_some, Option.toList_none, true_and, and_true, false_and, and_false, true_implies, false_implies, implies_true, not_true_eq_false, not_false_eq_true, ne_eq, if_true, if_false, Bool.and_true, Bool.true_and, decide_true, decide_false, reduceIte, reduceCtorEq, Bool.and_self, Bool.and_eq_true, decide_eq_true_eq, and_self, true_or, or_true, false_or, or_false, Nat.zero_add, Nat.add_zero, eq_self, Nat.reduceEqDiff, Nat.reduceLeDiff, Nat.reduceLT, Nat.reduceAdd, Nat.reduceSub, Nat.reduceMul, show ((289 : Int32) ≤ nI 289) = True from eq_true (by decide), e106_48, B106_48]
    exact kk D1 h1 h2
  | j + 1, i, D1, hi, h0, h1, h2 => by
    have e1 : ((289 : Int32) ≤ nI i) = False := eq_false (by rw [show (289 : Int32) = nI 289 from rfl]; exact nI_ge (by omega) (by decide))
    have e2 : nI i - 1 = nI (i - 1) := by rw [show (1 : Int32) = nI 1 from rfl, nI_subn h0]
    have hn : isNaN64 (wP (rtP x y) i) = false := fb_n (gp_fb (wP_gp (rtP_gp h) i))
    have e3 : FP.dmul (wP (rtP x y) (i - 1)) (rtP x y) = wP (rtP x y) i := by
      obtain ⟨i', rfl⟩ : ∃ i', i = i' + 1 := ⟨i - 1, by omega⟩
      rfl
    rw [e106_16]
    simp only [B106_16, xSeq, i_push, i_load, i_iload, i_lload, i_dload, i_aload, i_istore, i_astore, i_lstore, i_dstore, i_iinc, i_ii, i_iiz, i_ll, i_llz, i_lli, i_li, i_i, i_l, i_i2l, i_l2i, i_dup, i_dup2, i_dup2w, i_dupx1, i_pop, i_pop2, i_goto, i_ifc, i_icmp, i_getI, i_getL, i_getR, i_putI, i_putZ, i_putL, i_putR, i_aldI, i_aldB, i_aldL, i_aldD, i_astI, i_astL, i_astD, i_alen, i_ret, i_iret, i_zret, i_lret, i_fret, i_dret, i_aret, i_invS0, i_invV0, i_m2, i_m1, i_ml, i_obj, lk, lkp, stf1, stf2, Value.category, rV, xTo, lv_args, xCk, xCat, xRc, xAk, hg_S, hg_I, hg_J, hg_D, hg_R, hs_I, hs_J, hs_D, hs_R, uI_at, uJ_at, uD_at, uR_at, List.take_succ_cons, List.take_zero, List.drop_succ_cons, List.drop_zero, List.reverse_cons, List.reverse_nil, List.nil_append, List.cons_append, List.map_cons, List.map_nil, List.sum_cons, List.sum_nil, List.length_cons, List.length_nil, Option.toList_some, Option.toList_none, true_and, and_true, false_and, and_false, true_implies, false_implies, implies_true, not_true_eq_false, not_false_eq_true, ne_eq, if_true, if_false, Bool.and_true, Bool.true_and, decide_true, decide_false, reduceIte, reduceCtorEq, Bool.and_self, Bool.and_eq_true, decide_eq_true_eq, and_self, true_or, or_true, false_or, or_false, Nat.zero_add, Nat.add_zero, eq_self, Nat.reduceEqDiff, Nat.reduceLeDiff, Nat.reduceLT, Nat.reduceAdd, Nat.reduceSub, Nat.reduceMul, LC_out hL, e1, e2, nI_inP (show i < 289 by omega) (by decide), nI_ix (show i < 2147483648 by omega), nI_inP (show i - 1 < 289 by omega) (by decide), nI_ix (show i - 1 < 2147483648 by omega), h1 (i - 1) (by omega), i_dd, e3, al_eq hn, nI_1]
    refine L106_16 hL h kk j (i + 1) _ (by omega) (by omega) (fun k hk => ?_) (fun o k ho => ?_)
    · rw [uD_at]
      by_cases e : k = i
      · rw [if_pos ⟨rfl, e⟩, e]
      · rw [if_neg (fun h => e h.2)]
        exact h1 k (by omega)
    · rw [uD_at, if_neg (fun h => ho h.1)]
      exact h2 o k ho
theorem L106 (hL : LC S R) (h : AB x y)
    (kk : ∀ D', (∀ k, k < 289 → D' 139 k = wP (rtP x y) k) → (∀ o k, o ≠ 139 → D' o k = D o k) → Q (.ok none) (S, I, J, D', R) b) :
    xRun xT 106 0 [(0, .ref 130), (1, .int (nI x)), (2, .int (nI y))] [] (S, I, J, D, R) b Q := by
  have hn : isNaN64 (FP.ddiv (FP.i2d (nI x)) (FP.i2d (nI y))) = false := fb_n (gp_fb (rtP_gp h))
  have h16 := L106_16 (I := I) (J := J) (b := b) (Q := Q) hL h kk 288 1 (uD D 139 0 FP.dconst1) (by decide) (by decide) (fun k hk => by
    rw [uD_at, if_pos ⟨rfl, by omega⟩, show k = 0 by omega]
    rfl) (fun o k ho => by rw [uD_at, if_neg (fun h => ho h.1)])
  rw [e106_0]
  simp only [B106_0, xSeq, i_push, i_load, i_iload, i_lload, i_dload, i_aload, i_istore, i_astore, i_lstore, i_dstore, i_iinc, i_ii, i_iiz, i_ll, i_llz, i_lli, i_li, i_i, i_l, i_i2l, i_l2i, i_dup, i_dup2, i_dup2w, i_dupx1, i_pop, i_pop2, i_goto, i_ifc, i_icmp, i_getI, i_getL, i_getR, i_putI, i_putZ, i_putL, i_putR, i_aldI, i_aldB, i_aldL, i_aldD, i_astI, i_astL, i_astD, i_alen, i_ret, i_iret, i_zret, i_lret, i_fret, i_dret, i_aret, i_invS0, i_invV0, i_m2, i_m1, i_ml, i_obj, lk, lkp, stf1, stf2, Value.category, rV, xTo, lv_args, xCk, xCat, xRc, xAk, hg_S, hg_I, hg_J, hg_D, hg_R, hs_I, hs_J, hs_D, hs_R, uI_at, uJ_at, uD_at, uR_at, List.take_succ_cons, List.take_zero, List.drop_succ_cons, List.drop_zero, List.reverse_cons, List.reverse_nil, List.nil_append, List.cons_append, List.map_cons, List.map_nil, List.sum_cons, List.sum_nil, List.length_cons, List.length_nil, Option.toList_some, Option.toList_none, true_and, and_true, false_and, and_false, true_implies, false_implies, implies_true, not_true_eq_false, not_false_eq_true, ne_eq, if_true, if_false, Bool.and_true, Bool.true_and, decide_true, decide_false, reduceIte, reduceCtorEq, Bool.and_self, Bool.and_eq_true, decide_eq_true_eq, and_self, true_or, or_true, false_or, or_false, Nat.zero_add, Nat.add_zero, eq_self, Nat.reduceEqDiff, Nat.reduceLeDiff, Nat.reduceLT, Nat.reduceAdd, Nat.reduceSub, Nat.reduceMul, i_i2d, i_dd, al_eq hn, LC_out hL, xi0 (show 0 < 289 by decide) (by decide), ix_0]
  exact h16
theorem R108 {p q : UInt64} (hq : FP.dcmp q FP.dconst0 = some .gt) (hn : isNaN64 (FP.ddiv p q) = false) {o : Nat} : xRun xT 108 0 [(0, .ref o), (1, .double p), (3, .double q)] [] (S, I, J, D, R) b Q = Q (.ok (some (.double (FP.ddiv p q)))) (S, I, J, D, R) b := by
  have e1 : (Op.cmpValue (some .gt) .l ≤ 0) = False := eq_false (by decide)
  rw [e108_0]
  simp only [B108_0, xSeq, i_push, i_load, i_iload, i_lload, i_dload, i_aload, i_istore, i_astore, i_lstore, i_dstore, i_iinc, i_ii, i_iiz, i_ll, i_llz, i_lli, i_li, i_i, i_l, i_i2l, i_l2i, i_dup, i_dup2, i_dup2w, i_dupx1, i_pop, i_pop2, i_goto, i_ifc, i_icmp, i_getI, i_getL, i_getR, i_putI, i_putZ, i_putL, i_putR, i_aldI, i_aldB, i_aldL, i_aldD, i_astI, i_astL, i_astD, i_alen, i_ret, i_iret, i_zret, i_lret, i_fret, i_dret, i_aret, i_invS0, i_invV0, i_m2, i_m1, i_ml, i_obj, lk, lkp, stf1, stf2, Value.category, rV, xTo, lv_args, xCk, xCat, xRc, xAk, hg_S, hg_I, hg_J, hg_D, hg_R, hs_I, hs_J, hs_D, hs_R, uI_at, uJ_at, uD_at, uR_at, List.take_succ_cons, List.take_zero, List.drop_succ_cons, List.drop_zero, List.reverse_cons, List.reverse_nil, List.nil_append, List.cons_append, List.map_cons, List.map_nil, List.sum_cons, List.sum_nil, List.length_cons, List.length_nil, Option.toList_some, Option.toList_none, true_and, and_true, false_and, and_false, true_implies, false_implies, implies_true, not_true_eq_false, not_false_eq_true, ne_eq, if_true, if_false, Bool.and_true, Bool.true_and, decide_true, decide_false, reduceIte, reduceCtorEq, Bool.and_self, Bool.and_eq_true, decide_eq_true_eq, and_self, true_or, or_true, false_or, or_false, Nat.zero_add, Nat.add_zero, eq_self, Nat.reduceEqDiff, Nat.reduceLeDiff, Nat.reduceLT, Nat.reduceAdd, Nat.reduceSub, Nat.reduceMul, i_ddi, hq, e1, i_dd, al_eq hn, e108_13, B108_13]
/-- the values of which means are taken -/
def vF (w e m : Int32) : Int64 := if w = 0 then e.toInt64 else if w = 1 then (jAbs m).toInt64 else if w = 2 then m.toInt64 * m.toInt64 else if w = 3 then m.toInt64 * m.toInt64 * (m.toInt64 * m.toInt64) else e.toInt64 * e.toInt64
theorem R139 {w e m : Int32} : xRun xT 139 0 [(0, .int w), (1, .int e), (2, .int m)] [] (S, I, J, D, R) b Q = Q (.ok (some (.long (vF w e m)))) (S, I, J, D, R) b := by
  have h10 : ((1 : Int32) = 0) = False := eq_false (by decide)
  have h20 : ((2 : Int32) = 0) = False := eq_false (by decide)
  have h21 : ((2 : Int32) = 1) = False := eq_false (by decide)
  have h30 : ((3 : Int32) = 0) = False := eq_false (by decide)
  have h31 : ((3 : Int32) = 1) = False := eq_false (by decide)
  have h32 : ((3 : Int32) = 2) = False := eq_false (by decide)
  rw [e139_0]
  by_cases h0 : w = 0
  · subst h0
    simp only [B139_0, xSeq, i_push, i_load, i_iload, i_lload, i_dload, i_aload, i_istore, i_astore, i_lstore, i_dstore, i_iinc, i_ii, i_iiz, i_ll, i_llz, i_lli, i_li, i_i, i_l, i_i2l, i_l2i, i_dup, i_dup2, i_dup2w, i_dupx1, i_pop, i_pop2, i_goto, i_ifc, i_icmp, i_getI, i_getL, i_getR, i_putI, i_putZ, i_putL, i_putR, i_aldI, i_aldB, i_aldL, i_aldD, i_astI, i_astL, i_astD, i_alen, i_ret, i_iret, i_zret, i_lret, i_fret, i_dret, i_aret, i_invS0, i_invV0, i_m2, i_m1, i_ml, i_obj, lk, lkp, stf1, stf2, Value.category, rV, xTo, lv_args, xCk, xCat, xRc, xAk, hg_S, hg_I, hg_J, hg_D, hg_R, hs_I, hs_J, hs_D, hs_R, uI_at, uJ_at, uD_at, uR_at, List.take_succ_cons, List.take_zero, List.drop_succ_cons, List.drop_zero, List.reverse_cons, List.reverse_nil, List.nil_append, List.cons_append, List.map_cons, List.map_nil, List.sum_cons, List.sum_nil, List.length_cons, List.length_nil, Option.toList_some, Option.toList_none, true_and, and_true, false_and, and_false, true_implies, false_implies, implies_true, not_true_eq_false, not_false_eq_true, ne_eq, if_true, if_false, Bool.and_true, Bool.true_and, decide_true, decide_false, reduceIte, reduceCtorEq, Bool.and_self, Bool.and_eq_true, decide_eq_true_eq, and_self, true_or, or_true, false_or, or_false, Nat.zero_add, Nat.add_zero, eq_self, Nat.reduceEqDiff, Nat.reduceLeDiff, Nat.reduceLT, Nat.reduceAdd, Nat.reduceSub, Nat.reduceMul, i_sw_eq, swf, e139_36, B139_36, vF]
  · by_cases h1 : w = 1
    · subst h1
      simp only [B139_0, xSeq, i_push, i_load, i_iload, i_lload, i_dload, i_aload, i_istore, i_astore, i_lstore, i_dstore, i_iinc, i_ii, i_iiz, i_ll, i_llz, i_lli, i_li, i_i, i_l, i_i2l, i_l2i, i_dup, i_dup2, i_dup2w, i_dupx1, i_pop, i_pop2, i_goto, i_ifc, i_icmp, i_getI, i_getL, i_getR, i_putI, i_putZ, i_putL, i_putR, i_aldI, i_aldB, i_aldL, i_aldD, i_astI, i_astL, i_astD, i_alen, i_ret, i_iret, i_zret, i_lret, i_fret, i_dret, i_aret, i_invS0, i_invV0, i_m2, i_m1, i_ml, i_obj, lk, lkp, stf1, stf2, Value.category, rV, xTo, lv_args, xCk, xCat, xRc, xAk, hg_S, hg_I, hg_J, hg_D, hg_R, hs_I, hs_J, hs_D, hs_R, uI_at, uJ_at, uD_at, uR_at, List.take_succ_cons, List.take_zero, List.drop_succ_cons, List.drop_zero, List.reverse_cons, List.reverse_nil, List.nil_append, List.cons_append, List.map_cons, List.map_nil, List.sum_cons, List.sum_nil, List.length_cons, List.length_nil, Option.toList_some, Option.toList_none, true_and, and_true, false_and, and_false, true_implies, false_implies, implies_true, not_true_eq_false, not_false_eq_true, ne_eq, if_true, if_false, Bool.and_true, Bool.true_and, decide_true, decide_false, reduceIte, reduceCtorEq, Bool.and_self, Bool.and_eq_true, decide_eq_true_eq, and_self, true_or, or_true, false_or, or_false, Nat.zero_add, Nat.add_zero, eq_self, Nat.reduceEqDiff, Nat.reduceLeDiff, Nat.reduceLT, Nat.reduceAdd, Nat.reduceSub, Nat.reduceMul, i_sw_eq, swf, h10, e139_39, B139_39, vF]
    · by_cases h2 : w = 2
      · subst h2
        simp only [B139_0, xSeq, i_push, i_load, i_iload, i_lload, i_dload, i_aload, i_istore, i_astore, i_lstore, i_dstore, i_iinc, i_ii, i_iiz, i_ll, i_llz, i_lli, i_li, i_i, i_l, i_i2l, i_l2i, i_dup, i_dup2, i_dup2w, i_dupx1, i_pop, i_pop2, i_goto, i_ifc, i_icmp, i_getI, i_getL, i_getR, i_putI, i_putZ, i_putL, i_putR, i_aldI, i_aldB, i_aldL, i_aldD, i_astI, i_astL, i_astD, i_alen, i_ret, i_iret, i_zret, i_lret, i_fret, i_dret, i_aret, i_invS0, i_invV0, i_m2, i_m1, i_ml, i_obj, lk, lkp, stf1, stf2, Value.category, rV, xTo, lv_args, xCk, xCat, xRc, xAk, hg_S, hg_I, hg_J, hg_D, hg_R, hs_I, hs_J, hs_D, hs_R, uI_at, uJ_at, uD_at, uR_at, List.take_succ_cons, List.take_zero, List.drop_succ_cons, List.drop_zero, List.reverse_cons, List.reverse_nil, List.nil_append, List.cons_append, List.map_cons, List.map_nil, List.sum_cons, List.sum_nil, List.length_cons, List.length_nil, Option.toList_some, Option.toList_none, true_and, and_true, false_and, and_false, true_implies, false_implies, implies_true, not_true_eq_false, not_false_eq_true, ne_eq, if_true, if_false, Bool.and_true, Bool.true_and, decide_true, decide_false, reduceIte, reduceCtorEq, Bool.and_self, Bool.and_eq_true, decide_eq_true_eq, and_self, true_or, or_true, false_or, or_false, Nat.zero_add, Nat.add_zero, eq_self, Nat.reduceEqDiff, Nat.reduceLeDiff, Nat.reduceLT, Nat.reduceAdd, Nat.reduceSub, Nat.reduceMul, i_sw_eq, swf, h20, h21, e139_45, B139_45, vF]
      · by_cases h3 : w = 3
        · subst h3
          simp only [B139_0, xSeq, i_push, i_load, i_iload, i_lload, i_dload, i_aload, i_istore, i_astore, i_lstore, i_dstore, i_iinc, i_ii, i_iiz, i_ll, i_llz, i_lli, i_li, i_i, i_l, i_i2l, i_l2i, i_dup, i_dup2, i_dup2w, i_dupx1, i_pop, i_pop2, i_goto, i_ifc, i_icmp, i_getI, i_getL, i_getR, i_putI, i_putZ, i_putL, i_putR, i_aldI, i_aldB, i_aldL, i_aldD, i_astI, i_astL, i_astD, i_alen, i_ret, i_iret, i_zret, i_lret, i_fret, i_dret, i_aret, i_invS0, i_invV0, i_m2, i_m1, i_ml, i_obj, lk, lkp, stf1, stf2, Value.category, rV, xTo, lv_args, xCk, xCat, xRc, xAk, hg_S, hg_I, hg_J, hg_D, hg_R, hs_I, hs_J, hs_D, hs_R, uI_at, uJ_at, uD_at, uR_at, List.take_succ_cons, List.take_zero, List.drop_succ_cons, List.drop_zero, List.reverse_cons, List.reverse_nil, List.nil_append, List.cons_append, List.map_cons, List.map_nil, List.sum_cons, List.sum_nil, List.length_cons, List.length_nil, Option.toList_some, Option.toList_none, true_and, and_true, false_and, and_false, true_implies, false_implies, implies_true, not_true_eq_false, not_false_eq_true, ne_eq, if_true, if_false, Bool.and_true, Bool.true_and, decide_true, decide_false, reduceIte, reduceCtorEq, Bool.and_self, Bool.and_eq_true, decide_eq_true_eq, and_self, true_or, or_true, false_or, or_false, Nat.zero_add, Nat.add_zero, eq_self, Nat.reduceEqDiff, Nat.reduceLeDiff, Nat.reduceLT, Nat.reduceAdd, Nat.reduceSub, Nat.reduceMul, i_sw_eq, swf, h30, h31, h32, e139_47, B139_47, vF]
        · simp only [B139_0, xSeq, i_push, i_load, i_iload, i_lload, i_dload, i_aload, i_istore, i_astore, i_lstore, i_dstore, i_iinc, i_ii, i_iiz, i_ll, i_llz, i_lli, i_li, i_i, i_l, i_i2l, i_l2i, i_dup, i_dup2, i_dup2w, i_dupx1, i_pop, i_pop2, i_goto, i_ifc, i_icmp, i_getI, i_getL, i_getR, i_putI, i_putZ, i_putL, i_putR, i_aldI, i_aldB, i_aldL, i_aldD, i_astI, i_astL, i_astD, i_alen, i_ret, i_iret, i_zret, i_lret, i_fret, i_dret, i_aret, i_invS0, i_invV0, i_m2, i_m1, i_ml, i_obj, lk, lkp, stf1, stf2, Value.category, rV, xTo, lv_args, xCk, xCat, xRc, xAk, hg_S, hg_I, hg_J, hg_D, hg_R, hs_I, hs_J, hs_D, hs_R, uI_at, uJ_at, uD_at, uR_at, List.take_succ_cons, List.take_zero, List.drop_succ_cons, List.drop_zero, List.reverse_cons, List.reverse_nil, List.nil_append, List.cons_append, List.map_cons, List.map_nil, List.sum_cons, List.sum_nil, List.length_cons, List.length_nil, Option.toList_some, Option.toList_none, true_and, and_true, false_and, and_false, true_implies, false_implies, implies_true, not_true_eq_false, not_false_eq_true, ne_eq, if_true, if_false, Bool.and_true, Bool.true_and, decide_true, decide_false, reduceIte, reduceCtorEq, Bool.and_self, Bool.and_eq_true, decide_eq_true_eq, and_self, true_or, or_true, false_or, or_false, Nat.zero_add, Nat.add_zero, eq_self, Nat.reduceEqDiff, Nat.reduceLeDiff, Nat.reduceLT, Nat.reduceAdd, Nat.reduceSub, Nat.reduceMul, i_sw_eq, swf, h0, h1, h2, h3, e139_51, B139_51, vF]
theorem abs_m : ∀ n, n < 17 → ∀ p, p < 17 → jAbsL (2 * nI p - nI n).toInt64 = (jAbs (2 * nI p - nI n)).toInt64 := by decide +kernel
theorem R295 {w e m : Int32} (hm : jAbsL m.toInt64 = (jAbs m).toInt64) : xRun xT 295 0 [(0, .int w), (1, .long e.toInt64), (3, .long m.toInt64)] [] (S, I, J, D, R) b Q = Q (.ok (some (.long (vF w e m)))) (S, I, J, D, R) b := by
  have h10 : ((1 : Int32) = 0) = False := eq_false (by decide)
  have h20 : ((2 : Int32) = 0) = False := eq_false (by decide)
  have h21 : ((2 : Int32) = 1) = False := eq_false (by decide)
  have h30 : ((3 : Int32) = 0) = False := eq_false (by decide)
  have h31 : ((3 : Int32) = 1) = False := eq_false (by decide)
  have h32 : ((3 : Int32) = 2) = False := eq_false (by decide)
  have e4 : m.toInt64 * m.toInt64 * m.toInt64 * m.toInt64 = m.toInt64 * m.toInt64 * (m.toInt64 * m.toInt64) := by rw [Int64.mul_assoc (m.toInt64 * m.toInt64)]
  rw [e295_0]
  by_cases h0 : w = 0
  · subst h0
    simp only [B295_0, xSeq, i_push, i_load, i_iload, i_lload, i_dload, i_aload, i_istore, i_astore, i_lstore, i_dstore, i_iinc, i_ii, i_iiz, i_ll, i_llz, i_lli, i_li, i_i, i_l, i_i2l, i_l2i, i_dup, i_dup2, i_dup2w, i_dupx1, i_pop, i_pop2, i_goto, i_ifc, i_icmp, i_getI, i_getL, i_getR, i_putI, i_putZ, i_putL, i_putR, i_aldI, i_aldB, i_aldL, i_aldD, i_astI, i_astL, i_astD, i_alen, i_ret, i_iret, i_zret, i_lret, i_fret, i_dret, i_aret, i_invS0, i_invV0, i_m2, i_m1, i_ml, i_obj, lk, lkp, stf1, stf2, Value.category, rV, xTo, lv_args, xCk, xCat, xRc, xAk, hg_S, hg_I, hg_J, hg_D, hg_R, hs_I, hs_J, hs_D, hs_R, uI_at, uJ_at, uD_at, uR_at, List.take_succ_cons, List.take_zero, List.drop_succ_cons, List.drop_zero, List.reverse_cons, List.reverse_nil, List.nil_append, List.cons_append, List.map_cons, List.map_nil, List.sum_cons, List.sum_nil, List.length_cons, List.length_nil, Option.toList_some, Option.toList_none, true_and, and_true, false_and, and_false, true_implies, false_implies, implies_true, not_true_eq_false, not_false_eq_true, ne_eq, if_true, if_false, Bool.and_true, Bool.true_and, decide_true, decide_false, reduceIte, reduceCtorEq, Bool.and_self, Bool.and_eq_true, decide_eq_true_eq, and_self, true_or, or_true, false_or, or_false, Nat.zero_add, Nat.add_zero, eq_self, Nat.reduceEqDiff, Nat.reduceLeDiff, Nat.reduceLT, Nat.reduceAdd, Nat.reduceSub, Nat.reduceMul, i_sw_eq, swf, e295_32, B295_32, vF]
  · by_cases h1 : w = 1
    · subst h1
      simp only [B295_0, xSeq, i_push, i_load, i_iload, i_lload, i_dload, i_aload, i_istore, i_astore, i_lstore, i_dstore, i_iinc, i_ii, i_iiz, i_ll, i_llz, i_lli, i_li, i_i, i_l, i_i2l, i_l2i, i_dup, i_dup2, i_dup2w, i_dupx1, i_pop, i_pop2, i_goto, i_ifc, i_icmp, i_getI, i_getL, i_getR, i_putI, i_putZ, i_putL, i_putR, i_aldI, i_aldB, i_aldL, i_aldD, i_astI, i_astL, i_astD, i_alen, i_ret, i_iret, i_zret, i_lret, i_fret, i_dret, i_aret, i_invS0, i_invV0, i_m2, i_m1, i_ml, i_obj, lk, lkp, stf1, stf2, Value.category, rV, xTo, lv_args, xCk, xCat, xRc, xAk, hg_S, hg_I, hg_J, hg_D, hg_R, hs_I, hs_J, hs_D, hs_R, uI_at, uJ_at, uD_at, uR_at, List.take_succ_cons, List.take_zero, List.drop_succ_cons, List.drop_zero, List.reverse_cons, List.reverse_nil, List.nil_append, List.cons_append, List.map_cons, List.map_nil, List.sum_cons, List.sum_nil, List.length_cons, List.length_nil, Option.toList_some, Option.toList_none, true_and, and_true, false_and, and_false, true_implies, false_implies, implies_true, not_true_eq_false, not_false_eq_true, ne_eq, if_true, if_false, Bool.and_true, Bool.true_and, decide_true, decide_false, reduceIte, reduceCtorEq, Bool.and_self, Bool.and_eq_true, decide_eq_true_eq, and_self, true_or, or_true, false_or, or_false, Nat.zero_add, Nat.add_zero, eq_self, Nat.reduceEqDiff, Nat.reduceLeDiff, Nat.reduceLT, Nat.reduceAdd, Nat.reduceSub, Nat.reduceMul, i_sw_eq, swf, h10, e295_34, B295_34, hm, vF]
    · by_cases h2 : w = 2
      · subst h2
        simp only [B295_0, xSeq, i_push, i_load, i_iload, i_lload, i_dload, i_aload, i_istore, i_astore, i_lstore, i_dstore, i_iinc, i_ii, i_iiz, i_ll, i_llz, i_lli, i_li, i_i, i_l, i_i2l, i_l2i, i_dup, i_dup2, i_dup2w, i_dupx1, i_pop, i_pop2, i_goto, i_ifc, i_icmp, i_getI, i_getL, i_getR, i_putI, i_putZ, i_putL, i_putR, i_aldI, i_aldB, i_aldL, i_aldD, i_astI, i_astL, i_astD, i_alen, i_ret, i_iret, i_zret, i_lret, i_fret, i_dret, i_aret, i_invS0, i_invV0, i_m2, i_m1, i_ml, i_obj, lk, lkp, stf1, stf2, Value.category, rV, xTo, lv_args, xCk, xCat, xRc, xAk, hg_S, hg_I, hg_J, hg_D, hg_R, hs_I, hs_J, hs_D, hs_R, uI_at, uJ_at, uD_at, uR_at, List.take_succ_cons, List.take_zero, List.drop_succ_cons, List.drop_zero, List.reverse_cons, List.reverse_nil, List.nil_append, List.cons_append, List.map_cons, List.map_nil, List.sum_cons, List.sum_nil, List.length_cons, List.length_nil, Option.toList_some, Option.toList_none, true_and, and_true, false_and, and_false, true_implies, false_implies, implies_true, not_true_eq_false, not_false_eq_true, ne_eq, if_true, if_false, Bool.and_true, Bool.true_and, decide_true, decide_false, reduceIte, reduceCtorEq, Bool.and_self, Bool.and_eq_true, decide_eq_true_eq, and_self, true_or, or_true, false_or, or_false, Nat.zero_add, Nat.add_zero, eq_self, Nat.reduceEqDiff, Nat.reduceLeDiff, Nat.reduceLT, Nat.reduceAdd, Nat.reduceSub, Nat.reduceMul, i_sw_eq, swf, h20, h21, e295_39, B295_39, vF]
      · by_cases h3 : w = 3
        · subst h3
          simp only [B295_0, xSeq, i_push, i_load, i_iload, i_lload, i_dload, i_aload, i_istore, i_astore, i_lstore, i_dstore, i_iinc, i_ii, i_iiz, i_ll, i_llz, i_lli, i_li, i_i, i_l, i_i2l, i_l2i, i_dup, i_dup2, i_dup2w, i_dupx1, i_pop, i_pop2, i_goto, i_ifc, i_icmp, i_getI, i_getL, i_getR, i_putI, i_putZ, i_putL, i_putR, i_aldI, i_aldB, i_aldL, i_aldD, i_astI, i_astL, i_astD, i_alen, i_ret, i_iret, i_zret, i_lret, i_fret, i_dret, i_aret, i_invS0, i_invV0, i_m2, i_m1, i_ml, i_obj, lk, lkp, stf1, stf2, Value.category, rV, xTo, lv_args, xCk, xCat, xRc, xAk, hg_S, hg_I, hg_J, hg_D, hg_R, hs_I, hs_J, hs_D, hs_R, uI_at, uJ_at, uD_at, uR_at, List.take_succ_cons, List.take_zero, List.drop_succ_cons, List.drop_zero, List.reverse_cons, List.reverse_nil, List.nil_append, List.cons_append, List.map_cons, List.map_nil, List.sum_cons, List.sum_nil, List.length_cons, List.length_nil, Option.toList_some, Option.toList_none, true_and, and_true, false_and, and_false, true_implies, false_implies, implies_true, not_true_eq_false, not_false_eq_true, ne_eq, if_true, if_false, Bool.and_true, Bool.true_and, decide_true, decide_false, reduceIte, reduceCtorEq, Bool.and_self, Bool.and_eq_true, decide_eq_true_eq, and_self, true_or, or_true, false_or, or_false, Nat.zero_add, Nat.add_zero, eq_self, Nat.reduceEqDiff, Nat.reduceLeDiff, Nat.reduceLT, Nat.reduceAdd, Nat.reduceSub, Nat.reduceMul, i_sw_eq, swf, h30, h31, h32, e295_43, B295_43, e4, vF]
        · simp only [B295_0, xSeq, i_push, i_load, i_iload, i_lload, i_dload, i_aload, i_istore, i_astore, i_lstore, i_dstore, i_iinc, i_ii, i_iiz, i_ll, i_llz, i_lli, i_li, i_i, i_l, i_i2l, i_l2i, i_dup, i_dup2, i_dup2w, i_dupx1, i_pop, i_pop2, i_goto, i_ifc, i_icmp, i_getI, i_getL, i_getR, i_putI, i_putZ, i_putL, i_putR, i_aldI, i_aldB, i_aldL, i_aldD, i_astI, i_astL, i_astD, i_alen, i_ret, i_iret, i_zret, i_lret, i_fret, i_dret, i_aret, i_invS0, i_invV0, i_m2, i_m1, i_ml, i_obj, lk, lkp, stf1, stf2, Value.category, rV, xTo, lv_args, xCk, xCat, xRc, xAk, hg_S, hg_I, hg_J, hg_D, hg_R, hs_I, hs_J, hs_D, hs_R, uI_at, uJ_at, uD_at, uR_at, List.take_succ_cons, List.take_zero, List.drop_succ_cons, List.drop_zero, List.reverse_cons, List.reverse_nil, List.nil_append, List.cons_append, List.map_cons, List.map_nil, List.sum_cons, List.sum_nil, List.length_cons, List.length_nil, Option.toList_some, Option.toList_none, true_and, and_true, false_and, and_false, true_implies, false_implies, implies_true, not_true_eq_false, not_false_eq_true, ne_eq, if_true, if_false, Bool.and_true, Bool.true_and, decide_true, decide_false, reduceIte, reduceCtorEq, Bool.and_self, Bool.and_eq_true, decide_eq_true_eq, and_self, true_or, or_true, false_or, or_false, Nat.zero_add, Nat.add_zero, eq_self, Nat.reduceEqDiff, Nat.reduceLeDiff, Nat.reduceLT, Nat.reduceAdd, Nat.reduceSub, Nat.reduceMul, i_sw_eq, swf, h0, h1, h2, h3, e295_51, B295_51, vF]
end
/-! ===== means ===== -/
section
/-- a level's place among the weights -/
def xi (l : List Nat) (i : Nat) : Nat := l.getD i 0 / 17 - l.getD 0 0 / 17
def wt (E : Nat → Int32) (n : Nat) (r : UInt64) (i : Nat) : UInt64 := FP.dmul (FP.i2d (gN E n ((lv E n).getD i 0))) (wP r (xi (lv E n) i))
def vl (E : Nat → Int32) (n : Nat) (w : Int32) (i : Nat) : Int64 := vF w (gE ((lv E n).getD i 0)) (gM n ((lv E n).getD i 0))
def tm (E : Nat → Int32) (n : Nat) (r : UInt64) (w : Int32) (i : Nat) : UInt64 := FP.dmul (wt E n r i) (FP.l2d (vl E n w i))
def sS (E : Nat → Int32) (n : Nat) (r : UInt64) (w : Int32) : Nat → UInt64
  | 0 => FP.dconst0
  | j + 1 => FP.dadd (sS E n r w j) (tm E n r w j)
def sA (E : Nat → Int32) (n : Nat) (r : UInt64) : Nat → UInt64
  | 0 => FP.dconst0
  | j + 1 => FP.dadd (sA E n r j) (wt E n r j)
def mn (E : Nat → Int32) (n : Nat) (r : UInt64) (w : Int32) : UInt64 := FP.ddiv (sS E n r w (lv E n).length) (sA E n r (lv E n).length)
variable {E : Nat → Int32} {n : Nat} {r : UInt64} {w : Int32}
theorem lv_x (hB : EB E n) {i : Nat} (hi : i < (lv E n).length) : (lv E n).getD 0 0 ≤ (lv E n).getD i 0 ∧ xi (lv E n) i < 289 ∧ gE ((lv E n).getD i 0) - gE ((lv E n).getD 0 0) = nI (xi (lv E n) i) := by
  have h1 : (lv E n).getD 0 0 ≤ (lv E n).getD i 0 := by
    rcases Nat.eq_zero_or_pos i with h | h
    · rw [h]; exact Nat.le_refl _
    · have hp := fl_srt (fun k => decide (0 < cL E n k)) 4913
      have h2 : 0 < (lv E n).length := by omega
      have := List.pairwise_iff_getElem.mp hp 0 i h2 hi h
      rw [getD_lt h2, getD_lt hi]
      exact Nat.le_of_lt this
  have h3 := (lv_get hB hi).1
  have h4 : (lv E n).getD 0 0 / 17 ≤ (lv E n).getD i 0 / 17 := Nat.div_le_div_right h1
  refine ⟨h1, by unfold xi; omega, ?_⟩
  unfold gE xi
  rw [← nI_subn h4]
  grind
theorem cL_le {k : Nat} (hB : EB E n) : cL E n k ≤ 65536 := Nat.le_trans (ct_le _ _) (pow16 hB.1)
theorem wt_gp (hB : EB E n) (hr : gp 0 uo r) {i : Nat} : gp 0 (65536 * uo) (wt E n r i) := by
  have hc := cL_le (k := (lv E n).getD i 0) hB
  exact gp_mul (i2d_n (k := cL E n ((lv E n).getD i 0)) (by omega)) (wP_gp hr _) (rp_n (by decide)) (Nat.mul_le_mul_right _ (Nat.mul_le_mul_right _ hc)) rp_0 (by rw [Nat.zero_mul]; exact Nat.zero_le _)
theorem wt_0 (hB : EB E n) : gp uo (65536 * uo) (wt E n r 0) := by
  have hc := cL_le (k := (lv E n).getD 0 0) hB
  have h0 := (lv_get hB (lv_pos hB)).2.1
  have e : wP r (xi (lv E n) 0) = FP.dconst1 := by
    unfold xi
    rw [Nat.sub_self]
    rfl
  unfold wt
  rw [e]
  exact gp_mul (i2d_n (k := cL E n ((lv E n).getD 0 0)) (by omega)) gp_1 (rp_n (by decide)) (Nat.mul_le_mul_right _ (Nat.mul_le_mul_right _ hc)) rp_u (by
    rw [Nat.mul_assoc]
    exact Nat.le_mul_of_pos_left _ h0)
theorem v_e : ∀ k, k < 289 → (Nat.ble ((nI k - 144).toInt64).toInt.natAbs 65536 && Nat.ble ((nI k - 144).toInt64 * (nI k - 144).toInt64).toInt.natAbs 65536) = true := by decide +kernel
theorem v_m : ∀ n, n < 17 → ∀ p, p < n + 1 → (Nat.ble ((jAbs (2 * nI p - nI n)).toInt64).toInt.natAbs 65536 && Nat.ble ((2 * nI p - nI n).toInt64 * (2 * nI p - nI n).toInt64).toInt.natAbs 65536 && Nat.ble ((2 * nI p - nI n).toInt64 * (2 * nI p - nI n).toInt64 * ((2 * nI p - nI n).toInt64 * (2 * nI p - nI n).toInt64)).toInt.natAbs 65536) = true := by decide +kernel
theorem vl_bd (hB : EB E n) {i : Nat} (hi : i < (lv E n).length) : (vl E n w i).toInt.natAbs ≤ 65536 := by
  obtain ⟨h1, h2, h3⟩ := lv_get hB hi
  have hn := hB.1
  have he := v_e ((lv E n).getD i 0 / 17) (by omega)
  have hm := v_m n (by omega) ((lv E n).getD i 0 % 17) (by omega)
  rw [Bool.and_eq_true, Nat.ble_eq, Nat.ble_eq] at he
  rw [Bool.and_eq_true, Bool.and_eq_true, Nat.ble_eq, Nat.ble_eq, Nat.ble_eq] at hm
  unfold vl vF gE gM
  split
  · exact he.1
  · split
    · exact hm.1.1
    · split
      · exact hm.1.2
      · split
        · exact hm.2
        · exact he.2
theorem l2d_fb {a : Int64} {K : Nat} (h : a.toInt.natAbs ≤ K) (hK : K < 9007199254740992) : fb (K * uo) (FP.l2d a) :=
  fb_le (l2d_z rfl (by omega)).1 (Nat.mul_le_mul_right _ h)
theorem tm_fb (hB : EB E n) (hr : gp 0 uo r) {i : Nat} (hi : i < (lv E n).length) : fb (4294967296 * uo) (tm E n r w i) := by
  refine fb_mul (gp_fb (wt_gp hB hr)) (l2d_fb (vl_bd hB hi) (by decide)) (rp_n (by decide)) (Nat.le_of_eq ?_)
  rw [Nat.mul_mul_mul_comm, Nat.mul_assoc 4294967296]
theorem sS_fb (hB : EB E n) (hr : gp 0 uo r) : ∀ j, j ≤ (lv E n).length → fb (j * 4294967296 * uo) (sS E n r w j)
  | 0, _ => fb_le (gp_fb gp_0) (Nat.zero_le _)
  | j + 1, h => by
    have hl := lv_len E n
    refine fb_add (sS_fb hB hr j (by omega)) (tm_fb hB hr (by omega)) (rp_n (by omega)) (Nat.le_of_eq ?_)
    rw [Nat.succ_mul j, Nat.add_mul]
theorem sA_gp (hB : EB E n) (hr : gp 0 uo r) : ∀ j, j + 1 ≤ (lv E n).length → gp uo ((j + 1) * 65536 * uo) (sA E n r (j + 1))
  | 0, h => gp_add gp_0 (wt_0 hB) (rp_n (by decide)) (by rw [Nat.zero_add, Nat.one_mul]; exact Nat.le_refl _) rp_u (by rw [Nat.zero_add]; exact Nat.le_refl _)
  | j + 1, h => by
    have hl := lv_len E n
    have e : (j + 1) * 65536 * uo + 65536 * uo = (j + 1 + 1) * 65536 * uo := by
      have e2 : (j + 1 + 1) * 65536 = (j + 1) * 65536 + 65536 := Nat.succ_mul _ _
      rw [e2, Nat.add_mul ((j + 1) * 65536)]
    exact gp_add (sA_gp hB hr j (by omega)) (wt_gp hB hr) (rp_n (by omega)) (Nat.le_of_eq e) rp_u (Nat.le_add_right _ _)
theorem sA_n (hB : EB E n) (hr : gp 0 uo r) {j : Nat} (h : j ≤ (lv E n).length) : isNaN64 (sA E n r j) = false := by
  rcases Nat.eq_zero_or_pos j with e | e
  · subst e
    exact fb_n (gp_fb gp_0)
  · obtain ⟨j', rfl⟩ : ∃ j', j = j' + 1 := ⟨j - 1, by omega⟩
    exact fb_n (gp_fb (sA_gp hB hr j' h))
theorem sA_all (hB : EB E n) (hr : gp 0 uo r) : gp uo (4913 * 65536 * uo) (sA E n r (lv E n).length) := by
  have hl := lv_len E n
  have h0 := lv_pos hB
  obtain ⟨j', hj⟩ : ∃ j', (lv E n).length = j' + 1 := ⟨(lv E n).length - 1, by omega⟩
  rw [hj]
  exact gp_le (sA_gp hB hr j' (by omega)) (Nat.le_refl _) (Nat.mul_le_mul_right _ (Nat.mul_le_mul_right _ (by omega)))
theorem mn_fb (hB : EB E n) (hr : gp 0 uo r) : fb (4913 * 4294967296 * uo) (mn E n r w) := by
  have hl := lv_len E n
  exact fb_div (fb_le (sS_fb hB hr _ (Nat.le_refl _)) (Nat.mul_le_mul_right _ (Nat.mul_le_mul_right _ hl))) (sA_all hB hr) uo_pos (rp_n (by decide)) (Nat.le_refl _)
variable {S : xS} {I : xI} {J : xJ} {D : xDb} {R : xR} {b : Nat × Nat} {Q : xQ} {x y : Nat}
theorem R107_8 (hL : LC S R) (hX : XL n E S I R) (hB : EB E n) (h : AB x y) (hD : ∀ k, k < 289 → D 139 k = wP (rtP x y) k) : ∀ (j i : Nat), i + j = (lv E n).length → xRun xT 107 8 [(0, .ref 130), (1, .int w), (2, .double (sS E n (rtP x y) w i)), (4, .double (sA E n (rtP x y) i)), (6, .int (nI i))] [] (S, I, J, D, R) b Q = Q (.ok (some (.double (mn E n (rtP x y) w)))) (S, I, J, D, R) b
  | 0, i, hi => by
    have hl := lv_len E n
    have hr := rtP_gp h
    have e : i = (lv E n).length := by omega
    rw [e107_8]
    simp only [B107_8, xSeq, i_push, i_load, i_iload, i_lload, i_dload, i_aload, i_istore, i_astore, i_lstore, i_dstore, i_iinc, i_ii, i_iiz, i_ll, i_llz, i_lli, i_li, i_i, i_l, i_i2l, i_l2i, i_dup, i_dup2, i_dup2w, i_dupx1, i_pop, i_pop2, i_goto, i_ifc, i_icmp, i_getI, i_getL, i_getR, i_putI, i_putZ, i_putL, i_putR, i_aldI, i_aldB, i_aldL, i_aldD, i_astI, i_astL, i_astD, i_alen, i_ret, i_iret, i_zret, i_lret, i_fret, i_dret, i_aret, i_invS0, i_invV0, i_m2, i_m1, i_ml, i_obj, lk, lkp, stf1, stf2, Value.category, rV, xTo, lv_args, xCk, xCat, xRc, xAk, hg_S, hg_I, hg_J, hg_D, hg_R, hs_I, hs_J, hs_D, hs_R, uI_at, uJ_at, uD_at, uR_at, List.take_succ_cons, List.take_zero, List.drop_succ_cons, List.drop_zero, List.reverse_cons, List.reverse_nil, List.nil_append, List.cons_append, List.map_cons, List.map_nil, List.sum_cons, List.sum_nil, List.length_cons, List.length_nil, Option.toList_some, Option.toList_none, true_and, and_true, false_and, and_false, true_implies, false_implies, implies_true, not_true_eq_false, not_false_eq_true, ne_eq, if_true, if_false, Bool.and_true, Bool.true_and, decide_true, decide_false, reduceIte, reduceCtorEq, Bool.and_self, Bool.and_eq_true, decide_eq_true_eq, and_self, true_or, or_true, false_or, or_false, Nat.zero_add, Nat.add_zero, eq_self, Nat.reduceEqDiff, Nat.reduceLeDiff, Nat.reduceLT, Nat.reduceAdd, Nat.reduceSub, Nat.reduceMul, LC_out hL, hX.2.2.2.2.2.1, e, nI_leP (show (lv E n).length < 2147483648 by omega) (show (lv E n).length < 2147483648 by omega), Nat.le_refl, e107_83, B107_83, R108 (gp_cmp (sA_all hB hr) uo_pos) (fb_n (mn_fb (w := w) hB hr)), mn]
  | j + 1, i, hi => by
    have hl := lv_len E n
    have hr := rtP_gp h
    have ih := R107_8 hL hX hB h hD j (i + 1) (by omega)
    have hi2 : i < (lv E n).length := by omega
    obtain ⟨g1, g2, g3⟩ := hX.2.2.2.2.2.2.1 i hi2
    obtain ⟨-, x2, x3⟩ := lv_x hB hi2
    have e1 : FP.dmul (FP.i2d (gN E n ((lv E n).getD i 0))) (wP (rtP x y) (xi (lv E n) i)) = wt E n (rtP x y) i := rfl
    have e2 : vF w (gE ((lv E n).getD i 0)) (gM n ((lv E n).getD i 0)) = vl E n w i := rfl
    have e3 : FP.dmul (wt E n (rtP x y) i) (FP.l2d (vl E n w i)) = tm E n (rtP x y) w i := rfl
    have e4 : FP.dadd (sS E n (rtP x y) w i) (tm E n (rtP x y) w i) = sS E n (rtP x y) w (i + 1) := rfl
    have e5 : FP.dadd (sA E n (rtP x y) i) (wt E n (rtP x y) i) = sA E n (rtP x y) (i + 1) := rfl
    have n1 : isNaN64 (wt E n (rtP x y) i) = false := fb_n (gp_fb (wt_gp hB hr))
    have n3 : isNaN64 (tm E n (rtP x y) w i) = false := fb_n (tm_fb hB hr hi2)
    have n4 : isNaN64 (sS E n (rtP x y) w (i + 1)) = false := fb_n (sS_fb hB hr (i + 1) (by omega))
    have n5 : isNaN64 (sA E n (rtP x y) (i + 1)) = false := sA_n hB hr (by omega)
    rw [e107_8]
    simp only [B107_8, xSeq, i_push, i_load, i_iload, i_lload, i_dload, i_aload, i_istore, i_astore, i_lstore, i_dstore, i_iinc, i_ii, i_iiz, i_ll, i_llz, i_lli, i_li, i_i, i_l, i_i2l, i_l2i, i_dup, i_dup2, i_dup2w, i_dupx1, i_pop, i_pop2, i_goto, i_ifc, i_icmp, i_getI, i_getL, i_getR, i_putI, i_putZ, i_putL, i_putR, i_aldI, i_aldB, i_aldL, i_aldD, i_astI, i_astL, i_astD, i_alen, i_ret, i_iret, i_zret, i_lret, i_fret, i_dret, i_aret, i_invS0, i_invV0, i_m2, i_m1, i_ml, i_obj, lk, lkp, stf1, stf2, Value.category, rV, xTo, lv_args, xCk, xCat, xRc, xAk, hg_S, hg_I, hg_J, hg_D, hg_R, hs_I, hs_J, hs_D, hs_R, uI_at, uJ_at, uD_at, uR_at, List.take_succ_cons, List.take_zero, List.drop_succ_cons, List.drop_zero, List.reverse_cons, List.reverse_nil, List.nil_append, List.cons_append, List.map_cons, List.map_nil, List.sum_cons, List.sum_nil, List.length_cons, List.length_nil, Option.toList_some, Option.toList_none, true_and, and_true, false_and, and_false, true_implies, false_implies, implies_true, not_true_eq_false, not_false_eq_true, ne_eq, if_true, if_false, Bool.and_true, Bool.true_and, decide_true, decide_false, reduceIte, reduceCtorEq, Bool.and_self, Bool.and_eq_true, decide_eq_true_eq, and_self, true_or, or_true, false_or, or_false, Nat.zero_add, Nat.add_zero, eq_self, Nat.reduceEqDiff, Nat.reduceLeDiff, Nat.reduceLT, Nat.reduceAdd, Nat.reduceSub, Nat.reduceMul, LC_out hL, LE_out hX.1, hX.2.2.2.2.1, hX.2.2.2.2.2.1, nI_leP (show (lv E n).length < 2147483648 by omega) (show i < 2147483648 by omega), show ((lv E n).length ≤ i) = False from eq_false (by omega), nI_inP (show i < 4913 by omega) (by decide), nI_ix (show i < 2147483648 by omega), g1, g2, g3, x3, nI_inP x2 (by decide), nI_ix (show xi (lv E n) i < 2147483648 by omega), hD _ x2, i_i2d, i_l2d, i_dd, e1, al_eq n1, R139, e2, e3, al_eq n3, e4, al_eq n4, e5, al_eq n5, nI_1, ih]
theorem R107 (hL : LC S R) (hX : XL n E S I R) (hB : EB E n) (h : AB x y) (hD : ∀ k, k < 289 → D 139 k = wP (rtP x y) k) : xRun xT 107 0 [(0, .ref 130), (1, .int w)] [] (S, I, J, D, R) b Q = Q (.ok (some (.double (mn E n (rtP x y) w)))) (S, I, J, D, R) b := by
  have h8 := R107_8 (J := J) (b := b) (Q := Q) (w := w) hL hX hB h hD (lv E n).length 0 (by omega)
  rw [nI_0] at h8
  rw [e107_0]
  simp only [B107_0, xSeq, i_push, i_load, i_iload, i_lload, i_dload, i_aload, i_istore, i_astore, i_lstore, i_dstore, i_iinc, i_ii, i_iiz, i_ll, i_llz, i_lli, i_li, i_i, i_l, i_i2l, i_l2i, i_dup, i_dup2, i_dup2w, i_dupx1, i_pop, i_pop2, i_goto, i_ifc, i_icmp, i_getI, i_getL, i_getR, i_putI, i_putZ, i_putL, i_putR, i_aldI, i_aldB, i_aldL, i_aldD, i_astI, i_astL, i_astD, i_alen, i_ret, i_iret, i_zret, i_lret, i_fret, i_dret, i_aret, i_invS0, i_invV0, i_m2, i_m1, i_ml, i_obj, lk, lkp, stf1, stf2, Value.category, rV, xTo, lv_args, xCk, xCat, xRc, xAk, hg_S, hg_I, hg_J, hg_D, hg_R, hs_I, hs_J, hs_D, hs_R, uI_at, uJ_at, uD_at, uR_at, List.take_succ_cons, List.take_zero, List.drop_succ_cons, List.drop_zero, List.reverse_cons, List.reverse_nil, List.nil_append, List.cons_append, List.map_cons, List.map_nil, List.sum_cons, List.sum_nil, List.length_cons, List.length_nil, Option.toList_some, Option.toList_none, true_and, and_true, false_and, and_false, true_implies, false_implies, implies_true, not_true_eq_false, not_false_eq_true, ne_eq, if_true, if_false, Bool.and_true, Bool.true_and, decide_true, decide_false, reduceIte, reduceCtorEq, Bool.and_self, Bool.and_eq_true, decide_eq_true_eq, and_self, true_or, or_true, false_or, or_false, Nat.zero_add, Nat.add_zero, eq_self, Nat.reduceEqDiff, Nat.reduceLeDiff, Nat.reduceLT, Nat.reduceAdd, Nat.reduceSub, Nat.reduceMul]
  exact h8
theorem L316_9 (hL : LM S R) (h : AB x y)
    (kk : ∀ D', (∀ k, k < 401 → D' 352 k = wP (rtP x y) k) → (∀ o k, o ≠ 352 → D' o k = D o k) → Q (.ok none) (S, I, J, D', R) b) :
    ∀ (j i : Nat) (D1 : xDb), i + j = 401 → 0 < i → (∀ k, k < i → D1 352 k = wP (rtP x y) k) → (∀ o k, o ≠ 352 → D1 o k = D o k) → xRun xT 316 9 [(0, .ref 200), (1, .int (nI x)), (2, .int (nI y)), (3, .int (nI i))] [] (S, I, J, D1, R) b Q
  | 0, i, D1, hi, h0, h1, h2 => by
    have e : i = 401 := by omega
    subst e
    rw [e316_9]
    simp only [B316_9, xSeq, i_push, i_load, i_iload, i_lload, i_dload, i_aload, i_istore, i_astore, i_lstore, i_dstore, i_iinc, i_ii, i_iiz, i_ll, i_llz, i_lli, i_li, i_i, i_l, i_i2l, i_l2i, i_dup, i_dup2, i_dup2w, i_dupx1, i_pop, i_pop2, i_goto, i_ifc, i_icmp, i_getI, i_getL, i_getR, i_putI, i_putZ, i_putL, i_putR, i_aldI, i_aldB, i_aldL, i_aldD, i_astI, i_astL, i_astD, i_alen, i_ret, i_iret, i_zret, i_lret, i_fret, i_dret, i_aret, i_invS0, i_invV0, i_m2, i_m1, i_ml, i_obj, lk, lkp, stf1, stf2, Value.category, rV, xTo, lv_args, xCk, xCat, xRc, xAk, hg_S, hg_I, hg_J, hg_D, hg_R, hs_I, hs_J, hs_D, hs_R, uI_at, uJ_at, uD_at, uR_at, List.take_succ_cons, List.take_zero, List.drop_succ_cons, List.drop_zero, List.reverse_cons, List.reverse_nil, List.nil_append, List.cons_append, List.map_cons, List.map_nil, List.sum_cons, List.sum_nil, List.length_cons, List.length_nil, Option.toList_some, Option.toList_none, true_and, and_true, false_and, and_false, true_implies, false_implies, implies_true, not_true_eq_false, not_false_eq_true, ne_eq, if_true, if_false, Bool.and_true, Bool.true_and, decide_true, decide_false, reduceIte, reduceCtorEq, Bool.and_self, Bool.and_eq_true, decide_eq_true_eq, and_self, true_or, or_true, false_or, or_false, Nat.zero_add, Nat.add_zero, eq_self, Nat.reduceEqDiff, Nat.reduceLeDiff, Nat.reduceLT, Nat.reduceAdd, Nat.reduceSub, Nat.reduceMul, show ((401 : Int32) ≤ nI 401) = True from eq_true (by decide), e316_42, B316_42]
    exact kk D1 h1 h2
  | j + 1, i, D1, hi, h0, h1, h2 => by
    have e1 : ((401 : Int32) ≤ nI i) = False := eq_false (by rw [show (401 : Int32) = nI 401 from rfl]; exact nI_ge (by omega) (by decide))
    have e2 : nI i - 1 = nI (i - 1) := by rw [show (1 : Int32) = nI 1 from rfl, nI_subn h0]
    have hn0 : isNaN64 (rtP x y) = false := fb_n (gp_fb (rtP_gp h))
    have hn : isNaN64 (wP (rtP x y) i) = false := fb_n (gp_fb (wP_gp (rtP_gp h) i))
    have e4 : FP.ddiv (FP.i2d (nI x)) (FP.i2d (nI y)) = rtP x y := rfl
    have e3 : FP.dmul (wP (rtP x y) (i - 1)) (rtP x y) = wP (rtP x y) i := by
      obtain ⟨i', rfl⟩ : ∃ i', i = i' + 1 := ⟨i - 1, by omega⟩
      rfl
    rw [e316_9]
    simp only [B316_9, xSeq, i_push, i_load, i_iload, i_lload, i_dload, i_aload, i_istore, i_astore, i_lstore, i_dstore, i_iinc, i_ii, i_iiz, i_ll, i_llz, i_lli, i_li, i_i, i_l, i_i2l, i_l2i, i_dup, i_dup2, i_dup2w, i_dupx1, i_pop, i_pop2, i_goto, i_ifc, i_icmp, i_getI, i_getL, i_getR, i_putI, i_putZ, i_putL, i_putR, i_aldI, i_aldB, i_aldL, i_aldD, i_astI, i_astL, i_astD, i_alen, i_ret, i_iret, i_zret, i_lret, i_fret, i_dret, i_aret, i_invS0, i_invV0, i_m2, i_m1, i_ml, i_obj, lk, lkp, stf1, stf2, Value.category, rV, xTo, lv_args, xCk, xCat, xRc, xAk, hg_S, hg_I, hg_J, hg_D, hg_R, hs_I, hs_J, hs_D, hs_R, uI_at, uJ_at, uD_at, uR_at, List.take_succ_cons, List.take_zero, List.drop_succ_cons, List.drop_zero, List.reverse_cons, List.reverse_nil, List.nil_append, List.cons_append, List.map_cons, List.map_nil, List.sum_cons, List.sum_nil, List.length_cons, List.length_nil, Option.toList_some, Option.toList_none, true_and, and_true, false_and, and_false, true_implies, false_implies, implies_true, not_true_eq_false, not_false_eq_true, ne_eq, if_true, if_false, Bool.and_true, Bool.true_and, decide_true, decide_false, reduceIte, reduceCtorEq, Bool.and_self, Bool.and_eq_true, decide_eq_true_eq, and_self, true_or, or_true, false_or, or_false, Nat.zero_add, Nat.add_zero, eq_self, Nat.reduceEqDiff, Nat.reduceLeDiff, Nat.reduceLT, Nat.reduceAdd, Nat.reduceSub, Nat.reduceMul, LM_out hL, e1, e2, nI_inP (show i < 401 by omega) (by decide), nI_ix (show i < 2147483648 by omega), nI_inP (show i - 1 < 401 by omega) (by decide), nI_ix (show i - 1 < 2147483648 by omega), h1 (i - 1) (by omega), i_i2d, i_dd, e4, al_eq hn0, e3, al_eq hn, nI_1]
    refine L316_9 hL h kk j (i + 1) _ (by omega) (by omega) (fun k hk => ?_) (fun o k ho => ?_)
    · rw [uD_at]
      by_cases e : k = i
      · rw [if_pos ⟨rfl, e⟩, e]
      · rw [if_neg (fun h => e h.2)]
        exact h1 k (by omega)
    · rw [uD_at, if_neg (fun h => ho h.1)]
      exact h2 o k ho
theorem L316 (hL : LM S R) (h : AB x y)
    (kk : ∀ D', (∀ k, k < 401 → D' 352 k = wP (rtP x y) k) → (∀ o k, o ≠ 352 → D' o k = D o k) → Q (.ok none) (S, I, J, D', R) b) :
    xRun xT 316 0 [(0, .ref 200), (1, .int (nI x)), (2, .int (nI y))] [] (S, I, J, D, R) b Q := by
  have h9 := L316_9 (I := I) (J := J) (b := b) (Q := Q) hL h kk 400 1 (uD D 352 0 FP.dconst1) (by decide) (by decide) (fun k hk => by
    rw [uD_at, if_pos ⟨rfl, by omega⟩, show k = 0 by omega]
    rfl) (fun o k ho => by rw [uD_at, if_neg (fun h => ho h.1)])
  rw [e316_0]
  simp only [B316_0, xSeq, i_push, i_load, i_iload, i_lload, i_dload, i_aload, i_istore, i_astore, i_lstore, i_dstore, i_iinc, i_ii, i_iiz, i_ll, i_llz, i_lli, i_li, i_i, i_l, i_i2l, i_l2i, i_dup, i_dup2, i_dup2w, i_dupx1, i_pop, i_pop2, i_goto, i_ifc, i_icmp, i_getI, i_getL, i_getR, i_putI, i_putZ, i_putL, i_putR, i_aldI, i_aldB, i_aldL, i_aldD, i_astI, i_astL, i_astD, i_alen, i_ret, i_iret, i_zret, i_lret, i_fret, i_dret, i_aret, i_invS0, i_invV0, i_m2, i_m1, i_ml, i_obj, lk, lkp, stf1, stf2, Value.category, rV, xTo, lv_args, xCk, xCat, xRc, xAk, hg_S, hg_I, hg_J, hg_D, hg_R, hs_I, hs_J, hs_D, hs_R, uI_at, uJ_at, uD_at, uR_at, List.take_succ_cons, List.take_zero, List.drop_succ_cons, List.drop_zero, List.reverse_cons, List.reverse_nil, List.nil_append, List.cons_append, List.map_cons, List.map_nil, List.sum_cons, List.sum_nil, List.length_cons, List.length_nil, Option.toList_some, Option.toList_none, true_and, and_true, false_and, and_false, true_implies, false_implies, implies_true, not_true_eq_false, not_false_eq_true, ne_eq, if_true, if_false, Bool.and_true, Bool.true_and, decide_true, decide_false, reduceIte, reduceCtorEq, Bool.and_self, Bool.and_eq_true, decide_eq_true_eq, and_self, true_or, or_true, false_or, or_false, Nat.zero_add, Nat.add_zero, eq_self, Nat.reduceEqDiff, Nat.reduceLeDiff, Nat.reduceLT, Nat.reduceAdd, Nat.reduceSub, Nat.reduceMul, LM_out hL, xi0 (show 0 < 401 by decide) (by decide), ix_0]
  exact h9
theorem R317_11 (hL : LM S R) (hX : XM n E I) (hB : EB E n) (h : AB x y) (hD : ∀ k, k < 401 → D 352 k = wP (rtP x y) k) : ∀ (j i : Nat), i + j = (lv E n).length → xRun xT 317 11 [(0, .ref 200), (3, .double (sA E n (rtP x y) i)), (5, .int (nI i))] [] (S, I, J, D, R) b Q = Q (.ok (some (.double (sA E n (rtP x y) (lv E n).length)))) (S, I, J, D, R) b
  | 0, i, hi => by
    have hl := lv_len E n
    have e : i = (lv E n).length := by omega
    rw [e317_11]
    simp only [B317_11, xSeq, i_push, i_load, i_iload, i_lload, i_dload, i_aload, i_istore, i_astore, i_lstore, i_dstore, i_iinc, i_ii, i_iiz, i_ll, i_llz, i_lli, i_li, i_i, i_l, i_i2l, i_l2i, i_dup, i_dup2, i_dup2w, i_dupx1, i_pop, i_pop2, i_goto, i_ifc, i_icmp, i_getI, i_getL, i_getR, i_putI, i_putZ, i_putL, i_putR, i_aldI, i_aldB, i_aldL, i_aldD, i_astI, i_astL, i_astD, i_alen, i_ret, i_iret, i_zret, i_lret, i_fret, i_dret, i_aret, i_invS0, i_invV0, i_m2, i_m1, i_ml, i_obj, lk, lkp, stf1, stf2, Value.category, rV, xTo, lv_args, xCk, xCat, xRc, xAk, hg_S, hg_I, hg_J, hg_D, hg_R, hs_I, hs_J, hs_D, hs_R, uI_at, uJ_at, uD_at, uR_at, List.take_succ_cons, List.take_zero, List.drop_succ_cons, List.drop_zero, List.reverse_cons, List.reverse_nil, List.nil_append, List.cons_append, List.map_cons, List.map_nil, List.sum_cons, List.sum_nil, List.length_cons, List.length_nil, Option.toList_some, Option.toList_none, true_and, and_true, false_and, and_false, true_implies, false_implies, implies_true, not_true_eq_false, not_false_eq_true, ne_eq, if_true, if_false, Bool.and_true, Bool.true_and, decide_true, decide_false, reduceIte, reduceCtorEq, Bool.and_self, Bool.and_eq_true, decide_eq_true_eq, and_self, true_or, or_true, false_or, or_false, Nat.zero_add, Nat.add_zero, eq_self, Nat.reduceEqDiff, Nat.reduceLeDiff, Nat.reduceLT, Nat.reduceAdd, Nat.reduceSub, Nat.reduceMul, LM_out hL, hX.2.1, e, nI_leP (show (lv E n).length < 2147483648 by omega) (show (lv E n).length < 2147483648 by omega), Nat.le_refl, e317_55, B317_55]
  | j + 1, i, hi => by
    have hl := lv_len E n
    have hr := rtP_gp h
    have ih := R317_11 hL hX hB h hD j (i + 1) (by omega)
    have hi2 : i < (lv E n).length := by omega
    obtain ⟨g1, g2, g3⟩ := hX.2.2.2.1 i hi2
    obtain ⟨-, x2, x3⟩ := lv_x hB hi2
    have e1 : FP.dmul (FP.i2d (gN E n ((lv E n).getD i 0))) (wP (rtP x y) (xi (lv E n) i)) = wt E n (rtP x y) i := rfl
    have e5 : FP.dadd (sA E n (rtP x y) i) (wt E n (rtP x y) i) = sA E n (rtP x y) (i + 1) := rfl
    have n1 : isNaN64 (wt E n (rtP x y) i) = false := fb_n (gp_fb (wt_gp hB hr))
    have n5 : isNaN64 (sA E n (rtP x y) (i + 1)) = false := sA_n hB hr (by omega)
    rw [e317_11]
    simp only [B317_11, xSeq, i_push, i_load, i_iload, i_lload, i_dload, i_aload, i_istore, i_astore, i_lstore, i_dstore, i_iinc, i_ii, i_iiz, i_ll, i_llz, i_lli, i_li, i_i, i_l, i_i2l, i_l2i, i_dup, i_dup2, i_dup2w, i_dupx1, i_pop, i_pop2, i_goto, i_ifc, i_icmp, i_getI, i_getL, i_getR, i_putI, i_putZ, i_putL, i_putR, i_aldI, i_aldB, i_aldL, i_aldD, i_astI, i_astL, i_astD, i_alen, i_ret, i_iret, i_zret, i_lret, i_fret, i_dret, i_aret, i_invS0, i_invV0, i_m2, i_m1, i_ml, i_obj, lk, lkp, stf1, stf2, Value.category, rV, xTo, lv_args, xCk, xCat, xRc, xAk, hg_S, hg_I, hg_J, hg_D, hg_R, hs_I, hs_J, hs_D, hs_R, uI_at, uJ_at, uD_at, uR_at, List.take_succ_cons, List.take_zero, List.drop_succ_cons, List.drop_zero, List.reverse_cons, List.reverse_nil, List.nil_append, List.cons_append, List.map_cons, List.map_nil, List.sum_cons, List.sum_nil, List.length_cons, List.length_nil, Option.toList_some, Option.toList_none, true_and, and_true, false_and, and_false, true_implies, false_implies, implies_true, not_true_eq_false, not_false_eq_true, ne_eq, if_true, if_false, Bool.and_true, Bool.true_and, decide_true, decide_false, reduceIte, reduceCtorEq, Bool.and_self, Bool.and_eq_true, decide_eq_true_eq, and_self, true_or, or_true, false_or, or_false, Nat.zero_add, Nat.add_zero, eq_self, Nat.reduceEqDiff, Nat.reduceLeDiff, Nat.reduceLT, Nat.reduceAdd, Nat.reduceSub, Nat.reduceMul, LM_out hL, hX.2.1, hX.2.2.1, nI_leP (show (lv E n).length < 2147483648 by omega) (show i < 2147483648 by omega), show ((lv E n).length ≤ i) = False from eq_false (by omega), nI_inP (show i < 6000 by omega) (by decide), nI_ix (show i < 2147483648 by omega), g1, g3, x3, nI_inP (show xi (lv E n) i < 401 by omega) (by decide), nI_ix (show xi (lv E n) i < 2147483648 by omega), hD _ (show xi (lv E n) i < 401 by omega), i_i2d, i_dd, e1, al_eq n1, e5, al_eq n5, nI_1, ih]
theorem L317 (hL : LM S R) (hX : XM n E I) (hB : EB E n) (h : AB x y)
    (kk : ∀ D', (∀ k, k < 401 → D' 352 k = wP (rtP x y) k) → (∀ o k, o ≠ 352 → D' o k = D o k) → Q (.ok (some (.double (sA E n (rtP x y) (lv E n).length)))) (S, I, J, D', R) b) :
    xRun xT 317 0 [(0, .ref 200), (1, .int (nI x)), (2, .int (nI y))] [] (S, I, J, D, R) b Q := by
  rw [e317_0]
  simp only [B317_0, xSeq, i_push, i_load, i_iload, i_lload, i_dload, i_aload, i_istore, i_astore, i_lstore, i_dstore, i_iinc, i_ii, i_iiz, i_ll, i_llz, i_lli, i_li, i_i, i_l, i_i2l, i_l2i, i_dup, i_dup2, i_dup2w, i_dupx1, i_pop, i_pop2, i_goto, i_ifc, i_icmp, i_getI, i_getL, i_getR, i_putI, i_putZ, i_putL, i_putR, i_aldI, i_aldB, i_aldL, i_aldD, i_astI, i_astL, i_astD, i_alen, i_ret, i_iret, i_zret, i_lret, i_fret, i_dret, i_aret, i_invS0, i_invV0, i_m2, i_m1, i_ml, i_obj, lk, lkp, stf1, stf2, Value.category, rV, xTo, lv_args, xCk, xCat, xRc, xAk, hg_S, hg_I, hg_J, hg_D, hg_R, hs_I, hs_J, hs_D, hs_R, uI_at, uJ_at, uD_at, uR_at, List.take_succ_cons, List.take_zero, List.drop_succ_cons, List.drop_zero, List.reverse_cons, List.reverse_nil, List.nil_append, List.cons_append, List.map_cons, List.map_nil, List.sum_cons, List.sum_nil, List.length_cons, List.length_nil, Option.toList_some, Option.toList_none, true_and, and_true, false_and, and_false, true_implies, false_implies, implies_true, not_true_eq_false, not_false_eq_true, ne_eq, if_true, if_false, Bool.and_true, Bool.true_and, decide_true, decide_false, reduceIte, reduceCtorEq, Bool.and_self, Bool.and_eq_true, decide_eq_true_eq, and_self, true_or, or_true, false_or, or_false, Nat.zero_add, Nat.add_zero, eq_self, Nat.reduceEqDiff, Nat.reduceLeDiff, Nat.reduceLT, Nat.reduceAdd, Nat.reduceSub, Nat.reduceMul, LM_out hL]
  refine L316 hL h (fun D' d1 d2 => ?_)
  have h11 := R317_11 (J := J) (b := b) (Q := Q) hL hX hB h d1 (lv E n).length 0 (by omega)
  rw [nI_0] at h11
  simp only [xSeq, i_push, i_load, i_iload, i_lload, i_dload, i_aload, i_istore, i_astore, i_lstore, i_dstore, i_iinc, i_ii, i_iiz, i_ll, i_llz, i_lli, i_li, i_i, i_l, i_i2l, i_l2i, i_dup, i_dup2, i_dup2w, i_dupx1, i_pop, i_pop2, i_goto, i_ifc, i_icmp, i_getI, i_getL, i_getR, i_putI, i_putZ, i_putL, i_putR, i_aldI, i_aldB, i_aldL, i_aldD, i_astI, i_astL, i_astD, i_alen, i_ret, i_iret, i_zret, i_lret, i_fret, i_dret, i_aret, i_invS0, i_invV0, i_m2, i_m1, i_ml, i_obj, lk, lkp, stf1, stf2, Value.category, rV, xTo, lv_args, xCk, xCat, xRc, xAk, hg_S, hg_I, hg_J, hg_D, hg_R, hs_I, hs_J, hs_D, hs_R, uI_at, uJ_at, uD_at, uR_at, List.take_succ_cons, List.take_zero, List.drop_succ_cons, List.drop_zero, List.reverse_cons, List.reverse_nil, List.nil_append, List.cons_append, List.map_cons, List.map_nil, List.sum_cons, List.sum_nil, List.length_cons, List.length_nil, Option.toList_some, Option.toList_none, true_and, and_true, false_and, and_false, true_implies, false_implies, implies_true, not_true_eq_false, not_false_eq_true, ne_eq, if_true, if_false, Bool.and_true, Bool.true_and, decide_true, decide_false, reduceIte, reduceCtorEq, Bool.and_self, Bool.and_eq_true, decide_eq_true_eq, and_self, true_or, or_true, false_or, or_false, Nat.zero_add, Nat.add_zero, eq_self, Nat.reduceEqDiff, Nat.reduceLeDiff, Nat.reduceLT, Nat.reduceAdd, Nat.reduceSub, Nat.reduceMul]
  have e0 : sA E n (rtP x y) 0 = FP.dconst0 := rfl
  rw [e0] at h11
  rw [h11]
  exact kk D' d1 d2
theorem L315_12 (hL : LM S R) (hX : XM n E I) (hB : EB E n) (h : AB x y) (hD : ∀ k, k < 401 → D 352 k = wP (rtP x y) k)
    (kk : ∀ D', (∀ k, k < 401 → D' 352 k = wP (rtP x y) k) → (∀ o k, o ≠ 352 → D' o k = D o k) → Q (.ok (some (.double (mn E n (rtP x y) w)))) (S, I, J, D', R) b) : ∀ (j i : Nat), i + j = (lv E n).length → xRun xT 315 12 [(0, .ref 200), (1, .int w), (2, .int (nI x)), (3, .int (nI y)), (4, .double (sS E n (rtP x y) w i)), (6, .int (nI i))] [] (S, I, J, D, R) b Q
  | 0, i, hi => by
    have hl := lv_len E n
    have hr := rtP_gp h
    have e : i = (lv E n).length := by omega
    have nm : isNaN64 (mn E n (rtP x y) w) = false := fb_n (mn_fb hB hr)
    have em : FP.ddiv (sS E n (rtP x y) w (lv E n).length) (sA E n (rtP x y) (lv E n).length) = mn E n (rtP x y) w := rfl
    rw [e315_12]
    simp only [B315_12, xSeq, i_push, i_load, i_iload, i_lload, i_dload, i_aload, i_istore, i_astore, i_lstore, i_dstore, i_iinc, i_ii, i_iiz, i_ll, i_llz, i_lli, i_li, i_i, i_l, i_i2l, i_l2i, i_dup, i_dup2, i_dup2w, i_dupx1, i_pop, i_pop2, i_goto, i_ifc, i_icmp, i_getI, i_getL, i_getR, i_putI, i_putZ, i_putL, i_putR, i_aldI, i_aldB, i_aldL, i_aldD, i_astI, i_astL, i_astD, i_alen, i_ret, i_iret, i_zret, i_lret, i_fret, i_dret, i_aret, i_invS0, i_invV0, i_m2, i_m1, i_ml, i_obj, lk, lkp, stf1, stf2, Value.category, rV, xTo, lv_args, xCk, xCat, xRc, xAk, hg_S, hg_I, hg_J, hg_D, hg_R, hs_I, hs_J, hs_D, hs_R, uI_at, uJ_at, uD_at, uR_at, List.take_succ_cons, List.take_zero, List.drop_succ_cons, List.drop_zero, List.reverse_cons, List.reverse_nil, List.nil_append, List.cons_append, List.map_cons, List.map_nil, List.sum_cons, List.sum_nil, List.length_cons, List.length_nil, Option.toList_some, Option.toList_none, true_and, and_true, false_and, and_false, true_implies, false_implies, implies_true, not_true_eq_false, not_false_eq_true, ne_eq, if_true, if_false, Bool.and_true, Bool.true_and, decide_true, decide_false, reduceIte, reduceCtorEq, Bool.and_self, Bool.and_eq_true, decide_eq_true_eq, and_self, true_or, or_true, false_or, or_false, Nat.zero_add, Nat.add_zero, eq_self, Nat.reduceEqDiff, Nat.reduceLeDiff, Nat.reduceLT, Nat.reduceAdd, Nat.reduceSub, Nat.reduceMul, LM_out hL, hX.2.1, e, nI_leP (show (lv E n).length < 2147483648 by omega) (show (lv E n).length < 2147483648 by omega), Nat.le_refl, e315_80, B315_80]
    refine L317 hL hX hB h (fun D' d1 d2 => ?_)
    simp only [xSeq, i_push, i_load, i_iload, i_lload, i_dload, i_aload, i_istore, i_astore, i_lstore, i_dstore, i_iinc, i_ii, i_iiz, i_ll, i_llz, i_lli, i_li, i_i, i_l, i_i2l, i_l2i, i_dup, i_dup2, i_dup2w, i_dupx1, i_pop, i_pop2, i_goto, i_ifc, i_icmp, i_getI, i_getL, i_getR, i_putI, i_putZ, i_putL, i_putR, i_aldI, i_aldB, i_aldL, i_aldD, i_astI, i_astL, i_astD, i_alen, i_ret, i_iret, i_zret, i_lret, i_fret, i_dret, i_aret, i_invS0, i_invV0, i_m2, i_m1, i_ml, i_obj, lk, lkp, stf1, stf2, Value.category, rV, xTo, lv_args, xCk, xCat, xRc, xAk, hg_S, hg_I, hg_J, hg_D, hg_R, hs_I, hs_J, hs_D, hs_R, uI_at, uJ_at, uD_at, uR_at, List.take_succ_cons, List.take_zero, List.drop_succ_cons, List.drop_zero, List.reverse_cons, List.reverse_nil, List.nil_append, List.cons_append, List.map_cons, List.map_nil, List.sum_cons, List.sum_nil, List.length_cons, List.length_nil, Option.toList_some, Option.toList_none, true_and, and_true, false_and, and_false, true_implies, false_implies, implies_true, not_true_eq_false, not_false_eq_true, ne_eq, if_true, if_false, Bool.and_true, Bool.true_and, decide_true, decide_false, reduceIte, reduceCtorEq, Bool.and_self, Bool.and_eq_true, decide_eq_true_eq, and_self, true_or, or_true, false_or, or_false, Nat.zero_add, Nat.add_zero, eq_self, Nat.reduceEqDiff, Nat.reduceLeDiff, Nat.reduceLT, Nat.reduceAdd, Nat.reduceSub, Nat.reduceMul, i_dd, em, al_eq nm]
    exact kk D' d1 d2
  | j + 1, i, hi => by
    have hl := lv_len E n
    have hr := rtP_gp h
    have ih := L315_12 hL hX hB h hD kk j (i + 1) (by omega)
    have hi2 : i < (lv E n).length := by omega
    have hn := hB.1
    obtain ⟨g1, g2, g3⟩ := hX.2.2.2.1 i hi2
    obtain ⟨-, x2, x3⟩ := lv_x hB hi2
    have hmm := (lv_get hB hi2).2.2
    have ha : jAbsL (gM n ((lv E n).getD i 0)).toInt64 = (jAbs (gM n ((lv E n).getD i 0))).toInt64 := abs_m n (by omega) ((lv E n).getD i 0 % 17) (by omega)
    have e1 : FP.dmul (FP.i2d (gN E n ((lv E n).getD i 0))) (wP (rtP x y) (xi (lv E n) i)) = wt E n (rtP x y) i := rfl
    have e2 : vF w (gE ((lv E n).getD i 0)) (gM n ((lv E n).getD i 0)) = vl E n w i := rfl
    have e3 : FP.dmul (wt E n (rtP x y) i) (FP.l2d (vl E n w i)) = tm E n (rtP x y) w i := rfl
    have e4 : FP.dadd (sS E n (rtP x y) w i) (tm E n (rtP x y) w i) = sS E n (rtP x y) w (i + 1) := rfl
    have n1 : isNaN64 (wt E n (rtP x y) i) = false := fb_n (gp_fb (wt_gp hB hr))
    have n3 : isNaN64 (tm E n (rtP x y) w i) = false := fb_n (tm_fb hB hr hi2)
    have n4 : isNaN64 (sS E n (rtP x y) w (i + 1)) = false := fb_n (sS_fb hB hr (i + 1) (by omega))
    rw [e315_12]
    simp only [B315_12, xSeq, i_push, i_load, i_iload, i_lload, i_dload, i_aload, i_istore, i_astore, i_lstore, i_dstore, i_iinc, i_ii, i_iiz, i_ll, i_llz, i_lli, i_li, i_i, i_l, i_i2l, i_l2i, i_dup, i_dup2, i_dup2w, i_dupx1, i_pop, i_pop2, i_goto, i_ifc, i_icmp, i_getI, i_getL, i_getR, i_putI, i_putZ, i_putL, i_putR, i_aldI, i_aldB, i_aldL, i_aldD, i_astI, i_astL, i_astD, i_alen, i_ret, i_iret, i_zret, i_lret, i_fret, i_dret, i_aret, i_invS0, i_invV0, i_m2, i_m1, i_ml, i_obj, lk, lkp, stf1, stf2, Value.category, rV, xTo, lv_args, xCk, xCat, xRc, xAk, hg_S, hg_I, hg_J, hg_D, hg_R, hs_I, hs_J, hs_D, hs_R, uI_at, uJ_at, uD_at, uR_at, List.take_succ_cons, List.take_zero, List.drop_succ_cons, List.drop_zero, List.reverse_cons, List.reverse_nil, List.nil_append, List.cons_append, List.map_cons, List.map_nil, List.sum_cons, List.sum_nil, List.length_cons, List.length_nil, Option.toList_some, Option.toList_none, true_and, and_true, false_and, and_false, true_implies, false_implies, implies_true, not_true_eq_false, not_false_eq_true, ne_eq, if_true, if_false, Bool.and_true, Bool.true_and, decide_true, decide_false, reduceIte, reduceCtorEq, Bool.and_self, Bool.and_eq_true, decide_eq_true_eq, and_self, true_or, or_true, false_or, or_false, Nat.zero_add, Nat.add_zero, eq_self, Nat.reduceEqDiff, Nat.reduceLeDiff, Nat.reduceLT, Nat.reduceAdd, Nat.reduceSub, Nat.reduceMul, LM_out hL, hX.2.1, hX.2.2.1, nI_leP (show (lv E n).length < 2147483648 by omega) (show i < 2147483648 by omega), show ((lv E n).length ≤ i) = False from eq_false (by omega), nI_inP (show i < 6000 by omega) (by decide), nI_ix (show i < 2147483648 by omega), g1, g2, g3, x3, nI_inP (show xi (lv E n) i < 401 by omega) (by decide), nI_ix (show xi (lv E n) i < 2147483648 by omega), hD _ (show xi (lv E n) i < 401 by omega), i_i2d, i_l2d, i_dd, e1, al_eq n1, R295 ha, e2, e3, al_eq n3, e4, al_eq n4, nI_1]
    exact ih
theorem L315 (hL : LM S R) (hX : XM n E I) (hB : EB E n) (h : AB x y)
    (kk : ∀ D', (∀ o k, o ≠ 352 → D' o k = D o k) → Q (.ok (some (.double (mn E n (rtP x y) w)))) (S, I, J, D', R) b) :
    xRun xT 315 0 [(0, .ref 200), (1, .int w), (2, .int (nI x)), (3, .int (nI y))] [] (S, I, J, D, R) b Q := by
  rw [e315_0]
  simp only [B315_0, xSeq, i_push, i_load, i_iload, i_lload, i_dload, i_aload, i_istore, i_astore, i_lstore, i_dstore, i_iinc, i_ii, i_iiz, i_ll, i_llz, i_lli, i_li, i_i, i_l, i_i2l, i_l2i, i_dup, i_dup2, i_dup2w, i_dupx1, i_pop, i_pop2, i_goto, i_ifc, i_icmp, i_getI, i_getL, i_getR, i_putI, i_putZ, i_putL, i_putR, i_aldI, i_aldB, i_aldL, i_aldD, i_astI, i_astL, i_astD, i_alen, i_ret, i_iret, i_zret, i_lret, i_fret, i_dret, i_aret, i_invS0, i_invV0, i_m2, i_m1, i_ml, i_obj, lk, lkp, stf1, stf2, Value.category, rV, xTo, lv_args, xCk, xCat, xRc, xAk, hg_S, hg_I, hg_J, hg_D, hg_R, hs_I, hs_J, hs_D, hs_R, uI_at, uJ_at, uD_at, uR_at, List.take_succ_cons, List.take_zero, List.drop_succ_cons, List.drop_zero, List.reverse_cons, List.reverse_nil, List.nil_append, List.cons_append, List.map_cons, List.map_nil, List.sum_cons, List.sum_nil, List.length_cons, List.length_nil, Option.toList_some, Option.toList_none, true_and, and_true, false_and, and_false, true_implies, false_implies, implies_true, not_true_eq_false, not_false_eq_true, ne_eq, if_true, if_false, Bool.and_true, Bool.true_and, decide_true, decide_false, reduceIte, reduceCtorEq, Bool.and_self, Bool.and_eq_true, decide_eq_true_eq, and_self, true_or, or_true, false_or, or_false, Nat.zero_add, Nat.add_zero, eq_self, Nat.reduceEqDiff, Nat.reduceLeDiff, Nat.reduceLT, Nat.reduceAdd, Nat.reduceSub, Nat.reduceMul, LM_out hL]
  refine L316 hL h (fun D' d1 d2 => ?_)
  have h12 := L315_12 (J := J) (D := D') (b := b) (Q := Q) (w := w) hL hX hB h d1 (fun D2 k1 k2 => kk D2 (fun o k ho => (k2 o k ho).trans (d2 o k ho))) (lv E n).length 0 (by omega)
  rw [nI_0] at h12
  simp only [xSeq, i_push, i_load, i_iload, i_lload, i_dload, i_aload, i_istore, i_astore, i_lstore, i_dstore, i_iinc, i_ii, i_iiz, i_ll, i_llz, i_lli, i_li, i_i, i_l, i_i2l, i_l2i, i_dup, i_dup2, i_dup2w, i_dupx1, i_pop, i_pop2, i_goto, i_ifc, i_icmp, i_getI, i_getL, i_getR, i_putI, i_putZ, i_putL, i_putR, i_aldI, i_aldB, i_aldL, i_aldD, i_astI, i_astL, i_astD, i_alen, i_ret, i_iret, i_zret, i_lret, i_fret, i_dret, i_aret, i_invS0, i_invV0, i_m2, i_m1, i_ml, i_obj, lk, lkp, stf1, stf2, Value.category, rV, xTo, lv_args, xCk, xCat, xRc, xAk, hg_S, hg_I, hg_J, hg_D, hg_R, hs_I, hs_J, hs_D, hs_R, uI_at, uJ_at, uD_at, uR_at, List.take_succ_cons, List.take_zero, List.drop_succ_cons, List.drop_zero, List.reverse_cons, List.reverse_nil, List.nil_append, List.cons_append, List.map_cons, List.map_nil, List.sum_cons, List.sum_nil, List.length_cons, List.length_nil, Option.toList_some, Option.toList_none, true_and, and_true, false_and, and_false, true_implies, false_implies, implies_true, not_true_eq_false, not_false_eq_true, ne_eq, if_true, if_false, Bool.and_true, Bool.true_and, decide_true, decide_false, reduceIte, reduceCtorEq, Bool.and_self, Bool.and_eq_true, decide_eq_true_eq, and_self, true_or, or_true, false_or, or_false, Nat.zero_add, Nat.add_zero, eq_self, Nat.reduceEqDiff, Nat.reduceLeDiff, Nat.reduceLT, Nat.reduceAdd, Nat.reduceSub, Nat.reduceMul]
  exact h12
end
/-! ===== figures ===== -/
section
theorem dc_eq {x : UInt64} (h : isNaN64 x = false) : Op.cmpValue (FP.dcmp x x) .l = 0 := by
  rw [fp_n] at h
  have e : FP.dcmp x x = some .eq := FP.Core.dcmp_refl h
  rw [e]
  decide
theorem al_i {c : UInt64} (h : isNaN64 c = false) {P : UInt64 → Prop} (k : P c) : ∀ v : UInt64, alike64 v c = true → P v := by
  rw [al_eq h]
  exact k
theorem rp_p {j : Nat} (h1 : 52 ≤ j) (h2 : j ≤ 2045) : rp (2 ^ j) := by
  refine ⟨false, 2 ^ 52, (j : Int) - 52 - 1074, ⟨?_, ?_, ?_, Or.inr ?_⟩, ?_⟩
  · show (2 : Nat) ^ 52 < 2 ^ 53
    decide
  · rw [FP.Core.qmin_b64]
    omega
  · show (j : Int) - 52 - 1074 ≤ 971
    omega
  · show (2 : Nat) ^ 52 ≤ 2 ^ 52
    exact Nat.le_refl _
  · show 2 ^ 52 * 2 ^ ((j : Int) - 52 - 1074 - FP.Core.b64.qmin).toNat = 2 ^ j
    rw [FP.Core.qmin_b64, ← Nat.pow_add]
    congr 1
    omega
variable {E : Nat → Int32} {n : Nat} {r : UInt64} {w : Int32}
theorem mn_p (hB : EB E n) (hr : gp 0 uo r) : fb (2 ^ 1119) (mn E n r w) := fb_le (mn_fb hB hr) (by decide +kernel)
/-- the mean square never vanishes -/
def PQ (E : Nat → Int32) (n : Nat) : Prop := ∀ r, gp (2 ^ 1067) uo r → gp (2 ^ 834) (2 ^ 1119) (mn E n r 2)
theorem gl0 (h : gp (2 ^ 1067) uo r) : gp 0 uo r := gp_le h (Nat.zero_le _) (Nat.le_refl _)
theorem rtP_gl {a b : Nat} (h : AB a b) : gp (2 ^ 1067) uo (rtP a b) := by
  obtain ⟨h1, h2, h3⟩ := h
  have u0 := uo_pos
  refine gp_div (i2d_n (k := a) (by omega)) (i2d_n (k := b) (by omega)) (Nat.mul_pos (by omega) u0) ?_ ?_ (rp_p (by decide) (by decide)) ?_
  · have := rp_n (k := 1) (by decide)
    rw [Nat.one_mul] at this
    exact this
  · rw [Nat.mul_assoc, Nat.mul_left_comm uo b uo]
    exact Nat.mul_le_mul_right _ (by omega)
  · have e1 : 2 ^ 1067 * (99 * uo) ≤ 1 * uo * uo := by decide +kernel
    have e2 : 2 ^ 1067 * (b * uo) ≤ 2 ^ 1067 * (99 * uo) := Nat.mul_le_mul_left _ (Nat.mul_le_mul_right _ h3)
    have e3 : 1 * uo * uo ≤ a * uo * uo := Nat.mul_le_mul_right _ (Nat.mul_le_mul_right _ h1)
    exact Nat.le_trans e2 (Nat.le_trans e1 e3)
def d3 : UInt64 := 4613937818241073152
theorem d3_gp : gp (3 * uo) (3 * uo) d3 := by
  have h := i2d_n (k := 3) (by decide)
  have e : FP.i2d (nI 3) = d3 := by decide +kernel
  rw [e] at h
  exact h
def q3 (E : Nat → Int32) (n : Nat) (r : UInt64) : UInt64 := FP.dmul (FP.dmul d3 (mn E n r 2)) (mn E n r 2)
def fg (E : Nat → Int32) (n : Nat) (r : UInt64) (w : Int32) : UInt64 :=
  if w = 2 then FP.dsub FP.dconst1 (FP.ddiv (mn E n r 3) (q3 E n r))
  else FP.dsub (mn E n r (if w = 0 then 4 else 2)) (FP.dmul (mn E n r w) (mn E n r w))
theorem fg_0 : FP.dsub (mn E n r 4) (FP.dmul (mn E n r 0) (mn E n r 0)) = fg E n r 0 := by
  unfold fg
  rw [if_neg (show ¬ (0 : Int32) = 2 by decide), if_pos (show (0 : Int32) = 0 from rfl)]
theorem fg_1 : FP.dsub (mn E n r 2) (FP.dmul (mn E n r 1) (mn E n r 1)) = fg E n r 1 := by
  unfold fg
  rw [if_neg (show ¬ (1 : Int32) = 2 by decide), if_neg (show ¬ (1 : Int32) = 0 by decide)]
theorem fg_2 : FP.dsub FP.dconst1 (FP.ddiv (mn E n r 3) (q3 E n r)) = fg E n r 2 := by
  unfold fg
  rw [if_pos (show (2 : Int32) = 2 from rfl)]
theorem q30_gp (hB : EB E n) (hr : gp (2 ^ 1067) uo r) (hp : PQ E n) : gp (2 ^ 835) (2 ^ 1121) (FP.dmul d3 (mn E n r 2)) :=
  gp_mul d3_gp (hp r hr) (rp_p (by decide) (by decide)) (by decide +kernel) (rp_p (by decide) (by decide)) (by decide +kernel)
theorem q3_gp (hB : EB E n) (hr : gp (2 ^ 1067) uo r) (hp : PQ E n) : gp (2 ^ 594) (2 ^ 1166) (q3 E n r) :=
  gp_mul (q30_gp hB hr hp) (hp r hr) (rp_p (by decide) (by decide)) (by decide +kernel) (rp_p (by decide) (by decide)) (by decide +kernel)
theorem q4_fb (hB : EB E n) (hr : gp (2 ^ 1067) uo r) (hp : PQ E n) : fb (2 ^ 1599) (FP.ddiv (mn E n r 3) (q3 E n r)) :=
  fb_div (mn_p hB (gl0 hr)) (q3_gp hB hr hp) (Nat.two_pow_pos _) (rp_p (by decide) (by decide)) (by decide +kernel)
theorem mm_fb (hB : EB E n) (hr : gp 0 uo r) : fb (2 ^ 1164) (FP.dmul (mn E n r w) (mn E n r w)) :=
  fb_mul (mn_p hB hr) (mn_p hB hr) (rp_p (by decide) (by decide)) (by decide +kernel)
theorem fg_fb (hB : EB E n) (hr : gp (2 ^ 1067) uo r) (hp : PQ E n) : fb (2 ^ 1600) (fg E n r w) := by
  unfold fg
  split
  · exact fb_sub (gp_fb gp_1) (q4_fb hB hr hp) (rp_p (by decide) (by decide)) (by decide +kernel)
  · exact fb_sub (mn_p hB (gl0 hr)) (mm_fb hB (gl0 hr)) (rp_p (by decide) (by decide)) (by decide +kernel)
theorem q3_cmp (hB : EB E n) (hr : gp (2 ^ 1067) uo r) (hp : PQ E n) : FP.dcmp (q3 E n r) FP.dconst0 = some .gt := gp_cmp (q3_gp hB hr hp) (Nat.two_pow_pos _)
theorem rg_02 {w : Int32} (hw : rg w 0 2 = true) : w = 0 ∨ w = 1 ∨ w = 2 := by
  unfold rg at hw
  rw [Bool.and_eq_true, Bool.not_eq_true', Bool.not_eq_true', decide_eq_false_iff_not, decide_eq_false_iff_not] at hw
  have k1 := hw.1
  have k2 := hw.2
  have t0 : (0 : Int32).toInt = 0 := rfl
  have t1 : (1 : Int32).toInt = 1 := rfl
  have t2 : (2 : Int32).toInt = 2 := rfl
  rw [Int32.lt_iff_toInt_lt] at k1 k2
  by_cases n0 : w.toInt = 0
  · exact Or.inl (Int32.toInt_inj.mp (n0.trans t0.symm))
  · by_cases n1 : w.toInt = 1
    · exact Or.inr (Or.inl (Int32.toInt_inj.mp (n1.trans t1.symm)))
    · exact Or.inr (Or.inr (Int32.toInt_inj.mp (by omega)))
variable {S : xS} {I : xI} {J : xJ} {D : xDb} {R : xR} {b : Nat × Nat} {Q : xQ} {x y : Nat}
theorem L109 (hL : LC S R) (hX : XL n E S I R) (hB : EB E n) (hp : PQ E n) (h : AB x y) (hw : rg w 0 2 = true)
    (kk : ∀ D', (∀ o k, o ≠ 139 → D' o k = D o k) → Q (.ok (some (.double (fg E n (rtP x y) w)))) (S, I, J, D', R) b) :
    xRun xT 109 0 [(0, .ref 130), (1, .int w), (2, .int (nI x)), (3, .int (nI y))] [] (S, I, J, D, R) b Q := by
  have hr := rtP_gl h
  rw [e109_0]
  simp only [B109_0, xSeq, i_push, i_load, i_iload, i_lload, i_dload, i_aload, i_istore, i_astore, i_lstore, i_dstore, i_iinc, i_ii, i_iiz, i_ll, i_llz, i_lli, i_li, i_i, i_l, i_i2l, i_l2i, i_dup, i_dup2, i_dup2w, i_dupx1, i_pop, i_pop2, i_goto, i_ifc, i_icmp, i_getI, i_getL, i_getR, i_putI, i_putZ, i_putL, i_putR, i_aldI, i_aldB, i_aldL, i_aldD, i_astI, i_astL, i_astD, i_alen, i_ret, i_iret, i_zret, i_lret, i_fret, i_dret, i_aret, i_invS0, i_invV0, i_m2, i_m1, i_ml, i_obj, lk, lkp, stf1, stf2, Value.category, rV, xTo, lv_args, xCk, xCat, xRc, xAk, hg_S, hg_I, hg_J, hg_D, hg_R, hs_I, hs_J, hs_D, hs_R, uI_at, uJ_at, uD_at, uR_at, List.take_succ_cons, List.take_zero, List.drop_succ_cons, List.drop_zero, List.reverse_cons, List.reverse_nil, List.nil_append, List.cons_append, List.map_cons, List.map_nil, List.sum_cons, List.sum_nil, List.length_cons, List.length_nil, Option.toList_some, Option.toList_none, true_and, and_true, false_and, and_false, true_implies, false_implies, implies_true, not_true_eq_false, not_false_eq_true, ne_eq, if_true, if_false, Bool.and_true, Bool.true_and, decide_true, decide_false, reduceIte, reduceCtorEq, Bool.and_self, Bool.and_eq_true, decide_eq_true_eq, and_self, true_or, or_true, false_or, or_false, Nat.zero_add, Nat.add_zero, eq_self, Nat.reduceEqDiff, Nat.reduceLeDiff, Nat.reduceLT, Nat.reduceAdd, Nat.reduceSub, Nat.reduceMul, LC_out hL]
  refine L106 hL h (fun D' d1 d2 => ?_)
  have h107 := fun (w : Int32) (b : Nat × Nat) (Q : xQ) => R107 (J := J) (b := b) (Q := Q) (w := w) hL hX hB h d1
  have h10 : ((1 : Int32) = 0) = False := eq_false (by decide)
  have h20 : ((2 : Int32) = 0) = False := eq_false (by decide)
  have h21 : ((2 : Int32) = 1) = False := eq_false (by decide)
  have h12 : ((1 : Int32) = 2) = False := eq_false (by decide)
  have h02 : ((0 : Int32) = 2) = False := eq_false (by decide)
  have nm : ∀ w, isNaN64 (FP.dmul (mn E n (rtP x y) w) (mn E n (rtP x y) w)) = false := fun w => fb_n (mm_fb hB (gl0 hr))
  have nf : isNaN64 (fg E n (rtP x y) w) = false := fb_n (fg_fb hB hr hp)
  by_cases h0 : w = 0
  · subst h0
    have ef := fg_0 (E := E) (n := n) (r := rtP x y)
    simp only [xSeq, i_push, i_load, i_iload, i_lload, i_dload, i_aload, i_istore, i_astore, i_lstore, i_dstore, i_iinc, i_ii, i_iiz, i_ll, i_llz, i_lli, i_li, i_i, i_l, i_i2l, i_l2i, i_dup, i_dup2, i_dup2w, i_dupx1, i_pop, i_pop2, i_goto, i_ifc, i_icmp, i_getI, i_getL, i_getR, i_putI, i_putZ, i_putL, i_putR, i_aldI, i_aldB, i_aldL, i_aldD, i_astI, i_astL, i_astD, i_alen, i_ret, i_iret, i_zret, i_lret, i_fret, i_dret, i_aret, i_invS0, i_invV0, i_m2, i_m1, i_ml, i_obj, lk, lkp, stf1, stf2, Value.category, rV, xTo, lv_args, xCk, xCat, xRc, xAk, hg_S, hg_I, hg_J, hg_D, hg_R, hs_I, hs_J, hs_D, hs_R, uI_at, uJ_at, uD_at, uR_at, List.take_succ_cons, List.take_zero, List.drop_succ_cons, List.drop_zero, List.reverse_cons, List.reverse_nil, List.nil_append, List.cons_append, List.map_cons, List.map_nil, List.sum_cons, List.sum_nil, List.length_cons, List.length_nil, Option.toList_some, Option.toList_none, true_and, and_true, false_and, and_false, true_implies, false_implies, implies_true, not_true_eq_false, not_false_eq_true, ne_eq, if_true, if_false, Bool.and_true, Bool.true_and, decide_true, decide_false, reduceIte, reduceCtorEq, Bool.and_self, Bool.and_eq_true, decide_eq_true_eq, and_self, true_or, or_true, false_or, or_false, Nat.zero_add, Nat.add_zero, eq_self, Nat.reduceEqDiff, Nat.reduceLeDiff, Nat.reduceLT, Nat.reduceAdd, Nat.reduceSub, Nat.reduceMul, LC_out hL, ne_eq]
    rw [h107 0]
    simp only [xSeq, i_push, i_load, i_iload, i_lload, i_dload, i_aload, i_istore, i_astore, i_lstore, i_dstore, i_iinc, i_ii, i_iiz, i_ll, i_llz, i_lli, i_li, i_i, i_l, i_i2l, i_l2i, i_dup, i_dup2, i_dup2w, i_dupx1, i_pop, i_pop2, i_goto, i_ifc, i_icmp, i_getI, i_getL, i_getR, i_putI, i_putZ, i_putL, i_putR, i_aldI, i_aldB, i_aldL, i_aldD, i_astI, i_astL, i_astD, i_alen, i_ret, i_iret, i_zret, i_lret, i_fret, i_dret, i_aret, i_invS0, i_invV0, i_m2, i_m1, i_ml, i_obj, lk, lkp, stf1, stf2, Value.category, rV, xTo, lv_args, xCk, xCat, xRc, xAk, hg_S, hg_I, hg_J, hg_D, hg_R, hs_I, hs_J, hs_D, hs_R, uI_at, uJ_at, uD_at, uR_at, List.take_succ_cons, List.take_zero, List.drop_succ_cons, List.drop_zero, List.reverse_cons, List.reverse_nil, List.nil_append, List.cons_append, List.map_cons, List.map_nil, List.sum_cons, List.sum_nil, List.length_cons, List.length_nil, Option.toList_some, Option.toList_none, true_and, and_true, false_and, and_false, true_implies, false_implies, implies_true, not_true_eq_false, not_false_eq_true, ne_eq, if_true, if_false, Bool.and_true, Bool.true_and, decide_true, decide_false, reduceIte, reduceCtorEq, Bool.and_self, Bool.and_eq_true, decide_eq_true_eq, and_self, true_or, or_true, false_or, or_false, Nat.zero_add, Nat.add_zero, eq_self, Nat.reduceEqDiff, Nat.reduceLeDiff, Nat.reduceLT, Nat.reduceAdd, Nat.reduceSub, Nat.reduceMul, LC_out hL]
    rw [h107 4]
    simp only [xSeq, i_push, i_load, i_iload, i_lload, i_dload, i_aload, i_istore, i_astore, i_lstore, i_dstore, i_iinc, i_ii, i_iiz, i_ll, i_llz, i_lli, i_li, i_i, i_l, i_i2l, i_l2i, i_dup, i_dup2, i_dup2w, i_dupx1, i_pop, i_pop2, i_goto, i_ifc, i_icmp, i_getI, i_getL, i_getR, i_putI, i_putZ, i_putL, i_putR, i_aldI, i_aldB, i_aldL, i_aldD, i_astI, i_astL, i_astD, i_alen, i_ret, i_iret, i_zret, i_lret, i_fret, i_dret, i_aret, i_invS0, i_invV0, i_m2, i_m1, i_ml, i_obj, lk, lkp, stf1, stf2, Value.category, rV, xTo, lv_args, xCk, xCat, xRc, xAk, hg_S, hg_I, hg_J, hg_D, hg_R, hs_I, hs_J, hs_D, hs_R, uI_at, uJ_at, uD_at, uR_at, List.take_succ_cons, List.take_zero, List.drop_succ_cons, List.drop_zero, List.reverse_cons, List.reverse_nil, List.nil_append, List.cons_append, List.map_cons, List.map_nil, List.sum_cons, List.sum_nil, List.length_cons, List.length_nil, Option.toList_some, Option.toList_none, true_and, and_true, false_and, and_false, true_implies, false_implies, implies_true, not_true_eq_false, not_false_eq_true, ne_eq, if_true, if_false, Bool.and_true, Bool.true_and, decide_true, decide_false, reduceIte, reduceCtorEq, Bool.and_self, Bool.and_eq_true, decide_eq_true_eq, and_self, true_or, or_true, false_or, or_false, Nat.zero_add, Nat.add_zero, eq_self, Nat.reduceEqDiff, Nat.reduceLeDiff, Nat.reduceLT, Nat.reduceAdd, Nat.reduceSub, Nat.reduceMul, i_dd, al_eq (nm 0), ef, al_eq nf]
    exact kk D' d2
  · by_cases h1 : w = 1
    · subst h1
      have ef := fg_1 (E := E) (n := n) (r := rtP x y)
      have n1 := nm 1
      have a1 := h107 1
      have a2 := h107 2
      obtain ⟨v1, hv1⟩ : ∃ v, v = mn E n (rtP x y) 1 := ⟨_, rfl⟩
      obtain ⟨v2, hv2⟩ : ∃ v, v = mn E n (rtP x y) 2 := ⟨_, rfl⟩
      rw [← hv1] at ef n1 a1
      rw [← hv2] at ef a2
      simp only [xSeq, i_push, i_load, i_iload, i_lload, i_dload, i_aload, i_istore, i_astore, i_lstore, i_dstore, i_iinc, i_ii, i_iiz, i_ll, i_llz, i_lli, i_li, i_i, i_l, i_i2l, i_l2i, i_dup, i_dup2, i_dup2w, i_dupx1, i_pop, i_pop2, i_goto, i_ifc, i_icmp, i_getI, i_getL, i_getR, i_putI, i_putZ, i_putL, i_putR, i_aldI, i_aldB, i_aldL, i_aldD, i_astI, i_astL, i_astD, i_alen, i_ret, i_iret, i_zret, i_lret, i_fret, i_dret, i_aret, i_invS0, i_invV0, i_m2, i_m1, i_ml, i_obj, lk, lkp, stf1, stf2, Value.category, rV, xTo, lv_args, xCk, xCat, xRc, xAk, hg_S, hg_I, hg_J, hg_D, hg_R, hs_I, hs_J, hs_D, hs_R, uI_at, uJ_at, uD_at, uR_at, List.take_succ_cons, List.take_zero, List.drop_succ_cons, List.drop_zero, List.reverse_cons, List.reverse_nil, List.nil_append, List.cons_append, List.map_cons, List.map_nil, List.sum_cons, List.sum_nil, List.length_cons, List.length_nil, Option.toList_some, Option.toList_none, true_and, and_true, false_and, and_false, true_implies, false_implies, implies_true, not_true_eq_false, not_false_eq_true, ne_eq, if_true, if_false, Bool.and_true, Bool.true_and, decide_true, decide_false, reduceIte, reduceCtorEq, Bool.and_self, Bool.and_eq_true, decide_eq_true_eq, and_self, true_or, or_true, false_or, or_false, Nat.zero_add, Nat.add_zero, eq_self, Nat.reduceEqDiff, Nat.reduceLeDiff, Nat.reduceLT, Nat.reduceAdd, Nat.reduceSub, Nat.reduceMul, LC_out hL, ne_eq, h10, not_false_eq_true]
      rw [e109_29]
      simp only [B109_29, xSeq, i_push, i_load, i_iload, i_lload, i_dload, i_aload, i_istore, i_astore, i_lstore, i_dstore, i_iinc, i_ii, i_iiz, i_ll, i_llz, i_lli, i_li, i_i, i_l, i_i2l, i_l2i, i_dup, i_dup2, i_dup2w, i_dupx1, i_pop, i_pop2, i_goto, i_ifc, i_icmp, i_getI, i_getL, i_getR, i_putI, i_putZ, i_putL, i_putR, i_aldI, i_aldB, i_aldL, i_aldD, i_astI, i_astL, i_astD, i_alen, i_ret, i_iret, i_zret, i_lret, i_fret, i_dret, i_aret, i_invS0, i_invV0, i_m2, i_m1, i_ml, i_obj, lk, lkp, stf1, stf2, Value.category, rV, xTo, lv_args, xCk, xCat, xRc, xAk, hg_S, hg_I, hg_J, hg_D, hg_R, hs_I, hs_J, hs_D, hs_R, uI_at, uJ_at, uD_at, uR_at, List.take_succ_cons, List.take_zero, List.drop_succ_cons, List.drop_zero, List.reverse_cons, List.reverse_nil, List.nil_append, List.cons_append, List.map_cons, List.map_nil, List.sum_cons, List.sum_nil, List.length_cons, List.length_nil, Option.toList_some, Option.toList_none, true_and, and_true, false_and, and_false, true_implies, false_implies, implies_true, not_true_eq_false, not_false_eq_true, ne_eq, if_true, if_false, Bool.and_true, Bool.true_and, decide_true, decide_false, reduceIte, reduceCtorEq, Bool.and_self, Bool.and_eq_true, decide_eq_true_eq, and_self, true_or, or_true, false_or, or_false, Nat.zero_add, Nat.add_zero, eq_self, Nat.reduceEqDiff, Nat.reduceLeDiff, Nat.reduceLT, Nat.reduceAdd, Nat.reduceSub, Nat.reduceMul, LC_out hL]
      rw [a2]
      simp only [xSeq, i_push, i_load, i_iload, i_lload, i_dload, i_aload, i_istore, i_astore, i_lstore, i_dstore, i_iinc, i_ii, i_iiz, i_ll, i_llz, i_lli, i_li, i_i, i_l, i_i2l, i_l2i, i_dup, i_dup2, i_dup2w, i_dupx1, i_pop, i_pop2, i_goto, i_ifc, i_icmp, i_getI, i_getL, i_getR, i_putI, i_putZ, i_putL, i_putR, i_aldI, i_aldB, i_aldL, i_aldD, i_astI, i_astL, i_astD, i_alen, i_ret, i_iret, i_zret, i_lret, i_fret, i_dret, i_aret, i_invS0, i_invV0, i_m2, i_m1, i_ml, i_obj, lk, lkp, stf1, stf2, Value.category, rV, xTo, lv_args, xCk, xCat, xRc, xAk, hg_S, hg_I, hg_J, hg_D, hg_R, hs_I, hs_J, hs_D, hs_R, uI_at, uJ_at, uD_at, uR_at, List.take_succ_cons, List.take_zero, List.drop_succ_cons, List.drop_zero, List.reverse_cons, List.reverse_nil, List.nil_append, List.cons_append, List.map_cons, List.map_nil, List.sum_cons, List.sum_nil, List.length_cons, List.length_nil, Option.toList_some, Option.toList_none, true_and, and_true, false_and, and_false, true_implies, false_implies, implies_true, not_true_eq_false, not_false_eq_true, ne_eq, if_true, if_false, Bool.and_true, Bool.true_and, decide_true, decide_false, reduceIte, reduceCtorEq, Bool.and_self, Bool.and_eq_true, decide_eq_true_eq, and_self, true_or, or_true, false_or, or_false, Nat.zero_add, Nat.add_zero, eq_self, Nat.reduceEqDiff, Nat.reduceLeDiff, Nat.reduceLT, Nat.reduceAdd, Nat.reduceSub, Nat.reduceMul, LC_out hL, ne_eq]
      rw [a1]
      simp only [xSeq, i_push, i_load, i_iload, i_lload, i_dload, i_aload, i_istore, i_astore, i_lstore, i_dstore, i_iinc, i_ii, i_iiz, i_ll, i_llz, i_lli, i_li, i_i, i_l, i_i2l, i_l2i, i_dup, i_dup2, i_dup2w, i_dupx1, i_pop, i_pop2, i_goto, i_ifc, i_icmp, i_getI, i_getL, i_getR, i_putI, i_putZ, i_putL, i_putR, i_aldI, i_aldB, i_aldL, i_aldD, i_astI, i_astL, i_astD, i_alen, i_ret, i_iret, i_zret, i_lret, i_fret, i_dret, i_aret, i_invS0, i_invV0, i_m2, i_m1, i_ml, i_obj, lk, lkp, stf1, stf2, Value.category, rV, xTo, lv_args, xCk, xCat, xRc, xAk, hg_S, hg_I, hg_J, hg_D, hg_R, hs_I, hs_J, hs_D, hs_R, uI_at, uJ_at, uD_at, uR_at, List.take_succ_cons, List.take_zero, List.drop_succ_cons, List.drop_zero, List.reverse_cons, List.reverse_nil, List.nil_append, List.cons_append, List.map_cons, List.map_nil, List.sum_cons, List.sum_nil, List.length_cons, List.length_nil, Option.toList_some, Option.toList_none, true_and, and_true, false_and, and_false, true_implies, false_implies, implies_true, not_true_eq_false, not_false_eq_true, ne_eq, if_true, if_false, Bool.and_true, Bool.true_and, decide_true, decide_false, reduceIte, reduceCtorEq, Bool.and_self, Bool.and_eq_true, decide_eq_true_eq, and_self, true_or, or_true, false_or, or_false, Nat.zero_add, Nat.add_zero, eq_self, Nat.reduceEqDiff, Nat.reduceLeDiff, Nat.reduceLT, Nat.reduceAdd, Nat.reduceSub, Nat.reduceMul, i_dd, al_eq n1, ef, al_eq nf]
      exact kk D' d2
    · have h2 : w = 2 := (rg_02 hw).resolve_left h0 |>.resolve_left h1
      subst h2
      have ef := fg_2 (E := E) (n := n) (r := rtP x y)
      have eq : FP.dmul (FP.dmul d3 (mn E n (rtP x y) 2)) (mn E n (rtP x y) 2) = q3 E n (rtP x y) := rfl
      have n1 : isNaN64 (FP.dmul d3 (mn E n (rtP x y) 2)) = false := fb_n (gp_fb (q30_gp hB hr hp))
      have n2 : isNaN64 (q3 E n (rtP x y)) = false := fb_n (gp_fb (q3_gp hB hr hp))
      have n3 : isNaN64 (FP.ddiv (mn E n (rtP x y) 3) (q3 E n (rtP x y))) = false := fb_n (q4_fb hB hr hp)
      have h3 : (4613937818241073152 : UInt64) = d3 := rfl
      simp only [xSeq, i_push, i_load, i_iload, i_lload, i_dload, i_aload, i_istore, i_astore, i_lstore, i_dstore, i_iinc, i_ii, i_iiz, i_ll, i_llz, i_lli, i_li, i_i, i_l, i_i2l, i_l2i, i_dup, i_dup2, i_dup2w, i_dupx1, i_pop, i_pop2, i_goto, i_ifc, i_icmp, i_getI, i_getL, i_getR, i_putI, i_putZ, i_putL, i_putR, i_aldI, i_aldB, i_aldL, i_aldD, i_astI, i_astL, i_astD, i_alen, i_ret, i_iret, i_zret, i_lret, i_fret, i_dret, i_aret, i_invS0, i_invV0, i_m2, i_m1, i_ml, i_obj, lk, lkp, stf1, stf2, Value.category, rV, xTo, lv_args, xCk, xCat, xRc, xAk, hg_S, hg_I, hg_J, hg_D, hg_R, hs_I, hs_J, hs_D, hs_R, uI_at, uJ_at, uD_at, uR_at, List.take_succ_cons, List.take_zero, List.drop_succ_cons, List.drop_zero, List.reverse_cons, List.reverse_nil, List.nil_append, List.cons_append, List.map_cons, List.map_nil, List.sum_cons, List.sum_nil, List.length_cons, List.length_nil, Option.toList_some, Option.toList_none, true_and, and_true, false_and, and_false, true_implies, false_implies, implies_true, not_true_eq_false, not_false_eq_true, ne_eq, if_true, if_false, Bool.and_true, Bool.true_and, decide_true, decide_false, reduceIte, reduceCtorEq, Bool.and_self, Bool.and_eq_true, decide_eq_true_eq, and_self, true_or, or_true, false_or, or_false, Nat.zero_add, Nat.add_zero, eq_self, Nat.reduceEqDiff, Nat.reduceLeDiff, Nat.reduceLT, Nat.reduceAdd, Nat.reduceSub, Nat.reduceMul, LC_out hL, ne_eq, h20, not_false_eq_true]
      rw [e109_29]
      simp only [B109_29, xSeq, i_push, i_load, i_iload, i_lload, i_dload, i_aload, i_istore, i_astore, i_lstore, i_dstore, i_iinc, i_ii, i_iiz, i_ll, i_llz, i_lli, i_li, i_i, i_l, i_i2l, i_l2i, i_dup, i_dup2, i_dup2w, i_dupx1, i_pop, i_pop2, i_goto, i_ifc, i_icmp, i_getI, i_getL, i_getR, i_putI, i_putZ, i_putL, i_putR, i_aldI, i_aldB, i_aldL, i_aldD, i_astI, i_astL, i_astD, i_alen, i_ret, i_iret, i_zret, i_lret, i_fret, i_dret, i_aret, i_invS0, i_invV0, i_m2, i_m1, i_ml, i_obj, lk, lkp, stf1, stf2, Value.category, rV, xTo, lv_args, xCk, xCat, xRc, xAk, hg_S, hg_I, hg_J, hg_D, hg_R, hs_I, hs_J, hs_D, hs_R, uI_at, uJ_at, uD_at, uR_at, List.take_succ_cons, List.take_zero, List.drop_succ_cons, List.drop_zero, List.reverse_cons, List.reverse_nil, List.nil_append, List.cons_append, List.map_cons, List.map_nil, List.sum_cons, List.sum_nil, List.length_cons, List.length_nil, Option.toList_some, Option.toList_none, true_and, and_true, false_and, and_false, true_implies, false_implies, implies_true, not_true_eq_false, not_false_eq_true, ne_eq, if_true, if_false, Bool.and_true, Bool.true_and, decide_true, decide_false, reduceIte, reduceCtorEq, Bool.and_self, Bool.and_eq_true, decide_eq_true_eq, and_self, true_or, or_true, false_or, or_false, Nat.zero_add, Nat.add_zero, eq_self, Nat.reduceEqDiff, Nat.reduceLeDiff, Nat.reduceLT, Nat.reduceAdd, Nat.reduceSub, Nat.reduceMul, LC_out hL]
      rw [h107 2]
      simp only [xSeq, i_push, i_load, i_iload, i_lload, i_dload, i_aload, i_istore, i_astore, i_lstore, i_dstore, i_iinc, i_ii, i_iiz, i_ll, i_llz, i_lli, i_li, i_i, i_l, i_i2l, i_l2i, i_dup, i_dup2, i_dup2w, i_dupx1, i_pop, i_pop2, i_goto, i_ifc, i_icmp, i_getI, i_getL, i_getR, i_putI, i_putZ, i_putL, i_putR, i_aldI, i_aldB, i_aldL, i_aldD, i_astI, i_astL, i_astD, i_alen, i_ret, i_iret, i_zret, i_lret, i_fret, i_dret, i_aret, i_invS0, i_invV0, i_m2, i_m1, i_ml, i_obj, lk, lkp, stf1, stf2, Value.category, rV, xTo, lv_args, xCk, xCat, xRc, xAk, hg_S, hg_I, hg_J, hg_D, hg_R, hs_I, hs_J, hs_D, hs_R, uI_at, uJ_at, uD_at, uR_at, List.take_succ_cons, List.take_zero, List.drop_succ_cons, List.drop_zero, List.reverse_cons, List.reverse_nil, List.nil_append, List.cons_append, List.map_cons, List.map_nil, List.sum_cons, List.sum_nil, List.length_cons, List.length_nil, Option.toList_some, Option.toList_none, true_and, and_true, false_and, and_false, true_implies, false_implies, implies_true, not_true_eq_false, not_false_eq_true, ne_eq, if_true, if_false, Bool.and_true, Bool.true_and, decide_true, decide_false, reduceIte, reduceCtorEq, Bool.and_self, Bool.and_eq_true, decide_eq_true_eq, and_self, true_or, or_true, false_or, or_false, Nat.zero_add, Nat.add_zero, eq_self, Nat.reduceEqDiff, Nat.reduceLeDiff, Nat.reduceLT, Nat.reduceAdd, Nat.reduceSub, Nat.reduceMul, LC_out hL, ne_eq, h21, not_false_eq_true]
      rw [e109_57]
      simp only [B109_57, xSeq, i_push, i_load, i_iload, i_lload, i_dload, i_aload, i_istore, i_astore, i_lstore, i_dstore, i_iinc, i_ii, i_iiz, i_ll, i_llz, i_lli, i_li, i_i, i_l, i_i2l, i_l2i, i_dup, i_dup2, i_dup2w, i_dupx1, i_pop, i_pop2, i_goto, i_ifc, i_icmp, i_getI, i_getL, i_getR, i_putI, i_putZ, i_putL, i_putR, i_aldI, i_aldB, i_aldL, i_aldD, i_astI, i_astL, i_astD, i_alen, i_ret, i_iret, i_zret, i_lret, i_fret, i_dret, i_aret, i_invS0, i_invV0, i_m2, i_m1, i_ml, i_obj, lk, lkp, stf1, stf2, Value.category, rV, xTo, lv_args, xCk, xCat, xRc, xAk, hg_S, hg_I, hg_J, hg_D, hg_R, hs_I, hs_J, hs_D, hs_R, uI_at, uJ_at, uD_at, uR_at, List.take_succ_cons, List.take_zero, List.drop_succ_cons, List.drop_zero, List.reverse_cons, List.reverse_nil, List.nil_append, List.cons_append, List.map_cons, List.map_nil, List.sum_cons, List.sum_nil, List.length_cons, List.length_nil, Option.toList_some, Option.toList_none, true_and, and_true, false_and, and_false, true_implies, false_implies, implies_true, not_true_eq_false, not_false_eq_true, ne_eq, if_true, if_false, Bool.and_true, Bool.true_and, decide_true, decide_false, reduceIte, reduceCtorEq, Bool.and_self, Bool.and_eq_true, decide_eq_true_eq, and_self, true_or, or_true, false_or, or_false, Nat.zero_add, Nat.add_zero, eq_self, Nat.reduceEqDiff, Nat.reduceLeDiff, Nat.reduceLT, Nat.reduceAdd, Nat.reduceSub, Nat.reduceMul, LC_out hL]
      rw [h107 3]
      simp only [xSeq, i_push, i_load, i_iload, i_lload, i_dload, i_aload, i_istore, i_astore, i_lstore, i_dstore, i_iinc, i_ii, i_iiz, i_ll, i_llz, i_lli, i_li, i_i, i_l, i_i2l, i_l2i, i_dup, i_dup2, i_dup2w, i_dupx1, i_pop, i_pop2, i_goto, i_ifc, i_icmp, i_getI, i_getL, i_getR, i_putI, i_putZ, i_putL, i_putR, i_aldI, i_aldB, i_aldL, i_aldD, i_astI, i_astL, i_astD, i_alen, i_ret, i_iret, i_zret, i_lret, i_fret, i_dret, i_aret, i_invS0, i_invV0, i_m2, i_m1, i_ml, i_obj, lk, lkp, stf1, stf2, Value.category, rV, xTo, lv_args, xCk, xCat, xRc, xAk, hg_S, hg_I, hg_J, hg_D, hg_R, hs_I, hs_J, hs_D, hs_R, uI_at, uJ_at, uD_at, uR_at, List.take_succ_cons, List.take_zero, List.drop_succ_cons, List.drop_zero, List.reverse_cons, List.reverse_nil, List.nil_append, List.cons_append, List.map_cons, List.map_nil, List.sum_cons, List.sum_nil, List.length_cons, List.length_nil, Option.toList_some, Option.toList_none, true_and, and_true, false_and, and_false, true_implies, false_implies, implies_true, not_true_eq_false, not_false_eq_true, ne_eq, if_true, if_false, Bool.and_true, Bool.true_and, decide_true, decide_false, reduceIte, reduceCtorEq, Bool.and_self, Bool.and_eq_true, decide_eq_true_eq, and_self, true_or, or_true, false_or, or_false, Nat.zero_add, Nat.add_zero, eq_self, Nat.reduceEqDiff, Nat.reduceLeDiff, Nat.reduceLT, Nat.reduceAdd, Nat.reduceSub, Nat.reduceMul, LC_out hL, i_dd, h3, al_eq n1, eq, al_eq n2]
      rw [R108 (q3_cmp hB hr hp) n3]
      simp only [xSeq, i_push, i_load, i_iload, i_lload, i_dload, i_aload, i_istore, i_astore, i_lstore, i_dstore, i_iinc, i_ii, i_iiz, i_ll, i_llz, i_lli, i_li, i_i, i_l, i_i2l, i_l2i, i_dup, i_dup2, i_dup2w, i_dupx1, i_pop, i_pop2, i_goto, i_ifc, i_icmp, i_getI, i_getL, i_getR, i_putI, i_putZ, i_putL, i_putR, i_aldI, i_aldB, i_aldL, i_aldD, i_astI, i_astL, i_astD, i_alen, i_ret, i_iret, i_zret, i_lret, i_fret, i_dret, i_aret, i_invS0, i_invV0, i_m2, i_m1, i_ml, i_obj, lk, lkp, stf1, stf2, Value.category, rV, xTo, lv_args, xCk, xCat, xRc, xAk, hg_S, hg_I, hg_J, hg_D, hg_R, hs_I, hs_J, hs_D, hs_R, uI_at, uJ_at, uD_at, uR_at, List.take_succ_cons, List.take_zero, List.drop_succ_cons, List.drop_zero, List.reverse_cons, List.reverse_nil, List.nil_append, List.cons_append, List.map_cons, List.map_nil, List.sum_cons, List.sum_nil, List.length_cons, List.length_nil, Option.toList_some, Option.toList_none, true_and, and_true, false_and, and_false, true_implies, false_implies, implies_true, not_true_eq_false, not_false_eq_true, ne_eq, if_true, if_false, Bool.and_true, Bool.true_and, decide_true, decide_false, reduceIte, reduceCtorEq, Bool.and_self, Bool.and_eq_true, decide_eq_true_eq, and_self, true_or, or_true, false_or, or_false, Nat.zero_add, Nat.add_zero, eq_self, Nat.reduceEqDiff, Nat.reduceLeDiff, Nat.reduceLT, Nat.reduceAdd, Nat.reduceSub, Nat.reduceMul, i_dd, ef, al_eq nf]
      exact kk D' d2
theorem L319 (hL : LM S R) (hX : XM n E I) (hB : EB E n) (hp : PQ E n) (h : AB x y) (hw : rg w 0 2 = true)
    (kk : ∀ D', (∀ o k, o ≠ 352 → D' o k = D o k) → Q (.ok (some (.double (fg E n (rtP x y) w)))) (S, I, J, D', R) b) :
    xRun xT 319 0 [(0, .ref 200), (1, .int w), (2, .int (nI x)), (3, .int (nI y))] [] (S, I, J, D, R) b Q := by
  have hr := rtP_gl h
  have nm : ∀ w, isNaN64 (FP.dmul (mn E n (rtP x y) w) (mn E n (rtP x y) w)) = false := fun w => fb_n (mm_fb hB (gl0 hr))
  have nf : isNaN64 (fg E n (rtP x y) w) = false := fb_n (fg_fb hB hr hp)
  rw [e319_0]
  by_cases h2 : w = 2
  · subst h2
    have ef := fg_2 (E := E) (n := n) (r := rtP x y)
    have eq : FP.dmul (FP.dmul d3 (mn E n (rtP x y) 2)) (mn E n (rtP x y) 2) = q3 E n (rtP x y) := rfl
    have n1 : isNaN64 (FP.dmul d3 (mn E n (rtP x y) 2)) = false := fb_n (gp_fb (q30_gp hB hr hp))
    have n2 : isNaN64 (q3 E n (rtP x y)) = false := fb_n (gp_fb (q3_gp hB hr hp))
    have n3 : isNaN64 (FP.ddiv (mn E n (rtP x y) 3) (q3 E n (rtP x y))) = false := fb_n (q4_fb hB hr hp)
    have h3 : (4613937818241073152 : UInt64) = d3 := rfl
    simp only [B319_0, xSeq, i_push, i_load, i_iload, i_lload, i_dload, i_aload, i_istore, i_astore, i_lstore, i_dstore, i_iinc, i_ii, i_iiz, i_ll, i_llz, i_lli, i_li, i_i, i_l, i_i2l, i_l2i, i_dup, i_dup2, i_dup2w, i_dupx1, i_pop, i_pop2, i_goto, i_ifc, i_icmp, i_getI, i_getL, i_getR, i_putI, i_putZ, i_putL, i_putR, i_aldI, i_aldB, i_aldL, i_aldD, i_astI, i_astL, i_astD, i_alen, i_ret, i_iret, i_zret, i_lret, i_fret, i_dret, i_aret, i_invS0, i_invV0, i_m2, i_m1, i_ml, i_obj, lk, lkp, stf1, stf2, Value.category, rV, xTo, lv_args, xCk, xCat, xRc, xAk, hg_S, hg_I, hg_J, hg_D, hg_R, hs_I, hs_J, hs_D, hs_R, uI_at, uJ_at, uD_at, uR_at, List.take_succ_cons, List.take_zero, List.drop_succ_cons, List.drop_zero, List.reverse_cons, List.reverse_nil, List.nil_append, List.cons_append, List.map_cons, List.map_nil, List.sum_cons, List.sum_nil, List.length_cons, List.length_nil, Option.toList_some, Option.toList_none, true_and, and_true, false_and, and_false, true_implies, false_implies, implies_true, not_true_eq_false, not_false_eq_true, ne_eq, if_true, if_false, Bool.and_true, Bool.true_and, decide_true, decide_false, reduceIte, reduceCtorEq, Bool.and_self, Bool.and_eq_true, decide_eq_true_eq, and_self, true_or, or_true, false_or, or_false, Nat.zero_add, Nat.add_zero, eq_self, Nat.reduceEqDiff, Nat.reduceLeDiff, Nat.reduceLT, Nat.reduceAdd, Nat.reduceSub, Nat.reduceMul, LM_out hL, ne_eq, not_true_eq_false]
    refine L315 hL hX hB h (fun D1 k1 => ?_)
    simp only [xSeq, i_push, i_load, i_iload, i_lload, i_dload, i_aload, i_istore, i_astore, i_lstore, i_dstore, i_iinc, i_ii, i_iiz, i_ll, i_llz, i_lli, i_li, i_i, i_l, i_i2l, i_l2i, i_dup, i_dup2, i_dup2w, i_dupx1, i_pop, i_pop2, i_goto, i_ifc, i_icmp, i_getI, i_getL, i_getR, i_putI, i_putZ, i_putL, i_putR, i_aldI, i_aldB, i_aldL, i_aldD, i_astI, i_astL, i_astD, i_alen, i_ret, i_iret, i_zret, i_lret, i_fret, i_dret, i_aret, i_invS0, i_invV0, i_m2, i_m1, i_ml, i_obj, lk, lkp, stf1, stf2, Value.category, rV, xTo, lv_args, xCk, xCat, xRc, xAk, hg_S, hg_I, hg_J, hg_D, hg_R, hs_I, hs_J, hs_D, hs_R, uI_at, uJ_at, uD_at, uR_at, List.take_succ_cons, List.take_zero, List.drop_succ_cons, List.drop_zero, List.reverse_cons, List.reverse_nil, List.nil_append, List.cons_append, List.map_cons, List.map_nil, List.sum_cons, List.sum_nil, List.length_cons, List.length_nil, Option.toList_some, Option.toList_none, true_and, and_true, false_and, and_false, true_implies, false_implies, implies_true, not_true_eq_false, not_false_eq_true, ne_eq, if_true, if_false, Bool.and_true, Bool.true_and, decide_true, decide_false, reduceIte, reduceCtorEq, Bool.and_self, Bool.and_eq_true, decide_eq_true_eq, and_self, true_or, or_true, false_or, or_false, Nat.zero_add, Nat.add_zero, eq_self, Nat.reduceEqDiff, Nat.reduceLeDiff, Nat.reduceLT, Nat.reduceAdd, Nat.reduceSub, Nat.reduceMul, LM_out hL]
    refine L315 hL hX hB h (fun D2 k2 => ?_)
    simp only [xSeq, i_push, i_load, i_iload, i_lload, i_dload, i_aload, i_istore, i_astore, i_lstore, i_dstore, i_iinc, i_ii, i_iiz, i_ll, i_llz, i_lli, i_li, i_i, i_l, i_i2l, i_l2i, i_dup, i_dup2, i_dup2w, i_dupx1, i_pop, i_pop2, i_goto, i_ifc, i_icmp, i_getI, i_getL, i_getR, i_putI, i_putZ, i_putL, i_putR, i_aldI, i_aldB, i_aldL, i_aldD, i_astI, i_astL, i_astD, i_alen, i_ret, i_iret, i_zret, i_lret, i_fret, i_dret, i_aret, i_invS0, i_invV0, i_m2, i_m1, i_ml, i_obj, lk, lkp, stf1, stf2, Value.category, rV, xTo, lv_args, xCk, xCat, xRc, xAk, hg_S, hg_I, hg_J, hg_D, hg_R, hs_I, hs_J, hs_D, hs_R, uI_at, uJ_at, uD_at, uR_at, List.take_succ_cons, List.take_zero, List.drop_succ_cons, List.drop_zero, List.reverse_cons, List.reverse_nil, List.nil_append, List.cons_append, List.map_cons, List.map_nil, List.sum_cons, List.sum_nil, List.length_cons, List.length_nil, Option.toList_some, Option.toList_none, true_and, and_true, false_and, and_false, true_implies, false_implies, implies_true, not_true_eq_false, not_false_eq_true, ne_eq, if_true, if_false, Bool.and_true, Bool.true_and, decide_true, decide_false, reduceIte, reduceCtorEq, Bool.and_self, Bool.and_eq_true, decide_eq_true_eq, and_self, true_or, or_true, false_or, or_false, Nat.zero_add, Nat.add_zero, eq_self, Nat.reduceEqDiff, Nat.reduceLeDiff, Nat.reduceLT, Nat.reduceAdd, Nat.reduceSub, Nat.reduceMul, i_dd, h3, al_eq n1, eq, al_eq n2, al_eq n3, ef, al_eq nf]
    exact kk D2 (fun o k ho => (k2 o k ho).trans (k1 o k ho))
  · simp only [B319_0, xSeq, i_push, i_load, i_iload, i_lload, i_dload, i_aload, i_istore, i_astore, i_lstore, i_dstore, i_iinc, i_ii, i_iiz, i_ll, i_llz, i_lli, i_li, i_i, i_l, i_i2l, i_l2i, i_dup, i_dup2, i_dup2w, i_dupx1, i_pop, i_pop2, i_goto, i_ifc, i_icmp, i_getI, i_getL, i_getR, i_putI, i_putZ, i_putL, i_putR, i_aldI, i_aldB, i_aldL, i_aldD, i_astI, i_astL, i_astD, i_alen, i_ret, i_iret, i_zret, i_lret, i_fret, i_dret, i_aret, i_invS0, i_invV0, i_m2, i_m1, i_ml, i_obj, lk, lkp, stf1, stf2, Value.category, rV, xTo, lv_args, xCk, xCat, xRc, xAk, hg_S, hg_I, hg_J, hg_D, hg_R, hs_I, hs_J, hs_D, hs_R, uI_at, uJ_at, uD_at, uR_at, List.take_succ_cons, List.take_zero, List.drop_succ_cons, List.drop_zero, List.reverse_cons, List.reverse_nil, List.nil_append, List.cons_append, List.map_cons, List.map_nil, List.sum_cons, List.sum_nil, List.length_cons, List.length_nil, Option.toList_some, Option.toList_none, true_and, and_true, false_and, and_false, true_implies, false_implies, implies_true, not_true_eq_false, not_false_eq_true, ne_eq, if_true, if_false, Bool.and_true, Bool.true_and, decide_true, decide_false, reduceIte, reduceCtorEq, Bool.and_self, Bool.and_eq_true, decide_eq_true_eq, and_self, true_or, or_true, false_or, or_false, Nat.zero_add, Nat.add_zero, eq_self, Nat.reduceEqDiff, Nat.reduceLeDiff, Nat.reduceLT, Nat.reduceAdd, Nat.reduceSub, Nat.reduceMul, LM_out hL, ne_eq, h2, not_false_eq_true, e319_34, B319_34]
    refine L315 hL hX hB h (fun D1 k1 => ?_)
    by_cases h0 : w = 0
    · subst h0
      have ef := fg_0 (E := E) (n := n) (r := rtP x y)
      simp only [xSeq, i_push, i_load, i_iload, i_lload, i_dload, i_aload, i_istore, i_astore, i_lstore, i_dstore, i_iinc, i_ii, i_iiz, i_ll, i_llz, i_lli, i_li, i_i, i_l, i_i2l, i_l2i, i_dup, i_dup2, i_dup2w, i_dupx1, i_pop, i_pop2, i_goto, i_ifc, i_icmp, i_getI, i_getL, i_getR, i_putI, i_putZ, i_putL, i_putR, i_aldI, i_aldB, i_aldL, i_aldD, i_astI, i_astL, i_astD, i_alen, i_ret, i_iret, i_zret, i_lret, i_fret, i_dret, i_aret, i_invS0, i_invV0, i_m2, i_m1, i_ml, i_obj, lk, lkp, stf1, stf2, Value.category, rV, xTo, lv_args, xCk, xCat, xRc, xAk, hg_S, hg_I, hg_J, hg_D, hg_R, hs_I, hs_J, hs_D, hs_R, uI_at, uJ_at, uD_at, uR_at, List.take_succ_cons, List.take_zero, List.drop_succ_cons, List.drop_zero, List.reverse_cons, List.reverse_nil, List.nil_append, List.cons_append, List.map_cons, List.map_nil, List.sum_cons, List.sum_nil, List.length_cons, List.length_nil, Option.toList_some, Option.toList_none, true_and, and_true, false_and, and_false, true_implies, false_implies, implies_true, not_true_eq_false, not_false_eq_true, ne_eq, if_true, if_false, Bool.and_true, Bool.true_and, decide_true, decide_false, reduceIte, reduceCtorEq, Bool.and_self, Bool.and_eq_true, decide_eq_true_eq, and_self, true_or, or_true, false_or, or_false, Nat.zero_add, Nat.add_zero, eq_self, Nat.reduceEqDiff, Nat.reduceLeDiff, Nat.reduceLT, Nat.reduceAdd, Nat.reduceSub, Nat.reduceMul, LM_out hL, ne_eq, not_true_eq_false, e319_53, B319_53]
      refine L315 hL hX hB h (fun D2 k2 => ?_)
      simp only [xSeq, i_push, i_load, i_iload, i_lload, i_dload, i_aload, i_istore, i_astore, i_lstore, i_dstore, i_iinc, i_ii, i_iiz, i_ll, i_llz, i_lli, i_li, i_i, i_l, i_i2l, i_l2i, i_dup, i_dup2, i_dup2w, i_dupx1, i_pop, i_pop2, i_goto, i_ifc, i_icmp, i_getI, i_getL, i_getR, i_putI, i_putZ, i_putL, i_putR, i_aldI, i_aldB, i_aldL, i_aldD, i_astI, i_astL, i_astD, i_alen, i_ret, i_iret, i_zret, i_lret, i_fret, i_dret, i_aret, i_invS0, i_invV0, i_m2, i_m1, i_ml, i_obj, lk, lkp, stf1, stf2, Value.category, rV, xTo, lv_args, xCk, xCat, xRc, xAk, hg_S, hg_I, hg_J, hg_D, hg_R, hs_I, hs_J, hs_D, hs_R, uI_at, uJ_at, uD_at, uR_at, List.take_succ_cons, List.take_zero, List.drop_succ_cons, List.drop_zero, List.reverse_cons, List.reverse_nil, List.nil_append, List.cons_append, List.map_cons, List.map_nil, List.sum_cons, List.sum_nil, List.length_cons, List.length_nil, Option.toList_some, Option.toList_none, true_and, and_true, false_and, and_false, true_implies, false_implies, implies_true, not_true_eq_false, not_false_eq_true, ne_eq, if_true, if_false, Bool.and_true, Bool.true_and, decide_true, decide_false, reduceIte, reduceCtorEq, Bool.and_self, Bool.and_eq_true, decide_eq_true_eq, and_self, true_or, or_true, false_or, or_false, Nat.zero_add, Nat.add_zero, eq_self, Nat.reduceEqDiff, Nat.reduceLeDiff, Nat.reduceLT, Nat.reduceAdd, Nat.reduceSub, Nat.reduceMul, i_dd, al_eq (nm 0), ef, al_eq nf]
      exact kk D2 (fun o k ho => (k2 o k ho).trans (k1 o k ho))
    · have ef : FP.dsub (mn E n (rtP x y) 2) (FP.dmul (mn E n (rtP x y) w) (mn E n (rtP x y) w)) = fg E n (rtP x y) w := by
        unfold fg
        rw [if_neg h2, if_neg h0]
      simp only [xSeq, i_push, i_load, i_iload, i_lload, i_dload, i_aload, i_istore, i_astore, i_lstore, i_dstore, i_iinc, i_ii, i_iiz, i_ll, i_llz, i_lli, i_li, i_i, i_l, i_i2l, i_l2i, i_dup, i_dup2, i_dup2w, i_dupx1, i_pop, i_pop2, i_goto, i_ifc, i_icmp, i_getI, i_getL, i_getR, i_putI, i_putZ, i_putL, i_putR, i_aldI, i_aldB, i_aldL, i_aldD, i_astI, i_astL, i_astD, i_alen, i_ret, i_iret, i_zret, i_lret, i_fret, i_dret, i_aret, i_invS0, i_invV0, i_m2, i_m1, i_ml, i_obj, lk, lkp, stf1, stf2, Value.category, rV, xTo, lv_args, xCk, xCat, xRc, xAk, hg_S, hg_I, hg_J, hg_D, hg_R, hs_I, hs_J, hs_D, hs_R, uI_at, uJ_at, uD_at, uR_at, List.take_succ_cons, List.take_zero, List.drop_succ_cons, List.drop_zero, List.reverse_cons, List.reverse_nil, List.nil_append, List.cons_append, List.map_cons, List.map_nil, List.sum_cons, List.sum_nil, List.length_cons, List.length_nil, Option.toList_some, Option.toList_none, true_and, and_true, false_and, and_false, true_implies, false_implies, implies_true, not_true_eq_false, not_false_eq_true, ne_eq, if_true, if_false, Bool.and_true, Bool.true_and, decide_true, decide_false, reduceIte, reduceCtorEq, Bool.and_self, Bool.and_eq_true, decide_eq_true_eq, and_self, true_or, or_true, false_or, or_false, Nat.zero_add, Nat.add_zero, eq_self, Nat.reduceEqDiff, Nat.reduceLeDiff, Nat.reduceLT, Nat.reduceAdd, Nat.reduceSub, Nat.reduceMul, LM_out hL, ne_eq, h0, not_false_eq_true, e319_52, B319_52, e319_53, B319_53]
      refine L315 hL hX hB h (fun D2 k2 => ?_)
      simp only [xSeq, i_push, i_load, i_iload, i_lload, i_dload, i_aload, i_istore, i_astore, i_lstore, i_dstore, i_iinc, i_ii, i_iiz, i_ll, i_llz, i_lli, i_li, i_i, i_l, i_i2l, i_l2i, i_dup, i_dup2, i_dup2w, i_dupx1, i_pop, i_pop2, i_goto, i_ifc, i_icmp, i_getI, i_getL, i_getR, i_putI, i_putZ, i_putL, i_putR, i_aldI, i_aldB, i_aldL, i_aldD, i_astI, i_astL, i_astD, i_alen, i_ret, i_iret, i_zret, i_lret, i_fret, i_dret, i_aret, i_invS0, i_invV0, i_m2, i_m1, i_ml, i_obj, lk, lkp, stf1, stf2, Value.category, rV, xTo, lv_args, xCk, xCat, xRc, xAk, hg_S, hg_I, hg_J, hg_D, hg_R, hs_I, hs_J, hs_D, hs_R, uI_at, uJ_at, uD_at, uR_at, List.take_succ_cons, List.take_zero, List.drop_succ_cons, List.drop_zero, List.reverse_cons, List.reverse_nil, List.nil_append, List.cons_append, List.map_cons, List.map_nil, List.sum_cons, List.sum_nil, List.length_cons, List.length_nil, Option.toList_some, Option.toList_none, true_and, and_true, false_and, and_false, true_implies, false_implies, implies_true, not_true_eq_false, not_false_eq_true, ne_eq, if_true, if_false, Bool.and_true, Bool.true_and, decide_true, decide_false, reduceIte, reduceCtorEq, Bool.and_self, Bool.and_eq_true, decide_eq_true_eq, and_self, true_or, or_true, false_or, or_false, Nat.zero_add, Nat.add_zero, eq_self, Nat.reduceEqDiff, Nat.reduceLeDiff, Nat.reduceLT, Nat.reduceAdd, Nat.reduceSub, Nat.reduceMul, i_dd, al_eq (nm w), ef, al_eq nf]
      exact kk D2 (fun o k ho => (k2 o k ho).trans (k1 o k ho))
/-- a power of the ratio, multiplied together -/
theorem R266_w (h : AB x y) {u : Nat} (hu : u < 2147483648) : ∀ (j i : Nat), i + j = u → xRun xT 266 5 [(0, .int (nI u)), (1, .int (nI x)), (2, .int (nI y)), (3, .double (wP (rtP x y) i)), (5, .int (nI i))] [] (S, I, J, D, R) b Q = Q (.ok (some (.double (wP (rtP x y) u)))) (S, I, J, D, R) b
  | 0, i, hi => by
    have e : i = u := by omega
    subst e
    rw [e266_5]
    simp only [B266_5, xSeq, i_push, i_load, i_iload, i_lload, i_dload, i_aload, i_istore, i_astore, i_lstore, i_dstore, i_iinc, i_ii, i_iiz, i_ll, i_llz, i_lli, i_li, i_i, i_l, i_i2l, i_l2i, i_dup, i_dup2, i_dup2w, i_dupx1, i_pop, i_pop2, i_goto, i_ifc, i_icmp, i_getI, i_getL, i_getR, i_putI, i_putZ, i_putL, i_putR, i_aldI, i_aldB, i_aldL, i_aldD, i_astI, i_astL, i_astD, i_alen, i_ret, i_iret, i_zret, i_lret, i_fret, i_dret, i_aret, i_invS0, i_invV0, i_m2, i_m1, i_ml, i_obj, lk, lkp, stf1, stf2, Value.category, rV, xTo, lv_args, xCk, xCat, xRc, xAk, hg_S, hg_I, hg_J, hg_D, hg_R, hs_I, hs_J, hs_D, hs_R, uI_at, uJ_at, uD_at, uR_at, List.take_succ_cons, List.take_zero, List.drop_succ_cons, List.drop_zero, List.reverse_cons, List.reverse_nil, List.nil_append, List.cons_append, List.map_cons, List.map_nil, List.sum_cons, List.sum_nil, List.length_cons, List.length_nil, Option.toList_some, Option.toList_none, true_and, and_true, false_and, and_false, true_implies, false_implies, implies_true, not_true_eq_false, not_false_eq_true, ne_eq, if_true, if_false, Bool.and_true, Bool.true_and, decide_true, decide_false, reduceIte, reduceCtorEq, Bool.and_self, Bool.and_eq_true, decide_eq_true_eq, and_self, true_or, or_true, false_or, or_false, Nat.zero_add, Nat.add_zero, eq_self, Nat.reduceEqDiff, Nat.reduceLeDiff, Nat.reduceLT, Nat.reduceAdd, Nat.reduceSub, Nat.reduceMul, nI_leP hu hu, Nat.le_refl, e266_25, B266_25]
  | j + 1, i, hi => by
    have ih := R266_w h hu j (i + 1) (by omega)
    have hn0 : isNaN64 (rtP x y) = false := fb_n (gp_fb (rtP_gp h))
    have hn : isNaN64 (wP (rtP x y) (i + 1)) = false := fb_n (gp_fb (wP_gp (rtP_gp h) (i + 1)))
    have e4 : FP.ddiv (FP.i2d (nI x)) (FP.i2d (nI y)) = rtP x y := rfl
    have e3 : FP.dmul (wP (rtP x y) i) (rtP x y) = wP (rtP x y) (i + 1) := rfl
    rw [e266_5]
    simp only [B266_5, xSeq, i_push, i_load, i_iload, i_lload, i_dload, i_aload, i_istore, i_astore, i_lstore, i_dstore, i_iinc, i_ii, i_iiz, i_ll, i_llz, i_lli, i_li, i_i, i_l, i_i2l, i_l2i, i_dup, i_dup2, i_dup2w, i_dupx1, i_pop, i_pop2, i_goto, i_ifc, i_icmp, i_getI, i_getL, i_getR, i_putI, i_putZ, i_putL, i_putR, i_aldI, i_aldB, i_aldL, i_aldD, i_astI, i_astL, i_astD, i_alen, i_ret, i_iret, i_zret, i_lret, i_fret, i_dret, i_aret, i_invS0, i_invV0, i_m2, i_m1, i_ml, i_obj, lk, lkp, stf1, stf2, Value.category, rV, xTo, lv_args, xCk, xCat, xRc, xAk, hg_S, hg_I, hg_J, hg_D, hg_R, hs_I, hs_J, hs_D, hs_R, uI_at, uJ_at, uD_at, uR_at, List.take_succ_cons, List.take_zero, List.drop_succ_cons, List.drop_zero, List.reverse_cons, List.reverse_nil, List.nil_append, List.cons_append, List.map_cons, List.map_nil, List.sum_cons, List.sum_nil, List.length_cons, List.length_nil, Option.toList_some, Option.toList_none, true_and, and_true, false_and, and_false, true_implies, false_implies, implies_true, not_true_eq_false, not_false_eq_true, ne_eq, if_true, if_false, Bool.and_true, Bool.true_and, decide_true, decide_false, reduceIte, reduceCtorEq, Bool.and_self, Bool.and_eq_true, decide_eq_true_eq, and_self, true_or, or_true, false_or, or_false, Nat.zero_add, Nat.add_zero, eq_self, Nat.reduceEqDiff, Nat.reduceLeDiff, Nat.reduceLT, Nat.reduceAdd, Nat.reduceSub, Nat.reduceMul, nI_leP hu (show i < 2147483648 by omega), show (u ≤ i) = False from eq_false (by omega), i_i2d, i_dd, e4, al_eq hn0, e3, al_eq hn, nI_1, ih]
theorem R266g (h : AB x y) {u : Nat} (hu : u < 2147483648) : xRun xT 266 0 [(0, .int (nI u)), (1, .int (nI x)), (2, .int (nI y))] [] (S, I, J, D, R) b Q = Q (.ok (some (.double (wP (rtP x y) u)))) (S, I, J, D, R) b := by
  have h5 := R266_w (S := S) (I := I) (J := J) (D := D) (R := R) (b := b) (Q := Q) h hu u 0 (by omega)
  rw [nI_0] at h5
  rw [e266_0]
  simp only [B266_0, xSeq, i_push, i_load, i_iload, i_lload, i_dload, i_aload, i_istore, i_astore, i_lstore, i_dstore, i_iinc, i_ii, i_iiz, i_ll, i_llz, i_lli, i_li, i_i, i_l, i_i2l, i_l2i, i_dup, i_dup2, i_dup2w, i_dupx1, i_pop, i_pop2, i_goto, i_ifc, i_icmp, i_getI, i_getL, i_getR, i_putI, i_putZ, i_putL, i_putR, i_aldI, i_aldB, i_aldL, i_aldD, i_astI, i_astL, i_astD, i_alen, i_ret, i_iret, i_zret, i_lret, i_fret, i_dret, i_aret, i_invS0, i_invV0, i_m2, i_m1, i_ml, i_obj, lk, lkp, stf1, stf2, Value.category, rV, xTo, lv_args, xCk, xCat, xRc, xAk, hg_S, hg_I, hg_J, hg_D, hg_R, hs_I, hs_J, hs_D, hs_R, uI_at, uJ_at, uD_at, uR_at, List.take_succ_cons, List.take_zero, List.drop_succ_cons, List.drop_zero, List.reverse_cons, List.reverse_nil, List.nil_append, List.cons_append, List.map_cons, List.map_nil, List.sum_cons, List.sum_nil, List.length_cons, List.length_nil, Option.toList_some, Option.toList_none, true_and, and_true, false_and, and_false, true_implies, false_implies, implies_true, not_true_eq_false, not_false_eq_true, ne_eq, if_true, if_false, Bool.and_true, Bool.true_and, decide_true, decide_false, reduceIte, reduceCtorEq, Bool.and_self, Bool.and_eq_true, decide_eq_true_eq, and_self, true_or, or_true, false_or, or_false, Nat.zero_add, Nat.add_zero, eq_self, Nat.reduceEqDiff, Nat.reduceLeDiff, Nat.reduceLT, Nat.reduceAdd, Nat.reduceSub, Nat.reduceMul]
  exact h5
theorem rt_AB {u v : Int32} (h : rt u v = true) : ∃ x y, AB x y ∧ u = nI x ∧ v = nI y := by
  unfold rt rg at h
  simp only [Bool.and_eq_true, Bool.not_eq_true', decide_eq_false_iff_not] at h
  obtain ⟨⟨⟨h1, h2⟩, h3⟩, h4⟩ := h
  have t1 : (1 : Int32).toInt = 1 := rfl
  have t98 : (98 : Int32).toInt = 98 := rfl
  have t99 : (99 : Int32).toInt = 99 := rfl
  rw [Int32.lt_iff_toInt_lt] at h1 h2 h4
  rw [Int32.le_iff_toInt_le] at h3
  obtain ⟨x, hx, rfl⟩ := nI_of (x := u) (fun e => by
    rw [Int32.lt_iff_toInt_lt, show (0 : Int32).toInt = 0 from rfl] at e
    omega)
  obtain ⟨y, hy, rfl⟩ := nI_of (x := v) (fun e => by
    rw [Int32.lt_iff_toInt_lt, show (0 : Int32).toInt = 0 from rfl] at e
    omega)
  rw [nI_toInt hx] at h1 h2 h3
  rw [nI_toInt hy] at h3 h4
  exact ⟨x, y, ⟨by omega, by omega, by omega⟩, rfl, rfl⟩
end
/-! ===== the mean square of any small grid ===== -/
section
variable {E : Nat → Int32} {n : Nat} {r : UInt64}
theorem v_sq : ∀ n, n < 17 → ∀ p, p < n + 1 → (decide (0 ≤ ((2 * nI p - nI n).toInt64 * (2 * nI p - nI n).toInt64).toInt) && decide (2 * p = n ∨ 1 ≤ ((2 * nI p - nI n).toInt64 * (2 * nI p - nI n).toInt64).toInt)) = true := by decide +kernel
theorem vl_2 {i : Nat} : vl E n 2 i = (2 * nI ((lv E n).getD i 0 % 17) - nI n).toInt64 * (2 * nI ((lv E n).getD i 0 % 17) - nI n).toInt64 := by
  unfold vl vF
  rw [if_neg (by decide), if_neg (by decide), if_pos rfl]
  rfl
theorem vl2_pos (hB : EB E n) {i : Nat} (hi : i < (lv E n).length) : 0 ≤ (vl E n 2 i).toInt ∧ (2 * ((lv E n).getD i 0 % 17) = n ∨ 1 ≤ (vl E n 2 i).toInt) := by
  have hn := hB.1
  have hm := v_sq n (by omega) ((lv E n).getD i 0 % 17) (by have := (lv_get hB hi).2.2; omega)
  rw [Bool.and_eq_true, decide_eq_true_eq, decide_eq_true_eq] at hm
  rw [vl_2]
  exact hm
theorem vl2_gp (hB : EB E n) {i : Nat} (hi : i < (lv E n).length) : gp 0 (65536 * uo) (FP.l2d (vl E n 2 i)) := by
  have h1 := l2d_fb (vl_bd (w := 2) hB hi) (by decide)
  obtain ⟨c, q, h2⟩ := FP.Core.l2d_shape (vl E n 2 i)
  rw [decide_eq_false (by have := (vl2_pos hB hi).1; omega)] at h2
  exact ⟨⟨c, q, h2⟩, Nat.zero_le _, h1.2⟩
theorem vl2_1 (hB : EB E n) {i : Nat} (hi : i < (lv E n).length) (hm : 2 * ((lv E n).getD i 0 % 17) ≠ n) : gp uo (65536 * uo) (FP.l2d (vl E n 2 i)) := by
  have h1 := vl2_gp hB hi
  have h2 := (vl2_pos hB hi).2.resolve_left hm
  have hb := vl_bd (w := 2) hB hi
  have h3 := (l2d_z (a := vl E n 2 i) rfl (by omega)).2
  refine ⟨h1.1, ?_, h1.2.2⟩
  rw [h3]
  exact Nat.le_mul_of_pos_left _ (by omega)
theorem wP_l (hr : gp (2 ^ 1067) uo r) : ∀ i, i ≤ 30 → gp (2 ^ (1074 - 7 * i)) uo (wP r i)
  | 0, _ => gp_1
  | i + 1, h => by
    refine gp_mul (wP_l hr i (by omega)) hr rp_u (Nat.le_refl _) (rp_p (by omega) (by omega)) ?_
    show 2 ^ (1074 - 7 * (i + 1)) * 2 ^ 1074 ≤ 2 ^ (1074 - 7 * i) * 2 ^ 1067
    rw [← Nat.pow_add, ← Nat.pow_add]
    exact Nat.pow_le_pow_right (by decide) (by omega)
theorem wt_l (hB : EB E n) (hr : gp (2 ^ 1067) uo r) {i : Nat} (hi : i < (lv E n).length) (hx : xi (lv E n) i ≤ 30) : gp (2 ^ 864) (65536 * uo) (wt E n r i) := by
  have hc := cL_le (k := (lv E n).getD i 0) hB
  have h0 := (lv_get hB hi).2.1
  have h1 : gp (2 ^ 864) uo (wP r (xi (lv E n) i)) := gp_le (wP_l hr _ hx) (Nat.pow_le_pow_right (by decide) (by omega)) (Nat.le_refl _)
  refine gp_mul (i2d_n (k := cL E n ((lv E n).getD i 0)) (by omega)) h1 (rp_n (by decide)) (Nat.mul_le_mul_right _ (Nat.mul_le_mul_right _ hc)) (rp_p (by decide) (by decide)) ?_
  rw [Nat.mul_comm]
  exact Nat.mul_le_mul_right _ (Nat.le_mul_of_pos_left _ h0)
theorem tm2_gp (hB : EB E n) (hr : gp 0 uo r) {i : Nat} (hi : i < (lv E n).length) : gp 0 (4294967296 * uo) (tm E n r 2 i) :=
  gp_mul (wt_gp hB hr) (vl2_gp hB hi) (rp_n (by decide)) (by decide +kernel) rp_0 (by rw [Nat.zero_mul]; exact Nat.zero_le _)
theorem tm2_l (hB : EB E n) (hr : gp (2 ^ 1067) uo r) {i : Nat} (hi : i < (lv E n).length) (hx : xi (lv E n) i ≤ 30) (hm : 2 * ((lv E n).getD i 0 % 17) ≠ n) : gp (2 ^ 864) (4294967296 * uo) (tm E n r 2 i) :=
  gp_mul (wt_l hB hr hi hx) (vl2_1 hB hi hm) (rp_n (by decide)) (by decide +kernel) (rp_p (by decide) (by decide)) (Nat.le_refl _)
theorem sS2_0 (hB : EB E n) (hr : gp 0 uo r) : ∀ j, j ≤ (lv E n).length → gp 0 (j * 4294967296 * uo) (sS E n r 2 j)
  | 0, h => gp_le gp_0 (Nat.le_refl _) (Nat.zero_le _)
  | j + 1, h => by
    have hl := lv_len E n
    have e : j * 4294967296 * uo + 4294967296 * uo = (j + 1) * 4294967296 * uo := by
      have e2 : (j + 1) * 4294967296 = j * 4294967296 + 4294967296 := Nat.succ_mul _ _
      rw [e2, Nat.add_mul (j * 4294967296)]
    exact gp_add (sS2_0 hB hr j (by omega)) (tm2_gp hB hr (by omega)) (rp_n (by omega)) (Nat.le_of_eq e) rp_0 (Nat.zero_le _)
theorem sS2_l (hB : EB E n) (hr : gp (2 ^ 1067) uo r) {i : Nat} (hi : i < (lv E n).length) (hx : xi (lv E n) i ≤ 30) (hm : 2 * ((lv E n).getD i 0 % 17) ≠ n) : ∀ d, i + 1 + d ≤ (lv E n).length → gp (2 ^ 864) ((i + 1 + d) * 4294967296 * uo) (sS E n r 2 (i + 1 + d))
  | 0, h => by
    have hl := lv_len E n
    have e : i * 4294967296 * uo + 4294967296 * uo = (i + 1) * 4294967296 * uo := by
      have e2 : (i + 1) * 4294967296 = i * 4294967296 + 4294967296 := Nat.succ_mul _ _
      rw [e2, Nat.add_mul (i * 4294967296)]
    exact gp_add (sS2_0 hB (gl0 hr) i (by omega)) (tm2_l hB hr hi hx hm) (rp_n (by omega)) (Nat.le_of_eq e) (rp_p (by decide) (by decide)) (Nat.le_add_left _ _)
  | d + 1, h => by
    have hl := lv_len E n
    have e : (i + 1 + d) * 4294967296 * uo + 4294967296 * uo = (i + 1 + (d + 1)) * 4294967296 * uo := by
      have e2 : (i + 1 + (d + 1)) * 4294967296 = (i + 1 + d) * 4294967296 + 4294967296 := Nat.succ_mul _ _
      rw [e2, Nat.add_mul ((i + 1 + d) * 4294967296)]
    show gp (2 ^ 864) _ (FP.dadd (sS E n r 2 (i + 1 + d)) (tm E n r 2 (i + 1 + d)))
    exact gp_add (sS2_l hB hr hi hx hm d (by omega)) (tm2_gp hB (gl0 hr) (i := i + 1 + d) (by omega)) (rp_n (by omega)) (Nat.le_of_eq e) (rp_p (by decide) (by decide)) (Nat.le_add_right _ _)
/-- a level with a magnetization, not far above the ground: the mean square never vanishes -/
theorem PQ_l (hB : EB E n) {i : Nat} (hi : i < (lv E n).length) (hx : xi (lv E n) i ≤ 30) (hm : 2 * ((lv E n).getD i 0 % 17) ≠ n) : PQ E n := fun r hr => by
  have hl := lv_len E n
  have h1 : gp (2 ^ 864) (4913 * 4294967296 * uo) (sS E n r 2 (lv E n).length) := by
    have h2 := sS2_l hB hr hi hx hm ((lv E n).length - (i + 1)) (by omega)
    rw [show i + 1 + ((lv E n).length - (i + 1)) = (lv E n).length by omega] at h2
    exact gp_le h2 (Nat.le_refl _) (Nat.mul_le_mul_right _ (Nat.mul_le_mul_right _ hl))
  exact gp_div h1 (sA_all hB (gl0 hr)) uo_pos (rp_p (by decide) (by decide)) (by decide +kernel) (rp_p (by decide) (by decide)) (by decide +kernel)
end
/-! ===== probabilities ===== -/
section
variable {E : Nat → Int32} {n : Nat} {r : UInt64}
/-- a configuration's place among the weights -/
def ui (E : Nat → Int32) (n c : Nat) : Nat := eN E c - (lv E n).getD 0 0 / 17
theorem lv_min (hB : EB E n) {c : Nat} (hc : c < 2 ^ n) : (lv E n).getD 0 0 ≤ yL E n c := by
  have h1 := yL_ok hB hc
  have h2 : yL E n c ∈ lv E n := (fl_mem _ _ _).mpr ⟨h1.1, decide_eq_true (ct_pos.mpr ⟨c, hc, decide_eq_true rfl⟩)⟩
  obtain ⟨i, hi, he⟩ := List.getElem_of_mem h2
  have h3 := (lv_x hB hi).1
  rw [getD_lt hi, he] at h3
  exact h3
theorem ui_ok (hB : EB E n) {c : Nat} (hc : c < 2 ^ n) : E c - gE ((lv E n).getD 0 0) = nI (ui E n c) ∧ ui E n c < 289 := by
  have h0 := lv_min hB hc
  obtain ⟨h1, h2, h3, h4⟩ := yL_ok hB hc
  obtain ⟨-, -, h5, h6⟩ := eN_ok hB hc
  have h7 : (lv E n).getD 0 0 / 17 ≤ eN E c := by
    rw [← h2]
    exact Nat.div_le_div_right h0
  refine ⟨?_, by unfold ui; omega⟩
  unfold gE ui
  rw [h6, ← nI_subn h7]
  grind
def pb (E : Nat → Int32) (n : Nat) (r : UInt64) (c : Nat) : UInt64 := FP.ddiv (wP r (ui E n c)) (sA E n r (lv E n).length)
theorem pb_fb (hB : EB E n) (hr : gp 0 uo r) {c : Nat} : fb uo (pb E n r c) := fb_div (gp_fb (wP_gp hr _)) (sA_all hB hr) uo_pos rp_u (Nat.le_refl _)
variable {S : xS} {I : xI} {J : xJ} {D : xDb} {R : xR} {b : Nat × Nat} {Q : xQ} {x y : Nat}
theorem R110_5 (hL : LC S R) (hX : XL n E S I R) (hB : EB E n) (h : AB x y) (hD : ∀ k, k < 289 → D 139 k = wP (rtP x y) k) {c : Nat} (hc : c < 2 ^ n) : ∀ (j i : Nat), i + j = (lv E n).length → xRun xT 110 5 [(0, .ref 130), (1, .int (nI c)), (2, .double (sA E n (rtP x y) i)), (4, .int (nI i))] [] (S, I, J, D, R) b Q = Q (.ok (some (.double (pb E n (rtP x y) c)))) (S, I, J, D, R) b
  | 0, i, hi => by
    have hl := lv_len E n
    have hr := rtP_gp h
    have hp := pow16 hB.1
    have e : i = (lv E n).length := by omega
    obtain ⟨u1, u2⟩ := ui_ok hB hc
    rw [e110_5]
    simp only [B110_5, xSeq, i_push, i_load, i_iload, i_lload, i_dload, i_aload, i_istore, i_astore, i_lstore, i_dstore, i_iinc, i_ii, i_iiz, i_ll, i_llz, i_lli, i_li, i_i, i_l, i_i2l, i_l2i, i_dup, i_dup2, i_dup2w, i_dupx1, i_pop, i_pop2, i_goto, i_ifc, i_icmp, i_getI, i_getL, i_getR, i_putI, i_putZ, i_putL, i_putR, i_aldI, i_aldB, i_aldL, i_aldD, i_astI, i_astL, i_astD, i_alen, i_ret, i_iret, i_zret, i_lret, i_fret, i_dret, i_aret, i_invS0, i_invV0, i_m2, i_m1, i_ml, i_obj, lk, lkp, stf1, stf2, Value.category, rV, xTo, lv_args, xCk, xCat, xRc, xAk, hg_S, hg_I, hg_J, hg_D, hg_R, hs_I, hs_J, hs_D, hs_R, uI_at, uJ_at, uD_at, uR_at, List.take_succ_cons, List.take_zero, List.drop_succ_cons, List.drop_zero, List.reverse_cons, List.reverse_nil, List.nil_append, List.cons_append, List.map_cons, List.map_nil, List.sum_cons, List.sum_nil, List.length_cons, List.length_nil, Option.toList_some, Option.toList_none, true_and, and_true, false_and, and_false, true_implies, false_implies, implies_true, not_true_eq_false, not_false_eq_true, ne_eq, if_true, if_false, Bool.and_true, Bool.true_and, decide_true, decide_false, reduceIte, reduceCtorEq, Bool.and_self, Bool.and_eq_true, decide_eq_true_eq, and_self, true_or, or_true, false_or, or_false, Nat.zero_add, Nat.add_zero, eq_self, Nat.reduceEqDiff, Nat.reduceLeDiff, Nat.reduceLT, Nat.reduceAdd, Nat.reduceSub, Nat.reduceMul, LC_out hL, hX.2.2.2.2.2.1, e, nI_leP (show (lv E n).length < 2147483648 by omega) (show (lv E n).length < 2147483648 by omega), Nat.le_refl, e110_49, B110_49, LE_out hX.1, hX.2.2.2.2.1, nI_inP (show c < 65536 by omega) (by decide), nI_ix (show c < 2147483648 by omega), hX.2.2.2.2.2.2.2 c hc, u1, nI_inP u2 (by decide), nI_ix (show ui E n c < 2147483648 by omega), hD _ u2]
    rw [R108 (gp_cmp (sA_all hB hr) uo_pos) (fb_n (pb_fb (c := c) hB hr))]
    simp only [xSeq, i_push, i_load, i_iload, i_lload, i_dload, i_aload, i_istore, i_astore, i_lstore, i_dstore, i_iinc, i_ii, i_iiz, i_ll, i_llz, i_lli, i_li, i_i, i_l, i_i2l, i_l2i, i_dup, i_dup2, i_dup2w, i_dupx1, i_pop, i_pop2, i_goto, i_ifc, i_icmp, i_getI, i_getL, i_getR, i_putI, i_putZ, i_putL, i_putR, i_aldI, i_aldB, i_aldL, i_aldD, i_astI, i_astL, i_astD, i_alen, i_ret, i_iret, i_zret, i_lret, i_fret, i_dret, i_aret, i_invS0, i_invV0, i_m2, i_m1, i_ml, i_obj, lk, lkp, stf1, stf2, Value.category, rV, xTo, lv_args, xCk, xCat, xRc, xAk, hg_S, hg_I, hg_J, hg_D, hg_R, hs_I, hs_J, hs_D, hs_R, uI_at, uJ_at, uD_at, uR_at, List.take_succ_cons, List.take_zero, List.drop_succ_cons, List.drop_zero, List.reverse_cons, List.reverse_nil, List.nil_append, List.cons_append, List.map_cons, List.map_nil, List.sum_cons, List.sum_nil, List.length_cons, List.length_nil, Option.toList_some, Option.toList_none, true_and, and_true, false_and, and_false, true_implies, false_implies, implies_true, not_true_eq_false, not_false_eq_true, ne_eq, if_true, if_false, Bool.and_true, Bool.true_and, decide_true, decide_false, reduceIte, reduceCtorEq, Bool.and_self, Bool.and_eq_true, decide_eq_true_eq, and_self, true_or, or_true, false_or, or_false, Nat.zero_add, Nat.add_zero, eq_self, Nat.reduceEqDiff, Nat.reduceLeDiff, Nat.reduceLT, Nat.reduceAdd, Nat.reduceSub, Nat.reduceMul]
    rfl
  | j + 1, i, hi => by
    have hl := lv_len E n
    have hr := rtP_gp h
    have ih := R110_5 hL hX hB h hD hc j (i + 1) (by omega)
    have hi2 : i < (lv E n).length := by omega
    obtain ⟨g1, g2, g3⟩ := hX.2.2.2.2.2.2.1 i hi2
    obtain ⟨-, x2, x3⟩ := lv_x hB hi2
    have e1 : FP.dmul (FP.i2d (gN E n ((lv E n).getD i 0))) (wP (rtP x y) (xi (lv E n) i)) = wt E n (rtP x y) i := rfl
    have e5 : FP.dadd (sA E n (rtP x y) i) (wt E n (rtP x y) i) = sA E n (rtP x y) (i + 1) := rfl
    have n1 : isNaN64 (wt E n (rtP x y) i) = false := fb_n (gp_fb (wt_gp hB hr))
    have n5 : isNaN64 (sA E n (rtP x y) (i + 1)) = false := sA_n hB hr (by omega)
    rw [e110_5]
    simp only [B110_5, xSeq, i_push, i_load, i_iload, i_lload, i_dload, i_aload, i_istore, i_astore, i_lstore, i_dstore, i_iinc, i_ii, i_iiz, i_ll, i_llz, i_lli, i_li, i_i, i_l, i_i2l, i_l2i, i_dup, i_dup2, i_dup2w, i_dupx1, i_pop, i_pop2, i_goto, i_ifc, i_icmp, i_getI, i_getL, i_getR, i_putI, i_putZ, i_putL, i_putR, i_aldI, i_aldB, i_aldL, i_aldD, i_astI, i_astL, i_astD, i_alen, i_ret, i_iret, i_zret, i_lret, i_fret, i_dret, i_aret, i_invS0, i_invV0, i_m2, i_m1, i_ml, i_obj, lk, lkp, stf1, stf2, Value.category, rV, xTo, lv_args, xCk, xCat, xRc, xAk, hg_S, hg_I, hg_J, hg_D, hg_R, hs_I, hs_J, hs_D, hs_R, uI_at, uJ_at, uD_at, uR_at, List.take_succ_cons, List.take_zero, List.drop_succ_cons, List.drop_zero, List.reverse_cons, List.reverse_nil, List.nil_append, List.cons_append, List.map_cons, List.map_nil, List.sum_cons, List.sum_nil, List.length_cons, List.length_nil, Option.toList_some, Option.toList_none, true_and, and_true, false_and, and_false, true_implies, false_implies, implies_true, not_true_eq_false, not_false_eq_true, ne_eq, if_true, if_false, Bool.and_true, Bool.true_and, decide_true, decide_false, reduceIte, reduceCtorEq, Bool.and_self, Bool.and_eq_true, decide_eq_true_eq, and_self, true_or, or_true, false_or, or_false, Nat.zero_add, Nat.add_zero, eq_self, Nat.reduceEqDiff, Nat.reduceLeDiff, Nat.reduceLT, Nat.reduceAdd, Nat.reduceSub, Nat.reduceMul, LC_out hL, LE_out hX.1, hX.2.2.2.2.1, hX.2.2.2.2.2.1, nI_leP (show (lv E n).length < 2147483648 by omega) (show i < 2147483648 by omega), show ((lv E n).length ≤ i) = False from eq_false (by omega), nI_inP (show i < 4913 by omega) (by decide), nI_ix (show i < 2147483648 by omega), g1, g3, x3, nI_inP x2 (by decide), nI_ix (show xi (lv E n) i < 2147483648 by omega), hD _ x2, i_i2d, i_dd, e1, al_eq n1, e5, al_eq n5, nI_1, ih]
theorem R110 (hL : LC S R) (hX : XL n E S I R) (hB : EB E n) (h : AB x y) (hD : ∀ k, k < 289 → D 139 k = wP (rtP x y) k) {c : Nat} (hc : c < 2 ^ n) : xRun xT 110 0 [(0, .ref 130), (1, .int (nI c))] [] (S, I, J, D, R) b Q = Q (.ok (some (.double (pb E n (rtP x y) c)))) (S, I, J, D, R) b := by
  have h5 := R110_5 (J := J) (b := b) (Q := Q) hL hX hB h hD hc (lv E n).length 0 (by omega)
  rw [nI_0] at h5
  rw [e110_0]
  simp only [B110_0, xSeq, i_push, i_load, i_iload, i_lload, i_dload, i_aload, i_istore, i_astore, i_lstore, i_dstore, i_iinc, i_ii, i_iiz, i_ll, i_llz, i_lli, i_li, i_i, i_l, i_i2l, i_l2i, i_dup, i_dup2, i_dup2w, i_dupx1, i_pop, i_pop2, i_goto, i_ifc, i_icmp, i_getI, i_getL, i_getR, i_putI, i_putZ, i_putL, i_putR, i_aldI, i_aldB, i_aldL, i_aldD, i_astI, i_astL, i_astD, i_alen, i_ret, i_iret, i_zret, i_lret, i_fret, i_dret, i_aret, i_invS0, i_invV0, i_m2, i_m1, i_ml, i_obj, lk, lkp, stf1, stf2, Value.category, rV, xTo, lv_args, xCk, xCat, xRc, xAk, hg_S, hg_I, hg_J, hg_D, hg_R, hs_I, hs_J, hs_D, hs_R, uI_at, uJ_at, uD_at, uR_at, List.take_succ_cons, List.take_zero, List.drop_succ_cons, List.drop_zero, List.reverse_cons, List.reverse_nil, List.nil_append, List.cons_append, List.map_cons, List.map_nil, List.sum_cons, List.sum_nil, List.length_cons, List.length_nil, Option.toList_some, Option.toList_none, true_and, and_true, false_and, and_false, true_implies, false_implies, implies_true, not_true_eq_false, not_false_eq_true, ne_eq, if_true, if_false, Bool.and_true, Bool.true_and, decide_true, decide_false, reduceIte, reduceCtorEq, Bool.and_self, Bool.and_eq_true, decide_eq_true_eq, and_self, true_or, or_true, false_or, or_false, Nat.zero_add, Nat.add_zero, eq_self, Nat.reduceEqDiff, Nat.reduceLeDiff, Nat.reduceLT, Nat.reduceAdd, Nat.reduceSub, Nat.reduceMul]
  exact h5
end
/-! ===== peaks ===== -/
section
/-- the best A: so many more from a on, the best so far, its figure -/
def pkF (E : Nat → Int32) (n : Nat) (w : Int32) (y : Nat) : Nat → Nat → Nat → UInt64 → Nat
  | 0, _, k, _ => k
  | j + 1, a, k, g => if 0 < Op.cmpValue (FP.dcmp (fg E n (rtP a y) w) g) .l then pkF E n w y j (a + 1) a (fg E n (rtP a y) w) else pkF E n w y j (a + 1) k g
variable {S : xS} {I : xI} {J : xJ} {D : xDb} {R : xR} {b : Nat × Nat} {Q : xQ} {n : Nat} {E : Nat → Int32} {y : Nat} {w : Int32}
theorem L181_35 (hL : LC S R) (hX : XL n E S I R) (hB : EB E n) (hp : PQ E n) (hw : rg w 0 2 = true) (hy : y ≤ 30) {res : Nat}
    (kk : ∀ D', (∀ o k, o ≠ 139 → D' o k = D o k) → Q (.ok (some (.int (nI res)))) (S, I, J, D', R) b) :
    ∀ (j a k : Nat) (g : UInt64) (D1 : xDb), a + j = y → 0 < a → pkF E n w y j a k g = res → (∀ o k, o ≠ 139 → D1 o k = D o k) → xRun xT 181 35 [(1, .int w), (2, .int (nI y)), (3, .ref 130), (4, .int (nI k)), (5, .double g), (7, .int (nI a))] [] (S, I, J, D1, R) b Q
  | 0, a, k, g, D1, ha, h0, hk, hd => by
    have e : a = y := by omega
    have ek : k = res := hk
    rw [e181_35]
    simp only [B181_35, xSeq, i_push, i_load, i_iload, i_lload, i_dload, i_aload, i_istore, i_astore, i_lstore, i_dstore, i_iinc, i_ii, i_iiz, i_ll, i_llz, i_lli, i_li, i_i, i_l, i_i2l, i_l2i, i_dup, i_dup2, i_dup2w, i_dupx1, i_pop, i_pop2, i_goto, i_ifc, i_icmp, i_getI, i_getL, i_getR, i_putI, i_putZ, i_putL, i_putR, i_aldI, i_aldB, i_aldL, i_aldD, i_astI, i_astL, i_astD, i_alen, i_ret, i_iret, i_zret, i_lret, i_fret, i_dret, i_aret, i_invS0, i_invV0, i_m2, i_m1, i_ml, i_obj, lk, lkp, stf1, stf2, Value.category, rV, xTo, lv_args, xCk, xCat, xRc, xAk, hg_S, hg_I, hg_J, hg_D, hg_R, hs_I, hs_J, hs_D, hs_R, uI_at, uJ_at, uD_at, uR_at, List.take_succ_cons, List.take_zero, List.drop_succ_cons, List.drop_zero, List.reverse_cons, List.reverse_nil, List.nil_append, List.cons_append, List.map_cons, List.map_nil, List.sum_cons, List.sum_nil, List.length_cons, List.length_nil, Option.toList_some, Option.toList_none, true_and, and_true, false_and, and_false, true_implies, false_implies, implies_true, not_true_eq_false, not_false_eq_true, ne_eq, if_true, if_false, Bool.and_true, Bool.true_and, decide_true, decide_false, reduceIte, reduceCtorEq, Bool.and_self, Bool.and_eq_true, decide_eq_true_eq, and_self, true_or, or_true, false_or, or_false, Nat.zero_add, Nat.add_zero, eq_self, Nat.reduceEqDiff, Nat.reduceLeDiff, Nat.reduceLT, Nat.reduceAdd, Nat.reduceSub, Nat.reduceMul, e, nI_leP (show y < 2147483648 by omega) (show y < 2147483648 by omega), Nat.le_refl, e181_73, B181_73, ek]
    exact kk D1 hd
  | j + 1, a, k, g, D1, ha, h0, hk, hd => by
    rw [pkF] at hk
    obtain ⟨v, hv⟩ : ∃ v, v = fg E n (rtP a y) w := ⟨_, rfl⟩
    rw [← hv] at hk
    rw [e181_35]
    simp only [B181_35, xSeq, i_push, i_load, i_iload, i_lload, i_dload, i_aload, i_istore, i_astore, i_lstore, i_dstore, i_iinc, i_ii, i_iiz, i_ll, i_llz, i_lli, i_li, i_i, i_l, i_i2l, i_l2i, i_dup, i_dup2, i_dup2w, i_dupx1, i_pop, i_pop2, i_goto, i_ifc, i_icmp, i_getI, i_getL, i_getR, i_putI, i_putZ, i_putL, i_putR, i_aldI, i_aldB, i_aldL, i_aldD, i_astI, i_astL, i_astD, i_alen, i_ret, i_iret, i_zret, i_lret, i_fret, i_dret, i_aret, i_invS0, i_invV0, i_m2, i_m1, i_ml, i_obj, lk, lkp, stf1, stf2, Value.category, rV, xTo, lv_args, xCk, xCat, xRc, xAk, hg_S, hg_I, hg_J, hg_D, hg_R, hs_I, hs_J, hs_D, hs_R, uI_at, uJ_at, uD_at, uR_at, List.take_succ_cons, List.take_zero, List.drop_succ_cons, List.drop_zero, List.reverse_cons, List.reverse_nil, List.nil_append, List.cons_append, List.map_cons, List.map_nil, List.sum_cons, List.sum_nil, List.length_cons, List.length_nil, Option.toList_some, Option.toList_none, true_and, and_true, false_and, and_false, true_implies, false_implies, implies_true, not_true_eq_false, not_false_eq_true, ne_eq, if_true, if_false, Bool.and_true, Bool.true_and, decide_true, decide_false, reduceIte, reduceCtorEq, Bool.and_self, Bool.and_eq_true, decide_eq_true_eq, and_self, true_or, or_true, false_or, or_false, Nat.zero_add, Nat.add_zero, eq_self, Nat.reduceEqDiff, Nat.reduceLeDiff, Nat.reduceLT, Nat.reduceAdd, Nat.reduceSub, Nat.reduceMul, LC_out hL, nI_leP (show y < 2147483648 by omega) (show a < 2147483648 by omega), show (y ≤ a) = False from eq_false (by omega)]
    refine L109 hL hX hB hp ⟨h0, by omega, by omega⟩ hw (fun D2 d2 => ?_)
    rw [← hv]
    by_cases hc : 0 < Op.cmpValue (FP.dcmp v g) .l
    · rw [if_pos hc] at hk
      simp only [xSeq, i_push, i_load, i_iload, i_lload, i_dload, i_aload, i_istore, i_astore, i_lstore, i_dstore, i_iinc, i_ii, i_iiz, i_ll, i_llz, i_lli, i_li, i_i, i_l, i_i2l, i_l2i, i_dup, i_dup2, i_dup2w, i_dupx1, i_pop, i_pop2, i_goto, i_ifc, i_icmp, i_getI, i_getL, i_getR, i_putI, i_putZ, i_putL, i_putR, i_aldI, i_aldB, i_aldL, i_aldD, i_astI, i_astL, i_astD, i_alen, i_ret, i_iret, i_zret, i_lret, i_fret, i_dret, i_aret, i_invS0, i_invV0, i_m2, i_m1, i_ml, i_obj, lk, lkp, stf1, stf2, Value.category, rV, xTo, lv_args, xCk, xCat, xRc, xAk, hg_S, hg_I, hg_J, hg_D, hg_R, hs_I, hs_J, hs_D, hs_R, uI_at, uJ_at, uD_at, uR_at, List.take_succ_cons, List.take_zero, List.drop_succ_cons, List.drop_zero, List.reverse_cons, List.reverse_nil, List.nil_append, List.cons_append, List.map_cons, List.map_nil, List.sum_cons, List.sum_nil, List.length_cons, List.length_nil, Option.toList_some, Option.toList_none, true_and, and_true, false_and, and_false, true_implies, false_implies, implies_true, not_true_eq_false, not_false_eq_true, ne_eq, if_true, if_false, Bool.and_true, Bool.true_and, decide_true, decide_false, reduceIte, reduceCtorEq, Bool.and_self, Bool.and_eq_true, decide_eq_true_eq, and_self, true_or, or_true, false_or, or_false, Nat.zero_add, Nat.add_zero, eq_self, Nat.reduceEqDiff, Nat.reduceLeDiff, Nat.reduceLT, Nat.reduceAdd, Nat.reduceSub, Nat.reduceMul, i_ddi, show (Op.cmpValue (FP.dcmp v g) .l ≤ 0) = False from eq_false (Int32.not_le.mpr hc), e181_67, B181_67, nI_1]
      exact L181_35 hL hX hB hp hw hy kk j (a + 1) a v D2 (by omega) (by omega) hk (fun o k ho => (d2 o k ho).trans (hd o k ho))
    · rw [if_neg hc] at hk
      simp only [xSeq, i_push, i_load, i_iload, i_lload, i_dload, i_aload, i_istore, i_astore, i_lstore, i_dstore, i_iinc, i_ii, i_iiz, i_ll, i_llz, i_lli, i_li, i_i, i_l, i_i2l, i_l2i, i_dup, i_dup2, i_dup2w, i_dupx1, i_pop, i_pop2, i_goto, i_ifc, i_icmp, i_getI, i_getL, i_getR, i_putI, i_putZ, i_putL, i_putR, i_aldI, i_aldB, i_aldL, i_aldD, i_astI, i_astL, i_astD, i_alen, i_ret, i_iret, i_zret, i_lret, i_fret, i_dret, i_aret, i_invS0, i_invV0, i_m2, i_m1, i_ml, i_obj, lk, lkp, stf1, stf2, Value.category, rV, xTo, lv_args, xCk, xCat, xRc, xAk, hg_S, hg_I, hg_J, hg_D, hg_R, hs_I, hs_J, hs_D, hs_R, uI_at, uJ_at, uD_at, uR_at, List.take_succ_cons, List.take_zero, List.drop_succ_cons, List.drop_zero, List.reverse_cons, List.reverse_nil, List.nil_append, List.cons_append, List.map_cons, List.map_nil, List.sum_cons, List.sum_nil, List.length_cons, List.length_nil, Option.toList_some, Option.toList_none, true_and, and_true, false_and, and_false, true_implies, false_implies, implies_true, not_true_eq_false, not_false_eq_true, ne_eq, if_true, if_false, Bool.and_true, Bool.true_and, decide_true, decide_false, reduceIte, reduceCtorEq, Bool.and_self, Bool.and_eq_true, decide_eq_true_eq, and_self, true_or, or_true, false_or, or_false, Nat.zero_add, Nat.add_zero, eq_self, Nat.reduceEqDiff, Nat.reduceLeDiff, Nat.reduceLT, Nat.reduceAdd, Nat.reduceSub, Nat.reduceMul, i_ddi, show (Op.cmpValue (FP.dcmp v g) .l ≤ 0) = True from eq_true (Int32.not_lt.mp hc), e181_67, B181_67, nI_1]
      exact L181_35 hL hX hB hp hw hy kk j (a + 1) k g D2 (by omega) (by omega) hk (fun o k ho => (d2 o k ho).trans (hd o k ho))
theorem L322_72 (hL : LM S R) (hX : XM n E I) (hB : EB E n) (hp : PQ E n) (hw : rg w 0 2 = true) (hy : y ≤ 30) {res : Nat}
    (kk : ∀ D', (∀ o k, o ≠ 352 → D' o k = D o k) → Q (.ok (some (.int (nI res)))) (S, I, J, D', R) b) :
    ∀ (j a k : Nat) (g : UInt64) (D1 : xDb), a + j = y → 0 < a → pkF E n w y j a k g = res → (∀ o k, o ≠ 352 → D1 o k = D o k) → xRun xT 322 72 [(0, .ref 200), (1, .int w), (2, .int (nI y)), (3, .int (nI k)), (4, .double g), (6, .int (nI a))] [] (S, I, J, D1, R) b Q
  | 0, a, k, g, D1, ha, h0, hk, hd => by
    have e : a = y := by omega
    have ek : k = res := hk
    rw [e322_72]
    simp only [B322_72, xSeq, i_push, i_load, i_iload, i_lload, i_dload, i_aload, i_istore, i_astore, i_lstore, i_dstore, i_iinc, i_ii, i_iiz, i_ll, i_llz, i_lli, i_li, i_i, i_l, i_i2l, i_l2i, i_dup, i_dup2, i_dup2w, i_dupx1, i_pop, i_pop2, i_goto, i_ifc, i_icmp, i_getI, i_getL, i_getR, i_putI, i_putZ, i_putL, i_putR, i_aldI, i_aldB, i_aldL, i_aldD, i_astI, i_astL, i_astD, i_alen, i_ret, i_iret, i_zret, i_lret, i_fret, i_dret, i_aret, i_invS0, i_invV0, i_m2, i_m1, i_ml, i_obj, lk, lkp, stf1, stf2, Value.category, rV, xTo, lv_args, xCk, xCat, xRc, xAk, hg_S, hg_I, hg_J, hg_D, hg_R, hs_I, hs_J, hs_D, hs_R, uI_at, uJ_at, uD_at, uR_at, List.take_succ_cons, List.take_zero, List.drop_succ_cons, List.drop_zero, List.reverse_cons, List.reverse_nil, List.nil_append, List.cons_append, List.map_cons, List.map_nil, List.sum_cons, List.sum_nil, List.length_cons, List.length_nil, Option.toList_some, Option.toList_none, true_and, and_true, false_and, and_false, true_implies, false_implies, implies_true, not_true_eq_false, not_false_eq_true, ne_eq, if_true, if_false, Bool.and_true, Bool.true_and, decide_true, decide_false, reduceIte, reduceCtorEq, Bool.and_self, Bool.and_eq_true, decide_eq_true_eq, and_self, true_or, or_true, false_or, or_false, Nat.zero_add, Nat.add_zero, eq_self, Nat.reduceEqDiff, Nat.reduceLeDiff, Nat.reduceLT, Nat.reduceAdd, Nat.reduceSub, Nat.reduceMul, e, nI_leP (show y < 2147483648 by omega) (show y < 2147483648 by omega), Nat.le_refl, e322_112, B322_112, ek]
    exact kk D1 hd
  | j + 1, a, k, g, D1, ha, h0, hk, hd => by
    rw [pkF] at hk
    obtain ⟨v, hv⟩ : ∃ v, v = fg E n (rtP a y) w := ⟨_, rfl⟩
    rw [← hv] at hk
    rw [e322_72]
    simp only [B322_72, xSeq, i_push, i_load, i_iload, i_lload, i_dload, i_aload, i_istore, i_astore, i_lstore, i_dstore, i_iinc, i_ii, i_iiz, i_ll, i_llz, i_lli, i_li, i_i, i_l, i_i2l, i_l2i, i_dup, i_dup2, i_dup2w, i_dupx1, i_pop, i_pop2, i_goto, i_ifc, i_icmp, i_getI, i_getL, i_getR, i_putI, i_putZ, i_putL, i_putR, i_aldI, i_aldB, i_aldL, i_aldD, i_astI, i_astL, i_astD, i_alen, i_ret, i_iret, i_zret, i_lret, i_fret, i_dret, i_aret, i_invS0, i_invV0, i_m2, i_m1, i_ml, i_obj, lk, lkp, stf1, stf2, Value.category, rV, xTo, lv_args, xCk, xCat, xRc, xAk, hg_S, hg_I, hg_J, hg_D, hg_R, hs_I, hs_J, hs_D, hs_R, uI_at, uJ_at, uD_at, uR_at, List.take_succ_cons, List.take_zero, List.drop_succ_cons, List.drop_zero, List.reverse_cons, List.reverse_nil, List.nil_append, List.cons_append, List.map_cons, List.map_nil, List.sum_cons, List.sum_nil, List.length_cons, List.length_nil, Option.toList_some, Option.toList_none, true_and, and_true, false_and, and_false, true_implies, false_implies, implies_true, not_true_eq_false, not_false_eq_true, ne_eq, if_true, if_false, Bool.and_true, Bool.true_and, decide_true, decide_false, reduceIte, reduceCtorEq, Bool.and_self, Bool.and_eq_true, decide_eq_true_eq, and_self, true_or, or_true, false_or, or_false, Nat.zero_add, Nat.add_zero, eq_self, Nat.reduceEqDiff, Nat.reduceLeDiff, Nat.reduceLT, Nat.reduceAdd, Nat.reduceSub, Nat.reduceMul, LM_out hL, nI_leP (show y < 2147483648 by omega) (show a < 2147483648 by omega), show (y ≤ a) = False from eq_false (by omega)]
    refine L319 hL hX hB hp ⟨h0, by omega, by omega⟩ hw (fun D2 d2 => ?_)
    rw [← hv]
    by_cases hc : 0 < Op.cmpValue (FP.dcmp v g) .l
    · rw [if_pos hc] at hk
      simp only [xSeq, i_push, i_load, i_iload, i_lload, i_dload, i_aload, i_istore, i_astore, i_lstore, i_dstore, i_iinc, i_ii, i_iiz, i_ll, i_llz, i_lli, i_li, i_i, i_l, i_i2l, i_l2i, i_dup, i_dup2, i_dup2w, i_dupx1, i_pop, i_pop2, i_goto, i_ifc, i_icmp, i_getI, i_getL, i_getR, i_putI, i_putZ, i_putL, i_putR, i_aldI, i_aldB, i_aldL, i_aldD, i_astI, i_astL, i_astD, i_alen, i_ret, i_iret, i_zret, i_lret, i_fret, i_dret, i_aret, i_invS0, i_invV0, i_m2, i_m1, i_ml, i_obj, lk, lkp, stf1, stf2, Value.category, rV, xTo, lv_args, xCk, xCat, xRc, xAk, hg_S, hg_I, hg_J, hg_D, hg_R, hs_I, hs_J, hs_D, hs_R, uI_at, uJ_at, uD_at, uR_at, List.take_succ_cons, List.take_zero, List.drop_succ_cons, List.drop_zero, List.reverse_cons, List.reverse_nil, List.nil_append, List.cons_append, List.map_cons, List.map_nil, List.sum_cons, List.sum_nil, List.length_cons, List.length_nil, Option.toList_some, Option.toList_none, true_and, and_true, false_and, and_false, true_implies, false_implies, implies_true, not_true_eq_false, not_false_eq_true, ne_eq, if_true, if_false, Bool.and_true, Bool.true_and, decide_true, decide_false, reduceIte, reduceCtorEq, Bool.and_self, Bool.and_eq_true, decide_eq_true_eq, and_self, true_or, or_true, false_or, or_false, Nat.zero_add, Nat.add_zero, eq_self, Nat.reduceEqDiff, Nat.reduceLeDiff, Nat.reduceLT, Nat.reduceAdd, Nat.reduceSub, Nat.reduceMul, i_ddi, hc, e322_99, B322_99, e322_106, B322_106, nI_1]
      exact L322_72 hL hX hB hp hw hy kk j (a + 1) a v D2 (by omega) (by omega) hk (fun o k ho => (d2 o k ho).trans (hd o k ho))
    · rw [if_neg hc] at hk
      simp only [xSeq, i_push, i_load, i_iload, i_lload, i_dload, i_aload, i_istore, i_astore, i_lstore, i_dstore, i_iinc, i_ii, i_iiz, i_ll, i_llz, i_lli, i_li, i_i, i_l, i_i2l, i_l2i, i_dup, i_dup2, i_dup2w, i_dupx1, i_pop, i_pop2, i_goto, i_ifc, i_icmp, i_getI, i_getL, i_getR, i_putI, i_putZ, i_putL, i_putR, i_aldI, i_aldB, i_aldL, i_aldD, i_astI, i_astL, i_astD, i_alen, i_ret, i_iret, i_zret, i_lret, i_fret, i_dret, i_aret, i_invS0, i_invV0, i_m2, i_m1, i_ml, i_obj, lk, lkp, stf1, stf2, Value.category, rV, xTo, lv_args, xCk, xCat, xRc, xAk, hg_S, hg_I, hg_J, hg_D, hg_R, hs_I, hs_J, hs_D, hs_R, uI_at, uJ_at, uD_at, uR_at, List.take_succ_cons, List.take_zero, List.drop_succ_cons, List.drop_zero, List.reverse_cons, List.reverse_nil, List.nil_append, List.cons_append, List.map_cons, List.map_nil, List.sum_cons, List.sum_nil, List.length_cons, List.length_nil, Option.toList_some, Option.toList_none, true_and, and_true, false_and, and_false, true_implies, false_implies, implies_true, not_true_eq_false, not_false_eq_true, ne_eq, if_true, if_false, Bool.and_true, Bool.true_and, decide_true, decide_false, reduceIte, reduceCtorEq, Bool.and_self, Bool.and_eq_true, decide_eq_true_eq, and_self, true_or, or_true, false_or, or_false, Nat.zero_add, Nat.add_zero, eq_self, Nat.reduceEqDiff, Nat.reduceLeDiff, Nat.reduceLT, Nat.reduceAdd, Nat.reduceSub, Nat.reduceMul, i_ddi, hc, e322_106, B322_106, nI_1]
      exact L322_72 hL hX hB hp hw hy kk j (a + 1) k g D2 (by omega) (by omega) hk (fun o k ho => (d2 o k ho).trans (hd o k ho))
theorem rg_y {u : Int32} (h : rg u 2 30 = true) : ∃ y, 2 ≤ y ∧ y ≤ 30 ∧ u = nI y := by
  unfold rg at h
  rw [Bool.and_eq_true, Bool.not_eq_true', Bool.not_eq_true', decide_eq_false_iff_not, decide_eq_false_iff_not] at h
  obtain ⟨h1, h2⟩ := h
  rw [Int32.lt_iff_toInt_lt] at h1 h2
  have t2 : (2 : Int32).toInt = 2 := rfl
  have t30 : (30 : Int32).toInt = 30 := rfl
  obtain ⟨y, hy, rfl⟩ := nI_of (x := u) (fun e => by
    rw [Int32.lt_iff_toInt_lt, show (0 : Int32).toInt = 0 from rfl] at e
    omega)
  rw [nI_toInt hy] at h1 h2
  exact ⟨y, by omega, by omega, rfl⟩
end
/-! ===== the lowest bit ===== -/
section
def tzf : Nat → Nat → Nat
  | 0, _ => 0
  | f + 1, x => if x % 2 = 1 then 0 else tzf f (x / 2) + 1
theorem tz_u : ∀ (t f q : Nat), t < f → tzf f (2 ^ t * (2 * q + 1)) = t
  | 0, f, q, h => by
    obtain ⟨f', rfl⟩ : ∃ f', f = f' + 1 := ⟨f - 1, by omega⟩
    rw [tzf, if_pos (by omega)]
  | t + 1, f, q, h => by
    obtain ⟨f', rfl⟩ : ∃ f', f = f' + 1 := ⟨f - 1, by omega⟩
    have e : 2 ^ (t + 1) * (2 * q + 1) = 2 * (2 ^ t * (2 * q + 1)) := by rw [Nat.pow_succ, Nat.mul_comm (2 ^ t) 2, Nat.mul_assoc]
    rw [tzf, if_neg (by omega), e, Nat.mul_div_cancel_left _ (by decide), tz_u t f' q (by omega)]
theorem tz_ex : ∀ (f x : Nat), 0 < x → x < 2 ^ f → ∃ t q, t < f ∧ x = 2 ^ t * (2 * q + 1)
  | 0, x, h, h2 => by
    rw [Nat.pow_zero] at h2
    omega
  | f + 1, x, h, h2 => by
    by_cases e : x % 2 = 1
    · exact ⟨0, x / 2, by omega, by omega⟩
    · obtain ⟨t, q, h3, h4⟩ := tz_ex f (x / 2) (by omega) (by rw [Nat.pow_succ] at h2; omega)
      refine ⟨t + 1, q, by omega, ?_⟩
      rw [Nat.pow_succ, Nat.mul_comm (2 ^ t) 2, Nat.mul_assoc, ← h4]
      omega
theorem low_mask {x t q : Nat} (hx : x < 2 ^ 32) (e : x = 2 ^ t * (2 * q + 1)) : (x ^^^ 4294967295) &&& (x - 1) = 2 ^ t - 1 := by
  have hp := Nat.two_pow_pos t
  have e1 : x - 1 = 2 ^ t * (2 * q) + (2 ^ t - 1) := by
    rw [e, Nat.mul_add, Nat.mul_one]
    omega
  have e2 : x = 2 ^ t * (2 * q + 1) + 0 := e
  apply Nat.eq_of_testBit_eq
  intro i
  rw [Nat.testBit_and, Nat.testBit_xor, Nat.testBit_two_pow_sub_one, show (4294967295 : Nat) = 2 ^ 32 - 1 from rfl, Nat.testBit_two_pow_sub_one, e1, Nat.testBit_two_pow_mul_add _ (by omega), Nat.testBit_two_pow_sub_one]
  by_cases h : i < t
  · have h32 : i < 32 := by
      refine Nat.lt_of_not_le (fun h3 => ?_)
      have : 2 ^ 32 ≤ 2 ^ t := Nat.pow_le_pow_right (by decide) (by omega)
      have h4 : 2 ^ t ≤ x := by rw [e]; exact Nat.le_mul_of_pos_right _ (by omega)
      omega
    have hb : x.testBit i = false := by
      rw [e2, Nat.testBit_two_pow_mul_add _ hp, if_pos h, Nat.zero_testBit]
    rw [if_pos h, hb, decide_eq_true h, decide_eq_true h32]
    rfl
  · rw [if_neg h, decide_eq_false h]
    have hb : x.testBit i = (2 * q + 1).testBit (i - t) := by
      rw [e2, Nat.testBit_two_pow_mul_add _ hp, if_neg h]
    by_cases h5 : i - t = 0
    · rw [h5, Nat.testBit_zero]
      have : 2 * q % 2 = 0 := by omega
      rw [this]
      simp
    · obtain ⟨k, hk⟩ : ∃ k, i - t = k + 1 := ⟨i - t - 1, by omega⟩
      have e3 : (2 * q).testBit (k + 1) = q.testBit k := by rw [Nat.testBit_succ]; congr 1; omega
      have e4 : (2 * q + 1).testBit (k + 1) = q.testBit k := by rw [Nat.testBit_succ]; congr 1; omega
      rw [hb, hk, e3, e4]
      by_cases h32 : i < 32
      · rw [decide_eq_true h32]
        cases q.testBit k <;> rfl
      · have h6 : x.testBit i = false := Nat.testBit_lt_two_pow (Nat.lt_of_lt_of_le hx (Nat.pow_le_pow_right (by decide) (by omega)))
        rw [hb, hk, e4] at h6
        rw [h6]
        simp
variable {S : xS} {I : xI} {J : xJ} {D : xDb} {R : xR} {b : Nat × Nat} {Q : xQ}
theorem pm_lt {t : Nat} (h : t ≤ 31) : 2 ^ t - 1 < 2147483648 ∧ 2 ^ t ≤ 2147483648 := by
  have := Nat.pow_le_pow_right (show 0 < 2 by decide) h
  omega
theorem pm_le {t k : Nat} (hk : 1 ≤ k) : (2 ^ t - 1 ≤ 2 ^ k) = (t ≤ k) := by
  have := Nat.two_pow_pos k
  have := Nat.two_pow_pos t
  apply propext
  constructor
  · intro h
    refine Nat.le_of_not_lt (fun h2 => ?_)
    have h3 := Nat.pow_le_pow_right (show 0 < 2 by decide) (show k + 1 ≤ t from h2)
    rw [Nat.pow_succ] at h3
    have h4 : 2 ^ 1 ≤ 2 ^ k := Nat.pow_le_pow_right (by decide) hk
    omega
  · intro h
    have := Nat.pow_le_pow_right (show 0 < 2 by decide) h
    omega
theorem pm_sh {t k : Nat} (h : k < t) : (2 ^ t - 1) / 2 ^ k = 2 ^ (t - k) - 1 := by
  have hp := Nat.two_pow_pos k
  have e : 2 ^ t = 2 ^ k * 2 ^ (t - k) := by rw [← Nat.pow_add]; congr 1; omega
  have hq := Nat.two_pow_pos (t - k)
  have e2 : 2 ^ t - 1 = 2 ^ k * (2 ^ (t - k) - 1) + (2 ^ k - 1) := by
    rw [e, Nat.mul_sub, Nat.mul_one]
    have : 2 ^ k * 1 ≤ 2 ^ k * 2 ^ (t - k) := Nat.mul_le_mul_left _ hq
    omega
  rw [e2, Nat.mul_add_div hp, Nat.div_eq_of_lt (by omega), Nat.add_zero]
theorem t_17 {t : Nat} (h : t ≤ 31) : xRun xT 5 17 [(0, .int (nI (2 ^ t - 1)))] [] (S, I, J, D, R) b Q = xRun xT 5 34 [(0, .int (nI (2 ^ (if t ≤ 16 then t else t - 16) - 1))), (1, .int (nI (if t ≤ 16 then 1 else 17)))] [] (S, I, J, D, R) b Q := by
  have hb := pm_lt h
  have e1 : (nI (2 ^ t - 1) ≤ 65536) = (t ≤ 16) := by rw [show (65536 : Int32) = nI (2 ^ 16) from rfl, nI_leP hb.1 (by decide), pm_le (by decide)]
  rw [e5_17]
  by_cases h1 : t ≤ 16
  · simp only [B5_17, xSeq, i_push, i_load, i_iload, i_lload, i_dload, i_aload, i_istore, i_astore, i_lstore, i_dstore, i_iinc, i_ii, i_iiz, i_ll, i_llz, i_lli, i_li, i_i, i_l, i_i2l, i_l2i, i_dup, i_dup2, i_dup2w, i_dupx1, i_pop, i_pop2, i_goto, i_ifc, i_icmp, i_getI, i_getL, i_getR, i_putI, i_putZ, i_putL, i_putR, i_aldI, i_aldB, i_aldL, i_aldD, i_astI, i_astL, i_astD, i_alen, i_ret, i_iret, i_zret, i_lret, i_fret, i_dret, i_aret, i_invS0, i_invV0, i_m2, i_m1, i_ml, i_obj, lk, lkp, stf1, stf2, Value.category, rV, xTo, lv_args, xCk, xCat, xRc, xAk, hg_S, hg_I, hg_J, hg_D, hg_R, hs_I, hs_J, hs_D, hs_R, uI_at, uJ_at, uD_at, uR_at, List.take_succ_cons, List.take_zero, List.drop_succ_cons, List.drop_zero, List.reverse_cons, List.reverse_nil, List.nil_append, List.cons_append, List.map_cons, List.map_nil, List.sum_cons, List.sum_nil, List.length_cons, List.length_nil, Option.toList_some, Option.toList_none, true_and, and_true, false_and, and_false, true_implies, false_implies, implies_true, not_true_eq_false, not_false_eq_true, ne_eq, if_true, if_false, Bool.and_true, Bool.true_and, decide_true, decide_false, reduceIte, reduceCtorEq, Bool.and_self, Bool.and_eq_true, decide_eq_true_eq, and_self, true_or, or_true, false_or, or_false, Nat.zero_add, Nat.add_zero, eq_self, Nat.reduceEqDiff, Nat.reduceLeDiff, Nat.reduceLT, Nat.reduceAdd, Nat.reduceSub, Nat.reduceMul, e1, h1, if_true]
    rfl
  · simp only [B5_17, xSeq, i_push, i_load, i_iload, i_lload, i_dload, i_aload, i_istore, i_astore, i_lstore, i_dstore, i_iinc, i_ii, i_iiz, i_ll, i_llz, i_lli, i_li, i_i, i_l, i_i2l, i_l2i, i_dup, i_dup2, i_dup2w, i_dupx1, i_pop, i_pop2, i_goto, i_ifc, i_icmp, i_getI, i_getL, i_getR, i_putI, i_putZ, i_putL, i_putR, i_aldI, i_aldB, i_aldL, i_aldD, i_astI, i_astL, i_astD, i_alen, i_ret, i_iret, i_zret, i_lret, i_fret, i_dret, i_aret, i_invS0, i_invV0, i_m2, i_m1, i_ml, i_obj, lk, lkp, stf1, stf2, Value.category, rV, xTo, lv_args, xCk, xCat, xRc, xAk, hg_S, hg_I, hg_J, hg_D, hg_R, hs_I, hs_J, hs_D, hs_R, uI_at, uJ_at, uD_at, uR_at, List.take_succ_cons, List.take_zero, List.drop_succ_cons, List.drop_zero, List.reverse_cons, List.reverse_nil, List.nil_append, List.cons_append, List.map_cons, List.map_nil, List.sum_cons, List.sum_nil, List.length_cons, List.length_nil, Option.toList_some, Option.toList_none, true_and, and_true, false_and, and_false, true_implies, false_implies, implies_true, not_true_eq_false, not_false_eq_true, ne_eq, if_true, if_false, Bool.and_true, Bool.true_and, decide_true, decide_false, reduceIte, reduceCtorEq, Bool.and_self, Bool.and_eq_true, decide_eq_true_eq, and_self, true_or, or_true, false_or, or_false, Nat.zero_add, Nat.add_zero, eq_self, Nat.reduceEqDiff, Nat.reduceLeDiff, Nat.reduceLT, Nat.reduceAdd, Nat.reduceSub, Nat.reduceMul, e1, h1, if_false, i_ushr (show 2 ^ t - 1 < 2 ^ 32 by omega) 16 16 (by decide), pm_sh (show 16 < t by omega)]
    rfl
theorem t_34 {t m : Nat} (h : t ≤ 16) : xRun xT 5 34 [(0, .int (nI (2 ^ t - 1))), (1, .int (nI m))] [] (S, I, J, D, R) b Q = xRun xT 5 49 [(0, .int (nI (2 ^ (if t ≤ 8 then t else t - 8) - 1))), (1, .int (nI (if t ≤ 8 then m else m + 8)))] [] (S, I, J, D, R) b Q := by
  have hb := pm_lt (show t ≤ 31 by omega)
  have e1 : (nI (2 ^ t - 1) ≤ 256) = (t ≤ 8) := by rw [show (256 : Int32) = nI (2 ^ 8) from rfl, nI_leP hb.1 (by decide), pm_le (by decide)]
  have e8 : nI m + 8 = nI (m + 8) := by rw [show (8 : Int32) = nI 8 from rfl, nI_add]
  rw [e5_34]
  by_cases h1 : t ≤ 8
  · simp only [B5_34, xSeq, i_push, i_load, i_iload, i_lload, i_dload, i_aload, i_istore, i_astore, i_lstore, i_dstore, i_iinc, i_ii, i_iiz, i_ll, i_llz, i_lli, i_li, i_i, i_l, i_i2l, i_l2i, i_dup, i_dup2, i_dup2w, i_dupx1, i_pop, i_pop2, i_goto, i_ifc, i_icmp, i_getI, i_getL, i_getR, i_putI, i_putZ, i_putL, i_putR, i_aldI, i_aldB, i_aldL, i_aldD, i_astI, i_astL, i_astD, i_alen, i_ret, i_iret, i_zret, i_lret, i_fret, i_dret, i_aret, i_invS0, i_invV0, i_m2, i_m1, i_ml, i_obj, lk, lkp, stf1, stf2, Value.category, rV, xTo, lv_args, xCk, xCat, xRc, xAk, hg_S, hg_I, hg_J, hg_D, hg_R, hs_I, hs_J, hs_D, hs_R, uI_at, uJ_at, uD_at, uR_at, List.take_succ_cons, List.take_zero, List.drop_succ_cons, List.drop_zero, List.reverse_cons, List.reverse_nil, List.nil_append, List.cons_append, List.map_cons, List.map_nil, List.sum_cons, List.sum_nil, List.length_cons, List.length_nil, Option.toList_some, Option.toList_none, true_and, and_true, false_and, and_false, true_implies, false_implies, implies_true, not_true_eq_false, not_false_eq_true, ne_eq, if_true, if_false, Bool.and_true, Bool.true_and, decide_true, decide_false, reduceIte, reduceCtorEq, Bool.and_self, Bool.and_eq_true, decide_eq_true_eq, and_self, true_or, or_true, false_or, or_false, Nat.zero_add, Nat.add_zero, eq_self, Nat.reduceEqDiff, Nat.reduceLeDiff, Nat.reduceLT, Nat.reduceAdd, Nat.reduceSub, Nat.reduceMul, e1, h1, if_true]
  · simp only [B5_34, xSeq, i_push, i_load, i_iload, i_lload, i_dload, i_aload, i_istore, i_astore, i_lstore, i_dstore, i_iinc, i_ii, i_iiz, i_ll, i_llz, i_lli, i_li, i_i, i_l, i_i2l, i_l2i, i_dup, i_dup2, i_dup2w, i_dupx1, i_pop, i_pop2, i_goto, i_ifc, i_icmp, i_getI, i_getL, i_getR, i_putI, i_putZ, i_putL, i_putR, i_aldI, i_aldB, i_aldL, i_aldD, i_astI, i_astL, i_astD, i_alen, i_ret, i_iret, i_zret, i_lret, i_fret, i_dret, i_aret, i_invS0, i_invV0, i_m2, i_m1, i_ml, i_obj, lk, lkp, stf1, stf2, Value.category, rV, xTo, lv_args, xCk, xCat, xRc, xAk, hg_S, hg_I, hg_J, hg_D, hg_R, hs_I, hs_J, hs_D, hs_R, uI_at, uJ_at, uD_at, uR_at, List.take_succ_cons, List.take_zero, List.drop_succ_cons, List.drop_zero, List.reverse_cons, List.reverse_nil, List.nil_append, List.cons_append, List.map_cons, List.map_nil, List.sum_cons, List.sum_nil, List.length_cons, List.length_nil, Option.toList_some, Option.toList_none, true_and, and_true, false_and, and_false, true_implies, false_implies, implies_true, not_true_eq_false, not_false_eq_true, ne_eq, if_true, if_false, Bool.and_true, Bool.true_and, decide_true, decide_false, reduceIte, reduceCtorEq, Bool.and_self, Bool.and_eq_true, decide_eq_true_eq, and_self, true_or, or_true, false_or, or_false, Nat.zero_add, Nat.add_zero, eq_self, Nat.reduceEqDiff, Nat.reduceLeDiff, Nat.reduceLT, Nat.reduceAdd, Nat.reduceSub, Nat.reduceMul, e1, h1, if_false, e8, i_ushr (show 2 ^ t - 1 < 2 ^ 32 by omega) 8 8 (by decide), pm_sh (show 8 < t by omega)]
theorem t_49 {t m : Nat} (h : t ≤ 8) : xRun xT 5 49 [(0, .int (nI (2 ^ t - 1))), (1, .int (nI m))] [] (S, I, J, D, R) b Q = xRun xT 5 62 [(0, .int (nI (2 ^ (if t ≤ 4 then t else t - 4) - 1))), (1, .int (nI (if t ≤ 4 then m else m + 4)))] [] (S, I, J, D, R) b Q := by
  have hb := pm_lt (show t ≤ 31 by omega)
  have e1 : (nI (2 ^ t - 1) ≤ 16) = (t ≤ 4) := by rw [show (16 : Int32) = nI (2 ^ 4) from rfl, nI_leP hb.1 (by decide), pm_le (by decide)]
  have e8 : nI m + 4 = nI (m + 4) := by rw [show (4 : Int32) = nI 4 from rfl, nI_add]
  rw [e5_49]
  by_cases h1 : t ≤ 4
  · simp only [B5_49, xSeq, i_push, i_load, i_iload, i_lload, i_dload, i_aload, i_istore, i_astore, i_lstore, i_dstore, i_iinc, i_ii, i_iiz, i_ll, i_llz, i_lli, i_li, i_i, i_l, i_i2l, i_l2i, i_dup, i_dup2, i_dup2w, i_dupx1, i_pop, i_pop2, i_goto, i_ifc, i_icmp, i_getI, i_getL, i_getR, i_putI, i_putZ, i_putL, i_putR, i_aldI, i_aldB, i_aldL, i_aldD, i_astI, i_astL, i_astD, i_alen, i_ret, i_iret, i_zret, i_lret, i_fret, i_dret, i_aret, i_invS0, i_invV0, i_m2, i_m1, i_ml, i_obj, lk, lkp, stf1, stf2, Value.category, rV, xTo, lv_args, xCk, xCat, xRc, xAk, hg_S, hg_I, hg_J, hg_D, hg_R, hs_I, hs_J, hs_D, hs_R, uI_at, uJ_at, uD_at, uR_at, List.take_succ_cons, List.take_zero, List.drop_succ_cons, List.drop_zero, List.reverse_cons, List.reverse_nil, List.nil_append, List.cons_append, List.map_cons, List.map_nil, List.sum_cons, List.sum_nil, List.length_cons, List.length_nil, Option.toList_some, Option.toList_none, true_and, and_true, false_and, and_false, true_implies, false_implies, implies_true, not_true_eq_false, not_false_eq_true, ne_eq, if_true, if_false, Bool.and_true, Bool.true_and, decide_true, decide_false, reduceIte, reduceCtorEq, Bool.and_self, Bool.and_eq_true, decide_eq_true_eq, and_self, true_or, or_true, false_or, or_false, Nat.zero_add, Nat.add_zero, eq_self, Nat.reduceEqDiff, Nat.reduceLeDiff, Nat.reduceLT, Nat.reduceAdd, Nat.reduceSub, Nat.reduceMul, e1, h1, if_true]
  · simp only [B5_49, xSeq, i_push, i_load, i_iload, i_lload, i_dload, i_aload, i_istore, i_astore, i_lstore, i_dstore, i_iinc, i_ii, i_iiz, i_ll, i_llz, i_lli, i_li, i_i, i_l, i_i2l, i_l2i, i_dup, i_dup2, i_dup2w, i_dupx1, i_pop, i_pop2, i_goto, i_ifc, i_icmp, i_getI, i_getL, i_getR, i_putI, i_putZ, i_putL, i_putR, i_aldI, i_aldB, i_aldL, i_aldD, i_astI, i_astL, i_astD, i_alen, i_ret, i_iret, i_zret, i_lret, i_fret, i_dret, i_aret, i_invS0, i_invV0, i_m2, i_m1, i_ml, i_obj, lk, lkp, stf1, stf2, Value.category, rV, xTo, lv_args, xCk, xCat, xRc, xAk, hg_S, hg_I, hg_J, hg_D, hg_R, hs_I, hs_J, hs_D, hs_R, uI_at, uJ_at, uD_at, uR_at, List.take_succ_cons, List.take_zero, List.drop_succ_cons, List.drop_zero, List.reverse_cons, List.reverse_nil, List.nil_append, List.cons_append, List.map_cons, List.map_nil, List.sum_cons, List.sum_nil, List.length_cons, List.length_nil, Option.toList_some, Option.toList_none, true_and, and_true, false_and, and_false, true_implies, false_implies, implies_true, not_true_eq_false, not_false_eq_true, ne_eq, if_true, if_false, Bool.and_true, Bool.true_and, decide_true, decide_false, reduceIte, reduceCtorEq, Bool.and_self, Bool.and_eq_true, decide_eq_true_eq, and_self, true_or, or_true, false_or, or_false, Nat.zero_add, Nat.add_zero, eq_self, Nat.reduceEqDiff, Nat.reduceLeDiff, Nat.reduceLT, Nat.reduceAdd, Nat.reduceSub, Nat.reduceMul, e1, h1, if_false, e8, i_ushr (show 2 ^ t - 1 < 2 ^ 32 by omega) 4 4 (by decide), pm_sh (show 4 < t by omega)]
theorem t_62 {t m : Nat} (h : t ≤ 4) : xRun xT 5 62 [(0, .int (nI (2 ^ t - 1))), (1, .int (nI m))] [] (S, I, J, D, R) b Q = xRun xT 5 74 [(0, .int (nI (2 ^ (if t ≤ 2 then t else t - 2) - 1))), (1, .int (nI (if t ≤ 2 then m else m + 2)))] [] (S, I, J, D, R) b Q := by
  have hb := pm_lt (show t ≤ 31 by omega)
  have e1 : (nI (2 ^ t - 1) ≤ 4) = (t ≤ 2) := by rw [show (4 : Int32) = nI (2 ^ 2) from rfl, nI_leP hb.1 (by decide), pm_le (by decide)]
  have e8 : nI m + 2 = nI (m + 2) := by rw [show (2 : Int32) = nI 2 from rfl, nI_add]
  rw [e5_62]
  by_cases h1 : t ≤ 2
  · simp only [B5_62, xSeq, i_push, i_load, i_iload, i_lload, i_dload, i_aload, i_istore, i_astore, i_lstore, i_dstore, i_iinc, i_ii, i_iiz, i_ll, i_llz, i_lli, i_li, i_i, i_l, i_i2l, i_l2i, i_dup, i_dup2, i_dup2w, i_dupx1, i_pop, i_pop2, i_goto, i_ifc, i_icmp, i_getI, i_getL, i_getR, i_putI, i_putZ, i_putL, i_putR, i_aldI, i_aldB, i_aldL, i_aldD, i_astI, i_astL, i_astD, i_alen, i_ret, i_iret, i_zret, i_lret, i_fret, i_dret, i_aret, i_invS0, i_invV0, i_m2, i_m1, i_ml, i_obj, lk, lkp, stf1, stf2, Value.category, rV, xTo, lv_args, xCk, xCat, xRc, xAk, hg_S, hg_I, hg_J, hg_D, hg_R, hs_I, hs_J, hs_D, hs_R, uI_at, uJ_at, uD_at, uR_at, List.take_succ_cons, List.take_zero, List.drop_succ_cons, List.drop_zero, List.reverse_cons, List.reverse_nil, List.nil_append, List.cons_append, List.map_cons, List.map_nil, List.sum_cons, List.sum_nil, List.length_cons, List.length_nil, Option.toList_some, Option.toList_none, true_and, and_true, false_and, and_false, true_implies, false_implies, implies_true, not_true_eq_false, not_false_eq_true, ne_eq, if_true, if_false, Bool.and_true, Bool.true_and, decide_true, decide_false, reduceIte, reduceCtorEq, Bool.and_self, Bool.and_eq_true, decide_eq_true_eq, and_self, true_or, or_true, false_or, or_false, Nat.zero_add, Nat.add_zero, eq_self, Nat.reduceEqDiff, Nat.reduceLeDiff, Nat.reduceLT, Nat.reduceAdd, Nat.reduceSub, Nat.reduceMul, e1, h1, if_true]
  · simp only [B5_62, xSeq, i_push, i_load, i_iload, i_lload, i_dload, i_aload, i_istore, i_astore, i_lstore, i_dstore, i_iinc, i_ii, i_iiz, i_ll, i_llz, i_lli, i_li, i_i, i_l, i_i2l, i_l2i, i_dup, i_dup2, i_dup2w, i_dupx1, i_pop, i_pop2, i_goto, i_ifc, i_icmp, i_getI, i_getL, i_getR, i_putI, i_putZ, i_putL, i_putR, i_aldI, i_aldB, i_aldL, i_aldD, i_astI, i_astL, i_astD, i_alen, i_ret, i_iret, i_zret, i_lret, i_fret, i_dret, i_aret, i_invS0, i_invV0, i_m2, i_m1, i_ml, i_obj, lk, lkp, stf1, stf2, Value.category, rV, xTo, lv_args, xCk, xCat, xRc, xAk, hg_S, hg_I, hg_J, hg_D, hg_R, hs_I, hs_J, hs_D, hs_R, uI_at, uJ_at, uD_at, uR_at, List.take_succ_cons, List.take_zero, List.drop_succ_cons, List.drop_zero, List.reverse_cons, List.reverse_nil, List.nil_append, List.cons_append, List.map_cons, List.map_nil, List.sum_cons, List.sum_nil, List.length_cons, List.length_nil, Option.toList_some, Option.toList_none, true_and, and_true, false_and, and_false, true_implies, false_implies, implies_true, not_true_eq_false, not_false_eq_true, ne_eq, if_true, if_false, Bool.and_true, Bool.true_and, decide_true, decide_false, reduceIte, reduceCtorEq, Bool.and_self, Bool.and_eq_true, decide_eq_true_eq, and_self, true_or, or_true, false_or, or_false, Nat.zero_add, Nat.add_zero, eq_self, Nat.reduceEqDiff, Nat.reduceLeDiff, Nat.reduceLT, Nat.reduceAdd, Nat.reduceSub, Nat.reduceMul, e1, h1, if_false, e8, i_ushr (show 2 ^ t - 1 < 2 ^ 32 by omega) 2 2 (by decide), pm_sh (show 2 < t by omega)]
theorem t_74 {t m : Nat} (h0 : 1 ≤ t) (h : t ≤ 2) : xRun xT 5 74 [(0, .int (nI (2 ^ t - 1))), (1, .int (nI m))] [] (S, I, J, D, R) b Q = Q (.ok (some (.int (nI (m + t - 1))))) (S, I, J, D, R) b := by
  have e : (2 ^ t - 1) / 2 ^ 1 = t - 1 := by
    rcases (show t = 1 ∨ t = 2 by omega) with rfl | rfl <;> rfl
  have hb := pm_lt (show t ≤ 31 by omega)
  rw [e5_74]
  simp only [B5_74, xSeq, i_push, i_load, i_iload, i_lload, i_dload, i_aload, i_istore, i_astore, i_lstore, i_dstore, i_iinc, i_ii, i_iiz, i_ll, i_llz, i_lli, i_li, i_i, i_l, i_i2l, i_l2i, i_dup, i_dup2, i_dup2w, i_dupx1, i_pop, i_pop2, i_goto, i_ifc, i_icmp, i_getI, i_getL, i_getR, i_putI, i_putZ, i_putL, i_putR, i_aldI, i_aldB, i_aldL, i_aldD, i_astI, i_astL, i_astD, i_alen, i_ret, i_iret, i_zret, i_lret, i_fret, i_dret, i_aret, i_invS0, i_invV0, i_m2, i_m1, i_ml, i_obj, lk, lkp, stf1, stf2, Value.category, rV, xTo, lv_args, xCk, xCat, xRc, xAk, hg_S, hg_I, hg_J, hg_D, hg_R, hs_I, hs_J, hs_D, hs_R, uI_at, uJ_at, uD_at, uR_at, List.take_succ_cons, List.take_zero, List.drop_succ_cons, List.drop_zero, List.reverse_cons, List.reverse_nil, List.nil_append, List.cons_append, List.map_cons, List.map_nil, List.sum_cons, List.sum_nil, List.length_cons, List.length_nil, Option.toList_some, Option.toList_none, true_and, and_true, false_and, and_false, true_implies, false_implies, implies_true, not_true_eq_false, not_false_eq_true, ne_eq, if_true, if_false, Bool.and_true, Bool.true_and, decide_true, decide_false, reduceIte, reduceCtorEq, Bool.and_self, Bool.and_eq_true, decide_eq_true_eq, and_self, true_or, or_true, false_or, or_false, Nat.zero_add, Nat.add_zero, eq_self, Nat.reduceEqDiff, Nat.reduceLeDiff, Nat.reduceLT, Nat.reduceAdd, Nat.reduceSub, Nat.reduceMul, i_ushr (show 2 ^ t - 1 < 2 ^ 32 by omega) 1 1 (by decide), e, nI_add]
  rw [show m + (t - 1) = m + t - 1 by omega]
theorem Y5 {x t q : Nat} (hx : x < 2 ^ 32) (e : x = 2 ^ t * (2 * q + 1)) : xRun xT 5 0 [(0, .int (nI x))] [] (S, I, J, D, R) b Q = Q (.ok (some (.int (nI t)))) (S, I, J, D, R) b := by
  have hp := Nat.two_pow_pos t
  have hx0 : 2 ^ t ≤ x := by rw [e]; exact Nat.le_mul_of_pos_right _ (by omega)
  have ht : t ≤ 31 := by
    refine Nat.le_of_not_lt (fun h3 => ?_)
    have : 2 ^ 32 ≤ 2 ^ t := Nat.pow_le_pow_right (by decide) (by omega)
    omega
  have e1 : (nI x ^^^ -1) &&& (nI x - 1) = nI (2 ^ t - 1) := by
    rw [show (-1 : Int32) = nI 4294967295 from by decide, i_xorN, show (1 : Int32) = nI 1 from rfl, nI_subn (show 1 ≤ x by omega), i_andN, low_mask hx e]
  have hb := pm_lt ht
  rw [e5_0]
  simp only [B5_0, xSeq, i_push, i_load, i_iload, i_lload, i_dload, i_aload, i_istore, i_astore, i_lstore, i_dstore, i_iinc, i_ii, i_iiz, i_ll, i_llz, i_lli, i_li, i_i, i_l, i_i2l, i_l2i, i_dup, i_dup2, i_dup2w, i_dupx1, i_pop, i_pop2, i_goto, i_ifc, i_icmp, i_getI, i_getL, i_getR, i_putI, i_putZ, i_putL, i_putR, i_aldI, i_aldB, i_aldL, i_aldD, i_astI, i_astL, i_astD, i_alen, i_ret, i_iret, i_zret, i_lret, i_fret, i_dret, i_aret, i_invS0, i_invV0, i_m2, i_m1, i_ml, i_obj, lk, lkp, stf1, stf2, Value.category, rV, xTo, lv_args, xCk, xCat, xRc, xAk, hg_S, hg_I, hg_J, hg_D, hg_R, hs_I, hs_J, hs_D, hs_R, uI_at, uJ_at, uD_at, uR_at, List.take_succ_cons, List.take_zero, List.drop_succ_cons, List.drop_zero, List.reverse_cons, List.reverse_nil, List.nil_append, List.cons_append, List.map_cons, List.map_nil, List.sum_cons, List.sum_nil, List.length_cons, List.length_nil, Option.toList_some, Option.toList_none, true_and, and_true, false_and, and_false, true_implies, false_implies, implies_true, not_true_eq_false, not_false_eq_true, ne_eq, if_true, if_false, Bool.and_true, Bool.true_and, decide_true, decide_false, reduceIte, reduceCtorEq, Bool.and_self, Bool.and_eq_true, decide_eq_true_eq, and_self, true_or, or_true, false_or, or_false, Nat.zero_add, Nat.add_zero, eq_self, Nat.reduceEqDiff, Nat.reduceLeDiff, Nat.reduceLT, Nat.reduceAdd, Nat.reduceSub, Nat.reduceMul, e1]
  rcases Nat.eq_zero_or_pos t with h0 | h0
  · subst h0
    simp only [show ((0 : Int32) < nI (2 ^ 0 - 1)) = False from eq_false (by decide), xSeq, i_push, i_load, i_iload, i_lload, i_dload, i_aload, i_istore, i_astore, i_lstore, i_dstore, i_iinc, i_ii, i_iiz, i_ll, i_llz, i_lli, i_li, i_i, i_l, i_i2l, i_l2i, i_dup, i_dup2, i_dup2w, i_dupx1, i_pop, i_pop2, i_goto, i_ifc, i_icmp, i_getI, i_getL, i_getR, i_putI, i_putZ, i_putL, i_putR, i_aldI, i_aldB, i_aldL, i_aldD, i_astI, i_astL, i_astD, i_alen, i_ret, i_iret, i_zret, i_lret, i_fret, i_dret, i_aret, i_invS0, i_invV0, i_m2, i_m1, i_ml, i_obj, lk, lkp, stf1, stf2, Value.category, rV, xTo, lv_args, xCk, xCat, xRc, xAk, hg_S, hg_I, hg_J, hg_D, hg_R, hs_I, hs_J, hs_D, hs_R, uI_at, uJ_at, uD_at, uR_at, List.take_succ_cons, List.take_zero, List.drop_succ_cons, List.drop_zero, List.reverse_cons, List.reverse_nil, List.nil_append, List.cons_append, List.map_cons, List.map_nil, List.sum_cons, List.sum_nil, List.length_cons, List.length_nil, Option.toList_some, Option.toList_none, true_and, and_true, false_and, and_false, true_implies, false_implies, implies_true, not_true_eq_false, not_false_eq_true, ne_eq, if_true, if_false, Bool.and_true, Bool.true_and, decide_true, decide_false, reduceIte, reduceCtorEq, Bool.and_self, Bool.and_eq_true, decide_eq_true_eq, and_self, true_or, or_true, false_or, or_false, Nat.zero_add, Nat.add_zero, eq_self, Nat.reduceEqDiff, Nat.reduceLeDiff, Nat.reduceLT, Nat.reduceAdd, Nat.reduceSub, Nat.reduceMul, show (nI (2 ^ 0 - 1) &&& 32 : Int32) = nI 0 from by decide]
  · have h2 : 2 ^ 1 ≤ 2 ^ t := Nat.pow_le_pow_right (by decide) h0
    have e2 : ((0 : Int32) < nI (2 ^ t - 1)) = True := eq_true (by
      rw [show (0 : Int32) = nI 0 from rfl, nI_ltI (by decide) hb.1]
      omega)
    simp only [e2, xSeq, i_push, i_load, i_iload, i_lload, i_dload, i_aload, i_istore, i_astore, i_lstore, i_dstore, i_iinc, i_ii, i_iiz, i_ll, i_llz, i_lli, i_li, i_i, i_l, i_i2l, i_l2i, i_dup, i_dup2, i_dup2w, i_dupx1, i_pop, i_pop2, i_goto, i_ifc, i_icmp, i_getI, i_getL, i_getR, i_putI, i_putZ, i_putL, i_putR, i_aldI, i_aldB, i_aldL, i_aldD, i_astI, i_astL, i_astD, i_alen, i_ret, i_iret, i_zret, i_lret, i_fret, i_dret, i_aret, i_invS0, i_invV0, i_m2, i_m1, i_ml, i_obj, lk, lkp, stf1, stf2, Value.category, rV, xTo, lv_args, xCk, xCat, xRc, xAk, hg_S, hg_I, hg_J, hg_D, hg_R, hs_I, hs_J, hs_D, hs_R, uI_at, uJ_at, uD_at, uR_at, List.take_succ_cons, List.take_zero, List.drop_succ_cons, List.drop_zero, List.reverse_cons, List.reverse_nil, List.nil_append, List.cons_append, List.map_cons, List.map_nil, List.sum_cons, List.sum_nil, List.length_cons, List.length_nil, Option.toList_some, Option.toList_none, true_and, and_true, false_and, and_false, true_implies, false_implies, implies_true, not_true_eq_false, not_false_eq_true, ne_eq, if_true, if_false, Bool.and_true, Bool.true_and, decide_true, decide_false, reduceIte, reduceCtorEq, Bool.and_self, Bool.and_eq_true, decide_eq_true_eq, and_self, true_or, or_true, false_or, or_false, Nat.zero_add, Nat.add_zero, eq_self, Nat.reduceEqDiff, Nat.reduceLeDiff, Nat.reduceLT, Nat.reduceAdd, Nat.reduceSub, Nat.reduceMul]
    rw [t_17 ht, t_34 (by split <;> omega), t_49 (by repeat' split
                                                     all_goals omega), t_62 (by repeat' split
                                                                                all_goals omega), t_74 (by repeat' split
                                                                                                           all_goals omega) (by repeat' split
                                                                                                                                all_goals omega)]
    refine congrArg (fun z => Q (.ok (some (.int (nI z)))) (S, I, J, D, R) b) ?_
    repeat' split
    all_goals omega
theorem lN_i32 {x : Nat} (hx : x < 2 ^ 64) : (lN x).toInt32 = nI (x % 4294967296) := by
  rw [lN_i]
  apply i_inj
  rw [i_tb, i_tb]
  apply BitVec.eq_of_toNat_eq
  rw [BitVec.toNat_ofNat, BitVec.toNat_ofNat]
  omega
theorem nI_ne0' {k : Nat} (h : k < 4294967296) : (nI k = 0) = (k = 0) := by
  apply propext
  constructor
  · intro e
    have h2 : (nI k).toBitVec.toNat = (0 : Int32).toBitVec.toNat := by rw [e]
    rw [pk_tn h] at h2
    exact h2
  · rintro rfl
    rfl
theorem Y3 {x : Nat} (h0 : 0 < x) (hx : x < 2 ^ 64) : xRun xT 3 0 [(0, .long (lN x))] [] (S, I, J, D, R) b Q = Q (.ok (some (.int (nI (tzf 64 x))))) (S, I, J, D, R) b := by
  have hq : x < 18446744073709551616 := hx
  have e1 := lN_i32 hx
  rw [e3_0]
  by_cases h : x % 4294967296 = 0
  · have e2 : (nI (x % 4294967296) = 0) = True := by rw [nI_ne0' (by omega)]; exact eq_true h
    have e3 : (jLushr (lN x) 32).toInt32 = nI (x / 4294967296) := by
      rw [show (32 : Int32) = nI 32 from rfl, q_ushr hx (by decide), lN_i]
    obtain ⟨t, q, h1, h2⟩ := tz_ex 32 (x / 4294967296) (by omega) (by omega)
    have h3 : x = 2 ^ (t + 32) * (2 * q + 1) := by
      have : x = 4294967296 * (x / 4294967296) := by omega
      rw [this, h2, Nat.pow_add, Nat.mul_comm (2 ^ t) (2 ^ 32), Nat.mul_assoc]
    have h4 : tzf 64 x = t + 32 := by rw [h3]; exact tz_u _ _ _ (by omega)
    have hY := fun (b : Nat × Nat) (Q : xQ) => Y5 (S := S) (I := I) (J := J) (D := D) (R := R) (b := b) (Q := Q) (x := x / 4294967296) (by omega) h2
    have e5 : (32 : Int32) + nI t = nI (t + 32) := by rw [show (32 : Int32) = nI 32 from rfl, nI_add, Nat.add_comm]
    simp only [B3_0, xSeq, i_push, i_load, i_iload, i_lload, i_dload, i_aload, i_istore, i_astore, i_lstore, i_dstore, i_iinc, i_ii, i_iiz, i_ll, i_llz, i_lli, i_li, i_i, i_l, i_i2l, i_l2i, i_dup, i_dup2, i_dup2w, i_dupx1, i_pop, i_pop2, i_goto, i_ifc, i_icmp, i_getI, i_getL, i_getR, i_putI, i_putZ, i_putL, i_putR, i_aldI, i_aldB, i_aldL, i_aldD, i_astI, i_astL, i_astD, i_alen, i_ret, i_iret, i_zret, i_lret, i_fret, i_dret, i_aret, i_invS0, i_invV0, i_m2, i_m1, i_ml, i_obj, lk, lkp, stf1, stf2, Value.category, rV, xTo, lv_args, xCk, xCat, xRc, xAk, hg_S, hg_I, hg_J, hg_D, hg_R, hs_I, hs_J, hs_D, hs_R, uI_at, uJ_at, uD_at, uR_at, List.take_succ_cons, List.take_zero, List.drop_succ_cons, List.drop_zero, List.reverse_cons, List.reverse_nil, List.nil_append, List.cons_append, List.map_cons, List.map_nil, List.sum_cons, List.sum_nil, List.length_cons, List.length_nil, Option.toList_some, Option.toList_none, true_and, and_true, false_and, and_false, true_implies, false_implies, implies_true, not_true_eq_false, not_false_eq_true, ne_eq, if_true, if_false, Bool.and_true, Bool.true_and, decide_true, decide_false, reduceIte, reduceCtorEq, Bool.and_self, Bool.and_eq_true, decide_eq_true_eq, and_self, true_or, or_true, false_or, or_false, Nat.zero_add, Nat.add_zero, eq_self, Nat.reduceEqDiff, Nat.reduceLeDiff, Nat.reduceLT, Nat.reduceAdd, Nat.reduceSub, Nat.reduceMul, e1, e2, ne_eq, not_true_eq_false, e3, hY, e5, e3_25, B3_25, h4]
  · have e2 : (nI (x % 4294967296) = 0) = False := by rw [nI_ne0' (by omega)]; exact eq_false h
    obtain ⟨t, q, h1, h2⟩ := tz_ex 32 (x % 4294967296) (by omega) (by omega)
    have h3 : x = 2 ^ t * (2 * (q + 2 ^ (31 - t) * (x / 4294967296)) + 1) := by
      have e6 : 2 ^ t * (2 * 2 ^ (31 - t)) = 4294967296 := by
        rw [← Nat.pow_succ', ← Nat.pow_add, show t + (31 - t + 1) = 32 by omega]
      have e7 : 2 ^ t * (2 * (q + 2 ^ (31 - t) * (x / 4294967296)) + 1) = 2 ^ t * (2 * q + 1) + 2 ^ t * (2 * 2 ^ (31 - t)) * (x / 4294967296) := by
        rw [Nat.mul_assoc (2 ^ t), ← Nat.mul_add]
        congr 1
        rw [Nat.mul_assoc 2]
        omega
      rw [e7, e6, ← h2]
      omega
    have h4 : tzf 64 x = t := by
      have := tz_u t 64 (q + 2 ^ (31 - t) * (x / 4294967296)) (by omega)
      rw [← h3] at this
      exact this
    have hY := fun (b : Nat × Nat) (Q : xQ) => Y5 (S := S) (I := I) (J := J) (D := D) (R := R) (b := b) (Q := Q) (x := x % 4294967296) (by omega) h2
    simp only [B3_0, xSeq, i_push, i_load, i_iload, i_lload, i_dload, i_aload, i_istore, i_astore, i_lstore, i_dstore, i_iinc, i_ii, i_iiz, i_ll, i_llz, i_lli, i_li, i_i, i_l, i_i2l, i_l2i, i_dup, i_dup2, i_dup2w, i_dupx1, i_pop, i_pop2, i_goto, i_ifc, i_icmp, i_getI, i_getL, i_getR, i_putI, i_putZ, i_putL, i_putR, i_aldI, i_aldB, i_aldL, i_aldD, i_astI, i_astL, i_astD, i_alen, i_ret, i_iret, i_zret, i_lret, i_fret, i_dret, i_aret, i_invS0, i_invV0, i_m2, i_m1, i_ml, i_obj, lk, lkp, stf1, stf2, Value.category, rV, xTo, lv_args, xCk, xCat, xRc, xAk, hg_S, hg_I, hg_J, hg_D, hg_R, hs_I, hs_J, hs_D, hs_R, uI_at, uJ_at, uD_at, uR_at, List.take_succ_cons, List.take_zero, List.drop_succ_cons, List.drop_zero, List.reverse_cons, List.reverse_nil, List.nil_append, List.cons_append, List.map_cons, List.map_nil, List.sum_cons, List.sum_nil, List.length_cons, List.length_nil, Option.toList_some, Option.toList_none, true_and, and_true, false_and, and_false, true_implies, false_implies, implies_true, not_true_eq_false, not_false_eq_true, ne_eq, if_true, if_false, Bool.and_true, Bool.true_and, decide_true, decide_false, reduceIte, reduceCtorEq, Bool.and_self, Bool.and_eq_true, decide_eq_true_eq, and_self, true_or, or_true, false_or, or_false, Nat.zero_add, Nat.add_zero, eq_self, Nat.reduceEqDiff, Nat.reduceLeDiff, Nat.reduceLT, Nat.reduceAdd, Nat.reduceSub, Nat.reduceMul, e1, e2, ne_eq, not_false_eq_true, e3_21, B3_21, hY, e3_25, B3_25, h4]
end
/-! ===== domains of the class ===== -/
section
theorem jMax_nI {a c : Nat} (ha : a < 2147483648) (hc : c < 2147483648) : jMax (nI a) (nI c) = nI (max a c) := by
  unfold jMax
  by_cases h : a < c
  · rw [if_pos ((nI_ltI ha hc).mpr h), Nat.max_eq_right (by omega)]
  · rw [if_neg (fun e => h ((nI_ltI ha hc).mp e)), Nat.max_eq_left (by omega)]
theorem jMin_nI {a c : Nat} (ha : a < 2147483648) (hc : c < 2147483648) : jMin (nI a) (nI c) = nI (min a c) := by
  unfold jMin
  by_cases h : c < a
  · rw [if_pos ((nI_ltI hc ha).mpr h), Nat.min_eq_right (by omega)]
  · rw [if_neg (fun e => h ((nI_ltI hc ha).mp e)), Nat.min_eq_left (by omega)]
/-- the neighbours of a site in its own spin, over the first bonds at it -/
def aN (st : Nat → Int32) (fi se : Nat → Nat) (sb : Nat → Nat → Nat) (x t : Nat) : Nat → Nat
  | 0 => 0
  | i + 1 => if st (sb t i) ≠ 0 ∧ x.testBit (fi (sb t i)) = x.testBit (se (sb t i)) then aN st fi se sb x t i ||| 2 ^ (if fi (sb t i) = t then se (sb t i) else fi (sb t i)) else aN st fi se sb x t i
theorem aN_lt {n m : Nat} {fi se dg : Nat → Nat} {sb : Nat → Nat → Nat} (hG : GR n m fi se dg sb) (st : Nat → Int32) (x : Nat) {t : Nat} (ht : t < n) : ∀ i, i ≤ dg t → aN st fi se sb x t i < 2 ^ n
  | 0, _ => Nat.two_pow_pos n
  | i + 1, hi => by
    obtain ⟨g0, g1, g2, g3, g4, g5, g6⟩ := hG
    have hk := g6 t i ht (by omega)
    have h := aN_lt ⟨g0, g1, g2, g3, g4, g5, g6⟩ st x ht i (by omega)
    rw [aN]
    split
    · refine Nat.or_lt_two_pow h (Nat.pow_lt_pow_right (by decide) ?_)
      split
      · exact g4 _ hk
      · exact g3 _ hk
    · exact h
variable {S : xS} {I : xI} {J : xJ} {D : xDb} {R : xR} {b : Nat × Nat} {Q : xQ} {n m : Nat} {fi se dg : Nat → Nat} {sb : Nat → Nat → Nat}
theorem R79_5 (hL : LC S R) (hG : GR n m fi se dg sb) (hC : CL I n m fi se dg sb) {x t : Nat} (hx : x < 2 ^ 64) (hJ : J 110 4 = lN x) (ht : t < n) : ∀ (j i : Nat), i + j = dg t → xRun xT 79 5 [(0, .ref 110), (1, .int (nI t)), (2, .long (lN (aN (I 111) fi se sb x t i))), (4, .int (nI i))] [] (S, I, J, D, R) b Q = Q (.ok (some (.long (lN (aN (I 111) fi se sb x t (dg t)))))) (S, I, J, D, R) b
  | 0, i, hi => by
    obtain ⟨g0, g1, g2, g3, g4, g5, g6⟩ := hG
    obtain ⟨c1, c2, c3, c4, c5, c6⟩ := hC
    have h5 := g5 t ht
    have e : i = dg t := by omega
    subst e
    rw [e79_5]
    simp only [B79_5, xSeq, i_push, i_load, i_iload, i_lload, i_dload, i_aload, i_istore, i_astore, i_lstore, i_dstore, i_iinc, i_ii, i_iiz, i_ll, i_llz, i_lli, i_li, i_i, i_l, i_i2l, i_l2i, i_dup, i_dup2, i_dup2w, i_dupx1, i_pop, i_pop2, i_goto, i_ifc, i_icmp, i_getI, i_getL, i_getR, i_putI, i_putZ, i_putL, i_putR, i_aldI, i_aldB, i_aldL, i_aldD, i_astI, i_astL, i_astD, i_alen, i_ret, i_iret, i_zret, i_lret, i_fret, i_dret, i_aret, i_invS0, i_invV0, i_m2, i_m1, i_ml, i_obj, lk, lkp, stf1, stf2, Value.category, rV, xTo, lv_args, xCk, xCat, xRc, xAk, hg_S, hg_I, hg_J, hg_D, hg_R, hs_I, hs_J, hs_D, hs_R, uI_at, uJ_at, uD_at, uR_at, List.take_succ_cons, List.take_zero, List.drop_succ_cons, List.drop_zero, List.reverse_cons, List.reverse_nil, List.nil_append, List.cons_append, List.map_cons, List.map_nil, List.sum_cons, List.sum_nil, List.length_cons, List.length_nil, Option.toList_some, Option.toList_none, true_and, and_true, false_and, and_false, true_implies, false_implies, implies_true, not_true_eq_false, not_false_eq_true, ne_eq, if_true, if_false, Bool.and_true, Bool.true_and, decide_true, decide_false, reduceIte, reduceCtorEq, Bool.and_self, Bool.and_eq_true, decide_eq_true_eq, and_self, true_or, or_true, false_or, or_false, Nat.zero_add, Nat.add_zero, eq_self, Nat.reduceEqDiff, Nat.reduceLeDiff, Nat.reduceLT, Nat.reduceAdd, Nat.reduceSub, Nat.reduceMul, LC_out hL, nI_inP (show t < 64 by omega) (by decide), nI_ix (show t < 2147483648 by omega), c5 t ht, nI_leP (show dg t < 2147483648 by omega) (show dg t < 2147483648 by omega), Nat.le_refl, e79_78, B79_78]
  | j + 1, i, hi => by
    have hG' := hG
    have hC' := hC
    obtain ⟨g0, g1, g2, g3, g4, g5, g6⟩ := hG'
    obtain ⟨c1, c2, c3, c4, c5, c6⟩ := hC'
    have h5 := g5 t ht
    have hk := g6 t i ht (by omega)
    have ho : (if fi (sb t i) = t then se (sb t i) else fi (sb t i)) < 64 := by
      split
      · exact Nat.lt_of_lt_of_le (g4 _ hk) g1
      · exact Nat.lt_of_lt_of_le (g3 _ hk) g1
    have h := R79_5 hL hG hC hx hJ ht j (i + 1) (by omega)
    have ha : aN (I 111) fi se sb x t i < 2 ^ 64 := Nat.lt_of_lt_of_le (aN_lt hG (I 111) x ht i (by omega)) (Nat.pow_le_pow_right (by decide) g1)
    rw [aN] at h
    obtain ⟨a, hA⟩ : ∃ a, a = aN (I 111) fi se sb x t i := ⟨_, rfl⟩
    rw [← hA] at h ha ⊢
    obtain ⟨o, hO⟩ : ∃ o, o = (if fi (sb t i) = t then se (sb t i) else fi (sb t i)) := ⟨_, rfl⟩
    rw [← hO] at h ho
    rw [e79_5]
    simp only [B79_5, xSeq, i_push, i_load, i_iload, i_lload, i_dload, i_aload, i_istore, i_astore, i_lstore, i_dstore, i_iinc, i_ii, i_iiz, i_ll, i_llz, i_lli, i_li, i_i, i_l, i_i2l, i_l2i, i_dup, i_dup2, i_dup2w, i_dupx1, i_pop, i_pop2, i_goto, i_ifc, i_icmp, i_getI, i_getL, i_getR, i_putI, i_putZ, i_putL, i_putR, i_aldI, i_aldB, i_aldL, i_aldD, i_astI, i_astL, i_astD, i_alen, i_ret, i_iret, i_zret, i_lret, i_fret, i_dret, i_aret, i_invS0, i_invV0, i_m2, i_m1, i_ml, i_obj, lk, lkp, stf1, stf2, Value.category, rV, xTo, lv_args, xCk, xCat, xRc, xAk, hg_S, hg_I, hg_J, hg_D, hg_R, hs_I, hs_J, hs_D, hs_R, uI_at, uJ_at, uD_at, uR_at, List.take_succ_cons, List.take_zero, List.drop_succ_cons, List.drop_zero, List.reverse_cons, List.reverse_nil, List.nil_append, List.cons_append, List.map_cons, List.map_nil, List.sum_cons, List.sum_nil, List.length_cons, List.length_nil, Option.toList_some, Option.toList_none, true_and, and_true, false_and, and_false, true_implies, false_implies, implies_true, not_true_eq_false, not_false_eq_true, ne_eq, if_true, if_false, Bool.and_true, Bool.true_and, decide_true, decide_false, reduceIte, reduceCtorEq, Bool.and_self, Bool.and_eq_true, decide_eq_true_eq, and_self, true_or, or_true, false_or, or_false, Nat.zero_add, Nat.add_zero, eq_self, Nat.reduceEqDiff, Nat.reduceLeDiff, Nat.reduceLT, Nat.reduceAdd, Nat.reduceSub, Nat.reduceMul, LC_out hL, nI_inP (show t < 64 by omega) (by decide), nI_ix (show t < 2147483648 by omega), c5 t ht, nI_leP (show dg t < 2147483648 by omega) (show i < 2147483648 by omega), show (dg t ≤ i) = False from eq_false (by omega), R52 hL hG hC ht (show i < dg t by omega), nI_inP (show sb t i < 128 by omega) (by decide), nI_ix (show sb t i < 2147483648 by omega), e79_72, B79_72, nI_1, hJ, R53 hL hG hC hx hk, R54 hL hG hC ht hk, ← hO, q_1shlL ho, q_or ha (Nat.pow_lt_pow_right (show 1 < 2 by decide) ho)]
    by_cases h0 : I 111 (sb t i) = 0
    · rw [if_neg (fun e => e.1 h0)] at h
      simp only [h0, true_and, and_true, false_and, and_false, true_implies, false_implies, implies_true, not_true_eq_false, not_false_eq_true, ne_eq, if_true, if_false, Bool.and_true, Bool.true_and, decide_true, decide_false, reduceIte, reduceCtorEq, Bool.and_self, Bool.and_eq_true, decide_eq_true_eq, and_self, true_or, or_true, false_or, or_false, Nat.zero_add, Nat.add_zero, eq_self, Nat.reduceEqDiff, Nat.reduceLeDiff, Nat.reduceLT, Nat.reduceAdd, Nat.reduceSub, Nat.reduceMul, h]
    · by_cases hb : x.testBit (fi (sb t i)) = x.testBit (se (sb t i))
      · rw [if_pos ⟨h0, hb⟩] at h
        simp only [h0, hb, true_and, and_true, false_and, and_false, true_implies, false_implies, implies_true, not_true_eq_false, not_false_eq_true, ne_eq, if_true, if_false, Bool.and_true, Bool.true_and, decide_true, decide_false, reduceIte, reduceCtorEq, Bool.and_self, Bool.and_eq_true, decide_eq_true_eq, and_self, true_or, or_true, false_or, or_false, Nat.zero_add, Nat.add_zero, eq_self, Nat.reduceEqDiff, Nat.reduceLeDiff, Nat.reduceLT, Nat.reduceAdd, Nat.reduceSub, Nat.reduceMul, i1_0, h]
      · rw [if_neg (fun e => hb e.2)] at h
        simp only [h0, hb, true_and, and_true, false_and, and_false, true_implies, false_implies, implies_true, not_true_eq_false, not_false_eq_true, ne_eq, if_true, if_false, Bool.and_true, Bool.true_and, decide_true, decide_false, reduceIte, reduceCtorEq, Bool.and_self, Bool.and_eq_true, decide_eq_true_eq, and_self, true_or, or_true, false_or, or_false, Nat.zero_add, Nat.add_zero, eq_self, Nat.reduceEqDiff, Nat.reduceLeDiff, Nat.reduceLT, Nat.reduceAdd, Nat.reduceSub, Nat.reduceMul, h]
theorem R79 (hL : LC S R) (hG : GR n m fi se dg sb) (hC : CL I n m fi se dg sb) {x t : Nat} (hx : x < 2 ^ 64) (hJ : J 110 4 = lN x) (ht : t < n) : xRun xT 79 0 [(0, .ref 110), (1, .int (nI t))] [] (S, I, J, D, R) b Q = Q (.ok (some (.long (lN (aN (I 111) fi se sb x t (dg t)))))) (S, I, J, D, R) b := by
  have h := R79_5 (D := D) (b := b) (Q := Q) hL hG hC hx hJ ht (dg t) 0 (by omega)
  rw [e79_0]
  simp only [B79_0, xSeq, i_push, i_load, i_iload, i_lload, i_dload, i_aload, i_istore, i_astore, i_lstore, i_dstore, i_iinc, i_ii, i_iiz, i_ll, i_llz, i_lli, i_li, i_i, i_l, i_i2l, i_l2i, i_dup, i_dup2, i_dup2w, i_dupx1, i_pop, i_pop2, i_goto, i_ifc, i_icmp, i_getI, i_getL, i_getR, i_putI, i_putZ, i_putL, i_putR, i_aldI, i_aldB, i_aldL, i_aldD, i_astI, i_astL, i_astD, i_alen, i_ret, i_iret, i_zret, i_lret, i_fret, i_dret, i_aret, i_invS0, i_invV0, i_m2, i_m1, i_ml, i_obj, lk, lkp, stf1, stf2, Value.category, rV, xTo, lv_args, xCk, xCat, xRc, xAk, hg_S, hg_I, hg_J, hg_D, hg_R, hs_I, hs_J, hs_D, hs_R, uI_at, uJ_at, uD_at, uR_at, List.take_succ_cons, List.take_zero, List.drop_succ_cons, List.drop_zero, List.reverse_cons, List.reverse_nil, List.nil_append, List.cons_append, List.map_cons, List.map_nil, List.sum_cons, List.sum_nil, List.length_cons, List.length_nil, Option.toList_some, Option.toList_none, true_and, and_true, false_and, and_false, true_implies, false_implies, implies_true, not_true_eq_false, not_false_eq_true, ne_eq, if_true, if_false, Bool.and_true, Bool.true_and, decide_true, decide_false, reduceIte, reduceCtorEq, Bool.and_self, Bool.and_eq_true, decide_eq_true_eq, and_self, true_or, or_true, false_or, or_false, Nat.zero_add, Nat.add_zero, eq_self, Nat.reduceEqDiff, Nat.reduceLeDiff, Nat.reduceLT, Nat.reduceAdd, Nat.reduceSub, Nat.reduceMul]
  exact h
/-- what is reached from sites that wait, in so many turns -/
def dm (nb : Nat → Nat) : Nat → Nat → Nat → Nat
  | 0, d, _ => d
  | f + 1, d, p => if p = 0 then d else dm nb f (d ||| (nb (tzf 64 p) &&& (d ^^^ 18446744073709551615))) ((p &&& (p - 1)) ||| (nb (tzf 64 p) &&& (d ^^^ 18446744073709551615)))
theorem tzf_lt {p n : Nat} (h0 : 0 < p) (hp : p < 2 ^ n) (hn : n ≤ 64) : tzf 64 p < n := by
  obtain ⟨t, q, h1, h2⟩ := tz_ex n p h0 hp
  rw [h2, tz_u t 64 q (by omega)]
  exact h1
theorem dm_lt (nb : Nat → Nat) {n : Nat} (hn : n ≤ 64) (h : ∀ t, t < n → nb t < 2 ^ n) : ∀ (f d p : Nat), d < 2 ^ n → p < 2 ^ n → dm nb f d p < 2 ^ n
  | 0, d, p, hd, hp => hd
  | f + 1, d, p, hd, hp => by
    rw [dm]
    split
    · exact hd
    · next h0 =>
      have hr : nb (tzf 64 p) &&& (d ^^^ 18446744073709551615) < 2 ^ n := Nat.lt_of_le_of_lt Nat.and_le_left (h _ (tzf_lt (by omega) hp hn))
      exact dm_lt nb hn h f _ _ (Nat.or_lt_two_pow hd hr) (Nat.or_lt_two_pow (Nat.lt_of_le_of_lt Nat.and_le_left hp) hr)
theorem R78_10 (hL : LC S R) (hG : GR n m fi se dg sb) (hC : CL I n m fi se dg sb) {x : Nat} (hx : x < 2 ^ 64) (hJ : J 110 4 = lN x) : ∀ (j i d p : Nat), i + j = 64 → d < 2 ^ n → p < 2 ^ n → xRun xT 78 10 [(0, .ref 110), (2, .long (lN d)), (4, .long (lN p)), (6, .int (nI i))] [] (S, I, J, D, R) b Q = Q (.ok (some (.long (lN (dm (fun t => aN (I 111) fi se sb x t (dg t)) j d p))))) (S, I, J, D, R) b
  | 0, i, d, p, hi, hd, hp => by
    have e : i = 64 := by omega
    subst e
    rw [e78_10]
    simp only [B78_10, xSeq, i_push, i_load, i_iload, i_lload, i_dload, i_aload, i_istore, i_astore, i_lstore, i_dstore, i_iinc, i_ii, i_iiz, i_ll, i_llz, i_lli, i_li, i_i, i_l, i_i2l, i_l2i, i_dup, i_dup2, i_dup2w, i_dupx1, i_pop, i_pop2, i_goto, i_ifc, i_icmp, i_getI, i_getL, i_getR, i_putI, i_putZ, i_putL, i_putR, i_aldI, i_aldB, i_aldL, i_aldD, i_astI, i_astL, i_astD, i_alen, i_ret, i_iret, i_zret, i_lret, i_fret, i_dret, i_aret, i_invS0, i_invV0, i_m2, i_m1, i_ml, i_obj, lk, lkp, stf1, stf2, Value.category, rV, xTo, lv_args, xCk, xCat, xRc, xAk, hg_S, hg_I, hg_J, hg_D, hg_R, hs_I, hs_J, hs_D, hs_R, uI_at, uJ_at, uD_at, uR_at, List.take_succ_cons, List.take_zero, List.drop_succ_cons, List.drop_zero, List.reverse_cons, List.reverse_nil, List.nil_append, List.cons_append, List.map_cons, List.map_nil, List.sum_cons, List.sum_nil, List.length_cons, List.length_nil, Option.toList_some, Option.toList_none, true_and, and_true, false_and, and_false, true_implies, false_implies, implies_true, not_true_eq_false, not_false_eq_true, ne_eq, if_true, if_false, Bool.and_true, Bool.true_and, decide_true, decide_false, reduceIte, reduceCtorEq, Bool.and_self, Bool.and_eq_true, decide_eq_true_eq, and_self, true_or, or_true, false_or, or_false, Nat.zero_add, Nat.add_zero, eq_self, Nat.reduceEqDiff, Nat.reduceLeDiff, Nat.reduceLT, Nat.reduceAdd, Nat.reduceSub, Nat.reduceMul, show ((64 : Int32) ≤ nI 64) = True from eq_true (by decide), e78_68, B78_68, dm]
  | j + 1, i, d, p, hi, hd, hp => by
    have hG' := hG
    obtain ⟨g0, g1, g2, g3, g4, g5, g6⟩ := hG'
    have hw : 2 ^ n ≤ 2 ^ 64 := Nat.pow_le_pow_right (by decide) g1
    have e64 : ((64 : Int32) ≤ nI i) = False := by rw [show (64 : Int32) = nI 64 from rfl, nI_leP (by decide) (show i < 2147483648 by omega)]; exact eq_false (by omega)
    rw [dm]
    rw [e78_10]
    by_cases h0 : p = 0
    · have e0 : (lg_cmp (lN p) 0 = 0) = True := by rw [show (0 : Int64) = lN 0 from rfl, lN_cmp (by omega) (by decide)]; exact eq_true h0
      simp only [B78_10, xSeq, i_push, i_load, i_iload, i_lload, i_dload, i_aload, i_istore, i_astore, i_lstore, i_dstore, i_iinc, i_ii, i_iiz, i_ll, i_llz, i_lli, i_li, i_i, i_l, i_i2l, i_l2i, i_dup, i_dup2, i_dup2w, i_dupx1, i_pop, i_pop2, i_goto, i_ifc, i_icmp, i_getI, i_getL, i_getR, i_putI, i_putZ, i_putL, i_putR, i_aldI, i_aldB, i_aldL, i_aldD, i_astI, i_astL, i_astD, i_alen, i_ret, i_iret, i_zret, i_lret, i_fret, i_dret, i_aret, i_invS0, i_invV0, i_m2, i_m1, i_ml, i_obj, lk, lkp, stf1, stf2, Value.category, rV, xTo, lv_args, xCk, xCat, xRc, xAk, hg_S, hg_I, hg_J, hg_D, hg_R, hs_I, hs_J, hs_D, hs_R, uI_at, uJ_at, uD_at, uR_at, List.take_succ_cons, List.take_zero, List.drop_succ_cons, List.drop_zero, List.reverse_cons, List.reverse_nil, List.nil_append, List.cons_append, List.map_cons, List.map_nil, List.sum_cons, List.sum_nil, List.length_cons, List.length_nil, Option.toList_some, Option.toList_none, true_and, and_true, false_and, and_false, true_implies, false_implies, implies_true, not_true_eq_false, not_false_eq_true, ne_eq, if_true, if_false, Bool.and_true, Bool.true_and, decide_true, decide_false, reduceIte, reduceCtorEq, Bool.and_self, Bool.and_eq_true, decide_eq_true_eq, and_self, true_or, or_true, false_or, or_false, Nat.zero_add, Nat.add_zero, eq_self, Nat.reduceEqDiff, Nat.reduceLeDiff, Nat.reduceLT, Nat.reduceAdd, Nat.reduceSub, Nat.reduceMul, e64, e0, e78_68, B78_68]
      rw [if_pos h0]
    · have e0 : (lg_cmp (lN p) 0 = 0) = False := by rw [show (0 : Int64) = lN 0 from rfl, lN_cmp (by omega) (by decide)]; exact eq_false h0
      have ht := tzf_lt (by omega) hp g1
      have hnb := aN_lt hG (I 111) x ht _ (Nat.le_refl _)
      have hY := fun (b : Nat × Nat) (Q : xQ) => Y3 (S := S) (I := I) (J := J) (D := D) (R := R) (b := b) (Q := Q) (x := p) (by omega) (by omega)
      have h79 := fun (b : Nat × Nat) (Q : xQ) => R79 (D := D) (b := b) (Q := Q) hL hG hC hx hJ ht
      rw [if_neg h0]
      obtain ⟨r, hR⟩ : ∃ r, r = aN (I 111) fi se sb x (tzf 64 p) (dg (tzf 64 p)) := ⟨_, rfl⟩
      have hr : r &&& (d ^^^ 18446744073709551615) < 2 ^ n := Nat.lt_of_le_of_lt Nat.and_le_left (by rw [hR]; exact hnb)
      have h := R78_10 hL hG hC hx hJ j (i + 1) (d ||| (r &&& (d ^^^ 18446744073709551615))) ((p &&& (p - 1)) ||| (r &&& (d ^^^ 18446744073709551615))) (by omega) (Nat.or_lt_two_pow hd hr) (Nat.or_lt_two_pow (Nat.lt_of_le_of_lt Nat.and_le_left hp) hr)
      rw [← hR] at hnb h79 ⊢
      obtain ⟨t', hT⟩ : ∃ t', t' = tzf 64 p := ⟨_, rfl⟩
      rw [← hT] at hY h79
      have e1 : lN r &&& (lN d ^^^ -1) = lN (r &&& (d ^^^ 18446744073709551615)) := by
        rw [show (-1 : Int64) = lN 18446744073709551615 from by decide, q_xor, q_and (by omega) (Nat.xor_lt_two_pow (show d < 2 ^ 64 by omega) (by decide))]
      have e2 : lN p &&& (lN p - 1) = lN (p &&& (p - 1)) := by
        rw [show (1 : Int64) = lN 1 from rfl, lN_sub (show 1 ≤ p by omega), q_and (by omega) (by omega)]
      obtain ⟨z, hz⟩ : ∃ z, z = r &&& (d ^^^ 18446744073709551615) := ⟨_, rfl⟩
      rw [← hz] at e1 hr h ⊢
      have hp2 : p &&& (p - 1) < 2 ^ 64 := Nat.lt_of_le_of_lt Nat.and_le_left (by omega)
      obtain ⟨y, hy⟩ : ∃ y, y = p &&& (p - 1) := ⟨_, rfl⟩
      rw [← hy] at e2 hp2 h ⊢
      simp only [B78_10, xSeq, i_push, i_load, i_iload, i_lload, i_dload, i_aload, i_istore, i_astore, i_lstore, i_dstore, i_iinc, i_ii, i_iiz, i_ll, i_llz, i_lli, i_li, i_i, i_l, i_i2l, i_l2i, i_dup, i_dup2, i_dup2w, i_dupx1, i_pop, i_pop2, i_goto, i_ifc, i_icmp, i_getI, i_getL, i_getR, i_putI, i_putZ, i_putL, i_putR, i_aldI, i_aldB, i_aldL, i_aldD, i_astI, i_astL, i_astD, i_alen, i_ret, i_iret, i_zret, i_lret, i_fret, i_dret, i_aret, i_invS0, i_invV0, i_m2, i_m1, i_ml, i_obj, lk, lkp, stf1, stf2, Value.category, rV, xTo, lv_args, xCk, xCat, xRc, xAk, hg_S, hg_I, hg_J, hg_D, hg_R, hs_I, hs_J, hs_D, hs_R, uI_at, uJ_at, uD_at, uR_at, List.take_succ_cons, List.take_zero, List.drop_succ_cons, List.drop_zero, List.reverse_cons, List.reverse_nil, List.nil_append, List.cons_append, List.map_cons, List.map_nil, List.sum_cons, List.sum_nil, List.length_cons, List.length_nil, Option.toList_some, Option.toList_none, true_and, and_true, false_and, and_false, true_implies, false_implies, implies_true, not_true_eq_false, not_false_eq_true, ne_eq, if_true, if_false, Bool.and_true, Bool.true_and, decide_true, decide_false, reduceIte, reduceCtorEq, Bool.and_self, Bool.and_eq_true, decide_eq_true_eq, and_self, true_or, or_true, false_or, or_false, Nat.zero_add, Nat.add_zero, eq_self, Nat.reduceEqDiff, Nat.reduceLeDiff, Nat.reduceLT, Nat.reduceAdd, Nat.reduceSub, Nat.reduceMul, LC_out hL, e64, e0, hY, h79, e1, e2, q_or (show d < 2 ^ 64 by omega) (show z < 2 ^ 64 by omega), q_or hp2 (show z < 2 ^ 64 by omega), nI_1]
      exact h
theorem R78 (hL : LC S R) (hG : GR n m fi se dg sb) (hC : CL I n m fi se dg sb) {x t : Nat} (hx : x < 2 ^ 64) (hJ : J 110 4 = lN x) (ht : t < n) : xRun xT 78 0 [(0, .ref 110), (1, .int (nI t))] [] (S, I, J, D, R) b Q = Q (.ok (some (.long (lN (dm (fun t => aN (I 111) fi se sb x t (dg t)) 64 (2 ^ t) (2 ^ t)))))) (S, I, J, D, R) b := by
  have h2 : 2 ^ t < 2 ^ n := Nat.pow_lt_pow_right (by decide) ht
  have h := R78_10 (D := D) (b := b) (Q := Q) hL hG hC hx hJ 64 0 (2 ^ t) (2 ^ t) (by omega) h2 h2
  have g1 := hG.2.1
  rw [e78_0]
  simp only [B78_0, xSeq, i_push, i_load, i_iload, i_lload, i_dload, i_aload, i_istore, i_astore, i_lstore, i_dstore, i_iinc, i_ii, i_iiz, i_ll, i_llz, i_lli, i_li, i_i, i_l, i_i2l, i_l2i, i_dup, i_dup2, i_dup2w, i_dupx1, i_pop, i_pop2, i_goto, i_ifc, i_icmp, i_getI, i_getL, i_getR, i_putI, i_putZ, i_putL, i_putR, i_aldI, i_aldB, i_aldL, i_aldD, i_astI, i_astL, i_astD, i_alen, i_ret, i_iret, i_zret, i_lret, i_fret, i_dret, i_aret, i_invS0, i_invV0, i_m2, i_m1, i_ml, i_obj, lk, lkp, stf1, stf2, Value.category, rV, xTo, lv_args, xCk, xCat, xRc, xAk, hg_S, hg_I, hg_J, hg_D, hg_R, hs_I, hs_J, hs_D, hs_R, uI_at, uJ_at, uD_at, uR_at, List.take_succ_cons, List.take_zero, List.drop_succ_cons, List.drop_zero, List.reverse_cons, List.reverse_nil, List.nil_append, List.cons_append, List.map_cons, List.map_nil, List.sum_cons, List.sum_nil, List.length_cons, List.length_nil, Option.toList_some, Option.toList_none, true_and, and_true, false_and, and_false, true_implies, false_implies, implies_true, not_true_eq_false, not_false_eq_true, ne_eq, if_true, if_false, Bool.and_true, Bool.true_and, decide_true, decide_false, reduceIte, reduceCtorEq, Bool.and_self, Bool.and_eq_true, decide_eq_true_eq, and_self, true_or, or_true, false_or, or_false, Nat.zero_add, Nat.add_zero, eq_self, Nat.reduceEqDiff, Nat.reduceLeDiff, Nat.reduceLT, Nat.reduceAdd, Nat.reduceSub, Nat.reduceMul, q_1shlL (show t < 64 by omega)]
  exact h
/-- sites that no domain before holds, and what the domains hold -/
def dC (dom : Nat → Nat) : Nat → Nat × Nat × Nat
  | 0 => (0, 0, 0)
  | i + 1 => if (dC dom i).1.testBit i = true then dC dom i else ((dC dom i).1 ||| dom i, (dC dom i).2.1 + 1, max (dC dom i).2.2 (pop 64 (dom i)))
theorem dC_le (dom : Nat → Nat) : ∀ i, (dC dom i).2.1 ≤ i ∧ (dC dom i).2.2 ≤ 64
  | 0 => ⟨Nat.le_refl _, Nat.zero_le _⟩
  | i + 1 => by
    have h := dC_le dom i
    have h2 := pop_le 64 (dom i)
    rw [dC]
    split
    · exact ⟨by omega, h.2⟩
    · exact ⟨by show _ + 1 ≤ _; omega, Nat.max_le.mpr ⟨h.2, h2⟩⟩
theorem dC_lt (dom : Nat → Nat) {n : Nat} (h : ∀ t, t < n → dom t < 2 ^ n) : ∀ i, i ≤ n → (dC dom i).1 < 2 ^ n
  | 0, _ => Nat.two_pow_pos n
  | i + 1, hi => by
    have h2 := dC_lt dom h i (by omega)
    rw [dC]
    split
    · exact h2
    · exact Nat.or_lt_two_pow h2 (h i (by omega))
/-- the domain of a site -/
def dX (st : Nat → Int32) (fi se dg : Nat → Nat) (sb : Nat → Nat → Nat) (x t : Nat) : Nat := dm (fun t => aN st fi se sb x t (dg t)) 64 (2 ^ t) (2 ^ t)
theorem dX_lt (hG : GR n m fi se dg sb) (st : Nat → Int32) (x : Nat) {t : Nat} (ht : t < n) : dX st fi se dg sb x t < 2 ^ n := dm_lt _ hG.2.1 (fun t ht => aN_lt hG st x ht _ (Nat.le_refl _)) 64 _ _ (Nat.pow_lt_pow_right (by decide) ht) (Nat.pow_lt_pow_right (by decide) ht)
theorem R133_7 (hL : LC S R) (hG : GR n m fi se dg sb) (hC : CL I n m fi se dg sb) {x : Nat} (hx : x < 2 ^ 64) (hJ : J 110 4 = lN x) : ∀ (j i : Nat), i + j = n → xRun xT 133 7 [(0, .ref 100), (1, .long (lN (dC (dX (I 111) fi se dg sb x) i).1)), (3, .int (nI (dC (dX (I 111) fi se dg sb x) i).2.1)), (4, .int (nI i))] [] (S, I, J, D, R) b Q = Q (.ok (some (.int (nI (dC (dX (I 111) fi se dg sb x) n).2.1)))) (S, I, J, D, R) b
  | 0, i, hi => by
    have g1 := hG.2.1
    have e : i = n := by omega
    subst e
    rw [e133_7]
    simp only [B133_7, xSeq, i_push, i_load, i_iload, i_lload, i_dload, i_aload, i_istore, i_astore, i_lstore, i_dstore, i_iinc, i_ii, i_iiz, i_ll, i_llz, i_lli, i_li, i_i, i_l, i_i2l, i_l2i, i_dup, i_dup2, i_dup2w, i_dupx1, i_pop, i_pop2, i_goto, i_ifc, i_icmp, i_getI, i_getL, i_getR, i_putI, i_putZ, i_putL, i_putR, i_aldI, i_aldB, i_aldL, i_aldD, i_astI, i_astL, i_astD, i_alen, i_ret, i_iret, i_zret, i_lret, i_fret, i_dret, i_aret, i_invS0, i_invV0, i_m2, i_m1, i_ml, i_obj, lk, lkp, stf1, stf2, Value.category, rV, xTo, lv_args, xCk, xCat, xRc, xAk, hg_S, hg_I, hg_J, hg_D, hg_R, hs_I, hs_J, hs_D, hs_R, uI_at, uJ_at, uD_at, uR_at, List.take_succ_cons, List.take_zero, List.drop_succ_cons, List.drop_zero, List.reverse_cons, List.reverse_nil, List.nil_append, List.cons_append, List.map_cons, List.map_nil, List.sum_cons, List.sum_nil, List.length_cons, List.length_nil, Option.toList_some, Option.toList_none, true_and, and_true, false_and, and_false, true_implies, false_implies, implies_true, not_true_eq_false, not_false_eq_true, ne_eq, if_true, if_false, Bool.and_true, Bool.true_and, decide_true, decide_false, reduceIte, reduceCtorEq, Bool.and_self, Bool.and_eq_true, decide_eq_true_eq, and_self, true_or, or_true, false_or, or_false, Nat.zero_add, Nat.add_zero, eq_self, Nat.reduceEqDiff, Nat.reduceLeDiff, Nat.reduceLT, Nat.reduceAdd, Nat.reduceSub, Nat.reduceMul, LC_out hL, hC.1, nI_leP (show i < 2147483648 by omega) (show i < 2147483648 by omega), Nat.le_refl, e133_51, B133_51]
  | j + 1, i, hi => by
    have g1 := hG.2.1
    have hw : 2 ^ n ≤ 2 ^ 64 := Nat.pow_le_pow_right (by decide) g1
    have h := R133_7 hL hG hC hx hJ j (i + 1) (by omega)
    have hd := dX_lt hG (I 111) x (show i < n by omega)
    have h78 := fun (b : Nat × Nat) (Q : xQ) => R78 (D := D) (b := b) (Q := Q) hL hG hC hx hJ (show i < n by omega)
    have e : dm (fun t => aN (I 111) fi se sb x t (dg t)) 64 (2 ^ i) (2 ^ i) = dX (I 111) fi se dg sb x i := rfl
    rw [e] at h78
    have h1 := dC_lt (dX (I 111) fi se dg sb x) (fun t ht => dX_lt hG (I 111) x ht) i (by omega)
    rw [dC] at h
    obtain ⟨z, hz⟩ : ∃ z, z = dC (dX (I 111) fi se dg sb x) i := ⟨_, rfl⟩
    rw [← hz] at h h1 ⊢
    obtain ⟨d, hD⟩ : ∃ d, d = dX (I 111) fi se dg sb x i := ⟨_, rfl⟩
    rw [← hD] at h hd h78
    rw [e133_7]
    simp only [B133_7, xSeq, i_push, i_load, i_iload, i_lload, i_dload, i_aload, i_istore, i_astore, i_lstore, i_dstore, i_iinc, i_ii, i_iiz, i_ll, i_llz, i_lli, i_li, i_i, i_l, i_i2l, i_l2i, i_dup, i_dup2, i_dup2w, i_dupx1, i_pop, i_pop2, i_goto, i_ifc, i_icmp, i_getI, i_getL, i_getR, i_putI, i_putZ, i_putL, i_putR, i_aldI, i_aldB, i_aldL, i_aldD, i_astI, i_astL, i_astD, i_alen, i_ret, i_iret, i_zret, i_lret, i_fret, i_dret, i_aret, i_invS0, i_invV0, i_m2, i_m1, i_ml, i_obj, lk, lkp, stf1, stf2, Value.category, rV, xTo, lv_args, xCk, xCat, xRc, xAk, hg_S, hg_I, hg_J, hg_D, hg_R, hs_I, hs_J, hs_D, hs_R, uI_at, uJ_at, uD_at, uR_at, List.take_succ_cons, List.take_zero, List.drop_succ_cons, List.drop_zero, List.reverse_cons, List.reverse_nil, List.nil_append, List.cons_append, List.map_cons, List.map_nil, List.sum_cons, List.sum_nil, List.length_cons, List.length_nil, Option.toList_some, Option.toList_none, true_and, and_true, false_and, and_false, true_implies, false_implies, implies_true, not_true_eq_false, not_false_eq_true, ne_eq, if_true, if_false, Bool.and_true, Bool.true_and, decide_true, decide_false, reduceIte, reduceCtorEq, Bool.and_self, Bool.and_eq_true, decide_eq_true_eq, and_self, true_or, or_true, false_or, or_false, Nat.zero_add, Nat.add_zero, eq_self, Nat.reduceEqDiff, Nat.reduceLeDiff, Nat.reduceLT, Nat.reduceAdd, Nat.reduceSub, Nat.reduceMul, LC_out hL, hC.1, nI_leP (show n < 2147483648 by omega) (show i < 2147483648 by omega), show (n ≤ i) = False from eq_false (by omega), q_bit (show z.1 < 2 ^ 64 by omega) (show i < 64 by omega), q_cmp0, ne_eq, h78, q_or (show z.1 < 2 ^ 64 by omega) (show d < 2 ^ 64 by omega), e133_45, B133_45, nI_1]
    by_cases hb : z.1.testBit i = true
    · rw [if_pos hb] at h
      simp only [hb, true_and, and_true, false_and, and_false, true_implies, false_implies, implies_true, not_true_eq_false, not_false_eq_true, ne_eq, if_true, if_false, Bool.and_true, Bool.true_and, decide_true, decide_false, reduceIte, reduceCtorEq, Bool.and_self, Bool.and_eq_true, decide_eq_true_eq, and_self, true_or, or_true, false_or, or_false, Nat.zero_add, Nat.add_zero, eq_self, Nat.reduceEqDiff, Nat.reduceLeDiff, Nat.reduceLT, Nat.reduceAdd, Nat.reduceSub, Nat.reduceMul, h]
    · rw [if_neg hb] at h
      simp only [hb, true_and, and_true, false_and, and_false, true_implies, false_implies, implies_true, not_true_eq_false, not_false_eq_true, ne_eq, if_true, if_false, Bool.and_true, Bool.true_and, decide_true, decide_false, reduceIte, reduceCtorEq, Bool.and_self, Bool.and_eq_true, decide_eq_true_eq, and_self, true_or, or_true, false_or, or_false, Nat.zero_add, Nat.add_zero, eq_self, Nat.reduceEqDiff, Nat.reduceLeDiff, Nat.reduceLT, Nat.reduceAdd, Nat.reduceSub, Nat.reduceMul, h]
theorem R133 (hL : LC S R) (hG : GR n m fi se dg sb) (hC : CL I n m fi se dg sb) {x : Nat} (hx : x < 2 ^ 64) (hJ : J 110 4 = lN x) : xRun xT 133 0 [(0, .ref 100)] [] (S, I, J, D, R) b Q = Q (.ok (some (.int (nI (dC (dX (I 111) fi se dg sb x) n).2.1)))) (S, I, J, D, R) b := by
  have h := R133_7 (D := D) (b := b) (Q := Q) hL hG hC hx hJ n 0 (by omega)
  rw [e133_0]
  simp only [B133_0, xSeq, i_push, i_load, i_iload, i_lload, i_dload, i_aload, i_istore, i_astore, i_lstore, i_dstore, i_iinc, i_ii, i_iiz, i_ll, i_llz, i_lli, i_li, i_i, i_l, i_i2l, i_l2i, i_dup, i_dup2, i_dup2w, i_dupx1, i_pop, i_pop2, i_goto, i_ifc, i_icmp, i_getI, i_getL, i_getR, i_putI, i_putZ, i_putL, i_putR, i_aldI, i_aldB, i_aldL, i_aldD, i_astI, i_astL, i_astD, i_alen, i_ret, i_iret, i_zret, i_lret, i_fret, i_dret, i_aret, i_invS0, i_invV0, i_m2, i_m1, i_ml, i_obj, lk, lkp, stf1, stf2, Value.category, rV, xTo, lv_args, xCk, xCat, xRc, xAk, hg_S, hg_I, hg_J, hg_D, hg_R, hs_I, hs_J, hs_D, hs_R, uI_at, uJ_at, uD_at, uR_at, List.take_succ_cons, List.take_zero, List.drop_succ_cons, List.drop_zero, List.reverse_cons, List.reverse_nil, List.nil_append, List.cons_append, List.map_cons, List.map_nil, List.sum_cons, List.sum_nil, List.length_cons, List.length_nil, Option.toList_some, Option.toList_none, true_and, and_true, false_and, and_false, true_implies, false_implies, implies_true, not_true_eq_false, not_false_eq_true, ne_eq, if_true, if_false, Bool.and_true, Bool.true_and, decide_true, decide_false, reduceIte, reduceCtorEq, Bool.and_self, Bool.and_eq_true, decide_eq_true_eq, and_self, true_or, or_true, false_or, or_false, Nat.zero_add, Nat.add_zero, eq_self, Nat.reduceEqDiff, Nat.reduceLeDiff, Nat.reduceLT, Nat.reduceAdd, Nat.reduceSub, Nat.reduceMul]
  exact h
theorem R134_7 (hL : LC S R) (hG : GR n m fi se dg sb) (hC : CL I n m fi se dg sb) {x : Nat} (hx : x < 2 ^ 64) (hJ : J 110 4 = lN x) : ∀ (j i : Nat), i + j = n → xRun xT 134 7 [(0, .ref 100), (1, .long (lN (dC (dX (I 111) fi se dg sb x) i).1)), (3, .int (nI (dC (dX (I 111) fi se dg sb x) i).2.2)), (4, .int (nI i))] [] (S, I, J, D, R) b Q = Q (.ok (some (.int (nI (dC (dX (I 111) fi se dg sb x) n).2.2)))) (S, I, J, D, R) b
  | 0, i, hi => by
    have g1 := hG.2.1
    have e : i = n := by omega
    subst e
    rw [e134_7]
    simp only [B134_7, xSeq, i_push, i_load, i_iload, i_lload, i_dload, i_aload, i_istore, i_astore, i_lstore, i_dstore, i_iinc, i_ii, i_iiz, i_ll, i_llz, i_lli, i_li, i_i, i_l, i_i2l, i_l2i, i_dup, i_dup2, i_dup2w, i_dupx1, i_pop, i_pop2, i_goto, i_ifc, i_icmp, i_getI, i_getL, i_getR, i_putI, i_putZ, i_putL, i_putR, i_aldI, i_aldB, i_aldL, i_aldD, i_astI, i_astL, i_astD, i_alen, i_ret, i_iret, i_zret, i_lret, i_fret, i_dret, i_aret, i_invS0, i_invV0, i_m2, i_m1, i_ml, i_obj, lk, lkp, stf1, stf2, Value.category, rV, xTo, lv_args, xCk, xCat, xRc, xAk, hg_S, hg_I, hg_J, hg_D, hg_R, hs_I, hs_J, hs_D, hs_R, uI_at, uJ_at, uD_at, uR_at, List.take_succ_cons, List.take_zero, List.drop_succ_cons, List.drop_zero, List.reverse_cons, List.reverse_nil, List.nil_append, List.cons_append, List.map_cons, List.map_nil, List.sum_cons, List.sum_nil, List.length_cons, List.length_nil, Option.toList_some, Option.toList_none, true_and, and_true, false_and, and_false, true_implies, false_implies, implies_true, not_true_eq_false, not_false_eq_true, ne_eq, if_true, if_false, Bool.and_true, Bool.true_and, decide_true, decide_false, reduceIte, reduceCtorEq, Bool.and_self, Bool.and_eq_true, decide_eq_true_eq, and_self, true_or, or_true, false_or, or_false, Nat.zero_add, Nat.add_zero, eq_self, Nat.reduceEqDiff, Nat.reduceLeDiff, Nat.reduceLT, Nat.reduceAdd, Nat.reduceSub, Nat.reduceMul, LC_out hL, hC.1, nI_leP (show i < 2147483648 by omega) (show i < 2147483648 by omega), Nat.le_refl, e134_62, B134_62]
  | j + 1, i, hi => by
    have g1 := hG.2.1
    have hw : 2 ^ n ≤ 2 ^ 64 := Nat.pow_le_pow_right (by decide) g1
    have h := R134_7 hL hG hC hx hJ j (i + 1) (by omega)
    have hd := dX_lt hG (I 111) x (show i < n by omega)
    have h78 := fun (b : Nat × Nat) (Q : xQ) => R78 (D := D) (b := b) (Q := Q) hL hG hC hx hJ (show i < n by omega)
    have e : dm (fun t => aN (I 111) fi se sb x t (dg t)) 64 (2 ^ i) (2 ^ i) = dX (I 111) fi se dg sb x i := rfl
    rw [e] at h78
    have h1 := dC_lt (dX (I 111) fi se dg sb x) (fun t ht => dX_lt hG (I 111) x ht) i (by omega)
    have h3 := (dC_le (dX (I 111) fi se dg sb x) i).2
    rw [dC] at h
    obtain ⟨z, hz⟩ : ∃ z, z = dC (dX (I 111) fi se dg sb x) i := ⟨_, rfl⟩
    rw [← hz] at h h1 h3 ⊢
    obtain ⟨d, hD⟩ : ∃ d, d = dX (I 111) fi se dg sb x i := ⟨_, rfl⟩
    rw [← hD] at h hd h78
    have hp := pop_le 64 d
    have hY := fun (b : Nat × Nat) (Q : xQ) => Y2 (S := S) (I := I) (J := J) (D := D) (R := R) (b := b) (Q := Q) (x := d) (by omega)
    rw [e134_7]
    simp only [B134_7, xSeq, i_push, i_load, i_iload, i_lload, i_dload, i_aload, i_istore, i_astore, i_lstore, i_dstore, i_iinc, i_ii, i_iiz, i_ll, i_llz, i_lli, i_li, i_i, i_l, i_i2l, i_l2i, i_dup, i_dup2, i_dup2w, i_dupx1, i_pop, i_pop2, i_goto, i_ifc, i_icmp, i_getI, i_getL, i_getR, i_putI, i_putZ, i_putL, i_putR, i_aldI, i_aldB, i_aldL, i_aldD, i_astI, i_astL, i_astD, i_alen, i_ret, i_iret, i_zret, i_lret, i_fret, i_dret, i_aret, i_invS0, i_invV0, i_m2, i_m1, i_ml, i_obj, lk, lkp, stf1, stf2, Value.category, rV, xTo, lv_args, xCk, xCat, xRc, xAk, hg_S, hg_I, hg_J, hg_D, hg_R, hs_I, hs_J, hs_D, hs_R, uI_at, uJ_at, uD_at, uR_at, List.take_succ_cons, List.take_zero, List.drop_succ_cons, List.drop_zero, List.reverse_cons, List.reverse_nil, List.nil_append, List.cons_append, List.map_cons, List.map_nil, List.sum_cons, List.sum_nil, List.length_cons, List.length_nil, Option.toList_some, Option.toList_none, true_and, and_true, false_and, and_false, true_implies, false_implies, implies_true, not_true_eq_false, not_false_eq_true, ne_eq, if_true, if_false, Bool.and_true, Bool.true_and, decide_true, decide_false, reduceIte, reduceCtorEq, Bool.and_self, Bool.and_eq_true, decide_eq_true_eq, and_self, true_or, or_true, false_or, or_false, Nat.zero_add, Nat.add_zero, eq_self, Nat.reduceEqDiff, Nat.reduceLeDiff, Nat.reduceLT, Nat.reduceAdd, Nat.reduceSub, Nat.reduceMul, LC_out hL, hC.1, nI_leP (show n < 2147483648 by omega) (show i < 2147483648 by omega), show (n ≤ i) = False from eq_false (by omega), q_bit (show z.1 < 2 ^ 64 by omega) (show i < 64 by omega), q_cmp0, ne_eq, h78, q_or (show z.1 < 2 ^ 64 by omega) (show d < 2 ^ 64 by omega), hY, jMax_nI (show z.2.2 < 2147483648 by omega) (show pop 64 d < 2147483648 by omega), e134_56, B134_56, nI_1]
    by_cases hb : z.1.testBit i = true
    · rw [if_pos hb] at h
      simp only [hb, true_and, and_true, false_and, and_false, true_implies, false_implies, implies_true, not_true_eq_false, not_false_eq_true, ne_eq, if_true, if_false, Bool.and_true, Bool.true_and, decide_true, decide_false, reduceIte, reduceCtorEq, Bool.and_self, Bool.and_eq_true, decide_eq_true_eq, and_self, true_or, or_true, false_or, or_false, Nat.zero_add, Nat.add_zero, eq_self, Nat.reduceEqDiff, Nat.reduceLeDiff, Nat.reduceLT, Nat.reduceAdd, Nat.reduceSub, Nat.reduceMul, h]
    · rw [if_neg hb] at h
      simp only [hb, true_and, and_true, false_and, and_false, true_implies, false_implies, implies_true, not_true_eq_false, not_false_eq_true, ne_eq, if_true, if_false, Bool.and_true, Bool.true_and, decide_true, decide_false, reduceIte, reduceCtorEq, Bool.and_self, Bool.and_eq_true, decide_eq_true_eq, and_self, true_or, or_true, false_or, or_false, Nat.zero_add, Nat.add_zero, eq_self, Nat.reduceEqDiff, Nat.reduceLeDiff, Nat.reduceLT, Nat.reduceAdd, Nat.reduceSub, Nat.reduceMul, h]
theorem R134 (hL : LC S R) (hG : GR n m fi se dg sb) (hC : CL I n m fi se dg sb) {x : Nat} (hx : x < 2 ^ 64) (hJ : J 110 4 = lN x) : xRun xT 134 0 [(0, .ref 100)] [] (S, I, J, D, R) b Q = Q (.ok (some (.int (nI (dC (dX (I 111) fi se dg sb x) n).2.2)))) (S, I, J, D, R) b := by
  have h := R134_7 (D := D) (b := b) (Q := Q) hL hG hC hx hJ n 0 (by omega)
  rw [e134_0]
  simp only [B134_0, xSeq, i_push, i_load, i_iload, i_lload, i_dload, i_aload, i_istore, i_astore, i_lstore, i_dstore, i_iinc, i_ii, i_iiz, i_ll, i_llz, i_lli, i_li, i_i, i_l, i_i2l, i_l2i, i_dup, i_dup2, i_dup2w, i_dupx1, i_pop, i_pop2, i_goto, i_ifc, i_icmp, i_getI, i_getL, i_getR, i_putI, i_putZ, i_putL, i_putR, i_aldI, i_aldB, i_aldL, i_aldD, i_astI, i_astL, i_astD, i_alen, i_ret, i_iret, i_zret, i_lret, i_fret, i_dret, i_aret, i_invS0, i_invV0, i_m2, i_m1, i_ml, i_obj, lk, lkp, stf1, stf2, Value.category, rV, xTo, lv_args, xCk, xCat, xRc, xAk, hg_S, hg_I, hg_J, hg_D, hg_R, hs_I, hs_J, hs_D, hs_R, uI_at, uJ_at, uD_at, uR_at, List.take_succ_cons, List.take_zero, List.drop_succ_cons, List.drop_zero, List.reverse_cons, List.reverse_nil, List.nil_append, List.cons_append, List.map_cons, List.map_nil, List.sum_cons, List.sum_nil, List.length_cons, List.length_nil, Option.toList_some, Option.toList_none, true_and, and_true, false_and, and_false, true_implies, false_implies, implies_true, not_true_eq_false, not_false_eq_true, ne_eq, if_true, if_false, Bool.and_true, Bool.true_and, decide_true, decide_false, reduceIte, reduceCtorEq, Bool.and_self, Bool.and_eq_true, decide_eq_true_eq, and_self, true_or, or_true, false_or, or_false, Nat.zero_add, Nat.add_zero, eq_self, Nat.reduceEqDiff, Nat.reduceLeDiff, Nat.reduceLT, Nat.reduceAdd, Nat.reduceSub, Nat.reduceMul]
  exact h
end
/-! ===== groups of the model ===== -/
section
/-- the row of groups, all else as before -/
def GO (I0 : xI) (g : Nat → Nat) (n : Nat) (I : xI) : Prop := (∀ k, k < n → I 341 k = nI (g k)) ∧ ∀ o k, o ≠ 341 → I o k = I0 o k
/-- the group with the higher number takes the lower -/
def jn (g : Nat → Nat) (s o k : Nat) : Nat := if g k = max (g s) (g o) then min (g s) (g o) else g k
variable {S : xS} {I : xI} {J : xJ} {D : xDb} {R : xR} {b : Nat × Nat} {Q : xQ} {n m : Nat} {fi se dg : Nat → Nat} {sb : Nat → Nat → Nat}
theorem L282_2 {I0 : xI} (hL : LM S R) (h10 : I0 300 10 = nI n) (hn : n ≤ 64) (kk : ∀ I, GO I0 (fun k => k) n I → Q (.ok none) (S, I, J, D, R) b) : ∀ (j i : Nat) (I : xI), i + j = n → GO I0 (fun k => k) i I → xRun xT 282 2 [(0, .ref 200), (1, .int (nI i))] [] (S, I, J, D, R) b Q
  | 0, i, I, hi, h => by
    have e : i = n := by omega
    subst e
    rw [e282_2]
    simp only [B282_2, xSeq, i_push, i_load, i_iload, i_lload, i_dload, i_aload, i_istore, i_astore, i_lstore, i_dstore, i_iinc, i_ii, i_iiz, i_ll, i_llz, i_lli, i_li, i_i, i_l, i_i2l, i_l2i, i_dup, i_dup2, i_dup2w, i_dupx1, i_pop, i_pop2, i_goto, i_ifc, i_icmp, i_getI, i_getL, i_getR, i_putI, i_putZ, i_putL, i_putR, i_aldI, i_aldB, i_aldL, i_aldD, i_astI, i_astL, i_astD, i_alen, i_ret, i_iret, i_zret, i_lret, i_fret, i_dret, i_aret, i_invS0, i_invV0, i_m2, i_m1, i_ml, i_obj, lk, lkp, stf1, stf2, Value.category, rV, xTo, lv_args, xCk, xCat, xRc, xAk, hg_S, hg_I, hg_J, hg_D, hg_R, hs_I, hs_J, hs_D, hs_R, uI_at, uJ_at, uD_at, uR_at, List.take_succ_cons, List.take_zero, List.drop_succ_cons, List.drop_zero, List.reverse_cons, List.reverse_nil, List.nil_append, List.cons_append, List.map_cons, List.map_nil, List.sum_cons, List.sum_nil, List.length_cons, List.length_nil, Option.toList_some, Option.toList_none, true_and, and_true, false_and, and_false, true_implies, false_implies, implies_true, not_true_eq_false, not_false_eq_true, ne_eq, if_true, if_false, Bool.and_true, Bool.true_and, decide_true, decide_false, reduceIte, reduceCtorEq, Bool.and_self, Bool.and_eq_true, decide_eq_true_eq, and_self, true_or, or_true, false_or, or_false, Nat.zero_add, Nat.add_zero, eq_self, Nat.reduceEqDiff, Nat.reduceLeDiff, Nat.reduceLT, Nat.reduceAdd, Nat.reduceSub, Nat.reduceMul, xi144_0, ix_0, xi144_1, ix_1, xi144_2, ix_2, xi144_3, ix_3, xi144_4, ix_4, xi144_5, ix_5, xi144_6, ix_6, xi144_7, ix_7, xi144_8, ix_8, xi144_9, ix_9, xi144_10, ix_10, LM_out hL, (h.2 _ _ (by decide)).trans h10, nI_leP (show i < 2147483648 by omega) (show i < 2147483648 by omega), Nat.le_refl, e282_26, B282_26]
    exact kk I h
  | j + 1, i, I, hi, h => by
    rw [e282_2]
    simp only [B282_2, xSeq, i_push, i_load, i_iload, i_lload, i_dload, i_aload, i_istore, i_astore, i_lstore, i_dstore, i_iinc, i_ii, i_iiz, i_ll, i_llz, i_lli, i_li, i_i, i_l, i_i2l, i_l2i, i_dup, i_dup2, i_dup2w, i_dupx1, i_pop, i_pop2, i_goto, i_ifc, i_icmp, i_getI, i_getL, i_getR, i_putI, i_putZ, i_putL, i_putR, i_aldI, i_aldB, i_aldL, i_aldD, i_astI, i_astL, i_astD, i_alen, i_ret, i_iret, i_zret, i_lret, i_fret, i_dret, i_aret, i_invS0, i_invV0, i_m2, i_m1, i_ml, i_obj, lk, lkp, stf1, stf2, Value.category, rV, xTo, lv_args, xCk, xCat, xRc, xAk, hg_S, hg_I, hg_J, hg_D, hg_R, hs_I, hs_J, hs_D, hs_R, uI_at, uJ_at, uD_at, uR_at, List.take_succ_cons, List.take_zero, List.drop_succ_cons, List.drop_zero, List.reverse_cons, List.reverse_nil, List.nil_append, List.cons_append, List.map_cons, List.map_nil, List.sum_cons, List.sum_nil, List.length_cons, List.length_nil, Option.toList_some, Option.toList_none, true_and, and_true, false_and, and_false, true_implies, false_implies, implies_true, not_true_eq_false, not_false_eq_true, ne_eq, if_true, if_false, Bool.and_true, Bool.true_and, decide_true, decide_false, reduceIte, reduceCtorEq, Bool.and_self, Bool.and_eq_true, decide_eq_true_eq, and_self, true_or, or_true, false_or, or_false, Nat.zero_add, Nat.add_zero, eq_self, Nat.reduceEqDiff, Nat.reduceLeDiff, Nat.reduceLT, Nat.reduceAdd, Nat.reduceSub, Nat.reduceMul, xi144_0, ix_0, xi144_1, ix_1, xi144_2, ix_2, xi144_3, ix_3, xi144_4, ix_4, xi144_5, ix_5, xi144_6, ix_6, xi144_7, ix_7, xi144_8, ix_8, xi144_9, ix_9, xi144_10, ix_10, LM_out hL, (h.2 _ _ (by decide)).trans h10, nI_leP (show n < 2147483648 by omega) (show i < 2147483648 by omega), show (n ≤ i) = False from eq_false (by omega), nI_inP (show i < 64 by omega) (by decide), nI_ix (show i < 2147483648 by omega), nI_1]
    refine L282_2 hL h10 hn kk j (i + 1) _ (by omega) ⟨fun k hk => ?_, fun o k ho => ?_⟩
    · rw [uI_at]
      by_cases e : k = i
      · rw [if_pos ⟨rfl, e⟩, e]
      · rw [if_neg (fun h => e h.2)]
        exact h.1 k (by omega)
    · rw [uI_at, if_neg (fun e => ho e.1)]
      exact h.2 o k ho
theorem L282 {I0 : xI} (hL : LM S R) (h10 : I0 300 10 = nI n) (hn : n ≤ 64) (kk : ∀ I, GO I0 (fun k => k) n I → Q (.ok none) (S, I, J, D, R) b) : xRun xT 282 0 [(0, .ref 200)] [] (S, I0, J, D, R) b Q := by
  rw [e282_0]
  simp only [B282_0, xSeq, i_push, i_load, i_iload, i_lload, i_dload, i_aload, i_istore, i_astore, i_lstore, i_dstore, i_iinc, i_ii, i_iiz, i_ll, i_llz, i_lli, i_li, i_i, i_l, i_i2l, i_l2i, i_dup, i_dup2, i_dup2w, i_dupx1, i_pop, i_pop2, i_goto, i_ifc, i_icmp, i_getI, i_getL, i_getR, i_putI, i_putZ, i_putL, i_putR, i_aldI, i_aldB, i_aldL, i_aldD, i_astI, i_astL, i_astD, i_alen, i_ret, i_iret, i_zret, i_lret, i_fret, i_dret, i_aret, i_invS0, i_invV0, i_m2, i_m1, i_ml, i_obj, lk, lkp, stf1, stf2, Value.category, rV, xTo, lv_args, xCk, xCat, xRc, xAk, hg_S, hg_I, hg_J, hg_D, hg_R, hs_I, hs_J, hs_D, hs_R, uI_at, uJ_at, uD_at, uR_at, List.take_succ_cons, List.take_zero, List.drop_succ_cons, List.drop_zero, List.reverse_cons, List.reverse_nil, List.nil_append, List.cons_append, List.map_cons, List.map_nil, List.sum_cons, List.sum_nil, List.length_cons, List.length_nil, Option.toList_some, Option.toList_none, true_and, and_true, false_and, and_false, true_implies, false_implies, implies_true, not_true_eq_false, not_false_eq_true, ne_eq, if_true, if_false, Bool.and_true, Bool.true_and, decide_true, decide_false, reduceIte, reduceCtorEq, Bool.and_self, Bool.and_eq_true, decide_eq_true_eq, and_self, true_or, or_true, false_or, or_false, Nat.zero_add, Nat.add_zero, eq_self, Nat.reduceEqDiff, Nat.reduceLeDiff, Nat.reduceLT, Nat.reduceAdd, Nat.reduceSub, Nat.reduceMul]
  exact L282_2 hL h10 hn kk n 0 I0 (by omega) ⟨fun k hk => absurd hk (by omega), fun _ _ _ => rfl⟩
theorem L283_36 {I0 : xI} {g : Nat → Nat} {hi lo : Nat} (hL : LM S R) (h10 : I0 300 10 = nI n) (hn : n ≤ 64) (hg : ∀ k, k < n → g k < 64) (hh : hi < 64) (hl : lo < 64) (kk : ∀ I, GO I0 (fun k => if g k = hi then lo else g k) n I → Q (.ok none) (S, I, J, D, R) b) : ∀ (j i : Nat) (I : xI), i + j = n → ((∀ k, k < n → I 341 k = nI (if k < i ∧ g k = hi then lo else g k)) ∧ ∀ o k, o ≠ 341 → I o k = I0 o k) → xRun xT 283 36 [(0, .ref 200), (3, .int (nI lo)), (4, .int (nI hi)), (5, .int (nI i))] [] (S, I, J, D, R) b Q
  | 0, i, I, hij, h => by
    have e : i = n := by omega
    subst e
    rw [e283_36]
    simp only [B283_36, xSeq, i_push, i_load, i_iload, i_lload, i_dload, i_aload, i_istore, i_astore, i_lstore, i_dstore, i_iinc, i_ii, i_iiz, i_ll, i_llz, i_lli, i_li, i_i, i_l, i_i2l, i_l2i, i_dup, i_dup2, i_dup2w, i_dupx1, i_pop, i_pop2, i_goto, i_ifc, i_icmp, i_getI, i_getL, i_getR, i_putI, i_putZ, i_putL, i_putR, i_aldI, i_aldB, i_aldL, i_aldD, i_astI, i_astL, i_astD, i_alen, i_ret, i_iret, i_zret, i_lret, i_fret, i_dret, i_aret, i_invS0, i_invV0, i_m2, i_m1, i_ml, i_obj, lk, lkp, stf1, stf2, Value.category, rV, xTo, lv_args, xCk, xCat, xRc, xAk, hg_S, hg_I, hg_J, hg_D, hg_R, hs_I, hs_J, hs_D, hs_R, uI_at, uJ_at, uD_at, uR_at, List.take_succ_cons, List.take_zero, List.drop_succ_cons, List.drop_zero, List.reverse_cons, List.reverse_nil, List.nil_append, List.cons_append, List.map_cons, List.map_nil, List.sum_cons, List.sum_nil, List.length_cons, List.length_nil, Option.toList_some, Option.toList_none, true_and, and_true, false_and, and_false, true_implies, false_implies, implies_true, not_true_eq_false, not_false_eq_true, ne_eq, if_true, if_false, Bool.and_true, Bool.true_and, decide_true, decide_false, reduceIte, reduceCtorEq, Bool.and_self, Bool.and_eq_true, decide_eq_true_eq, and_self, true_or, or_true, false_or, or_false, Nat.zero_add, Nat.add_zero, eq_self, Nat.reduceEqDiff, Nat.reduceLeDiff, Nat.reduceLT, Nat.reduceAdd, Nat.reduceSub, Nat.reduceMul, xi144_0, ix_0, xi144_1, ix_1, xi144_2, ix_2, xi144_3, ix_3, xi144_4, ix_4, xi144_5, ix_5, xi144_6, ix_6, xi144_7, ix_7, xi144_8, ix_8, xi144_9, ix_9, xi144_10, ix_10, LM_out hL, (h.2 _ _ (by decide)).trans h10, nI_leP (show i < 2147483648 by omega) (show i < 2147483648 by omega), Nat.le_refl, e283_74, B283_74]
    refine kk I ⟨fun k hk => ?_, h.2⟩
    have := h.1 k hk
    simp only [hk, true_and] at this
    exact this
  | j + 1, i, I, hij, h => by
    have hi' := hg i (by omega)
    have hv : I 341 i = nI (g i) := by rw [h.1 i (by omega), if_neg (fun e => Nat.lt_irrefl _ e.1)]
    rw [e283_36]
    simp only [B283_36, xSeq, i_push, i_load, i_iload, i_lload, i_dload, i_aload, i_istore, i_astore, i_lstore, i_dstore, i_iinc, i_ii, i_iiz, i_ll, i_llz, i_lli, i_li, i_i, i_l, i_i2l, i_l2i, i_dup, i_dup2, i_dup2w, i_dupx1, i_pop, i_pop2, i_goto, i_ifc, i_icmp, i_getI, i_getL, i_getR, i_putI, i_putZ, i_putL, i_putR, i_aldI, i_aldB, i_aldL, i_aldD, i_astI, i_astL, i_astD, i_alen, i_ret, i_iret, i_zret, i_lret, i_fret, i_dret, i_aret, i_invS0, i_invV0, i_m2, i_m1, i_ml, i_obj, lk, lkp, stf1, stf2, Value.category, rV, xTo, lv_args, xCk, xCat, xRc, xAk, hg_S, hg_I, hg_J, hg_D, hg_R, hs_I, hs_J, hs_D, hs_R, uI_at, uJ_at, uD_at, uR_at, List.take_succ_cons, List.take_zero, List.drop_succ_cons, List.drop_zero, List.reverse_cons, List.reverse_nil, List.nil_append, List.cons_append, List.map_cons, List.map_nil, List.sum_cons, List.sum_nil, List.length_cons, List.length_nil, Option.toList_some, Option.toList_none, true_and, and_true, false_and, and_false, true_implies, false_implies, implies_true, not_true_eq_false, not_false_eq_true, ne_eq, if_true, if_false, Bool.and_true, Bool.true_and, decide_true, decide_false, reduceIte, reduceCtorEq, Bool.and_self, Bool.and_eq_true, decide_eq_true_eq, and_self, true_or, or_true, false_or, or_false, Nat.zero_add, Nat.add_zero, eq_self, Nat.reduceEqDiff, Nat.reduceLeDiff, Nat.reduceLT, Nat.reduceAdd, Nat.reduceSub, Nat.reduceMul, xi144_0, ix_0, xi144_1, ix_1, xi144_2, ix_2, xi144_3, ix_3, xi144_4, ix_4, xi144_5, ix_5, xi144_6, ix_6, xi144_7, ix_7, xi144_8, ix_8, xi144_9, ix_9, xi144_10, ix_10, LM_out hL, (h.2 _ _ (by decide)).trans h10, nI_leP (show n < 2147483648 by omega) (show i < 2147483648 by omega), show (n ≤ i) = False from eq_false (by omega), nI_inP (show i < 64 by omega) (by decide), nI_ix (show i < 2147483648 by omega), hv, nI_iff (show g i < 2147483648 by omega) (show hi < 2147483648 by omega), e283_68, B283_68, nI_1, ne_eq]
    by_cases e : g i = hi
    · simp only [e, true_and, and_true, false_and, and_false, true_implies, false_implies, implies_true, not_true_eq_false, not_false_eq_true, ne_eq, if_true, if_false, Bool.and_true, Bool.true_and, decide_true, decide_false, reduceIte, reduceCtorEq, Bool.and_self, Bool.and_eq_true, decide_eq_true_eq, and_self, true_or, or_true, false_or, or_false, Nat.zero_add, Nat.add_zero, eq_self, Nat.reduceEqDiff, Nat.reduceLeDiff, Nat.reduceLT, Nat.reduceAdd, Nat.reduceSub, Nat.reduceMul]
      refine L283_36 hL h10 hn hg hh hl kk j (i + 1) _ (by omega) ⟨fun k hk => ?_, fun o k ho => ?_⟩
      · rw [uI_at]
        by_cases e2 : k = i
        · subst e2
          rw [if_pos ⟨rfl, rfl⟩, if_pos ⟨by omega, e⟩]
        · rw [if_neg (fun h => e2 h.2), h.1 k hk]
          by_cases e3 : k < i
          · simp only [show (k < i + 1) = True from eq_true (by omega), show (k < i) = True from eq_true e3]
          · rw [if_neg (fun h => e3 h.1), if_neg (fun h => (show ¬ k < i + 1 by omega) h.1)]
      · rw [uI_at, if_neg (fun e => ho e.1)]
        exact h.2 o k ho
    · simp only [e, true_and, and_true, false_and, and_false, true_implies, false_implies, implies_true, not_true_eq_false, not_false_eq_true, ne_eq, if_true, if_false, Bool.and_true, Bool.true_and, decide_true, decide_false, reduceIte, reduceCtorEq, Bool.and_self, Bool.and_eq_true, decide_eq_true_eq, and_self, true_or, or_true, false_or, or_false, Nat.zero_add, Nat.add_zero, eq_self, Nat.reduceEqDiff, Nat.reduceLeDiff, Nat.reduceLT, Nat.reduceAdd, Nat.reduceSub, Nat.reduceMul]
      refine L283_36 hL h10 hn hg hh hl kk j (i + 1) _ (by omega) ⟨fun k hk => ?_, h.2⟩
      rw [h.1 k hk]
      by_cases e2 : k = i
      · subst e2
        rw [if_neg (fun h => e h.2), if_neg (fun h => e h.2)]
      · by_cases e3 : k < i
        · simp only [show (k < i + 1) = True from eq_true (by omega), show (k < i) = True from eq_true e3]
        · rw [if_neg (fun h => e3 h.1), if_neg (fun h => (show ¬ k < i + 1 by omega) h.1)]
theorem L283 {I0 : xI} {g : Nat → Nat} {s o : Nat} (hL : LM S R) (h10 : I0 300 10 = nI n) (hn : n ≤ 64) (hg : ∀ k, k < n → g k < 64) (hs : s < n) (ho : o < n) (hI : GO I0 g n I) (kk : ∀ I, GO I0 (jn g s o) n I → Q (.ok none) (S, I, J, D, R) b) : xRun xT 283 0 [(0, .ref 200), (1, .int (nI s)), (2, .int (nI o))] [] (S, I, J, D, R) b Q := by
  have h1 := hg s hs
  have h2 := hg o ho
  rw [e283_0]
  simp only [B283_0, xSeq, i_push, i_load, i_iload, i_lload, i_dload, i_aload, i_istore, i_astore, i_lstore, i_dstore, i_iinc, i_ii, i_iiz, i_ll, i_llz, i_lli, i_li, i_i, i_l, i_i2l, i_l2i, i_dup, i_dup2, i_dup2w, i_dupx1, i_pop, i_pop2, i_goto, i_ifc, i_icmp, i_getI, i_getL, i_getR, i_putI, i_putZ, i_putL, i_putR, i_aldI, i_aldB, i_aldL, i_aldD, i_astI, i_astL, i_astD, i_alen, i_ret, i_iret, i_zret, i_lret, i_fret, i_dret, i_aret, i_invS0, i_invV0, i_m2, i_m1, i_ml, i_obj, lk, lkp, stf1, stf2, Value.category, rV, xTo, lv_args, xCk, xCat, xRc, xAk, hg_S, hg_I, hg_J, hg_D, hg_R, hs_I, hs_J, hs_D, hs_R, uI_at, uJ_at, uD_at, uR_at, List.take_succ_cons, List.take_zero, List.drop_succ_cons, List.drop_zero, List.reverse_cons, List.reverse_nil, List.nil_append, List.cons_append, List.map_cons, List.map_nil, List.sum_cons, List.sum_nil, List.length_cons, List.length_nil, Option.toList_some, Option.toList_none, true_and, and_true, false_and, and_false, true_implies, false_implies, implies_true, not_true_eq_false, not_false_eq_true, ne_eq, if_true, if_false, Bool.and_true, Bool.true_and, decide_true, decide_false, reduceIte, reduceCtorEq, Bool.and_self, Bool.and_eq_true, decide_eq_true_eq, and_self, true_or, or_true, false_or, or_false, Nat.zero_add, Nat.add_zero, eq_self, Nat.reduceEqDiff, Nat.reduceLeDiff, Nat.reduceLT, Nat.reduceAdd, Nat.reduceSub, Nat.reduceMul, xi144_0, ix_0, xi144_1, ix_1, xi144_2, ix_2, xi144_3, ix_3, xi144_4, ix_4, xi144_5, ix_5, xi144_6, ix_6, xi144_7, ix_7, xi144_8, ix_8, xi144_9, ix_9, xi144_10, ix_10, LM_out hL, nI_inP (show s < 64 by omega) (by decide), nI_ix (show s < 2147483648 by omega), nI_inP (show o < 64 by omega) (by decide), nI_ix (show o < 2147483648 by omega), hI.1 s hs, hI.1 o ho, jMin_nI (show g s < 2147483648 by omega) (show g o < 2147483648 by omega), jMax_nI (show g s < 2147483648 by omega) (show g o < 2147483648 by omega)]
  refine L283_36 hL h10 hn hg (Nat.max_lt.mpr ⟨h1, h2⟩) (Nat.lt_of_le_of_lt (Nat.min_le_left _ _) h1) kk n 0 I (by omega) ⟨fun k hk => ?_, hI.2⟩
  rw [hI.1 k hk, if_neg (fun h => Nat.not_lt_zero _ h.1)]
theorem R280 (hL : LM S R) (hG : GR n m fi se dg sb) (hC : CM I n m fi se dg sb) {x k : Nat} (hx : x < 2 ^ 64) (hJ : J 200 3 = lN x) (hk : k < m) : xRun xT 280 0 [(0, .ref 200), (1, .int (nI k))] [] (S, I, J, D, R) b Q = Q (.ok (some (.int (if x.testBit (fi k) = x.testBit (se k) then 1 else 0)))) (S, I, J, D, R) b := by
  obtain ⟨g0, g1, g2, g3, g4, g5, g6⟩ := hG
  obtain ⟨c1, c2, c3, c4, c5, c6⟩ := hC
  have h3 := g3 k hk
  have h4 := g4 k hk
  have e : (sg (x.testBit (fi k)) = sg (x.testBit (se k))) = (x.testBit (fi k) = x.testBit (se k)) := by
    cases x.testBit (fi k) <;> cases x.testBit (se k) <;> decide
  rw [e280_0]
  simp only [B280_0, xSeq, i_push, i_load, i_iload, i_lload, i_dload, i_aload, i_istore, i_astore, i_lstore, i_dstore, i_iinc, i_ii, i_iiz, i_ll, i_llz, i_lli, i_li, i_i, i_l, i_i2l, i_l2i, i_dup, i_dup2, i_dup2w, i_dupx1, i_pop, i_pop2, i_goto, i_ifc, i_icmp, i_getI, i_getL, i_getR, i_putI, i_putZ, i_putL, i_putR, i_aldI, i_aldB, i_aldL, i_aldD, i_astI, i_astL, i_astD, i_alen, i_ret, i_iret, i_zret, i_lret, i_fret, i_dret, i_aret, i_invS0, i_invV0, i_m2, i_m1, i_ml, i_obj, lk, lkp, stf1, stf2, Value.category, rV, xTo, lv_args, xCk, xCat, xRc, xAk, hg_S, hg_I, hg_J, hg_D, hg_R, hs_I, hs_J, hs_D, hs_R, uI_at, uJ_at, uD_at, uR_at, List.take_succ_cons, List.take_zero, List.drop_succ_cons, List.drop_zero, List.reverse_cons, List.reverse_nil, List.nil_append, List.cons_append, List.map_cons, List.map_nil, List.sum_cons, List.sum_nil, List.length_cons, List.length_nil, Option.toList_some, Option.toList_none, true_and, and_true, false_and, and_false, true_implies, false_implies, implies_true, not_true_eq_false, not_false_eq_true, ne_eq, if_true, if_false, Bool.and_true, Bool.true_and, decide_true, decide_false, reduceIte, reduceCtorEq, Bool.and_self, Bool.and_eq_true, decide_eq_true_eq, and_self, true_or, or_true, false_or, or_false, Nat.zero_add, Nat.add_zero, eq_self, Nat.reduceEqDiff, Nat.reduceLeDiff, Nat.reduceLT, Nat.reduceAdd, Nat.reduceSub, Nat.reduceMul, xi144_0, ix_0, xi144_1, ix_1, xi144_2, ix_2, xi144_3, ix_3, xi144_4, ix_4, xi144_5, ix_5, xi144_6, ix_6, xi144_7, ix_7, xi144_8, ix_8, xi144_9, ix_9, xi144_10, ix_10, LM_out hL, hJ, nI_inP (show k < 128 by omega) (by decide), nI_ix (show k < 2147483648 by omega), c3 k hk, c4 k hk, R238 (S := S) (R := R) hx (show fi k < 64 by omega), R238 (S := S) (R := R) hx (show se k < 64 by omega), ne_eq, e, e280_33, B280_33, e280_34, B280_34]
  by_cases hb : x.testBit (fi k) = x.testBit (se k) <;> simp only [hb, true_and, and_true, false_and, and_false, true_implies, false_implies, implies_true, not_true_eq_false, not_false_eq_true, ne_eq, if_true, if_false, Bool.and_true, Bool.true_and, decide_true, decide_false, reduceIte, reduceCtorEq, Bool.and_self, Bool.and_eq_true, decide_eq_true_eq, and_self, true_or, or_true, false_or, or_false, Nat.zero_add, Nat.add_zero, eq_self, Nat.reduceEqDiff, Nat.reduceLeDiff, Nat.reduceLT, Nat.reduceAdd, Nat.reduceSub, Nat.reduceMul]
/-- the groups behind so many bonds, as a list -/
def jl (g : List Nat) (s o : Nat) : List Nat := g.map (fun v => if v = max (g.getD s 0) (g.getD o 0) then min (g.getD s 0) (g.getD o 0) else v)
def ly (n : Nat) (on : Nat → Bool) (fi se : Nat → Nat) : Nat → List Nat
  | 0 => List.range n
  | k + 1 => if on k = true then jl (ly n on fi se k) (fi k) (se k) else ly n on fi se k
theorem jl_len (g : List Nat) (s o : Nat) : (jl g s o).length = g.length := List.length_map _
theorem jl_at {g : List Nat} {s o k : Nat} (h : k < g.length) : (jl g s o).getD k 0 = jn (fun k => g.getD k 0) s o k := getD_map h
theorem ly_len (n : Nat) (on : Nat → Bool) (fi se : Nat → Nat) : ∀ k, (ly n on fi se k).length = n
  | 0 => List.length_range
  | k + 1 => by
    rw [ly]
    split
    · rw [jl_len]; exact ly_len n on fi se k
    · exact ly_len n on fi se k
theorem jl_lt {n : Nat} {g : List Nat} {s o : Nat} (hl : g.length = n) (h : ∀ k, k < n → g.getD k 0 < n) (hs : s < n) (ho : o < n) : ∀ k, k < n → (jl g s o).getD k 0 < n := by
  intro k hk
  rw [jl_at (by omega)]
  unfold jn
  split
  · exact Nat.lt_of_le_of_lt (Nat.min_le_left _ _) (h s hs)
  · exact h k hk
theorem ly_lt (n : Nat) (on : Nat → Bool) {fi se : Nat → Nat} {m : Nat} (h1 : ∀ k, k < m → fi k < n) (h2 : ∀ k, k < m → se k < n) : ∀ k, k ≤ m → ∀ i, i < n → (ly n on fi se k).getD i 0 < n
  | 0, _, i, hi => by
    rw [ly, ← List.getElem_eq_getD (h := by rw [List.length_range]; exact hi) 0, List.getElem_range]
    exact hi
  | k + 1, hk, i, hi => by
    have h := ly_lt n on h1 h2 k (by omega)
    rw [ly]
    split
    · exact jl_lt (ly_len _ _ _ _ _) h (h1 k (by omega)) (h2 k (by omega)) i hi
    · exact h i hi
theorem GO_CM {I0 : xI} {g : Nat → Nat} (hI : GO I0 g n I) (hC : CM I0 n m fi se dg sb) : CM I n m fi se dg sb := CM_k hC (fun o k ho => hI.2 o k (by omega))
/-- which bonds join in domains -/
def oD2 (st : Nat → Int32) (fi se : Nat → Nat) (x k : Nat) : Bool := decide (x.testBit (fi k) = x.testBit (se k)) && !decide (st k = 0)
theorem GO_jl {I0 : xI} {g : List Nat} {s o : Nat} (hl : g.length = n) (h : GO I0 (jn (fun k => g.getD k 0) s o) n I) : GO I0 (fun k => (jl g s o).getD k 0) n I := ⟨fun k hk => (h.1 k hk).trans (congrArg nI (jl_at (by omega)).symm), h.2⟩
theorem L286_6 {I0 : xI} {J : xJ} (hL : LM S R) (hG : GR n m fi se dg sb) (hC : CM I0 n m fi se dg sb) {x : Nat} (hx : x < 2 ^ 64) (hJ : J 200 3 = lN x) (kk : ∀ I, GO I0 (fun k => (ly n (oD2 (fun k => I0 300 (16 + k)) fi se x) fi se m).getD k 0) n I → Q (.ok none) (S, I, J, D, R) b) : ∀ (j i : Nat) (I : xI), i + j = m → GO I0 (fun k => (ly n (oD2 (fun k => I0 300 (16 + k)) fi se x) fi se i).getD k 0) n I → xRun xT 286 6 [(0, .ref 200), (1, .int (nI i))] [] (S, I, J, D, R) b Q
  | 0, i, I, hi, h => by
    have hC' := GO_CM h hC
    have g2 := hG.2.2.1
    have e : i = m := by omega
    subst e
    rw [e286_6]
    simp only [B286_6, xSeq, i_push, i_load, i_iload, i_lload, i_dload, i_aload, i_istore, i_astore, i_lstore, i_dstore, i_iinc, i_ii, i_iiz, i_ll, i_llz, i_lli, i_li, i_i, i_l, i_i2l, i_l2i, i_dup, i_dup2, i_dup2w, i_dupx1, i_pop, i_pop2, i_goto, i_ifc, i_icmp, i_getI, i_getL, i_getR, i_putI, i_putZ, i_putL, i_putR, i_aldI, i_aldB, i_aldL, i_aldD, i_astI, i_astL, i_astD, i_alen, i_ret, i_iret, i_zret, i_lret, i_fret, i_dret, i_aret, i_invS0, i_invV0, i_m2, i_m1, i_ml, i_obj, lk, lkp, stf1, stf2, Value.category, rV, xTo, lv_args, xCk, xCat, xRc, xAk, hg_S, hg_I, hg_J, hg_D, hg_R, hs_I, hs_J, hs_D, hs_R, uI_at, uJ_at, uD_at, uR_at, List.take_succ_cons, List.take_zero, List.drop_succ_cons, List.drop_zero, List.reverse_cons, List.reverse_nil, List.nil_append, List.cons_append, List.map_cons, List.map_nil, List.sum_cons, List.sum_nil, List.length_cons, List.length_nil, Option.toList_some, Option.toList_none, true_and, and_true, false_and, and_false, true_implies, false_implies, implies_true, not_true_eq_false, not_false_eq_true, ne_eq, if_true, if_false, Bool.and_true, Bool.true_and, decide_true, decide_false, reduceIte, reduceCtorEq, Bool.and_self, Bool.and_eq_true, decide_eq_true_eq, and_self, true_or, or_true, false_or, or_false, Nat.zero_add, Nat.add_zero, eq_self, Nat.reduceEqDiff, Nat.reduceLeDiff, Nat.reduceLT, Nat.reduceAdd, Nat.reduceSub, Nat.reduceMul, xi144_0, ix_0, xi144_1, ix_1, xi144_2, ix_2, xi144_3, ix_3, xi144_4, ix_4, xi144_5, ix_5, xi144_6, ix_6, xi144_7, ix_7, xi144_8, ix_8, xi144_9, ix_9, xi144_10, ix_10, LM_out hL, hC'.2.1, nI_leP (show i < 2147483648 by omega) (show i < 2147483648 by omega), Nat.le_refl, e286_59, B286_59]
    exact kk I h
  | j + 1, i, I, hi, h => by
    have hC' := GO_CM h hC
    obtain ⟨g0, g1, g2, g3, g4, g5, g6⟩ := hG
    have hG : GR n m fi se dg sb := ⟨g0, g1, g2, g3, g4, g5, g6⟩
    have hst : I 300 (16 + i) = I0 300 (16 + i) := h.2 _ _ (by decide)
    have hY := fun (b : Nat × Nat) (Q : xQ) => R280 (D := D) (b := b) (Q := Q) hL hG hC' hx hJ (show i < m by omega)
    have nx := fun (I : xI) => L286_6 hL hG hC hx hJ kk j (i + 1) I (by omega)
    rw [ly] at nx
    have h1 := ly_lt n (oD2 (fun k => I0 300 (16 + k)) fi se x) g3 g4 i (by omega)
    have h2 := ly_len n (oD2 (fun k => I0 300 (16 + k)) fi se x) fi se i
    have ho : oD2 (fun k => I0 300 (16 + k)) fi se x i = (decide (x.testBit (fi i) = x.testBit (se i)) && !decide (I0 300 (16 + i) = 0)) := rfl
    rw [ho] at nx
    obtain ⟨g, hg⟩ : ∃ g, g = ly n (oD2 (fun k => I0 300 (16 + k)) fi se x) fi se i := ⟨_, rfl⟩
    rw [← hg] at h h1 h2 nx
    obtain ⟨c1, c2, c3, c4, c5, c6⟩ := hC'
    rw [e286_6]
    simp only [B286_6, xSeq, i_push, i_load, i_iload, i_lload, i_dload, i_aload, i_istore, i_astore, i_lstore, i_dstore, i_iinc, i_ii, i_iiz, i_ll, i_llz, i_lli, i_li, i_i, i_l, i_i2l, i_l2i, i_dup, i_dup2, i_dup2w, i_dupx1, i_pop, i_pop2, i_goto, i_ifc, i_icmp, i_getI, i_getL, i_getR, i_putI, i_putZ, i_putL, i_putR, i_aldI, i_aldB, i_aldL, i_aldD, i_astI, i_astL, i_astD, i_alen, i_ret, i_iret, i_zret, i_lret, i_fret, i_dret, i_aret, i_invS0, i_invV0, i_m2, i_m1, i_ml, i_obj, lk, lkp, stf1, stf2, Value.category, rV, xTo, lv_args, xCk, xCat, xRc, xAk, hg_S, hg_I, hg_J, hg_D, hg_R, hs_I, hs_J, hs_D, hs_R, uI_at, uJ_at, uD_at, uR_at, List.take_succ_cons, List.take_zero, List.drop_succ_cons, List.drop_zero, List.reverse_cons, List.reverse_nil, List.nil_append, List.cons_append, List.map_cons, List.map_nil, List.sum_cons, List.sum_nil, List.length_cons, List.length_nil, Option.toList_some, Option.toList_none, true_and, and_true, false_and, and_false, true_implies, false_implies, implies_true, not_true_eq_false, not_false_eq_true, ne_eq, if_true, if_false, Bool.and_true, Bool.true_and, decide_true, decide_false, reduceIte, reduceCtorEq, Bool.and_self, Bool.and_eq_true, decide_eq_true_eq, and_self, true_or, or_true, false_or, or_false, Nat.zero_add, Nat.add_zero, eq_self, Nat.reduceEqDiff, Nat.reduceLeDiff, Nat.reduceLT, Nat.reduceAdd, Nat.reduceSub, Nat.reduceMul, xi144_0, ix_0, xi144_1, ix_1, xi144_2, ix_2, xi144_3, ix_3, xi144_4, ix_4, xi144_5, ix_5, xi144_6, ix_6, xi144_7, ix_7, xi144_8, ix_8, xi144_9, ix_9, xi144_10, ix_10, LM_out hL, c2, nI_leP (show m < 2147483648 by omega) (show i < 2147483648 by omega), show (m ≤ i) = False from eq_false (by omega), hY, nI_c16, nI_inP (show 16 + i < 144 by omega) (by decide), nI_ix (show 16 + i < 2147483648 by omega), nI_inP (show i < 128 by omega) (by decide), nI_ix (show i < 2147483648 by omega), hst, c3 i (by omega), c4 i (by omega)]
    by_cases hb : x.testBit (fi i) = x.testBit (se i)
    · by_cases h0 : I0 300 (16 + i) = 0
      · rw [decide_eq_true h0, Bool.not_true, Bool.and_false, if_neg (by decide)] at nx
        simp only [hb, h0, true_and, and_true, false_and, and_false, true_implies, false_implies, implies_true, not_true_eq_false, not_false_eq_true, ne_eq, if_true, if_false, Bool.and_true, Bool.true_and, decide_true, decide_false, reduceIte, reduceCtorEq, Bool.and_self, Bool.and_eq_true, decide_eq_true_eq, and_self, true_or, or_true, false_or, or_false, Nat.zero_add, Nat.add_zero, eq_self, Nat.reduceEqDiff, Nat.reduceLeDiff, Nat.reduceLT, Nat.reduceAdd, Nat.reduceSub, Nat.reduceMul, i1_0, e286_53, B286_53, nI_1, xSeq, i_push, i_load, i_iload, i_lload, i_dload, i_aload, i_istore, i_astore, i_lstore, i_dstore, i_iinc, i_ii, i_iiz, i_ll, i_llz, i_lli, i_li, i_i, i_l, i_i2l, i_l2i, i_dup, i_dup2, i_dup2w, i_dupx1, i_pop, i_pop2, i_goto, i_ifc, i_icmp, i_getI, i_getL, i_getR, i_putI, i_putZ, i_putL, i_putR, i_aldI, i_aldB, i_aldL, i_aldD, i_astI, i_astL, i_astD, i_alen, i_ret, i_iret, i_zret, i_lret, i_fret, i_dret, i_aret, i_invS0, i_invV0, i_m2, i_m1, i_ml, i_obj, lk, lkp, stf1, stf2, Value.category, rV, xTo, lv_args, xCk, xCat, xRc, xAk, hg_S, hg_I, hg_J, hg_D, hg_R, hs_I, hs_J, hs_D, hs_R, uI_at, uJ_at, uD_at, uR_at, List.take_succ_cons, List.take_zero, List.drop_succ_cons, List.drop_zero, List.reverse_cons, List.reverse_nil, List.nil_append, List.cons_append, List.map_cons, List.map_nil, List.sum_cons, List.sum_nil, List.length_cons, List.length_nil, Option.toList_some, Option.toList_none, true_and, and_true, false_and, and_false, true_implies, false_implies, implies_true, not_true_eq_false, not_false_eq_true, ne_eq, if_true, if_false, Bool.and_true, Bool.true_and, decide_true, decide_false, reduceIte, reduceCtorEq, Bool.and_self, Bool.and_eq_true, decide_eq_true_eq, and_self, true_or, or_true, false_or, or_false, Nat.zero_add, Nat.add_zero, eq_self, Nat.reduceEqDiff, Nat.reduceLeDiff, Nat.reduceLT, Nat.reduceAdd, Nat.reduceSub, Nat.reduceMul]
        exact nx I h
      · rw [decide_eq_false h0, decide_eq_true hb, Bool.not_false, Bool.and_true, if_pos rfl] at nx
        simp only [hb, h0, true_and, and_true, false_and, and_false, true_implies, false_implies, implies_true, not_true_eq_false, not_false_eq_true, ne_eq, if_true, if_false, Bool.and_true, Bool.true_and, decide_true, decide_false, reduceIte, reduceCtorEq, Bool.and_self, Bool.and_eq_true, decide_eq_true_eq, and_self, true_or, or_true, false_or, or_false, Nat.zero_add, Nat.add_zero, eq_self, Nat.reduceEqDiff, Nat.reduceLeDiff, Nat.reduceLT, Nat.reduceAdd, Nat.reduceSub, Nat.reduceMul, i1_0]
        refine L283 hL hC.1 g1 (fun k hk => Nat.lt_of_lt_of_le (h1 k hk) g1) (g3 i (by omega)) (g4 i (by omega)) h (fun I' h' => ?_)
        simp only [xSeq, i_push, i_load, i_iload, i_lload, i_dload, i_aload, i_istore, i_astore, i_lstore, i_dstore, i_iinc, i_ii, i_iiz, i_ll, i_llz, i_lli, i_li, i_i, i_l, i_i2l, i_l2i, i_dup, i_dup2, i_dup2w, i_dupx1, i_pop, i_pop2, i_goto, i_ifc, i_icmp, i_getI, i_getL, i_getR, i_putI, i_putZ, i_putL, i_putR, i_aldI, i_aldB, i_aldL, i_aldD, i_astI, i_astL, i_astD, i_alen, i_ret, i_iret, i_zret, i_lret, i_fret, i_dret, i_aret, i_invS0, i_invV0, i_m2, i_m1, i_ml, i_obj, lk, lkp, stf1, stf2, Value.category, rV, xTo, lv_args, xCk, xCat, xRc, xAk, hg_S, hg_I, hg_J, hg_D, hg_R, hs_I, hs_J, hs_D, hs_R, uI_at, uJ_at, uD_at, uR_at, List.take_succ_cons, List.take_zero, List.drop_succ_cons, List.drop_zero, List.reverse_cons, List.reverse_nil, List.nil_append, List.cons_append, List.map_cons, List.map_nil, List.sum_cons, List.sum_nil, List.length_cons, List.length_nil, Option.toList_some, Option.toList_none, true_and, and_true, false_and, and_false, true_implies, false_implies, implies_true, not_true_eq_false, not_false_eq_true, ne_eq, if_true, if_false, Bool.and_true, Bool.true_and, decide_true, decide_false, reduceIte, reduceCtorEq, Bool.and_self, Bool.and_eq_true, decide_eq_true_eq, and_self, true_or, or_true, false_or, or_false, Nat.zero_add, Nat.add_zero, eq_self, Nat.reduceEqDiff, Nat.reduceLeDiff, Nat.reduceLT, Nat.reduceAdd, Nat.reduceSub, Nat.reduceMul, e286_53, B286_53, nI_1]
        exact nx I' (GO_jl h2 h')
    · rw [decide_eq_false hb, Bool.false_and, if_neg (by decide)] at nx
      simp only [hb, true_and, and_true, false_and, and_false, true_implies, false_implies, implies_true, not_true_eq_false, not_false_eq_true, ne_eq, if_true, if_false, Bool.and_true, Bool.true_and, decide_true, decide_false, reduceIte, reduceCtorEq, Bool.and_self, Bool.and_eq_true, decide_eq_true_eq, and_self, true_or, or_true, false_or, or_false, Nat.zero_add, Nat.add_zero, eq_self, Nat.reduceEqDiff, Nat.reduceLeDiff, Nat.reduceLT, Nat.reduceAdd, Nat.reduceSub, Nat.reduceMul, e286_53, B286_53, nI_1, xSeq, i_push, i_load, i_iload, i_lload, i_dload, i_aload, i_istore, i_astore, i_lstore, i_dstore, i_iinc, i_ii, i_iiz, i_ll, i_llz, i_lli, i_li, i_i, i_l, i_i2l, i_l2i, i_dup, i_dup2, i_dup2w, i_dupx1, i_pop, i_pop2, i_goto, i_ifc, i_icmp, i_getI, i_getL, i_getR, i_putI, i_putZ, i_putL, i_putR, i_aldI, i_aldB, i_aldL, i_aldD, i_astI, i_astL, i_astD, i_alen, i_ret, i_iret, i_zret, i_lret, i_fret, i_dret, i_aret, i_invS0, i_invV0, i_m2, i_m1, i_ml, i_obj, lk, lkp, stf1, stf2, Value.category, rV, xTo, lv_args, xCk, xCat, xRc, xAk, hg_S, hg_I, hg_J, hg_D, hg_R, hs_I, hs_J, hs_D, hs_R, uI_at, uJ_at, uD_at, uR_at, List.take_succ_cons, List.take_zero, List.drop_succ_cons, List.drop_zero, List.reverse_cons, List.reverse_nil, List.nil_append, List.cons_append, List.map_cons, List.map_nil, List.sum_cons, List.sum_nil, List.length_cons, List.length_nil, Option.toList_some, Option.toList_none, true_and, and_true, false_and, and_false, true_implies, false_implies, implies_true, not_true_eq_false, not_false_eq_true, ne_eq, if_true, if_false, Bool.and_true, Bool.true_and, decide_true, decide_false, reduceIte, reduceCtorEq, Bool.and_self, Bool.and_eq_true, decide_eq_true_eq, and_self, true_or, or_true, false_or, or_false, Nat.zero_add, Nat.add_zero, eq_self, Nat.reduceEqDiff, Nat.reduceLeDiff, Nat.reduceLT, Nat.reduceAdd, Nat.reduceSub, Nat.reduceMul]
      exact nx I h
theorem L286 {I0 : xI} {J : xJ} (hL : LM S R) (hG : GR n m fi se dg sb) (hC : CM I0 n m fi se dg sb) {x : Nat} (hx : x < 2 ^ 64) (hJ : J 200 3 = lN x) (kk : ∀ I, GO I0 (fun k => (ly n (oD2 (fun k => I0 300 (16 + k)) fi se x) fi se m).getD k 0) n I → Q (.ok none) (S, I, J, D, R) b) : xRun xT 286 0 [(0, .ref 200)] [] (S, I0, J, D, R) b Q := by
  rw [e286_0]
  simp only [B286_0, xSeq, i_push, i_load, i_iload, i_lload, i_dload, i_aload, i_istore, i_astore, i_lstore, i_dstore, i_iinc, i_ii, i_iiz, i_ll, i_llz, i_lli, i_li, i_i, i_l, i_i2l, i_l2i, i_dup, i_dup2, i_dup2w, i_dupx1, i_pop, i_pop2, i_goto, i_ifc, i_icmp, i_getI, i_getL, i_getR, i_putI, i_putZ, i_putL, i_putR, i_aldI, i_aldB, i_aldL, i_aldD, i_astI, i_astL, i_astD, i_alen, i_ret, i_iret, i_zret, i_lret, i_fret, i_dret, i_aret, i_invS0, i_invV0, i_m2, i_m1, i_ml, i_obj, lk, lkp, stf1, stf2, Value.category, rV, xTo, lv_args, xCk, xCat, xRc, xAk, hg_S, hg_I, hg_J, hg_D, hg_R, hs_I, hs_J, hs_D, hs_R, uI_at, uJ_at, uD_at, uR_at, List.take_succ_cons, List.take_zero, List.drop_succ_cons, List.drop_zero, List.reverse_cons, List.reverse_nil, List.nil_append, List.cons_append, List.map_cons, List.map_nil, List.sum_cons, List.sum_nil, List.length_cons, List.length_nil, Option.toList_some, Option.toList_none, true_and, and_true, false_and, and_false, true_implies, false_implies, implies_true, not_true_eq_false, not_false_eq_true, ne_eq, if_true, if_false, Bool.and_true, Bool.true_and, decide_true, decide_false, reduceIte, reduceCtorEq, Bool.and_self, Bool.and_eq_true, decide_eq_true_eq, and_self, true_or, or_true, false_or, or_false, Nat.zero_add, Nat.add_zero, eq_self, Nat.reduceEqDiff, Nat.reduceLeDiff, Nat.reduceLT, Nat.reduceAdd, Nat.reduceSub, Nat.reduceMul, LM_out hL]
  refine L282 hL hC.1 hG.2.1 (fun I h => ?_)
  simp only [xSeq, i_push, i_load, i_iload, i_lload, i_dload, i_aload, i_istore, i_astore, i_lstore, i_dstore, i_iinc, i_ii, i_iiz, i_ll, i_llz, i_lli, i_li, i_i, i_l, i_i2l, i_l2i, i_dup, i_dup2, i_dup2w, i_dupx1, i_pop, i_pop2, i_goto, i_ifc, i_icmp, i_getI, i_getL, i_getR, i_putI, i_putZ, i_putL, i_putR, i_aldI, i_aldB, i_aldL, i_aldD, i_astI, i_astL, i_astD, i_alen, i_ret, i_iret, i_zret, i_lret, i_fret, i_dret, i_aret, i_invS0, i_invV0, i_m2, i_m1, i_ml, i_obj, lk, lkp, stf1, stf2, Value.category, rV, xTo, lv_args, xCk, xCat, xRc, xAk, hg_S, hg_I, hg_J, hg_D, hg_R, hs_I, hs_J, hs_D, hs_R, uI_at, uJ_at, uD_at, uR_at, List.take_succ_cons, List.take_zero, List.drop_succ_cons, List.drop_zero, List.reverse_cons, List.reverse_nil, List.nil_append, List.cons_append, List.map_cons, List.map_nil, List.sum_cons, List.sum_nil, List.length_cons, List.length_nil, Option.toList_some, Option.toList_none, true_and, and_true, false_and, and_false, true_implies, false_implies, implies_true, not_true_eq_false, not_false_eq_true, ne_eq, if_true, if_false, Bool.and_true, Bool.true_and, decide_true, decide_false, reduceIte, reduceCtorEq, Bool.and_self, Bool.and_eq_true, decide_eq_true_eq, and_self, true_or, or_true, false_or, or_false, Nat.zero_add, Nat.add_zero, eq_self, Nat.reduceEqDiff, Nat.reduceLeDiff, Nat.reduceLT, Nat.reduceAdd, Nat.reduceSub, Nat.reduceMul]
  refine L286_6 hL hG hC hx hJ kk m 0 I (by omega) ⟨fun k hk => ?_, h.2⟩
  have e : (List.range n).getD k 0 = k := by rw [← List.getElem_eq_getD (h := by rw [List.length_range]; exact hk) 0, List.getElem_range]
  exact (h.1 k hk).trans (congrArg nI e.symm)
/-- how many groups; how large the group of a site -/
theorem R284_4 {g : Nat → Nat} (hL : LM S R) (h10 : I 300 10 = nI n) (hn : n ≤ 64) (h : ∀ k, k < n → I 341 k = nI (g k)) (hg : ∀ k, k < n → g k < 64) : ∀ (j i : Nat), i + j = n → xRun xT 284 4 [(0, .ref 200), (1, .int (nI (ct (fun s => decide (g s = s)) i))), (2, .int (nI i))] [] (S, I, J, D, R) b Q = Q (.ok (some (.int (nI (ct (fun s => decide (g s = s)) n))))) (S, I, J, D, R) b
  | 0, i, hi => by
    have e : i = n := by omega
    subst e
    rw [e284_4]
    simp only [B284_4, xSeq, i_push, i_load, i_iload, i_lload, i_dload, i_aload, i_istore, i_astore, i_lstore, i_dstore, i_iinc, i_ii, i_iiz, i_ll, i_llz, i_lli, i_li, i_i, i_l, i_i2l, i_l2i, i_dup, i_dup2, i_dup2w, i_dupx1, i_pop, i_pop2, i_goto, i_ifc, i_icmp, i_getI, i_getL, i_getR, i_putI, i_putZ, i_putL, i_putR, i_aldI, i_aldB, i_aldL, i_aldD, i_astI, i_astL, i_astD, i_alen, i_ret, i_iret, i_zret, i_lret, i_fret, i_dret, i_aret, i_invS0, i_invV0, i_m2, i_m1, i_ml, i_obj, lk, lkp, stf1, stf2, Value.category, rV, xTo, lv_args, xCk, xCat, xRc, xAk, hg_S, hg_I, hg_J, hg_D, hg_R, hs_I, hs_J, hs_D, hs_R, uI_at, uJ_at, uD_at, uR_at, List.take_succ_cons, List.take_zero, List.drop_succ_cons, List.drop_zero, List.reverse_cons, List.reverse_nil, List.nil_append, List.cons_append, List.map_cons, List.map_nil, List.sum_cons, List.sum_nil, List.length_cons, List.length_nil, Option.toList_some, Option.toList_none, true_and, and_true, false_and, and_false, true_implies, false_implies, implies_true, not_true_eq_false, not_false_eq_true, ne_eq, if_true, if_false, Bool.and_true, Bool.true_and, decide_true, decide_false, reduceIte, reduceCtorEq, Bool.and_self, Bool.and_eq_true, decide_eq_true_eq, and_self, true_or, or_true, false_or, or_false, Nat.zero_add, Nat.add_zero, eq_self, Nat.reduceEqDiff, Nat.reduceLeDiff, Nat.reduceLT, Nat.reduceAdd, Nat.reduceSub, Nat.reduceMul, xi144_0, ix_0, xi144_1, ix_1, xi144_2, ix_2, xi144_3, ix_3, xi144_4, ix_4, xi144_5, ix_5, xi144_6, ix_6, xi144_7, ix_7, xi144_8, ix_8, xi144_9, ix_9, xi144_10, ix_10, LM_out hL, h10, nI_leP (show i < 2147483648 by omega) (show i < 2147483648 by omega), Nat.le_refl, e284_39, B284_39]
  | j + 1, i, hi => by
    have h1 := hg i (by omega)
    have h2 := R284_4 hL h10 hn h hg j (i + 1) (by omega)
    rw [ct] at h2
    rw [e284_4]
    simp only [B284_4, xSeq, i_push, i_load, i_iload, i_lload, i_dload, i_aload, i_istore, i_astore, i_lstore, i_dstore, i_iinc, i_ii, i_iiz, i_ll, i_llz, i_lli, i_li, i_i, i_l, i_i2l, i_l2i, i_dup, i_dup2, i_dup2w, i_dupx1, i_pop, i_pop2, i_goto, i_ifc, i_icmp, i_getI, i_getL, i_getR, i_putI, i_putZ, i_putL, i_putR, i_aldI, i_aldB, i_aldL, i_aldD, i_astI, i_astL, i_astD, i_alen, i_ret, i_iret, i_zret, i_lret, i_fret, i_dret, i_aret, i_invS0, i_invV0, i_m2, i_m1, i_ml, i_obj, lk, lkp, stf1, stf2, Value.category, rV, xTo, lv_args, xCk, xCat, xRc, xAk, hg_S, hg_I, hg_J, hg_D, hg_R, hs_I, hs_J, hs_D, hs_R, uI_at, uJ_at, uD_at, uR_at, List.take_succ_cons, List.take_zero, List.drop_succ_cons, List.drop_zero, List.reverse_cons, List.reverse_nil, List.nil_append, List.cons_append, List.map_cons, List.map_nil, List.sum_cons, List.sum_nil, List.length_cons, List.length_nil, Option.toList_some, Option.toList_none, true_and, and_true, false_and, and_false, true_implies, false_implies, implies_true, not_true_eq_false, not_false_eq_true, ne_eq, if_true, if_false, Bool.and_true, Bool.true_and, decide_true, decide_false, reduceIte, reduceCtorEq, Bool.and_self, Bool.and_eq_true, decide_eq_true_eq, and_self, true_or, or_true, false_or, or_false, Nat.zero_add, Nat.add_zero, eq_self, Nat.reduceEqDiff, Nat.reduceLeDiff, Nat.reduceLT, Nat.reduceAdd, Nat.reduceSub, Nat.reduceMul, xi144_0, ix_0, xi144_1, ix_1, xi144_2, ix_2, xi144_3, ix_3, xi144_4, ix_4, xi144_5, ix_5, xi144_6, ix_6, xi144_7, ix_7, xi144_8, ix_8, xi144_9, ix_9, xi144_10, ix_10, LM_out hL, h10, nI_leP (show n < 2147483648 by omega) (show i < 2147483648 by omega), show (n ≤ i) = False from eq_false (by omega), nI_inP (show i < 64 by omega) (by decide), nI_ix (show i < 2147483648 by omega), h i (by omega), ne_eq, nI_iff (show g i < 2147483648 by omega) (show i < 2147483648 by omega), e284_30, B284_30, e284_31, B284_31, nI_1]
    by_cases e : g i = i
    · simp only [e, true_and, and_true, false_and, and_false, true_implies, false_implies, implies_true, not_true_eq_false, not_false_eq_true, ne_eq, if_true, if_false, Bool.and_true, Bool.true_and, decide_true, decide_false, reduceIte, reduceCtorEq, Bool.and_self, Bool.and_eq_true, decide_eq_true_eq, and_self, true_or, or_true, false_or, or_false, Nat.zero_add, Nat.add_zero, eq_self, Nat.reduceEqDiff, Nat.reduceLeDiff, Nat.reduceLT, Nat.reduceAdd, Nat.reduceSub, Nat.reduceMul, nI_1, decide_true] at h2 ⊢
      exact h2
    · simp only [e, true_and, and_true, false_and, and_false, true_implies, false_implies, implies_true, not_true_eq_false, not_false_eq_true, ne_eq, if_true, if_false, Bool.and_true, Bool.true_and, decide_true, decide_false, reduceIte, reduceCtorEq, Bool.and_self, Bool.and_eq_true, decide_eq_true_eq, and_self, true_or, or_true, false_or, or_false, Nat.zero_add, Nat.add_zero, eq_self, Nat.reduceEqDiff, Nat.reduceLeDiff, Nat.reduceLT, Nat.reduceAdd, Nat.reduceSub, Nat.reduceMul, Int32.add_zero] at h2 ⊢
      exact h2
theorem R284 {g : Nat → Nat} (hL : LM S R) (h10 : I 300 10 = nI n) (hn : n ≤ 64) (h : ∀ k, k < n → I 341 k = nI (g k)) (hg : ∀ k, k < n → g k < 64) : xRun xT 284 0 [(0, .ref 200)] [] (S, I, J, D, R) b Q = Q (.ok (some (.int (nI (ct (fun s => decide (g s = s)) n))))) (S, I, J, D, R) b := by
  have h2 := R284_4 (J := J) (D := D) (b := b) (Q := Q) hL h10 hn h hg n 0 (by omega)
  rw [e284_0]
  simp only [B284_0, xSeq, i_push, i_load, i_iload, i_lload, i_dload, i_aload, i_istore, i_astore, i_lstore, i_dstore, i_iinc, i_ii, i_iiz, i_ll, i_llz, i_lli, i_li, i_i, i_l, i_i2l, i_l2i, i_dup, i_dup2, i_dup2w, i_dupx1, i_pop, i_pop2, i_goto, i_ifc, i_icmp, i_getI, i_getL, i_getR, i_putI, i_putZ, i_putL, i_putR, i_aldI, i_aldB, i_aldL, i_aldD, i_astI, i_astL, i_astD, i_alen, i_ret, i_iret, i_zret, i_lret, i_fret, i_dret, i_aret, i_invS0, i_invV0, i_m2, i_m1, i_ml, i_obj, lk, lkp, stf1, stf2, Value.category, rV, xTo, lv_args, xCk, xCat, xRc, xAk, hg_S, hg_I, hg_J, hg_D, hg_R, hs_I, hs_J, hs_D, hs_R, uI_at, uJ_at, uD_at, uR_at, List.take_succ_cons, List.take_zero, List.drop_succ_cons, List.drop_zero, List.reverse_cons, List.reverse_nil, List.nil_append, List.cons_append, List.map_cons, List.map_nil, List.sum_cons, List.sum_nil, List.length_cons, List.length_nil, Option.toList_some, Option.toList_none, true_and, and_true, false_and, and_false, true_implies, false_implies, implies_true, not_true_eq_false, not_false_eq_true, ne_eq, if_true, if_false, Bool.and_true, Bool.true_and, decide_true, decide_false, reduceIte, reduceCtorEq, Bool.and_self, Bool.and_eq_true, decide_eq_true_eq, and_self, true_or, or_true, false_or, or_false, Nat.zero_add, Nat.add_zero, eq_self, Nat.reduceEqDiff, Nat.reduceLeDiff, Nat.reduceLT, Nat.reduceAdd, Nat.reduceSub, Nat.reduceMul]
  exact h2
theorem R288_4 {g : Nat → Nat} (hL : LM S R) (h10 : I 300 10 = nI n) (hn : n ≤ 64) (h : ∀ k, k < n → I 341 k = nI (g k)) (hg : ∀ k, k < n → g k < 64) {t : Nat} (ht : t < n) : ∀ (j i : Nat), i + j = n → xRun xT 288 4 [(0, .ref 200), (1, .int (nI t)), (2, .int (nI (ct (fun s => decide (g s = g t)) i))), (3, .int (nI i))] [] (S, I, J, D, R) b Q = Q (.ok (some (.int (nI (ct (fun s => decide (g s = g t)) n))))) (S, I, J, D, R) b
  | 0, i, hi => by
    have e : i = n := by omega
    subst e
    rw [e288_4]
    simp only [B288_4, xSeq, i_push, i_load, i_iload, i_lload, i_dload, i_aload, i_istore, i_astore, i_lstore, i_dstore, i_iinc, i_ii, i_iiz, i_ll, i_llz, i_lli, i_li, i_i, i_l, i_i2l, i_l2i, i_dup, i_dup2, i_dup2w, i_dupx1, i_pop, i_pop2, i_goto, i_ifc, i_icmp, i_getI, i_getL, i_getR, i_putI, i_putZ, i_putL, i_putR, i_aldI, i_aldB, i_aldL, i_aldD, i_astI, i_astL, i_astD, i_alen, i_ret, i_iret, i_zret, i_lret, i_fret, i_dret, i_aret, i_invS0, i_invV0, i_m2, i_m1, i_ml, i_obj, lk, lkp, stf1, stf2, Value.category, rV, xTo, lv_args, xCk, xCat, xRc, xAk, hg_S, hg_I, hg_J, hg_D, hg_R, hs_I, hs_J, hs_D, hs_R, uI_at, uJ_at, uD_at, uR_at, List.take_succ_cons, List.take_zero, List.drop_succ_cons, List.drop_zero, List.reverse_cons, List.reverse_nil, List.nil_append, List.cons_append, List.map_cons, List.map_nil, List.sum_cons, List.sum_nil, List.length_cons, List.length_nil, Option.toList_some, Option.toList_none, true_and, and_true, false_and, and_false, true_implies, false_implies, implies_true, not_true_eq_false, not_false_eq_true, ne_eq, if_true, if_false, Bool.and_true, Bool.true_and, decide_true, decide_false, reduceIte, reduceCtorEq, Bool.and_self, Bool.and_eq_true, decide_eq_true_eq, and_self, true_or, or_true, false_or, or_false, Nat.zero_add, Nat.add_zero, eq_self, Nat.reduceEqDiff, Nat.reduceLeDiff, Nat.reduceLT, Nat.reduceAdd, Nat.reduceSub, Nat.reduceMul, xi144_0, ix_0, xi144_1, ix_1, xi144_2, ix_2, xi144_3, ix_3, xi144_4, ix_4, xi144_5, ix_5, xi144_6, ix_6, xi144_7, ix_7, xi144_8, ix_8, xi144_9, ix_9, xi144_10, ix_10, LM_out hL, h10, nI_leP (show i < 2147483648 by omega) (show i < 2147483648 by omega), Nat.le_refl, e288_44, B288_44]
  | j + 1, i, hi => by
    have h1 := hg i (by omega)
    have h3 := hg t ht
    have h2 := R288_4 hL h10 hn h hg ht j (i + 1) (by omega)
    rw [ct] at h2
    rw [e288_4]
    simp only [B288_4, xSeq, i_push, i_load, i_iload, i_lload, i_dload, i_aload, i_istore, i_astore, i_lstore, i_dstore, i_iinc, i_ii, i_iiz, i_ll, i_llz, i_lli, i_li, i_i, i_l, i_i2l, i_l2i, i_dup, i_dup2, i_dup2w, i_dupx1, i_pop, i_pop2, i_goto, i_ifc, i_icmp, i_getI, i_getL, i_getR, i_putI, i_putZ, i_putL, i_putR, i_aldI, i_aldB, i_aldL, i_aldD, i_astI, i_astL, i_astD, i_alen, i_ret, i_iret, i_zret, i_lret, i_fret, i_dret, i_aret, i_invS0, i_invV0, i_m2, i_m1, i_ml, i_obj, lk, lkp, stf1, stf2, Value.category, rV, xTo, lv_args, xCk, xCat, xRc, xAk, hg_S, hg_I, hg_J, hg_D, hg_R, hs_I, hs_J, hs_D, hs_R, uI_at, uJ_at, uD_at, uR_at, List.take_succ_cons, List.take_zero, List.drop_succ_cons, List.drop_zero, List.reverse_cons, List.reverse_nil, List.nil_append, List.cons_append, List.map_cons, List.map_nil, List.sum_cons, List.sum_nil, List.length_cons, List.length_nil, Option.toList_some, Option.toList_none, true_and, and_true, false_and, and_false, true_implies, false_implies, implies_true, not_true_eq_false, not_false_eq_true, ne_eq, if_true, if_false, Bool.and_true, Bool.true_and, decide_true, decide_false, reduceIte, reduceCtorEq, Bool.and_self, Bool.and_eq_true, decide_eq_true_eq, and_self, true_or, or_true, false_or, or_false, Nat.zero_add, Nat.add_zero, eq_self, Nat.reduceEqDiff, Nat.reduceLeDiff, Nat.reduceLT, Nat.reduceAdd, Nat.reduceSub, Nat.reduceMul, xi144_0, ix_0, xi144_1, ix_1, xi144_2, ix_2, xi144_3, ix_3, xi144_4, ix_4, xi144_5, ix_5, xi144_6, ix_6, xi144_7, ix_7, xi144_8, ix_8, xi144_9, ix_9, xi144_10, ix_10, LM_out hL, h10, nI_leP (show n < 2147483648 by omega) (show i < 2147483648 by omega), show (n ≤ i) = False from eq_false (by omega), nI_inP (show i < 64 by omega) (by decide), nI_ix (show i < 2147483648 by omega), nI_inP (show t < 64 by omega) (by decide), nI_ix (show t < 2147483648 by omega), h i (by omega), h t ht, ne_eq, nI_iff (show g i < 2147483648 by omega) (show g t < 2147483648 by omega), e288_35, B288_35, e288_36, B288_36, nI_1]
    by_cases e : g i = g t
    · simp only [e, true_and, and_true, false_and, and_false, true_implies, false_implies, implies_true, not_true_eq_false, not_false_eq_true, ne_eq, if_true, if_false, Bool.and_true, Bool.true_and, decide_true, decide_false, reduceIte, reduceCtorEq, Bool.and_self, Bool.and_eq_true, decide_eq_true_eq, and_self, true_or, or_true, false_or, or_false, Nat.zero_add, Nat.add_zero, eq_self, Nat.reduceEqDiff, Nat.reduceLeDiff, Nat.reduceLT, Nat.reduceAdd, Nat.reduceSub, Nat.reduceMul, nI_1, decide_true] at h2 ⊢
      exact h2
    · simp only [e, true_and, and_true, false_and, and_false, true_implies, false_implies, implies_true, not_true_eq_false, not_false_eq_true, ne_eq, if_true, if_false, Bool.and_true, Bool.true_and, decide_true, decide_false, reduceIte, reduceCtorEq, Bool.and_self, Bool.and_eq_true, decide_eq_true_eq, and_self, true_or, or_true, false_or, or_false, Nat.zero_add, Nat.add_zero, eq_self, Nat.reduceEqDiff, Nat.reduceLeDiff, Nat.reduceLT, Nat.reduceAdd, Nat.reduceSub, Nat.reduceMul, Int32.add_zero] at h2 ⊢
      exact h2
theorem R288 {g : Nat → Nat} (hL : LM S R) (h10 : I 300 10 = nI n) (hn : n ≤ 64) (h : ∀ k, k < n → I 341 k = nI (g k)) (hg : ∀ k, k < n → g k < 64) {t : Nat} (ht : t < n) : xRun xT 288 0 [(0, .ref 200), (1, .int (nI t))] [] (S, I, J, D, R) b Q = Q (.ok (some (.int (nI (ct (fun s => decide (g s = g t)) n))))) (S, I, J, D, R) b := by
  have h2 := R288_4 (J := J) (D := D) (b := b) (Q := Q) hL h10 hn h hg ht n 0 (by omega)
  rw [e288_0]
  simp only [B288_0, xSeq, i_push, i_load, i_iload, i_lload, i_dload, i_aload, i_istore, i_astore, i_lstore, i_dstore, i_iinc, i_ii, i_iiz, i_ll, i_llz, i_lli, i_li, i_i, i_l, i_i2l, i_l2i, i_dup, i_dup2, i_dup2w, i_dupx1, i_pop, i_pop2, i_goto, i_ifc, i_icmp, i_getI, i_getL, i_getR, i_putI, i_putZ, i_putL, i_putR, i_aldI, i_aldB, i_aldL, i_aldD, i_astI, i_astL, i_astD, i_alen, i_ret, i_iret, i_zret, i_lret, i_fret, i_dret, i_aret, i_invS0, i_invV0, i_m2, i_m1, i_ml, i_obj, lk, lkp, stf1, stf2, Value.category, rV, xTo, lv_args, xCk, xCat, xRc, xAk, hg_S, hg_I, hg_J, hg_D, hg_R, hs_I, hs_J, hs_D, hs_R, uI_at, uJ_at, uD_at, uR_at, List.take_succ_cons, List.take_zero, List.drop_succ_cons, List.drop_zero, List.reverse_cons, List.reverse_nil, List.nil_append, List.cons_append, List.map_cons, List.map_nil, List.sum_cons, List.sum_nil, List.length_cons, List.length_nil, Option.toList_some, Option.toList_none, true_and, and_true, false_and, and_false, true_implies, false_implies, implies_true, not_true_eq_false, not_false_eq_true, ne_eq, if_true, if_false, Bool.and_true, Bool.true_and, decide_true, decide_false, reduceIte, reduceCtorEq, Bool.and_self, Bool.and_eq_true, decide_eq_true_eq, and_self, true_or, or_true, false_or, or_false, Nat.zero_add, Nat.add_zero, eq_self, Nat.reduceEqDiff, Nat.reduceLeDiff, Nat.reduceLT, Nat.reduceAdd, Nat.reduceSub, Nat.reduceMul]
  exact h2
/-- the largest group -/
def mx (f : Nat → Nat) : Nat → Nat
  | 0 => 0
  | i + 1 => max (mx f i) (f i)
theorem mx_le {f : Nat → Nat} {N : Nat} (h : ∀ k, f k ≤ N) : ∀ i, mx f i ≤ N
  | 0 => Nat.zero_le _
  | i + 1 => Nat.max_le.mpr ⟨mx_le h i, h i⟩
theorem R289_13 {g : Nat → Nat} (hL : LM S R) (h10 : I 300 10 = nI n) (hn : n ≤ 64) (h : ∀ k, k < n → I 341 k = nI (g k)) (hg : ∀ k, k < n → g k < 64) : ∀ (j i : Nat), i + j = n → xRun xT 289 13 [(0, .ref 200), (1, .int (nI (mx (fun t => ct (fun s => decide (g s = g t)) n) i))), (2, .int (nI i))] [] (S, I, J, D, R) b Q = Q (.ok (some (.int (nI (mx (fun t => ct (fun s => decide (g s = g t)) n) n))))) (S, I, J, D, R) b
  | 0, i, hi => by
    have e : i = n := by omega
    subst e
    rw [e289_13]
    simp only [B289_13, xSeq, i_push, i_load, i_iload, i_lload, i_dload, i_aload, i_istore, i_astore, i_lstore, i_dstore, i_iinc, i_ii, i_iiz, i_ll, i_llz, i_lli, i_li, i_i, i_l, i_i2l, i_l2i, i_dup, i_dup2, i_dup2w, i_dupx1, i_pop, i_pop2, i_goto, i_ifc, i_icmp, i_getI, i_getL, i_getR, i_putI, i_putZ, i_putL, i_putR, i_aldI, i_aldB, i_aldL, i_aldD, i_astI, i_astL, i_astD, i_alen, i_ret, i_iret, i_zret, i_lret, i_fret, i_dret, i_aret, i_invS0, i_invV0, i_m2, i_m1, i_ml, i_obj, lk, lkp, stf1, stf2, Value.category, rV, xTo, lv_args, xCk, xCat, xRc, xAk, hg_S, hg_I, hg_J, hg_D, hg_R, hs_I, hs_J, hs_D, hs_R, uI_at, uJ_at, uD_at, uR_at, List.take_succ_cons, List.take_zero, List.drop_succ_cons, List.drop_zero, List.reverse_cons, List.reverse_nil, List.nil_append, List.cons_append, List.map_cons, List.map_nil, List.sum_cons, List.sum_nil, List.length_cons, List.length_nil, Option.toList_some, Option.toList_none, true_and, and_true, false_and, and_false, true_implies, false_implies, implies_true, not_true_eq_false, not_false_eq_true, ne_eq, if_true, if_false, Bool.and_true, Bool.true_and, decide_true, decide_false, reduceIte, reduceCtorEq, Bool.and_self, Bool.and_eq_true, decide_eq_true_eq, and_self, true_or, or_true, false_or, or_false, Nat.zero_add, Nat.add_zero, eq_self, Nat.reduceEqDiff, Nat.reduceLeDiff, Nat.reduceLT, Nat.reduceAdd, Nat.reduceSub, Nat.reduceMul, xi144_0, ix_0, xi144_1, ix_1, xi144_2, ix_2, xi144_3, ix_3, xi144_4, ix_4, xi144_5, ix_5, xi144_6, ix_6, xi144_7, ix_7, xi144_8, ix_8, xi144_9, ix_9, xi144_10, ix_10, LM_out hL, h10, nI_leP (show i < 2147483648 by omega) (show i < 2147483648 by omega), Nat.le_refl, e289_40, B289_40]
  | j + 1, i, hi => by
    have h2 := R289_13 hL h10 hn h hg j (i + 1) (by omega)
    have hY := fun (b : Nat × Nat) (Q : xQ) => R288 (J := J) (D := D) (b := b) (Q := Q) hL h10 hn h hg (show i < n by omega)
    have m1 := mx_le (f := fun t => ct (fun s => decide (g s = g t)) n) (fun k => ct_le _ n) i
    have m2 := ct_le (fun s => decide (g s = g i)) n
    rw [mx] at h2
    rw [e289_13]
    simp only [B289_13, xSeq, i_push, i_load, i_iload, i_lload, i_dload, i_aload, i_istore, i_astore, i_lstore, i_dstore, i_iinc, i_ii, i_iiz, i_ll, i_llz, i_lli, i_li, i_i, i_l, i_i2l, i_l2i, i_dup, i_dup2, i_dup2w, i_dupx1, i_pop, i_pop2, i_goto, i_ifc, i_icmp, i_getI, i_getL, i_getR, i_putI, i_putZ, i_putL, i_putR, i_aldI, i_aldB, i_aldL, i_aldD, i_astI, i_astL, i_astD, i_alen, i_ret, i_iret, i_zret, i_lret, i_fret, i_dret, i_aret, i_invS0, i_invV0, i_m2, i_m1, i_ml, i_obj, lk, lkp, stf1, stf2, Value.category, rV, xTo, lv_args, xCk, xCat, xRc, xAk, hg_S, hg_I, hg_J, hg_D, hg_R, hs_I, hs_J, hs_D, hs_R, uI_at, uJ_at, uD_at, uR_at, List.take_succ_cons, List.take_zero, List.drop_succ_cons, List.drop_zero, List.reverse_cons, List.reverse_nil, List.nil_append, List.cons_append, List.map_cons, List.map_nil, List.sum_cons, List.sum_nil, List.length_cons, List.length_nil, Option.toList_some, Option.toList_none, true_and, and_true, false_and, and_false, true_implies, false_implies, implies_true, not_true_eq_false, not_false_eq_true, ne_eq, if_true, if_false, Bool.and_true, Bool.true_and, decide_true, decide_false, reduceIte, reduceCtorEq, Bool.and_self, Bool.and_eq_true, decide_eq_true_eq, and_self, true_or, or_true, false_or, or_false, Nat.zero_add, Nat.add_zero, eq_self, Nat.reduceEqDiff, Nat.reduceLeDiff, Nat.reduceLT, Nat.reduceAdd, Nat.reduceSub, Nat.reduceMul, xi144_0, ix_0, xi144_1, ix_1, xi144_2, ix_2, xi144_3, ix_3, xi144_4, ix_4, xi144_5, ix_5, xi144_6, ix_6, xi144_7, ix_7, xi144_8, ix_8, xi144_9, ix_9, xi144_10, ix_10, LM_out hL, h10, nI_leP (show n < 2147483648 by omega) (show i < 2147483648 by omega), show (n ≤ i) = False from eq_false (by omega), hY, jMax_nI (Nat.lt_of_le_of_lt m1 (show n < 2147483648 by omega)) (Nat.lt_of_le_of_lt m2 (show n < 2147483648 by omega)), nI_1]
    exact h2
end
/-! ===== cases of domains: printed by 99zf.dcases.py ===== -/
section
theorem aN_congr {n m : Nat} {fi se dg : Nat → Nat} {sb : Nat → Nat → Nat} (hG : GR n m fi se dg sb) {st st' : Nat → Int32} (h : ∀ k, k < m → st k = st' k) (x : Nat) {t : Nat} (ht : t < n) : ∀ i, i ≤ dg t → aN st fi se sb x t i = aN st' fi se sb x t i
  | 0, _ => rfl
  | i + 1, hi => by
    rw [aN, aN, aN_congr hG h x ht i (by omega), h _ (hG.2.2.2.2.2.2 t i ht (by omega))]
theorem dm_congr {nb nb' : Nat → Nat} {n : Nat} (hn : n ≤ 64) (h : ∀ t, t < n → nb t = nb' t) (hl : ∀ t, t < n → nb' t < 2 ^ n) : ∀ (f d p : Nat), p < 2 ^ n → dm nb f d p = dm nb' f d p
  | 0, d, p, _ => rfl
  | f + 1, d, p, hp => by
    rw [dm, dm]
    by_cases h0 : p = 0
    · rw [if_pos h0, if_pos h0]
    · have ht := tzf_lt (by omega) hp hn
      rw [if_neg h0, if_neg h0, h _ ht, dm_congr hn h hl f _ _ (Nat.or_lt_two_pow (Nat.lt_of_le_of_lt Nat.and_le_left hp) (Nat.lt_of_le_of_lt Nat.and_le_left (hl _ ht)))]
theorem dX_congr {n m : Nat} {fi se dg : Nat → Nat} {sb : Nat → Nat → Nat} (hG : GR n m fi se dg sb) {st st' : Nat → Int32} (h : ∀ k, k < m → st k = st' k) (x : Nat) {t : Nat} (ht : t < n) : dX st fi se dg sb x t = dX st' fi se dg sb x t :=
  dm_congr hG.2.1 (fun _ ht => aN_congr hG h x ht _ (Nat.le_refl _)) (fun _ ht => aN_lt hG st' x ht _ (Nat.le_refl _)) 64 _ _ (Nat.pow_lt_pow_right (by decide) ht)
theorem dC_congr {d d' : Nat → Nat} {n : Nat} (h : ∀ t, t < n → d t = d' t) : ∀ i, i ≤ n → dC d i = dC d' i
  | 0, _ => rfl
  | i + 1, hi => by
    rw [dC, dC, dC_congr h i (by omega), h i (by omega)]
theorem ly_congr {n : Nat} {on on' : Nat → Bool} {fi se : Nat → Nat} {m : Nat} (h : ∀ k, k < m → on k = on' k) : ∀ k, k ≤ m → ly n on fi se k = ly n on' fi se k
  | 0, _ => rfl
  | k + 1, hk => by
    rw [ly, ly, ly_congr h k (by omega), h k (by omega)]
theorem dX_B4 : ∀ t, t < 16 → dX (fun _ => 1) (fE B4) (sE B4) (dE B4) (bE B4) 65535 t = 65535 := by decide +kernel
theorem ly_B4 : ly 16 (fun _ => true) (fE B4) (sE B4) 32 = List.replicate 16 0 := by decide +kernel
theorem B4_alike : ∀ k, k < 32 → (Nat.testBit 65535 (fE B4 k) = Nat.testBit 65535 (sE B4 k)) := by decide +kernel
theorem fX {st : Nat → Int32} (g1 : GR 16 32 (fE B4) (sE B4) (dE B4) (bE B4)) (h : ∀ k, k < 32 → st k = 1) {t : Nat} (ht : t < 16) : dX st (fE B4) (sE B4) (dE B4) (bE B4) 65535 t = 65535 := (dX_congr g1 (st' := fun _ => 1) h 65535 ht).trans (dX_B4 t ht)
theorem fDC {st : Nat → Int32} (g1 : GR 16 32 (fE B4) (sE B4) (dE B4) (bE B4)) (h : ∀ k, k < 32 → st k = 1) : dC (dX st (fE B4) (sE B4) (dE B4) (bE B4) 65535) 16 = (65535, 1, 16) := (dC_congr (d' := fun _ => 65535) (fun t ht => fX g1 h ht) 16 (Nat.le_refl _)).trans (by decide +kernel)
theorem fY {st : Nat → Int32} (h : ∀ k, k < 32 → st k = 1) : ly 16 (oD2 st (fE B4) (sE B4) 65535) (fE B4) (sE B4) 32 = List.replicate 16 0 := (ly_congr (on' := fun _ => true) (fun k hk => by
  unfold oD2
  rw [decide_eq_true (B4_alike k hk), h k hk]
  rfl) 32 (Nat.le_refl _)).trans ly_B4
theorem f16 : ∀ k, k < 16 → (List.replicate 16 0).getD k 0 = 0 := by decide
theorem ct16 : ct (fun s => decide ((List.replicate 16 0).getD s 0 = s)) 16 = 1 ∧ (∀ t, t < 16 → ct (fun s => decide ((List.replicate 16 0).getD s 0 = (List.replicate 16 0).getD t 0)) 16 = 16) ∧ mx (fun t => ct (fun s => decide ((List.replicate 16 0).getD s 0 = (List.replicate 16 0).getD t 0)) 16) 16 = 16 := by decide +kernel
theorem f16' : ∀ k, k < 16 → (List.replicate 16 0).getD k 0 < 64 := fun k hk => by rw [f16 k hk]; decide

end
