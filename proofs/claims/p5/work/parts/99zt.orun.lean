/-! ===== the model lays the order ===== -/
section
variable {S : xS} {I : xI} {J : xJ} {D : xDb} {R : xR} {b : Nat × Nat} {Q : xQ} {E : Nat → Int32} {n : Nat}
/-- the key of a configuration -/
def fk (E : Nat → Int32) (c : Nat) : Nat := eN E c + 56
theorem fk_ok (hE : EB E n) {c : Nat} (hc : c < 2 ^ n) : E c + 200 = nI (fk E c) ∧ fk E c ≤ 344 := by
  obtain ⟨-, h1, h2, -⟩ := eN_ok hE hc
  exact ⟨h1, by unfold fk; omega⟩
abbrev oX (o : Nat) : Prop := o ≠ 355 ∧ o ≠ 356 ∧ o ≠ 357
theorem L324_2 {I0 : xI} (hL : LM S R)
    (kk : ∀ I, (∀ k, k < 402 → I 357 k = 0) → (∀ o k, oX o → I o k = I0 o k) → xRun xT 324 22 [(0, .ref 200)] [] (S, I, J, D, R) b Q) :
    ∀ (j i : Nat) (I : xI), i + j = 402 → (∀ k, k < i → I 357 k = 0) → (∀ o k, oX o → I o k = I0 o k) → xRun xT 324 2 [(0, .ref 200), (1, .int (nI i))] [] (S, I, J, D, R) b Q
  | 0, i, I, hi, h1, h2 => by
    have e : i = 402 := by omega
    subst e
    rw [e324_2]
    simp only [B324_2, xSeq, i_push, i_load, i_iload, i_lload, i_dload, i_aload, i_istore, i_astore, i_lstore, i_dstore, i_iinc, i_ii, i_iiz, i_ll, i_llz, i_lli, i_li, i_i, i_l, i_i2l, i_l2i, i_dup, i_dup2, i_dup2w, i_dupx1, i_pop, i_pop2, i_goto, i_ifc, i_icmp, i_getI, i_getL, i_getR, i_putI, i_putZ, i_putL, i_putR, i_aldI, i_aldB, i_aldL, i_aldD, i_astI, i_astL, i_astD, i_alen, i_ret, i_iret, i_zret, i_lret, i_fret, i_dret, i_aret, i_invS0, i_invV0, i_m2, i_m1, i_ml, i_obj, lk, lkp, stf1, stf2, Value.category, rV, xTo, lv_args, xCk, xCat, xRc, xAk, hg_S, hg_I, hg_J, hg_D, hg_R, hs_I, hs_J, hs_D, hs_R, uI_at, uJ_at, uD_at, uR_at, List.take_succ_cons, List.take_zero, List.drop_succ_cons, List.drop_zero, List.reverse_cons, List.reverse_nil, List.nil_append, List.cons_append, List.map_cons, List.map_nil, List.sum_cons, List.sum_nil, List.length_cons, List.length_nil, Option.toList_some, Option.toList_none, true_and, and_true, false_and, and_false, true_implies, false_implies, implies_true, not_true_eq_false, not_false_eq_true, ne_eq, if_true, if_false, Bool.and_true, Bool.true_and, decide_true, decide_false, reduceIte, reduceCtorEq, Bool.and_self, Bool.and_eq_true, decide_eq_true_eq, and_self, true_or, or_true, false_or, or_false, Nat.zero_add, Nat.add_zero, eq_self, Nat.reduceEqDiff, Nat.reduceLeDiff, Nat.reduceLT, Nat.reduceAdd, Nat.reduceSub, Nat.reduceMul, LM_out hL, show ((402 : Int32) ≤ nI 402) = True from eq_true (by decide)]
    exact kk I h1 h2
  | j + 1, i, I, hi, h1, h2 => by
    have e0 : ((402 : Int32) ≤ nI i) = False := by rw [show (402 : Int32) = nI 402 from rfl, nI_leP (by decide) (show i < 2147483648 by omega)]; exact eq_false (by omega)
    rw [e324_2]
    simp only [B324_2, xSeq, i_push, i_load, i_iload, i_lload, i_dload, i_aload, i_istore, i_astore, i_lstore, i_dstore, i_iinc, i_ii, i_iiz, i_ll, i_llz, i_lli, i_li, i_i, i_l, i_i2l, i_l2i, i_dup, i_dup2, i_dup2w, i_dupx1, i_pop, i_pop2, i_goto, i_ifc, i_icmp, i_getI, i_getL, i_getR, i_putI, i_putZ, i_putL, i_putR, i_aldI, i_aldB, i_aldL, i_aldD, i_astI, i_astL, i_astD, i_alen, i_ret, i_iret, i_zret, i_lret, i_fret, i_dret, i_aret, i_invS0, i_invV0, i_m2, i_m1, i_ml, i_obj, lk, lkp, stf1, stf2, Value.category, rV, xTo, lv_args, xCk, xCat, xRc, xAk, hg_S, hg_I, hg_J, hg_D, hg_R, hs_I, hs_J, hs_D, hs_R, uI_at, uJ_at, uD_at, uR_at, List.take_succ_cons, List.take_zero, List.drop_succ_cons, List.drop_zero, List.reverse_cons, List.reverse_nil, List.nil_append, List.cons_append, List.map_cons, List.map_nil, List.sum_cons, List.sum_nil, List.length_cons, List.length_nil, Option.toList_some, Option.toList_none, true_and, and_true, false_and, and_false, true_implies, false_implies, implies_true, not_true_eq_false, not_false_eq_true, ne_eq, if_true, if_false, Bool.and_true, Bool.true_and, decide_true, decide_false, reduceIte, reduceCtorEq, Bool.and_self, Bool.and_eq_true, decide_eq_true_eq, and_self, true_or, or_true, false_or, or_false, Nat.zero_add, Nat.add_zero, eq_self, Nat.reduceEqDiff, Nat.reduceLeDiff, Nat.reduceLT, Nat.reduceAdd, Nat.reduceSub, Nat.reduceMul, LM_out hL, e0, nI_inP (show i < 402 by omega) (by decide), nI_ix (show i < 2147483648 by omega), nI_1]
    refine L324_2 hL kk j (i + 1) _ (by omega) (fun k hk => ?_) (fun o k ho => ?_)
    · by_cases e : k = i
      · simp only [uI_at, true_and, and_true, false_and, and_false, true_implies, false_implies, implies_true, not_true_eq_false, not_false_eq_true, ne_eq, if_true, if_false, Bool.and_true, Bool.true_and, decide_true, decide_false, reduceIte, reduceCtorEq, Bool.and_self, Bool.and_eq_true, decide_eq_true_eq, and_self, true_or, or_true, false_or, or_false, Nat.zero_add, Nat.add_zero, eq_self, Nat.reduceEqDiff, Nat.reduceLeDiff, Nat.reduceLT, Nat.reduceAdd, Nat.reduceSub, Nat.reduceMul, e]
      · simp only [uI_at, true_and, and_true, false_and, and_false, true_implies, false_implies, implies_true, not_true_eq_false, not_false_eq_true, ne_eq, if_true, if_false, Bool.and_true, Bool.true_and, decide_true, decide_false, reduceIte, reduceCtorEq, Bool.and_self, Bool.and_eq_true, decide_eq_true_eq, and_self, true_or, or_true, false_or, or_false, Nat.zero_add, Nat.add_zero, eq_self, Nat.reduceEqDiff, Nat.reduceLeDiff, Nat.reduceLT, Nat.reduceAdd, Nat.reduceSub, Nat.reduceMul, e, and_false, if_false]
        exact h1 k (by omega)
    · rw [uI_at, if_neg (fun e => ho.2.2 e.1)]
      exact h2 o k ho
theorem L324_24 {I0 : xI} (hL : LM S R) (hX : XM n E I0) (h10 : I0 300 10 = nI n) (hE : EB E n)
    (kk : ∀ I, (∀ k, k < 402 → I 357 k = nI (ct (fun d => decide (fk E d + 1 = k)) (2 ^ n))) → (∀ o k, oX o → I o k = I0 o k) → xRun xT 324 59 [(0, .ref 200)] [] (S, I, J, D, R) b Q) :
    ∀ (j i : Nat) (I : xI), i + j = 2 ^ n → (∀ k, k < 402 → I 357 k = nI (ct (fun d => decide (fk E d + 1 = k)) i)) → (∀ o k, oX o → I o k = I0 o k) → xRun xT 324 24 [(0, .ref 200), (1, .int (nI i))] [] (S, I, J, D, R) b Q
  | 0, i, I, hi, h1, h2 => by
    have hp := pow16 hE.1
    have hn := hE.1
    have h10' : I 300 10 = nI n := (h2 _ _ (by decide)).trans h10
    have e : i = 2 ^ n := by omega
    subst e
    rw [e324_24]
    simp only [B324_24, xSeq, i_push, i_load, i_iload, i_lload, i_dload, i_aload, i_istore, i_astore, i_lstore, i_dstore, i_iinc, i_ii, i_iiz, i_ll, i_llz, i_lli, i_li, i_i, i_l, i_i2l, i_l2i, i_dup, i_dup2, i_dup2w, i_dupx1, i_pop, i_pop2, i_goto, i_ifc, i_icmp, i_getI, i_getL, i_getR, i_putI, i_putZ, i_putL, i_putR, i_aldI, i_aldB, i_aldL, i_aldD, i_astI, i_astL, i_astD, i_alen, i_ret, i_iret, i_zret, i_lret, i_fret, i_dret, i_aret, i_invS0, i_invV0, i_m2, i_m1, i_ml, i_obj, lk, lkp, stf1, stf2, Value.category, rV, xTo, lv_args, xCk, xCat, xRc, xAk, hg_S, hg_I, hg_J, hg_D, hg_R, hs_I, hs_J, hs_D, hs_R, uI_at, uJ_at, uD_at, uR_at, List.take_succ_cons, List.take_zero, List.drop_succ_cons, List.drop_zero, List.reverse_cons, List.reverse_nil, List.nil_append, List.cons_append, List.map_cons, List.map_nil, List.sum_cons, List.sum_nil, List.length_cons, List.length_nil, Option.toList_some, Option.toList_none, true_and, and_true, false_and, and_false, true_implies, false_implies, implies_true, not_true_eq_false, not_false_eq_true, ne_eq, if_true, if_false, Bool.and_true, Bool.true_and, decide_true, decide_false, reduceIte, reduceCtorEq, Bool.and_self, Bool.and_eq_true, decide_eq_true_eq, and_self, true_or, or_true, false_or, or_false, Nat.zero_add, Nat.add_zero, eq_self, Nat.reduceEqDiff, Nat.reduceLeDiff, Nat.reduceLT, Nat.reduceAdd, Nat.reduceSub, Nat.reduceMul, LM_out hL, R303 hL h10' (show n < 31 by omega), nI_leP (show 2 ^ n < 2147483648 by omega) (show 2 ^ n < 2147483648 by omega), Nat.le_refl]
    exact kk I h1 h2
  | j + 1, i, I, hi, h1, h2 => by
    have hp := pow16 hE.1
    have hn := hE.1
    have h10' : I 300 10 = nI n := (h2 _ _ (by decide)).trans h10
    have hc : i < 2 ^ n := by omega
    obtain ⟨f1, f2⟩ := fk_ok hE hc
    have hw : I 343 i = E i := (h2 _ _ (by decide)).trans (hX.2.2.2.2 i hc)
    have g1 := h1 (fk E i + 1) (by omega)
    rw [e324_24]
    simp only [B324_24, xSeq, i_push, i_load, i_iload, i_lload, i_dload, i_aload, i_istore, i_astore, i_lstore, i_dstore, i_iinc, i_ii, i_iiz, i_ll, i_llz, i_lli, i_li, i_i, i_l, i_i2l, i_l2i, i_dup, i_dup2, i_dup2w, i_dupx1, i_pop, i_pop2, i_goto, i_ifc, i_icmp, i_getI, i_getL, i_getR, i_putI, i_putZ, i_putL, i_putR, i_aldI, i_aldB, i_aldL, i_aldD, i_astI, i_astL, i_astD, i_alen, i_ret, i_iret, i_zret, i_lret, i_fret, i_dret, i_aret, i_invS0, i_invV0, i_m2, i_m1, i_ml, i_obj, lk, lkp, stf1, stf2, Value.category, rV, xTo, lv_args, xCk, xCat, xRc, xAk, hg_S, hg_I, hg_J, hg_D, hg_R, hs_I, hs_J, hs_D, hs_R, uI_at, uJ_at, uD_at, uR_at, List.take_succ_cons, List.take_zero, List.drop_succ_cons, List.drop_zero, List.reverse_cons, List.reverse_nil, List.nil_append, List.cons_append, List.map_cons, List.map_nil, List.sum_cons, List.sum_nil, List.length_cons, List.length_nil, Option.toList_some, Option.toList_none, true_and, and_true, false_and, and_false, true_implies, false_implies, implies_true, not_true_eq_false, not_false_eq_true, ne_eq, if_true, if_false, Bool.and_true, Bool.true_and, decide_true, decide_false, reduceIte, reduceCtorEq, Bool.and_self, Bool.and_eq_true, decide_eq_true_eq, and_self, true_or, or_true, false_or, or_false, Nat.zero_add, Nat.add_zero, eq_self, Nat.reduceEqDiff, Nat.reduceLeDiff, Nat.reduceLT, Nat.reduceAdd, Nat.reduceSub, Nat.reduceMul, LM_out hL, R303 hL h10' (show n < 31 by omega), nI_leP (show 2 ^ n < 2147483648 by omega) (show i < 2147483648 by omega), show (2 ^ n ≤ i) = False from eq_false (by omega), nI_inP (show i < 65536 by omega) (by decide), nI_ix (show i < 2147483648 by omega), hw, f1, nI_1, nI_inP (show fk E i + 1 < 402 by omega) (by decide), nI_ix (show fk E i + 1 < 2147483648 by omega), g1]
    refine L324_24 hL hX h10 hE kk j (i + 1) _ (by omega) (fun k hk => ?_) (fun o k ho => ?_)
    · rw [ct]
      by_cases e : fk E i + 1 = k
      · simp only [uI_at, true_and, and_true, false_and, and_false, true_implies, false_implies, implies_true, not_true_eq_false, not_false_eq_true, ne_eq, if_true, if_false, Bool.and_true, Bool.true_and, decide_true, decide_false, reduceIte, reduceCtorEq, Bool.and_self, Bool.and_eq_true, decide_eq_true_eq, and_self, true_or, or_true, false_or, or_false, Nat.zero_add, Nat.add_zero, eq_self, Nat.reduceEqDiff, Nat.reduceLeDiff, Nat.reduceLT, Nat.reduceAdd, Nat.reduceSub, Nat.reduceMul, e, if_true, decide_true]
        exact congrArg (fun z => nI (z + 1)) (ct_congr (fun d _ => decide_eq_decide.mpr (by omega)))
      · have e' : ¬ k = fk E i + 1 := fun h => e h.symm
        simp only [uI_at, true_and, and_true, false_and, and_false, true_implies, false_implies, implies_true, not_true_eq_false, not_false_eq_true, ne_eq, if_true, if_false, Bool.and_true, Bool.true_and, decide_true, decide_false, reduceIte, reduceCtorEq, Bool.and_self, Bool.and_eq_true, decide_eq_true_eq, and_self, true_or, or_true, false_or, or_false, Nat.zero_add, Nat.add_zero, eq_self, Nat.reduceEqDiff, Nat.reduceLeDiff, Nat.reduceLT, Nat.reduceAdd, Nat.reduceSub, Nat.reduceMul, e, e', and_false, if_false, decide_false, Nat.add_zero]
        exact h1 k hk
    · rw [uI_at, if_neg (fun e => ho.2.2 e.1)]
      exact h2 o k ho
theorem L324_61 {I0 : xI} (hL : LM S R) (hE : EB E n)
    (kk : ∀ I, (∀ k, k < 402 → I 357 k = nI (ct (fun d => decide (fk E d < k)) (2 ^ n))) → (∀ o k, oX o → I o k = I0 o k) → xRun xT 324 91 [(0, .ref 200)] [] (S, I, J, D, R) b Q) :
    ∀ (j i : Nat) (I : xI), i + j = 402 → 0 < i → (∀ k, k < 402 → I 357 k = nI (if k < i then ct (fun d => decide (fk E d < k)) (2 ^ n) else ct (fun d => decide (fk E d + 1 = k)) (2 ^ n))) → (∀ o k, oX o → I o k = I0 o k) → xRun xT 324 61 [(0, .ref 200), (1, .int (nI i))] [] (S, I, J, D, R) b Q
  | 0, i, I, hi, h0, h1, h2 => by
    have e : i = 402 := by omega
    subst e
    rw [e324_61]
    simp only [B324_61, xSeq, i_push, i_load, i_iload, i_lload, i_dload, i_aload, i_istore, i_astore, i_lstore, i_dstore, i_iinc, i_ii, i_iiz, i_ll, i_llz, i_lli, i_li, i_i, i_l, i_i2l, i_l2i, i_dup, i_dup2, i_dup2w, i_dupx1, i_pop, i_pop2, i_goto, i_ifc, i_icmp, i_getI, i_getL, i_getR, i_putI, i_putZ, i_putL, i_putR, i_aldI, i_aldB, i_aldL, i_aldD, i_astI, i_astL, i_astD, i_alen, i_ret, i_iret, i_zret, i_lret, i_fret, i_dret, i_aret, i_invS0, i_invV0, i_m2, i_m1, i_ml, i_obj, lk, lkp, stf1, stf2, Value.category, rV, xTo, lv_args, xCk, xCat, xRc, xAk, hg_S, hg_I, hg_J, hg_D, hg_R, hs_I, hs_J, hs_D, hs_R, uI_at, uJ_at, uD_at, uR_at, List.take_succ_cons, List.take_zero, List.drop_succ_cons, List.drop_zero, List.reverse_cons, List.reverse_nil, List.nil_append, List.cons_append, List.map_cons, List.map_nil, List.sum_cons, List.sum_nil, List.length_cons, List.length_nil, Option.toList_some, Option.toList_none, true_and, and_true, false_and, and_false, true_implies, false_implies, implies_true, not_true_eq_false, not_false_eq_true, ne_eq, if_true, if_false, Bool.and_true, Bool.true_and, decide_true, decide_false, reduceIte, reduceCtorEq, Bool.and_self, Bool.and_eq_true, decide_eq_true_eq, and_self, true_or, or_true, false_or, or_false, Nat.zero_add, Nat.add_zero, eq_self, Nat.reduceEqDiff, Nat.reduceLeDiff, Nat.reduceLT, Nat.reduceAdd, Nat.reduceSub, Nat.reduceMul, LM_out hL, show ((402 : Int32) ≤ nI 402) = True from eq_true (by decide)]
    refine kk I (fun k hk => ?_) h2
    have := h1 k hk
    rw [if_pos hk] at this
    exact this
  | j + 1, i, I, hi, h0, h1, h2 => by
    have e0 : ((402 : Int32) ≤ nI i) = False := by rw [show (402 : Int32) = nI 402 from rfl, nI_leP (by decide) (show i < 2147483648 by omega)]; exact eq_false (by omega)
    have g1 := h1 i (by omega)
    rw [if_neg (Nat.lt_irrefl _)] at g1
    have g2 := h1 (i - 1) (by omega)
    rw [if_pos (by omega)] at g2
    have em : nI i - 1 = nI (i - 1) := by rw [show (1 : Int32) = nI 1 from rfl, nI_subn h0]
    have es : ct (fun d => decide (fk E d + 1 = i)) (2 ^ n) + ct (fun d => decide (fk E d < i - 1)) (2 ^ n) = ct (fun d => decide (fk E d < i)) (2 ^ n) := by
      obtain ⟨i', rfl⟩ : ∃ i', i = i' + 1 := ⟨i - 1, by omega⟩
      exact ct_step.symm
    rw [e324_61]
    simp only [B324_61, xSeq, i_push, i_load, i_iload, i_lload, i_dload, i_aload, i_istore, i_astore, i_lstore, i_dstore, i_iinc, i_ii, i_iiz, i_ll, i_llz, i_lli, i_li, i_i, i_l, i_i2l, i_l2i, i_dup, i_dup2, i_dup2w, i_dupx1, i_pop, i_pop2, i_goto, i_ifc, i_icmp, i_getI, i_getL, i_getR, i_putI, i_putZ, i_putL, i_putR, i_aldI, i_aldB, i_aldL, i_aldD, i_astI, i_astL, i_astD, i_alen, i_ret, i_iret, i_zret, i_lret, i_fret, i_dret, i_aret, i_invS0, i_invV0, i_m2, i_m1, i_ml, i_obj, lk, lkp, stf1, stf2, Value.category, rV, xTo, lv_args, xCk, xCat, xRc, xAk, hg_S, hg_I, hg_J, hg_D, hg_R, hs_I, hs_J, hs_D, hs_R, uI_at, uJ_at, uD_at, uR_at, List.take_succ_cons, List.take_zero, List.drop_succ_cons, List.drop_zero, List.reverse_cons, List.reverse_nil, List.nil_append, List.cons_append, List.map_cons, List.map_nil, List.sum_cons, List.sum_nil, List.length_cons, List.length_nil, Option.toList_some, Option.toList_none, true_and, and_true, false_and, and_false, true_implies, false_implies, implies_true, not_true_eq_false, not_false_eq_true, ne_eq, if_true, if_false, Bool.and_true, Bool.true_and, decide_true, decide_false, reduceIte, reduceCtorEq, Bool.and_self, Bool.and_eq_true, decide_eq_true_eq, and_self, true_or, or_true, false_or, or_false, Nat.zero_add, Nat.add_zero, eq_self, Nat.reduceEqDiff, Nat.reduceLeDiff, Nat.reduceLT, Nat.reduceAdd, Nat.reduceSub, Nat.reduceMul, LM_out hL, e0, nI_inP (show i < 402 by omega) (by decide), nI_ix (show i < 2147483648 by omega), em, nI_inP (show i - 1 < 402 by omega) (by decide), nI_ix (show i - 1 < 2147483648 by omega), g1, g2, nI_add, es, nI_1]
    refine L324_61 hL hE kk j (i + 1) _ (by omega) (by omega) (fun k hk => ?_) (fun o k ho => ?_)
    · by_cases e : k = i
      · subst e
        rw [uI_at, if_pos ⟨rfl, rfl⟩, if_pos (Nat.lt_succ_self k)]
      · rw [uI_at, if_neg (fun h => e h.2), h1 k hk]
        by_cases e2 : k < i
        · rw [if_pos e2, if_pos (by omega)]
        · rw [if_neg e2, if_neg (by omega)]
    · rw [uI_at, if_neg (fun e => ho.2.2 e.1)]
      exact h2 o k ho
/-- the order is laid, none is under a top -/
def OL (E : Nat → Int32) (n : Nat) (I0 I : xI) : Prop := (∀ c, c < 2 ^ n → I 355 (ps2 (fk E) (2 ^ n) c) = nI c) ∧ (∀ c, c < 2 ^ n → I 356 c = -1) ∧ ∀ o k, oX o → I o k = I0 o k
theorem L324_93 {I0 : xI} (hL : LM S R) (hX : XM n E I0) (h10 : I0 300 10 = nI n) (hE : EB E n)
    (kk : ∀ I, OL E n I0 I → Q (.ok none) (S, I, J, D, R) b) :
    ∀ (j i : Nat) (I : xI), i + j = 2 ^ n → (∀ k, k < 402 → I 357 k = nI (ct (fun d => decide (fk E d < k)) (2 ^ n) + ct (fun d => decide (fk E d = k)) i)) → (∀ c, c < i → I 355 (ps2 (fk E) (2 ^ n) c) = nI c) → (∀ c, c < i → I 356 c = -1) → (∀ o k, oX o → I o k = I0 o k) → xRun xT 324 93 [(0, .ref 200), (1, .int (nI i))] [] (S, I, J, D, R) b Q
  | 0, i, I, hi, h1, h3, h4, h2 => by
    have hp := pow16 hE.1
    have hn := hE.1
    have h10' : I 300 10 = nI n := (h2 _ _ (by decide)).trans h10
    have e : i = 2 ^ n := by omega
    subst e
    rw [e324_93]
    simp only [B324_93, xSeq, i_push, i_load, i_iload, i_lload, i_dload, i_aload, i_istore, i_astore, i_lstore, i_dstore, i_iinc, i_ii, i_iiz, i_ll, i_llz, i_lli, i_li, i_i, i_l, i_i2l, i_l2i, i_dup, i_dup2, i_dup2w, i_dupx1, i_pop, i_pop2, i_goto, i_ifc, i_icmp, i_getI, i_getL, i_getR, i_putI, i_putZ, i_putL, i_putR, i_aldI, i_aldB, i_aldL, i_aldD, i_astI, i_astL, i_astD, i_alen, i_ret, i_iret, i_zret, i_lret, i_fret, i_dret, i_aret, i_invS0, i_invV0, i_m2, i_m1, i_ml, i_obj, lk, lkp, stf1, stf2, Value.category, rV, xTo, lv_args, xCk, xCat, xRc, xAk, hg_S, hg_I, hg_J, hg_D, hg_R, hs_I, hs_J, hs_D, hs_R, uI_at, uJ_at, uD_at, uR_at, List.take_succ_cons, List.take_zero, List.drop_succ_cons, List.drop_zero, List.reverse_cons, List.reverse_nil, List.nil_append, List.cons_append, List.map_cons, List.map_nil, List.sum_cons, List.sum_nil, List.length_cons, List.length_nil, Option.toList_some, Option.toList_none, true_and, and_true, false_and, and_false, true_implies, false_implies, implies_true, not_true_eq_false, not_false_eq_true, ne_eq, if_true, if_false, Bool.and_true, Bool.true_and, decide_true, decide_false, reduceIte, reduceCtorEq, Bool.and_self, Bool.and_eq_true, decide_eq_true_eq, and_self, true_or, or_true, false_or, or_false, Nat.zero_add, Nat.add_zero, eq_self, Nat.reduceEqDiff, Nat.reduceLeDiff, Nat.reduceLT, Nat.reduceAdd, Nat.reduceSub, Nat.reduceMul, LM_out hL, R303 hL h10' (show n < 31 by omega), nI_leP (show 2 ^ n < 2147483648 by omega) (show 2 ^ n < 2147483648 by omega), Nat.le_refl, e324_154, B324_154]
    exact kk I ⟨h3, h4, h2⟩
  | j + 1, i, I, hi, h1, h3, h4, h2 => by
    have hp := pow16 hE.1
    have hn := hE.1
    have h10' : I 300 10 = nI n := (h2 _ _ (by decide)).trans h10
    have hc : i < 2 ^ n := by omega
    obtain ⟨f1, f2⟩ := fk_ok hE hc
    have hw : I 343 i = E i := (h2 _ _ (by decide)).trans (hX.2.2.2.2 i hc)
    have g1 := h1 (fk E i) (by omega)
    rw [← ps2_eq (show i ≤ 2 ^ n by omega)] at g1
    have hlt := ps2_lt (f := fk E) hc
    obtain ⟨z, hz⟩ : ∃ z, z = ps2 (fk E) (2 ^ n) i := ⟨_, rfl⟩
    rw [← hz] at g1 hlt
    rw [e324_93]
    simp only [B324_93, xSeq, i_push, i_load, i_iload, i_lload, i_dload, i_aload, i_istore, i_astore, i_lstore, i_dstore, i_iinc, i_ii, i_iiz, i_ll, i_llz, i_lli, i_li, i_i, i_l, i_i2l, i_l2i, i_dup, i_dup2, i_dup2w, i_dupx1, i_pop, i_pop2, i_goto, i_ifc, i_icmp, i_getI, i_getL, i_getR, i_putI, i_putZ, i_putL, i_putR, i_aldI, i_aldB, i_aldL, i_aldD, i_astI, i_astL, i_astD, i_alen, i_ret, i_iret, i_zret, i_lret, i_fret, i_dret, i_aret, i_invS0, i_invV0, i_m2, i_m1, i_ml, i_obj, lk, lkp, stf1, stf2, Value.category, rV, xTo, lv_args, xCk, xCat, xRc, xAk, hg_S, hg_I, hg_J, hg_D, hg_R, hs_I, hs_J, hs_D, hs_R, uI_at, uJ_at, uD_at, uR_at, List.take_succ_cons, List.take_zero, List.drop_succ_cons, List.drop_zero, List.reverse_cons, List.reverse_nil, List.nil_append, List.cons_append, List.map_cons, List.map_nil, List.sum_cons, List.sum_nil, List.length_cons, List.length_nil, Option.toList_some, Option.toList_none, true_and, and_true, false_and, and_false, true_implies, false_implies, implies_true, not_true_eq_false, not_false_eq_true, ne_eq, if_true, if_false, Bool.and_true, Bool.true_and, decide_true, decide_false, reduceIte, reduceCtorEq, Bool.and_self, Bool.and_eq_true, decide_eq_true_eq, and_self, true_or, or_true, false_or, or_false, Nat.zero_add, Nat.add_zero, eq_self, Nat.reduceEqDiff, Nat.reduceLeDiff, Nat.reduceLT, Nat.reduceAdd, Nat.reduceSub, Nat.reduceMul, LM_out hL, R303 hL h10' (show n < 31 by omega), nI_leP (show 2 ^ n < 2147483648 by omega) (show i < 2147483648 by omega), show (2 ^ n ≤ i) = False from eq_false (by omega), nI_inP (show i < 65536 by omega) (by decide), nI_ix (show i < 2147483648 by omega), hw, f1, nI_1, nI_inP (show fk E i < 402 by omega) (by decide), nI_ix (show fk E i < 2147483648 by omega), g1, nI_inP (show z < 65536 by omega) (by decide), nI_ix (show z < 2147483648 by omega)]
    refine L324_93 hL hX h10 hE kk j (i + 1) _ (by omega) (fun k hk => ?_) (fun c hc2 => ?_) (fun c hc2 => ?_) (fun o k ho => ?_)
    · rw [uI_at, if_neg (fun e => absurd e.1 (by decide)), ct]
      by_cases e : fk E i = k
      · subst e
        rw [uI_at, if_pos ⟨rfl, rfl⟩, if_pos (decide_eq_true rfl), hz, ps2_eq (show i ≤ 2 ^ n by omega)]
        rfl
      · rw [uI_at, if_neg (fun h => e h.2.symm), uI_at, if_neg (fun e => absurd e.1 (by decide)), if_neg (by rw [decide_eq_false e]; decide), Nat.add_zero]
        exact h1 k hk
    · rw [uI_at, if_neg (fun e => absurd e.1 (by decide)), uI_at, if_neg (fun e => absurd e.1 (by decide)), uI_at]
      by_cases e : c = i
      · subst e
        rw [if_pos ⟨rfl, hz.symm⟩]
      · rw [if_neg (fun h => e (ps2_inj (show c < 2 ^ n by omega) hc (h.2.trans hz)))]
        exact h3 c (by omega)
    · rw [uI_at]
      by_cases e : c = i
      · subst e
        rw [if_pos ⟨rfl, rfl⟩]
      · rw [if_neg (fun h => e h.2), uI_at, if_neg (fun e => absurd e.1 (by decide)), uI_at, if_neg (fun e => absurd e.1 (by decide))]
        exact h4 c (by omega)
    · rw [uI_at, if_neg (fun e => ho.2.1 e.1), uI_at, if_neg (fun e => ho.2.2 e.1), uI_at, if_neg (fun e => ho.1 e.1)]
      exact h2 o k ho
theorem L324 (hL : LM S R) (hX : XM n E I) (h10 : I 300 10 = nI n) (hE : EB E n) (kk : ∀ I', OL E n I I' → Q (.ok none) (S, I', J, D, R) b) : xRun xT 324 0 [(0, .ref 200)] [] (S, I, J, D, R) b Q := by
  rw [e324_0]
  simp only [B324_0, xSeq, i_push, i_load, i_iload, i_lload, i_dload, i_aload, i_istore, i_astore, i_lstore, i_dstore, i_iinc, i_ii, i_iiz, i_ll, i_llz, i_lli, i_li, i_i, i_l, i_i2l, i_l2i, i_dup, i_dup2, i_dup2w, i_dupx1, i_pop, i_pop2, i_goto, i_ifc, i_icmp, i_getI, i_getL, i_getR, i_putI, i_putZ, i_putL, i_putR, i_aldI, i_aldB, i_aldL, i_aldD, i_astI, i_astL, i_astD, i_alen, i_ret, i_iret, i_zret, i_lret, i_fret, i_dret, i_aret, i_invS0, i_invV0, i_m2, i_m1, i_ml, i_obj, lk, lkp, stf1, stf2, Value.category, rV, xTo, lv_args, xCk, xCat, xRc, xAk, hg_S, hg_I, hg_J, hg_D, hg_R, hs_I, hs_J, hs_D, hs_R, uI_at, uJ_at, uD_at, uR_at, List.take_succ_cons, List.take_zero, List.drop_succ_cons, List.drop_zero, List.reverse_cons, List.reverse_nil, List.nil_append, List.cons_append, List.map_cons, List.map_nil, List.sum_cons, List.sum_nil, List.length_cons, List.length_nil, Option.toList_some, Option.toList_none, true_and, and_true, false_and, and_false, true_implies, false_implies, implies_true, not_true_eq_false, not_false_eq_true, ne_eq, if_true, if_false, Bool.and_true, Bool.true_and, decide_true, decide_false, reduceIte, reduceCtorEq, Bool.and_self, Bool.and_eq_true, decide_eq_true_eq, and_self, true_or, or_true, false_or, or_false, Nat.zero_add, Nat.add_zero, eq_self, Nat.reduceEqDiff, Nat.reduceLeDiff, Nat.reduceLT, Nat.reduceAdd, Nat.reduceSub, Nat.reduceMul]
  refine L324_2 (I0 := I) hL (fun I1 a1 a2 => ?_) 402 0 I (by omega) (fun k hk => absurd hk (Nat.not_lt_zero _)) (fun _ _ _ => rfl)
  rw [e324_22]
  simp only [B324_22, xSeq, i_push, i_load, i_iload, i_lload, i_dload, i_aload, i_istore, i_astore, i_lstore, i_dstore, i_iinc, i_ii, i_iiz, i_ll, i_llz, i_lli, i_li, i_i, i_l, i_i2l, i_l2i, i_dup, i_dup2, i_dup2w, i_dupx1, i_pop, i_pop2, i_goto, i_ifc, i_icmp, i_getI, i_getL, i_getR, i_putI, i_putZ, i_putL, i_putR, i_aldI, i_aldB, i_aldL, i_aldD, i_astI, i_astL, i_astD, i_alen, i_ret, i_iret, i_zret, i_lret, i_fret, i_dret, i_aret, i_invS0, i_invV0, i_m2, i_m1, i_ml, i_obj, lk, lkp, stf1, stf2, Value.category, rV, xTo, lv_args, xCk, xCat, xRc, xAk, hg_S, hg_I, hg_J, hg_D, hg_R, hs_I, hs_J, hs_D, hs_R, uI_at, uJ_at, uD_at, uR_at, List.take_succ_cons, List.take_zero, List.drop_succ_cons, List.drop_zero, List.reverse_cons, List.reverse_nil, List.nil_append, List.cons_append, List.map_cons, List.map_nil, List.sum_cons, List.sum_nil, List.length_cons, List.length_nil, Option.toList_some, Option.toList_none, true_and, and_true, false_and, and_false, true_implies, false_implies, implies_true, not_true_eq_false, not_false_eq_true, ne_eq, if_true, if_false, Bool.and_true, Bool.true_and, decide_true, decide_false, reduceIte, reduceCtorEq, Bool.and_self, Bool.and_eq_true, decide_eq_true_eq, and_self, true_or, or_true, false_or, or_false, Nat.zero_add, Nat.add_zero, eq_self, Nat.reduceEqDiff, Nat.reduceLeDiff, Nat.reduceLT, Nat.reduceAdd, Nat.reduceSub, Nat.reduceMul]
  refine L324_24 (I0 := I) hL hX h10 hE (fun I2 b1 b2 => ?_) (2 ^ n) 0 I1 (by omega) (fun k hk => a1 k hk) a2
  rw [e324_59]
  simp only [B324_59, xSeq, i_push, i_load, i_iload, i_lload, i_dload, i_aload, i_istore, i_astore, i_lstore, i_dstore, i_iinc, i_ii, i_iiz, i_ll, i_llz, i_lli, i_li, i_i, i_l, i_i2l, i_l2i, i_dup, i_dup2, i_dup2w, i_dupx1, i_pop, i_pop2, i_goto, i_ifc, i_icmp, i_getI, i_getL, i_getR, i_putI, i_putZ, i_putL, i_putR, i_aldI, i_aldB, i_aldL, i_aldD, i_astI, i_astL, i_astD, i_alen, i_ret, i_iret, i_zret, i_lret, i_fret, i_dret, i_aret, i_invS0, i_invV0, i_m2, i_m1, i_ml, i_obj, lk, lkp, stf1, stf2, Value.category, rV, xTo, lv_args, xCk, xCat, xRc, xAk, hg_S, hg_I, hg_J, hg_D, hg_R, hs_I, hs_J, hs_D, hs_R, uI_at, uJ_at, uD_at, uR_at, List.take_succ_cons, List.take_zero, List.drop_succ_cons, List.drop_zero, List.reverse_cons, List.reverse_nil, List.nil_append, List.cons_append, List.map_cons, List.map_nil, List.sum_cons, List.sum_nil, List.length_cons, List.length_nil, Option.toList_some, Option.toList_none, true_and, and_true, false_and, and_false, true_implies, false_implies, implies_true, not_true_eq_false, not_false_eq_true, ne_eq, if_true, if_false, Bool.and_true, Bool.true_and, decide_true, decide_false, reduceIte, reduceCtorEq, Bool.and_self, Bool.and_eq_true, decide_eq_true_eq, and_self, true_or, or_true, false_or, or_false, Nat.zero_add, Nat.add_zero, eq_self, Nat.reduceEqDiff, Nat.reduceLeDiff, Nat.reduceLT, Nat.reduceAdd, Nat.reduceSub, Nat.reduceMul]
  have h0 : ct (fun d => decide (fk E d < 0)) (2 ^ n) = ct (fun d => decide (fk E d + 1 = 0)) (2 ^ n) := ct_congr (fun d _ => by
    rw [decide_eq_false (Nat.not_lt_zero _), decide_eq_false (by omega)])
  refine L324_61 (I0 := I) (n := n) (E := E) hL hE (fun I3 c1 c2 => ?_) 401 1 I2 (by omega) (by decide) (fun k hk => ?_) b2
  · rw [e324_91]
    simp only [B324_91, xSeq, i_push, i_load, i_iload, i_lload, i_dload, i_aload, i_istore, i_astore, i_lstore, i_dstore, i_iinc, i_ii, i_iiz, i_ll, i_llz, i_lli, i_li, i_i, i_l, i_i2l, i_l2i, i_dup, i_dup2, i_dup2w, i_dupx1, i_pop, i_pop2, i_goto, i_ifc, i_icmp, i_getI, i_getL, i_getR, i_putI, i_putZ, i_putL, i_putR, i_aldI, i_aldB, i_aldL, i_aldD, i_astI, i_astL, i_astD, i_alen, i_ret, i_iret, i_zret, i_lret, i_fret, i_dret, i_aret, i_invS0, i_invV0, i_m2, i_m1, i_ml, i_obj, lk, lkp, stf1, stf2, Value.category, rV, xTo, lv_args, xCk, xCat, xRc, xAk, hg_S, hg_I, hg_J, hg_D, hg_R, hs_I, hs_J, hs_D, hs_R, uI_at, uJ_at, uD_at, uR_at, List.take_succ_cons, List.take_zero, List.drop_succ_cons, List.drop_zero, List.reverse_cons, List.reverse_nil, List.nil_append, List.cons_append, List.map_cons, List.map_nil, List.sum_cons, List.sum_nil, List.length_cons, List.length_nil, Option.toList_some, Option.toList_none, true_and, and_true, false_and, and_false, true_implies, false_implies, implies_true, not_true_eq_false, not_false_eq_true, ne_eq, if_true, if_false, Bool.and_true, Bool.true_and, decide_true, decide_false, reduceIte, reduceCtorEq, Bool.and_self, Bool.and_eq_true, decide_eq_true_eq, and_self, true_or, or_true, false_or, or_false, Nat.zero_add, Nat.add_zero, eq_self, Nat.reduceEqDiff, Nat.reduceLeDiff, Nat.reduceLT, Nat.reduceAdd, Nat.reduceSub, Nat.reduceMul]
    exact L324_93 (I0 := I) hL hX h10 hE kk (2 ^ n) 0 I3 (by omega) (fun k hk => c1 k hk) (fun c hc => absurd hc (Nat.not_lt_zero _)) (fun c hc => absurd hc (Nat.not_lt_zero _)) c2
  · rw [b1 k hk]
    by_cases e : k < 1
    · rw [if_pos e, show k = 0 by omega, h0]
    · rw [if_neg e]
end
