/-! ===== probabilities ===== -/
section
variable {E : Nat → Int32} {n : Nat} {r : UInt64}
/-- a configuration's place among the weights -/
def ui (E : Nat → Int32) (n c : Nat) : Nat := eN E c - (lv E n).getD 0 0 / 17
theorem lv_min (hB : EB E n) {c : Nat} (hc : c < 2 ^ n) : (lv E n).getD 0 0 ≤ yL E n c := by
  have h1 := yL_ok hB hc
  have h2 : yL E n c ∈ lv E n := (fl_mem _ _ _).mpr ⟨h1.1, decide_eq_true (ct_pos.mpr ⟨c, hc, decide_eq_true rfl⟩)⟩
  obtain ⟨i, hi, he⟩ := List.getElem_of_mem h2
  have h3 := (lv_x hB hi).1
  rw [getD_lt hi, he] at h3
  exact h3
theorem ui_ok (hB : EB E n) {c : Nat} (hc : c < 2 ^ n) : E c - gE ((lv E n).getD 0 0) = nI (ui E n c) ∧ ui E n c < 289 := by
  have h0 := lv_min hB hc
  obtain ⟨h1, h2, h3, h4⟩ := yL_ok hB hc
  obtain ⟨-, -, h5, h6⟩ := eN_ok hB hc
  have h7 : (lv E n).getD 0 0 / 17 ≤ eN E c := by
    rw [← h2]
    exact Nat.div_le_div_right h0
  refine ⟨?_, by unfold ui; omega⟩
  unfold gE ui
  rw [h6, ← nI_subn h7]
  grind
def pb (E : Nat → Int32) (n : Nat) (r : UInt64) (c : Nat) : UInt64 := FP.ddiv (wP r (ui E n c)) (sA E n r (lv E n).length)
theorem pb_fb (hB : EB E n) (hr : gp 0 uo r) {c : Nat} : fb uo (pb E n r c) := fb_div (gp_fb (wP_gp hr _)) (sA_all hB hr) uo_pos rp_u (Nat.le_refl _)
variable {S : xS} {I : xI} {J : xJ} {D : xDb} {R : xR} {b : Nat × Nat} {Q : xQ} {x y : Nat}
theorem R110_5 (hL : LC S R) (hX : XL n E S I R) (hB : EB E n) (h : AB x y) (hD : ∀ k, k < 289 → D 139 k = wP (rtP x y) k) {c : Nat} (hc : c < 2 ^ n) : ∀ (j i : Nat), i + j = (lv E n).length → xRun xT 110 5 [(0, .ref 130), (1, .int (nI c)), (2, .double (sA E n (rtP x y) i)), (4, .int (nI i))] [] (S, I, J, D, R) b Q = Q (.ok (some (.double (pb E n (rtP x y) c)))) (S, I, J, D, R) b
  | 0, i, hi => by
    have hl := lv_len E n
    have hr := rtP_gp h
    have hp := pow16 hB.1
    have e : i = (lv E n).length := by omega
    obtain ⟨u1, u2⟩ := ui_ok hB hc
    rw [e110_5]
    simp only [B110_5, xSeq, i_push, i_load, i_iload, i_lload, i_dload, i_aload, i_istore, i_astore, i_lstore, i_dstore, i_iinc, i_ii, i_iiz, i_ll, i_llz, i_lli, i_li, i_i, i_l, i_i2l, i_l2i, i_dup, i_dup2, i_dup2w, i_dupx1, i_pop, i_pop2, i_goto, i_ifc, i_icmp, i_getI, i_getL, i_getR, i_putI, i_putZ, i_putL, i_putR, i_aldI, i_aldB, i_aldL, i_aldD, i_astI, i_astL, i_astD, i_alen, i_ret, i_iret, i_zret, i_lret, i_fret, i_dret, i_aret, i_invS0, i_invV0, i_m2, i_m1, i_ml, i_obj, lk, lkp, stf1, stf2, Value.category, rV, xTo, lv_args, xCk, xCat, xRc, xAk, hg_S, hg_I, hg_J, hg_D, hg_R, hs_I, hs_J, hs_D, hs_R, uI_at, uJ_at, uD_at, uR_at, List.take_succ_cons, List.take_zero, List.drop_succ_cons, List.drop_zero, List.reverse_cons, List.reverse_nil, List.nil_append, List.cons_append, List.map_cons, List.map_nil, List.sum_cons, List.sum_nil, List.length_cons, List.length_nil, Option.toList_some, Option.toList_none, true_and, and_true, false_and, and_false, true_implies, false_implies, implies_true, not_true_eq_false, not_false_eq_true, ne_eq, if_true, if_false, Bool.and_true, Bool.true_and, decide_true, decide_false, reduceIte, reduceCtorEq, Bool.and_self, Bool.and_eq_true, decide_eq_true_eq, and_self, true_or, or_true, false_or, or_false, Nat.zero_add, Nat.add_zero, eq_self, Nat.reduceEqDiff, Nat.reduceLeDiff, Nat.reduceLT, Nat.reduceAdd, Nat.reduceSub, Nat.reduceMul, LC_out hL, hX.2.2.2.2.2.1, e, nI_leP (show (lv E n).length < 2147483648 by omega) (show (lv E n).length < 2147483648 by omega), Nat.le_refl, e110_49, B110_49, LE_out hX.1, hX.2.2.2.2.1, nI_inP (show c < 65536 by omega) (by decide), nI_ix (show c < 2147483648 by omega), hX.2.2.2.2.2.2.2 c hc, u1, nI_inP u2 (by decide), nI_ix (show ui E n c < 2147483648 by omega), hD _ u2]
    rw [R108 (gp_cmp (sA_all hB hr) uo_pos) (fb_n (pb_fb (c := c) hB hr))]
    simp only [xSeq, i_push, i_load, i_iload, i_lload, i_dload, i_aload, i_istore, i_astore, i_lstore, i_dstore, i_iinc, i_ii, i_iiz, i_ll, i_llz, i_lli, i_li, i_i, i_l, i_i2l, i_l2i, i_dup, i_dup2, i_dup2w, i_dupx1, i_pop, i_pop2, i_goto, i_ifc, i_icmp, i_getI, i_getL, i_getR, i_putI, i_putZ, i_putL, i_putR, i_aldI, i_aldB, i_aldL, i_aldD, i_astI, i_astL, i_astD, i_alen, i_ret, i_iret, i_zret, i_lret, i_fret, i_dret, i_aret, i_invS0, i_invV0, i_m2, i_m1, i_ml, i_obj, lk, lkp, stf1, stf2, Value.category, rV, xTo, lv_args, xCk, xCat, xRc, xAk, hg_S, hg_I, hg_J, hg_D, hg_R, hs_I, hs_J, hs_D, hs_R, uI_at, uJ_at, uD_at, uR_at, List.take_succ_cons, List.take_zero, List.drop_succ_cons, List.drop_zero, List.reverse_cons, List.reverse_nil, List.nil_append, List.cons_append, List.map_cons, List.map_nil, List.sum_cons, List.sum_nil, List.length_cons, List.length_nil, Option.toList_some, Option.toList_none, true_and, and_true, false_and, and_false, true_implies, false_implies, implies_true, not_true_eq_false, not_false_eq_true, ne_eq, if_true, if_false, Bool.and_true, Bool.true_and, decide_true, decide_false, reduceIte, reduceCtorEq, Bool.and_self, Bool.and_eq_true, decide_eq_true_eq, and_self, true_or, or_true, false_or, or_false, Nat.zero_add, Nat.add_zero, eq_self, Nat.reduceEqDiff, Nat.reduceLeDiff, Nat.reduceLT, Nat.reduceAdd, Nat.reduceSub, Nat.reduceMul]
    rfl
  | j + 1, i, hi => by
    have hl := lv_len E n
    have hr := rtP_gp h
    have ih := R110_5 hL hX hB h hD hc j (i + 1) (by omega)
    have hi2 : i < (lv E n).length := by omega
    obtain ⟨g1, g2, g3⟩ := hX.2.2.2.2.2.2.1 i hi2
    obtain ⟨-, x2, x3⟩ := lv_x hB hi2
    have e1 : FP.dmul (FP.i2d (gN E n ((lv E n).getD i 0))) (wP (rtP x y) (xi (lv E n) i)) = wt E n (rtP x y) i := rfl
    have e5 : FP.dadd (sA E n (rtP x y) i) (wt E n (rtP x y) i) = sA E n (rtP x y) (i + 1) := rfl
    have n1 : isNaN64 (wt E n (rtP x y) i) = false := fb_n (gp_fb (wt_gp hB hr))
    have n5 : isNaN64 (sA E n (rtP x y) (i + 1)) = false := sA_n hB hr (by omega)
    rw [e110_5]
    simp only [B110_5, xSeq, i_push, i_load, i_iload, i_lload, i_dload, i_aload, i_istore, i_astore, i_lstore, i_dstore, i_iinc, i_ii, i_iiz, i_ll, i_llz, i_lli, i_li, i_i, i_l, i_i2l, i_l2i, i_dup, i_dup2, i_dup2w, i_dupx1, i_pop, i_pop2, i_goto, i_ifc, i_icmp, i_getI, i_getL, i_getR, i_putI, i_putZ, i_putL, i_putR, i_aldI, i_aldB, i_aldL, i_aldD, i_astI, i_astL, i_astD, i_alen, i_ret, i_iret, i_zret, i_lret, i_fret, i_dret, i_aret, i_invS0, i_invV0, i_m2, i_m1, i_ml, i_obj, lk, lkp, stf1, stf2, Value.category, rV, xTo, lv_args, xCk, xCat, xRc, xAk, hg_S, hg_I, hg_J, hg_D, hg_R, hs_I, hs_J, hs_D, hs_R, uI_at, uJ_at, uD_at, uR_at, List.take_succ_cons, List.take_zero, List.drop_succ_cons, List.drop_zero, List.reverse_cons, List.reverse_nil, List.nil_append, List.cons_append, List.map_cons, List.map_nil, List.sum_cons, List.sum_nil, List.length_cons, List.length_nil, Option.toList_some, Option.toList_none, true_and, and_true, false_and, and_false, true_implies, false_implies, implies_true, not_true_eq_false, not_false_eq_true, ne_eq, if_true, if_false, Bool.and_true, Bool.true_and, decide_true, decide_false, reduceIte, reduceCtorEq, Bool.and_self, Bool.and_eq_true, decide_eq_true_eq, and_self, true_or, or_true, false_or, or_false, Nat.zero_add, Nat.add_zero, eq_self, Nat.reduceEqDiff, Nat.reduceLeDiff, Nat.reduceLT, Nat.reduceAdd, Nat.reduceSub, Nat.reduceMul, LC_out hL, LE_out hX.1, hX.2.2.2.2.1, hX.2.2.2.2.2.1, nI_leP (show (lv E n).length < 2147483648 by omega) (show i < 2147483648 by omega), show ((lv E n).length ≤ i) = False from eq_false (by omega), nI_inP (show i < 4913 by omega) (by decide), nI_ix (show i < 2147483648 by omega), g1, g3, x3, nI_inP x2 (by decide), nI_ix (show xi (lv E n) i < 2147483648 by omega), hD _ x2, i_i2d, i_dd, e1, al_eq n1, e5, al_eq n5, nI_1, ih]
theorem R110 (hL : LC S R) (hX : XL n E S I R) (hB : EB E n) (h : AB x y) (hD : ∀ k, k < 289 → D 139 k = wP (rtP x y) k) {c : Nat} (hc : c < 2 ^ n) : xRun xT 110 0 [(0, .ref 130), (1, .int (nI c))] [] (S, I, J, D, R) b Q = Q (.ok (some (.double (pb E n (rtP x y) c)))) (S, I, J, D, R) b := by
  have h5 := R110_5 (J := J) (b := b) (Q := Q) hL hX hB h hD hc (lv E n).length 0 (by omega)
  rw [nI_0] at h5
  rw [e110_0]
  simp only [B110_0, xSeq, i_push, i_load, i_iload, i_lload, i_dload, i_aload, i_istore, i_astore, i_lstore, i_dstore, i_iinc, i_ii, i_iiz, i_ll, i_llz, i_lli, i_li, i_i, i_l, i_i2l, i_l2i, i_dup, i_dup2, i_dup2w, i_dupx1, i_pop, i_pop2, i_goto, i_ifc, i_icmp, i_getI, i_getL, i_getR, i_putI, i_putZ, i_putL, i_putR, i_aldI, i_aldB, i_aldL, i_aldD, i_astI, i_astL, i_astD, i_alen, i_ret, i_iret, i_zret, i_lret, i_fret, i_dret, i_aret, i_invS0, i_invV0, i_m2, i_m1, i_ml, i_obj, lk, lkp, stf1, stf2, Value.category, rV, xTo, lv_args, xCk, xCat, xRc, xAk, hg_S, hg_I, hg_J, hg_D, hg_R, hs_I, hs_J, hs_D, hs_R, uI_at, uJ_at, uD_at, uR_at, List.take_succ_cons, List.take_zero, List.drop_succ_cons, List.drop_zero, List.reverse_cons, List.reverse_nil, List.nil_append, List.cons_append, List.map_cons, List.map_nil, List.sum_cons, List.sum_nil, List.length_cons, List.length_nil, Option.toList_some, Option.toList_none, true_and, and_true, false_and, and_false, true_implies, false_implies, implies_true, not_true_eq_false, not_false_eq_true, ne_eq, if_true, if_false, Bool.and_true, Bool.true_and, decide_true, decide_false, reduceIte, reduceCtorEq, Bool.and_self, Bool.and_eq_true, decide_eq_true_eq, and_self, true_or, or_true, false_or, or_false, Nat.zero_add, Nat.add_zero, eq_self, Nat.reduceEqDiff, Nat.reduceLeDiff, Nat.reduceLT, Nat.reduceAdd, Nat.reduceSub, Nat.reduceMul]
  exact h5
end
