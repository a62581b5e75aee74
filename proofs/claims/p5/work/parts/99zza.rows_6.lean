/-! ===== the table's rows ===== -/
section
def k1000 : UInt64 := 4652007308841189376
theorem k1000_gp : gp (1000 * uo) (1000 * uo) k1000 := by
  have h := i2d_n (k := 1000) (by decide)
  have e : FP.i2d (nI 1000) = k1000 := by decide +kernel
  rw [e] at h
  exact h
variable {E : Nat → Int32} {n : Nat} {w : Int32}
def vA (E : Nat → Int32) (n y : Nat) (w : Int32) (a : Nat) : Int32 := FP.d2i (FP.dmul (fg E n (rtP a y) w) k1000)
theorem vA_n (hB : EB E n) {r : UInt64} (hr : gp (2 ^ 1067) uo r) (hp : PQ E n) : isNaN64 (FP.dmul (fg E n r w) k1000) = false := by
  have h := fg_fb (w := w) hB hr hp
  have h2 : fb (2 ^ 1610) (FP.dmul (fg E n r w) k1000) := fb_mul h (gp_fb k1000_gp) (rp_p (by decide) (by decide)) (by
    rw [← Nat.mul_assoc]
    exact Nat.mul_le_mul_right _ (by decide +kernel))
  exact fb_n h2
/-- characters before a row -/
def tl (E : Nat → Int32) (n y : Nat) (w : Int32) : Nat → Nat
  | 0 => 0
  | i + 1 => tl E n y w i + nch (nI (i + 1)) + 1 + nch (vA E n y w (i + 1)) + 1
theorem tl_le (y : Nat) : ∀ i, tl E n y w i ≤ 24 * i
  | 0 => Nat.le_refl _
  | i + 1 => by
    have h := tl_le y i
    have h1 := nch_bd (nI (i + 1))
    have h2 := nch_bd (vA E n y w (i + 1))
    rw [tl]
    omega
variable {S0 : xS} {I0 : xI} {J0 : xJ} {R0 : xR} {S : xS} {I : xI} {J : xJ} {D : xDb} {R : xR} {b : Nat × Nat} {Q : xQ} {y : Nat}
theorem OS_XL {f v cap cnt : Nat} (hL : LC S R) (h : OS S0 I0 J0 R0 f v cap cnt S I J R) (hX : XL n E S0 I0 R0) : XL n E S I R := by
  obtain ⟨x1, x2, x3, x4, x5, x6, x7, x8⟩ := hX
  obtain ⟨-, -, -, f1, f2, f3, f4⟩ := h
  refine ⟨?_, ?_, ?_, ?_, ?_, ?_, ?_, fun c hc => ?_⟩
  · unfold LE
    repeat' apply And.intro
    all_goals first
      | (rw [f2 _ _ (by decide) (by decide)]; simp only [LE_out x1])
      | (rw [f1 _ (by decide)]; simp only [LE_out x1])
  · rw [f3 _ _ (by decide) (by decide) (by decide)]; exact x2
  · rw [f3 _ _ (by decide) (by decide) (by decide)]; exact x3
  · rw [f3 _ _ (by decide) (by decide) (by decide)]; exact x4
  · rw [f3 _ _ (by decide) (by decide) (by decide)]; exact x5
  · rw [f3 _ _ (by decide) (by decide) (by decide)]; exact x6
  · intro i hi
    rw [f3 _ _ (by decide) (by decide) (by omega), f3 _ _ (by decide) (by decide) (by omega), f3 _ _ (by decide) (by decide) (by omega)]
    exact x7 i hi
  · rw [f3 _ _ (by decide) (by decide) (by omega)]; exact x8 c hc
theorem OM_XM {k : Nat} (h : OM I0 k I) (hX : XM n E I0) : XM n E I := by
  obtain ⟨x1, x2, x3, x4, x5⟩ := hX
  have f := h.2
  refine ⟨?_, ?_, ?_, ?_, fun c hc => ?_⟩
  · rw [f _ _ (by decide) (by decide)]; exact x1
  · rw [f _ _ (by decide) (by decide)]; exact x2
  · rw [f _ _ (by decide) (by decide)]; exact x3
  · intro i hi
    rw [f _ _ (by decide) (by omega), f _ _ (by decide) (by omega), f _ _ (by decide) (by omega)]
    exact x4 i hi
  · rw [f _ _ (by decide) (by omega)]; exact x5 c hc
theorem L190_31 (hL0 : LC S0 R0) (hT0 : S0 900800 = (107, 100)) (hO0 : S0 900801 = (107, 100)) (hX0 : XL n E S0 I0 R0) (hB : EB E n) (hp : PQ E n) (hw : rg w 0 2 = true) (hy : y ≤ 30) {F : Nat} (hF : F < 900000)
    (kk : ∀ S I J D R f v cap b, OS S0 I0 J0 R0 f v cap (tl E n y w (y - 1)) S I J R → Q (.ok (some (.int (nI (tl E n y w (y - 1)))))) (S, I, J, D, R) b) :
    ∀ (j a : Nat) (S : xS) (I : xI) (J : xJ) (D : xDb) (R : xR) (f v cap : Nat) (b : Nat × Nat), a + 1 + j = y → OS S0 I0 J0 R0 f v cap (tl E n y w a) S I J R → f + 4 * j ≤ F → 4 * j ≤ b.1 → 20000 * j ≤ b.2 → xRun xT 190 31 [(0, .ref 100), (1, .int w), (2, .int (nI y)), (3, .ref 130), (4, .int (nI (a + 1)))] [] (S, I, J, D, R) b Q
  | 0, a, S, I, J, D, R, f, v, cap, b, hj, h, hf, b1, b2 => by
    have hL : LC S R := LC_g hL0 h.2.2.2.1 h.2.2.2.2.1
    have e : a = y - 1 := by omega
    have e1 : (nI y ≤ nI (a + 1)) = True := by rw [nI_leP (by omega) (by omega)]; exact eq_true (by omega)
    have c3 := h.1.2.2.2.1
    rw [e] at h c3
    rw [e190_31]
    simp only [B190_31, xSeq, i_push, i_load, i_iload, i_lload, i_dload, i_aload, i_istore, i_astore, i_lstore, i_dstore, i_iinc, i_ii, i_iiz, i_ll, i_llz, i_lli, i_li, i_i, i_l, i_i2l, i_l2i, i_dup, i_dup2, i_dup2w, i_dupx1, i_pop, i_pop2, i_goto, i_ifc, i_icmp, i_getI, i_getL, i_getR, i_putI, i_putZ, i_putL, i_putR, i_aldI, i_aldB, i_aldL, i_aldD, i_astI, i_astL, i_astD, i_alen, i_ret, i_iret, i_zret, i_lret, i_fret, i_dret, i_aret, i_invS0, i_invV0, i_m2, i_m1, i_ml, i_obj, lk, lkp, stf1, stf2, Value.category, rV, xTo, lv_args, xCk, xCat, xRc, xAk, hg_S, hg_I, hg_J, hg_D, hg_R, hs_I, hs_J, hs_D, hs_R, uI_at, uJ_at, uD_at, uR_at, List.take_succ_cons, List.take_zero, List.drop_succ_cons, List.drop_zero, List.reverse_cons, List.reverse_nil, List.nil_append, List.cons_append, List.map_cons, List.map_nil, List.sum_cons, List.sum_nil, List.length_cons, List.length_nil, Option.toList_some, Option.toList_none, true_and, and_true, false_and, and_false, true_implies, false_implies, implies_true, not_true_eq_false, not_false_eq_true, ne_eq, if_true, if_false, Bool.and_true, Bool.true_and, decide_true, decide_false, reduceIte, reduceCtorEq, Bool.and_self, Bool.and_eq_true, decide_eq_true_eq, and_self, true_or, or_true, false_or, or_false, Nat.zero_add, Nat.add_zero, eq_self, Nat.reduceEqDiff, Nat.reduceLeDiff, Nat.reduceLT, Nat.reduceAdd, Nat.reduceSub, Nat.reduceMul, e1, LC_out hL, e190_94, B190_94, e32_0, B32_0, e33_0, B33_0, c3]
    exact kk S I J D R f v cap b h
  | j + 1, a, S, I, J, D, R, f, v, cap, b, hj, h, hf, b1, b2 => by
    have hL : LC S R := LC_g hL0 h.2.2.2.1 h.2.2.2.2.1
    have e1 : (nI y ≤ nI (a + 1)) = False := by rw [nI_leP (by omega) (by omega)]; exact eq_false (by omega)
    have hab : AB (a + 1) y := ⟨by omega, by omega, by omega⟩
    have ht := tl_le (E := E) (n := n) (w := w) y a
    have h1 := nch_bd (nI (a + 1))
    have h2 := nch_bd (vA E n y w (a + 1))
    have hnan := vA_n (w := w) hB (rtP_gl hab) hp
    have etl : tl E n y w (a + 1) = tl E n y w a + nch (nI (a + 1)) + 1 + nch (vA E n y w (a + 1)) + 1 := rfl
    have ev : FP.d2i (FP.dmul (fg E n (rtP (a + 1) y) w) k1000) = vA E n y w (a + 1) := rfl
    have nx := fun S I J D R f v cap b => L190_31 hL0 hT0 hO0 hX0 hB hp hw hy hF kk j (a + 1) S I J D R f v cap b (by omega)
    rw [etl] at nx
    have l109 := fun (S : xS) (I : xI) (J : xJ) (D : xDb) (R : xR) (b : Nat × Nat) (Q : xQ) hL hX kk => L109 (S := S) (I := I) (J := J) (D := D) (R := R) (b := b) (Q := Q) (x := a + 1) (y := y) hL hX hB hp hab hw kk
    obtain ⟨g, hg⟩ : ∃ g, g = fg E n (rtP (a + 1) y) w := ⟨_, rfl⟩
    obtain ⟨V, hV⟩ : ∃ V, V = vA E n y w (a + 1) := ⟨_, rfl⟩
    obtain ⟨T, hT⟩ : ∃ T, T = tl E n y w a := ⟨_, rfl⟩
    rw [← hg] at hnan ev
    simp only [← hg] at l109
    rw [← hV] at ev h2 nx
    rw [← hT] at h ht nx
    have ek : (4652007308841189376 : UInt64) = k1000 := rfl
    have b58 : (58 : Int32) = nI 58 := rfl
    have b59 : (59 : Int32) = nI 59 := rfl
    rw [e190_31]
    simp only [B190_31, xSeq, i_push, i_load, i_iload, i_lload, i_dload, i_aload, i_istore, i_astore, i_lstore, i_dstore, i_iinc, i_ii, i_iiz, i_ll, i_llz, i_lli, i_li, i_i, i_l, i_i2l, i_l2i, i_dup, i_dup2, i_dup2w, i_dupx1, i_pop, i_pop2, i_goto, i_ifc, i_icmp, i_getI, i_getL, i_getR, i_putI, i_putZ, i_putL, i_putR, i_aldI, i_aldB, i_aldL, i_aldD, i_astI, i_astL, i_astD, i_alen, i_ret, i_iret, i_zret, i_lret, i_fret, i_dret, i_aret, i_invS0, i_invV0, i_m2, i_m1, i_ml, i_obj, lk, lkp, stf1, stf2, Value.category, rV, xTo, lv_args, xCk, xCat, xRc, xAk, hg_S, hg_I, hg_J, hg_D, hg_R, hs_I, hs_J, hs_D, hs_R, uI_at, uJ_at, uD_at, uR_at, List.take_succ_cons, List.take_zero, List.drop_succ_cons, List.drop_zero, List.reverse_cons, List.reverse_nil, List.nil_append, List.cons_append, List.map_cons, List.map_nil, List.sum_cons, List.sum_nil, List.length_cons, List.length_nil, Option.toList_some, Option.toList_none, true_and, and_true, false_and, and_false, true_implies, false_implies, implies_true, not_true_eq_false, not_false_eq_true, ne_eq, if_true, if_false, Bool.and_true, Bool.true_and, decide_true, decide_false, reduceIte, reduceCtorEq, Bool.and_self, Bool.and_eq_true, decide_eq_true_eq, and_self, true_or, or_true, false_or, or_false, Nat.zero_add, Nat.add_zero, eq_self, Nat.reduceEqDiff, Nat.reduceLeDiff, Nat.reduceLT, Nat.reduceAdd, Nat.reduceSub, Nat.reduceMul, e1, LC_out hL, ek, b58, b59]
    refine w_invVA (mc := 1) (ms := 5000) (by omega) (by omega) rfl (by simp only [xSeq, i_push, i_load, i_iload, i_lload, i_dload, i_aload, i_istore, i_astore, i_lstore, i_dstore, i_iinc, i_ii, i_iiz, i_ll, i_llz, i_lli, i_li, i_i, i_l, i_i2l, i_l2i, i_dup, i_dup2, i_dup2w, i_dupx1, i_pop, i_pop2, i_goto, i_ifc, i_icmp, i_getI, i_getL, i_getR, i_putI, i_putZ, i_putL, i_putR, i_aldI, i_aldB, i_aldL, i_aldD, i_astI, i_astL, i_astD, i_alen, i_ret, i_iret, i_zret, i_lret, i_fret, i_dret, i_aret, i_invS0, i_invV0, i_m2, i_m1, i_ml, i_obj, lk, lkp, stf1, stf2, Value.category, rV, xTo, lv_args, xCk, xCat, xRc, xAk, hg_S, hg_I, hg_J, hg_D, hg_R, hs_I, hs_J, hs_D, hs_R, uI_at, uJ_at, uD_at, uR_at, List.take_succ_cons, List.take_zero, List.drop_succ_cons, List.drop_zero, List.reverse_cons, List.reverse_nil, List.nil_append, List.cons_append, List.map_cons, List.map_nil, List.sum_cons, List.sum_nil, List.length_cons, List.length_nil, Option.toList_some, Option.toList_none, true_and, and_true, false_and, and_false, true_implies, false_implies, implies_true, not_true_eq_false, not_false_eq_true, ne_eq, if_true, if_false, Bool.and_true, Bool.true_and, decide_true, decide_false, reduceIte, reduceCtorEq, Bool.and_self, Bool.and_eq_true, decide_eq_true_eq, and_self, true_or, or_true, false_or, or_false, Nat.zero_add, Nat.add_zero, eq_self, Nat.reduceEqDiff, Nat.reduceLeDiff, Nat.reduceLT, Nat.reduceAdd, Nat.reduceSub, Nat.reduceMul, LC_out hL]) ?_
    simp only [xSeq, i_push, i_load, i_iload, i_lload, i_dload, i_aload, i_istore, i_astore, i_lstore, i_dstore, i_iinc, i_ii, i_iiz, i_ll, i_llz, i_lli, i_li, i_i, i_l, i_i2l, i_l2i, i_dup, i_dup2, i_dup2w, i_dupx1, i_pop, i_pop2, i_goto, i_ifc, i_icmp, i_getI, i_getL, i_getR, i_putI, i_putZ, i_putL, i_putR, i_aldI, i_aldB, i_aldL, i_aldD, i_astI, i_astL, i_astD, i_alen, i_ret, i_iret, i_zret, i_lret, i_fret, i_dret, i_aret, i_invS0, i_invV0, i_m2, i_m1, i_ml, i_obj, lk, lkp, stf1, stf2, Value.category, rV, xTo, lv_args, xCk, xCat, xRc, xAk, hg_S, hg_I, hg_J, hg_D, hg_R, hs_I, hs_J, hs_D, hs_R, uI_at, uJ_at, uD_at, uR_at, List.take_succ_cons, List.take_zero, List.drop_succ_cons, List.drop_zero, List.reverse_cons, List.reverse_nil, List.nil_append, List.cons_append, List.map_cons, List.map_nil, List.sum_cons, List.sum_nil, List.length_cons, List.length_nil, Option.toList_some, Option.toList_none, true_and, and_true, false_and, and_false, true_implies, false_implies, implies_true, not_true_eq_false, not_false_eq_true, ne_eq, if_true, if_false, Bool.and_true, Bool.true_and, decide_true, decide_false, reduceIte, reduceCtorEq, Bool.and_self, Bool.and_eq_true, decide_eq_true_eq, and_self, true_or, or_true, false_or, or_false, Nat.zero_add, Nat.add_zero, eq_self, Nat.reduceEqDiff, Nat.reduceLeDiff, Nat.reduceLT, Nat.reduceAdd, Nat.reduceSub, Nat.reduceMul]
    refine L28 hL0 hT0 hO0 h (by omega) (by omega) (by decide) (by decide) (fun S1 I1 J1 D1 R1 f1 v1 cap1 b1' h1' hf1 => ?_)
    have hL1 : LC S1 R1 := LC_g hL0 h1'.2.2.2.1 h1'.2.2.2.2.1
    simp only [xSeq, i_push, i_load, i_iload, i_lload, i_dload, i_aload, i_istore, i_astore, i_lstore, i_dstore, i_iinc, i_ii, i_iiz, i_ll, i_llz, i_lli, i_li, i_i, i_l, i_i2l, i_l2i, i_dup, i_dup2, i_dup2w, i_dupx1, i_pop, i_pop2, i_goto, i_ifc, i_icmp, i_getI, i_getL, i_getR, i_putI, i_putZ, i_putL, i_putR, i_aldI, i_aldB, i_aldL, i_aldD, i_astI, i_astL, i_astD, i_alen, i_ret, i_iret, i_zret, i_lret, i_fret, i_dret, i_aret, i_invS0, i_invV0, i_m2, i_m1, i_ml, i_obj, lk, lkp, stf1, stf2, Value.category, rV, xTo, lv_args, xCk, xCat, xRc, xAk, hg_S, hg_I, hg_J, hg_D, hg_R, hs_I, hs_J, hs_D, hs_R, uI_at, uJ_at, uD_at, uR_at, List.take_succ_cons, List.take_zero, List.drop_succ_cons, List.drop_zero, List.reverse_cons, List.reverse_nil, List.nil_append, List.cons_append, List.map_cons, List.map_nil, List.sum_cons, List.sum_nil, List.length_cons, List.length_nil, Option.toList_some, Option.toList_none, true_and, and_true, false_and, and_false, true_implies, false_implies, implies_true, not_true_eq_false, not_false_eq_true, ne_eq, if_true, if_false, Bool.and_true, Bool.true_and, decide_true, decide_false, reduceIte, reduceCtorEq, Bool.and_self, Bool.and_eq_true, decide_eq_true_eq, and_self, true_or, or_true, false_or, or_false, Nat.zero_add, Nat.add_zero, eq_self, Nat.reduceEqDiff, Nat.reduceLeDiff, Nat.reduceLT, Nat.reduceAdd, Nat.reduceSub, Nat.reduceMul, LC_out hL1]
    refine w_invVA (mc := 1) (ms := 5000) (by show 1 ≤ b.1 - 1; omega) (by show 5000 ≤ b.2 - 5000; omega) rfl (by simp only [xSeq, i_push, i_load, i_iload, i_lload, i_dload, i_aload, i_istore, i_astore, i_lstore, i_dstore, i_iinc, i_ii, i_iiz, i_ll, i_llz, i_lli, i_li, i_i, i_l, i_i2l, i_l2i, i_dup, i_dup2, i_dup2w, i_dupx1, i_pop, i_pop2, i_goto, i_ifc, i_icmp, i_getI, i_getL, i_getR, i_putI, i_putZ, i_putL, i_putR, i_aldI, i_aldB, i_aldL, i_aldD, i_astI, i_astL, i_astD, i_alen, i_ret, i_iret, i_zret, i_lret, i_fret, i_dret, i_aret, i_invS0, i_invV0, i_m2, i_m1, i_ml, i_obj, lk, lkp, stf1, stf2, Value.category, rV, xTo, lv_args, xCk, xCat, xRc, xAk, hg_S, hg_I, hg_J, hg_D, hg_R, hs_I, hs_J, hs_D, hs_R, uI_at, uJ_at, uD_at, uR_at, List.take_succ_cons, List.take_zero, List.drop_succ_cons, List.drop_zero, List.reverse_cons, List.reverse_nil, List.nil_append, List.cons_append, List.map_cons, List.map_nil, List.sum_cons, List.sum_nil, List.length_cons, List.length_nil, Option.toList_some, Option.toList_none, true_and, and_true, false_and, and_false, true_implies, false_implies, implies_true, not_true_eq_false, not_false_eq_true, ne_eq, if_true, if_false, Bool.and_true, Bool.true_and, decide_true, decide_false, reduceIte, reduceCtorEq, Bool.and_self, Bool.and_eq_true, decide_eq_true_eq, and_self, true_or, or_true, false_or, or_false, Nat.zero_add, Nat.add_zero, eq_self, Nat.reduceEqDiff, Nat.reduceLeDiff, Nat.reduceLT, Nat.reduceAdd, Nat.reduceSub, Nat.reduceMul, LC_out hL1]) ?_
    simp only [xSeq, i_push, i_load, i_iload, i_lload, i_dload, i_aload, i_istore, i_astore, i_lstore, i_dstore, i_iinc, i_ii, i_iiz, i_ll, i_llz, i_lli, i_li, i_i, i_l, i_i2l, i_l2i, i_dup, i_dup2, i_dup2w, i_dupx1, i_pop, i_pop2, i_goto, i_ifc, i_icmp, i_getI, i_getL, i_getR, i_putI, i_putZ, i_putL, i_putR, i_aldI, i_aldB, i_aldL, i_aldD, i_astI, i_astL, i_astD, i_alen, i_ret, i_iret, i_zret, i_lret, i_fret, i_dret, i_aret, i_invS0, i_invV0, i_m2, i_m1, i_ml, i_obj, lk, lkp, stf1, stf2, Value.category, rV, xTo, lv_args, xCk, xCat, xRc, xAk, hg_S, hg_I, hg_J, hg_D, hg_R, hs_I, hs_J, hs_D, hs_R, uI_at, uJ_at, uD_at, uR_at, List.take_succ_cons, List.take_zero, List.drop_succ_cons, List.drop_zero, List.reverse_cons, List.reverse_nil, List.nil_append, List.cons_append, List.map_cons, List.map_nil, List.sum_cons, List.sum_nil, List.length_cons, List.length_nil, Option.toList_some, Option.toList_none, true_and, and_true, false_and, and_false, true_implies, false_implies, implies_true, not_true_eq_false, not_false_eq_true, ne_eq, if_true, if_false, Bool.and_true, Bool.true_and, decide_true, decide_false, reduceIte, reduceCtorEq, Bool.and_self, Bool.and_eq_true, decide_eq_true_eq, and_self, true_or, or_true, false_or, or_false, Nat.zero_add, Nat.add_zero, eq_self, Nat.reduceEqDiff, Nat.reduceLeDiff, Nat.reduceLT, Nat.reduceAdd, Nat.reduceSub, Nat.reduceMul]
    refine L25 hL0 h1' (by decide) (by omega) (by omega) (by decide) (by decide) (fun S2 I2 J2 D2 R2 f2 v2 cap2 b2' h2' hf2 => ?_)
    have hL2 : LC S2 R2 := LC_g hL0 h2'.2.2.2.1 h2'.2.2.2.2.1
    simp only [xSeq, i_push, i_load, i_iload, i_lload, i_dload, i_aload, i_istore, i_astore, i_lstore, i_dstore, i_iinc, i_ii, i_iiz, i_ll, i_llz, i_lli, i_li, i_i, i_l, i_i2l, i_l2i, i_dup, i_dup2, i_dup2w, i_dupx1, i_pop, i_pop2, i_goto, i_ifc, i_icmp, i_getI, i_getL, i_getR, i_putI, i_putZ, i_putL, i_putR, i_aldI, i_aldB, i_aldL, i_aldD, i_astI, i_astL, i_astD, i_alen, i_ret, i_iret, i_zret, i_lret, i_fret, i_dret, i_aret, i_invS0, i_invV0, i_m2, i_m1, i_ml, i_obj, lk, lkp, stf1, stf2, Value.category, rV, xTo, lv_args, xCk, xCat, xRc, xAk, hg_S, hg_I, hg_J, hg_D, hg_R, hs_I, hs_J, hs_D, hs_R, uI_at, uJ_at, uD_at, uR_at, List.take_succ_cons, List.take_zero, List.drop_succ_cons, List.drop_zero, List.reverse_cons, List.reverse_nil, List.nil_append, List.cons_append, List.map_cons, List.map_nil, List.sum_cons, List.sum_nil, List.length_cons, List.length_nil, Option.toList_some, Option.toList_none, true_and, and_true, false_and, and_false, true_implies, false_implies, implies_true, not_true_eq_false, not_false_eq_true, ne_eq, if_true, if_false, Bool.and_true, Bool.true_and, decide_true, decide_false, reduceIte, reduceCtorEq, Bool.and_self, Bool.and_eq_true, decide_eq_true_eq, and_self, true_or, or_true, false_or, or_false, Nat.zero_add, Nat.add_zero, eq_self, Nat.reduceEqDiff, Nat.reduceLeDiff, Nat.reduceLT, Nat.reduceAdd, Nat.reduceSub, Nat.reduceMul, LC_out hL2]
    refine l109 _ _ _ _ _ _ _ hL2 (OS_XL hL2 h2' hX0) (fun D3 _ => ?_)
    simp only [xSeq, i_push, i_load, i_iload, i_lload, i_dload, i_aload, i_istore, i_astore, i_lstore, i_dstore, i_iinc, i_ii, i_iiz, i_ll, i_llz, i_lli, i_li, i_i, i_l, i_i2l, i_l2i, i_dup, i_dup2, i_dup2w, i_dupx1, i_pop, i_pop2, i_goto, i_ifc, i_icmp, i_getI, i_getL, i_getR, i_putI, i_putZ, i_putL, i_putR, i_aldI, i_aldB, i_aldL, i_aldD, i_astI, i_astL, i_astD, i_alen, i_ret, i_iret, i_zret, i_lret, i_fret, i_dret, i_aret, i_invS0, i_invV0, i_m2, i_m1, i_ml, i_obj, lk, lkp, stf1, stf2, Value.category, rV, xTo, lv_args, xCk, xCat, xRc, xAk, hg_S, hg_I, hg_J, hg_D, hg_R, hs_I, hs_J, hs_D, hs_R, uI_at, uJ_at, uD_at, uR_at, List.take_succ_cons, List.take_zero, List.drop_succ_cons, List.drop_zero, List.reverse_cons, List.reverse_nil, List.nil_append, List.cons_append, List.map_cons, List.map_nil, List.sum_cons, List.sum_nil, List.length_cons, List.length_nil, Option.toList_some, Option.toList_none, true_and, and_true, false_and, and_false, true_implies, false_implies, implies_true, not_true_eq_false, not_false_eq_true, ne_eq, if_true, if_false, Bool.and_true, Bool.true_and, decide_true, decide_false, reduceIte, reduceCtorEq, Bool.and_self, Bool.and_eq_true, decide_eq_true_eq, and_self, true_or, or_true, false_or, or_false, Nat.zero_add, Nat.add_zero, eq_self, Nat.reduceEqDiff, Nat.reduceLeDiff, Nat.reduceLT, Nat.reduceAdd, Nat.reduceSub, Nat.reduceMul, i_dd, i_d2i, al_eq hnan, ev]
    refine w_invVA (mc := 1) (ms := 5000) (by show 1 ≤ b.1 - 1 - 1; omega) (by show 5000 ≤ b.2 - 5000 - 5000; omega) rfl (by simp only [xSeq, i_push, i_load, i_iload, i_lload, i_dload, i_aload, i_istore, i_astore, i_lstore, i_dstore, i_iinc, i_ii, i_iiz, i_ll, i_llz, i_lli, i_li, i_i, i_l, i_i2l, i_l2i, i_dup, i_dup2, i_dup2w, i_dupx1, i_pop, i_pop2, i_goto, i_ifc, i_icmp, i_getI, i_getL, i_getR, i_putI, i_putZ, i_putL, i_putR, i_aldI, i_aldB, i_aldL, i_aldD, i_astI, i_astL, i_astD, i_alen, i_ret, i_iret, i_zret, i_lret, i_fret, i_dret, i_aret, i_invS0, i_invV0, i_m2, i_m1, i_ml, i_obj, lk, lkp, stf1, stf2, Value.category, rV, xTo, lv_args, xCk, xCat, xRc, xAk, hg_S, hg_I, hg_J, hg_D, hg_R, hs_I, hs_J, hs_D, hs_R, uI_at, uJ_at, uD_at, uR_at, List.take_succ_cons, List.take_zero, List.drop_succ_cons, List.drop_zero, List.reverse_cons, List.reverse_nil, List.nil_append, List.cons_append, List.map_cons, List.map_nil, List.sum_cons, List.sum_nil, List.length_cons, List.length_nil, Option.toList_some, Option.toList_none, true_and, and_true, false_and, and_false, true_implies, false_implies, implies_true, not_true_eq_false, not_false_eq_true, ne_eq, if_true, if_false, Bool.and_true, Bool.true_and, decide_true, decide_false, reduceIte, reduceCtorEq, Bool.and_self, Bool.and_eq_true, decide_eq_true_eq, and_self, true_or, or_true, false_or, or_false, Nat.zero_add, Nat.add_zero, eq_self, Nat.reduceEqDiff, Nat.reduceLeDiff, Nat.reduceLT, Nat.reduceAdd, Nat.reduceSub, Nat.reduceMul, LC_out hL2]) ?_
    simp only [xSeq, i_push, i_load, i_iload, i_lload, i_dload, i_aload, i_istore, i_astore, i_lstore, i_dstore, i_iinc, i_ii, i_iiz, i_ll, i_llz, i_lli, i_li, i_i, i_l, i_i2l, i_l2i, i_dup, i_dup2, i_dup2w, i_dupx1, i_pop, i_pop2, i_goto, i_ifc, i_icmp, i_getI, i_getL, i_getR, i_putI, i_putZ, i_putL, i_putR, i_aldI, i_aldB, i_aldL, i_aldD, i_astI, i_astL, i_astD, i_alen, i_ret, i_iret, i_zret, i_lret, i_fret, i_dret, i_aret, i_invS0, i_invV0, i_m2, i_m1, i_ml, i_obj, lk, lkp, stf1, stf2, Value.category, rV, xTo, lv_args, xCk, xCat, xRc, xAk, hg_S, hg_I, hg_J, hg_D, hg_R, hs_I, hs_J, hs_D, hs_R, uI_at, uJ_at, uD_at, uR_at, List.take_succ_cons, List.take_zero, List.drop_succ_cons, List.drop_zero, List.reverse_cons, List.reverse_nil, List.nil_append, List.cons_append, List.map_cons, List.map_nil, List.sum_cons, List.sum_nil, List.length_cons, List.length_nil, Option.toList_some, Option.toList_none, true_and, and_true, false_and, and_false, true_implies, false_implies, implies_true, not_true_eq_false, not_false_eq_true, ne_eq, if_true, if_false, Bool.and_true, Bool.true_and, decide_true, decide_false, reduceIte, reduceCtorEq, Bool.and_self, Bool.and_eq_true, decide_eq_true_eq, and_self, true_or, or_true, false_or, or_false, Nat.zero_add, Nat.add_zero, eq_self, Nat.reduceEqDiff, Nat.reduceLeDiff, Nat.reduceLT, Nat.reduceAdd, Nat.reduceSub, Nat.reduceMul]
    refine L28 hL0 hT0 hO0 h2' (by omega) (by omega) (by decide) (by decide) (fun S4 I4 J4 D4 R4 f4 v4 cap4 b4' h4' hf4 => ?_)
    have hL4 : LC S4 R4 := LC_g hL0 h4'.2.2.2.1 h4'.2.2.2.2.1
    simp only [xSeq, i_push, i_load, i_iload, i_lload, i_dload, i_aload, i_istore, i_astore, i_lstore, i_dstore, i_iinc, i_ii, i_iiz, i_ll, i_llz, i_lli, i_li, i_i, i_l, i_i2l, i_l2i, i_dup, i_dup2, i_dup2w, i_dupx1, i_pop, i_pop2, i_goto, i_ifc, i_icmp, i_getI, i_getL, i_getR, i_putI, i_putZ, i_putL, i_putR, i_aldI, i_aldB, i_aldL, i_aldD, i_astI, i_astL, i_astD, i_alen, i_ret, i_iret, i_zret, i_lret, i_fret, i_dret, i_aret, i_invS0, i_invV0, i_m2, i_m1, i_ml, i_obj, lk, lkp, stf1, stf2, Value.category, rV, xTo, lv_args, xCk, xCat, xRc, xAk, hg_S, hg_I, hg_J, hg_D, hg_R, hs_I, hs_J, hs_D, hs_R, uI_at, uJ_at, uD_at, uR_at, List.take_succ_cons, List.take_zero, List.drop_succ_cons, List.drop_zero, List.reverse_cons, List.reverse_nil, List.nil_append, List.cons_append, List.map_cons, List.map_nil, List.sum_cons, List.sum_nil, List.length_cons, List.length_nil, Option.toList_some, Option.toList_none, true_and, and_true, false_and, and_false, true_implies, false_implies, implies_true, not_true_eq_false, not_false_eq_true, ne_eq, if_true, if_false, Bool.and_true, Bool.true_and, decide_true, decide_false, reduceIte, reduceCtorEq, Bool.and_self, Bool.and_eq_true, decide_eq_true_eq, and_self, true_or, or_true, false_or, or_false, Nat.zero_add, Nat.add_zero, eq_self, Nat.reduceEqDiff, Nat.reduceLeDiff, Nat.reduceLT, Nat.reduceAdd, Nat.reduceSub, Nat.reduceMul, LC_out hL4]
    refine w_invVA (mc := 1) (ms := 5000) (by show 1 ≤ b.1 - 1 - 1 - 1; omega) (by show 5000 ≤ b.2 - 5000 - 5000 - 5000; omega) rfl (by simp only [xSeq, i_push, i_load, i_iload, i_lload, i_dload, i_aload, i_istore, i_astore, i_lstore, i_dstore, i_iinc, i_ii, i_iiz, i_ll, i_llz, i_lli, i_li, i_i, i_l, i_i2l, i_l2i, i_dup, i_dup2, i_dup2w, i_dupx1, i_pop, i_pop2, i_goto, i_ifc, i_icmp, i_getI, i_getL, i_getR, i_putI, i_putZ, i_putL, i_putR, i_aldI, i_aldB, i_aldL, i_aldD, i_astI, i_astL, i_astD, i_alen, i_ret, i_iret, i_zret, i_lret, i_fret, i_dret, i_aret, i_invS0, i_invV0, i_m2, i_m1, i_ml, i_obj, lk, lkp, stf1, stf2, Value.category, rV, xTo, lv_args, xCk, xCat, xRc, xAk, hg_S, hg_I, hg_J, hg_D, hg_R, hs_I, hs_J, hs_D, hs_R, uI_at, uJ_at, uD_at, uR_at, List.take_succ_cons, List.take_zero, List.drop_succ_cons, List.drop_zero, List.reverse_cons, List.reverse_nil, List.nil_append, List.cons_append, List.map_cons, List.map_nil, List.sum_cons, List.sum_nil, List.length_cons, List.length_nil, Option.toList_some, Option.toList_none, true_and, and_true, false_and, and_false, true_implies, false_implies, implies_true, not_true_eq_false, not_false_eq_true, ne_eq, if_true, if_false, Bool.and_true, Bool.true_and, decide_true, decide_false, reduceIte, reduceCtorEq, Bool.and_self, Bool.and_eq_true, decide_eq_true_eq, and_self, true_or, or_true, false_or, or_false, Nat.zero_add, Nat.add_zero, eq_self, Nat.reduceEqDiff, Nat.reduceLeDiff, Nat.reduceLT, Nat.reduceAdd, Nat.reduceSub, Nat.reduceMul, LC_out hL4]) ?_
    simp only [xSeq, i_push, i_load, i_iload, i_lload, i_dload, i_aload, i_istore, i_astore, i_lstore, i_dstore, i_iinc, i_ii, i_iiz, i_ll, i_llz, i_lli, i_li, i_i, i_l, i_i2l, i_l2i, i_dup, i_dup2, i_dup2w, i_dupx1, i_pop, i_pop2, i_goto, i_ifc, i_icmp, i_getI, i_getL, i_getR, i_putI, i_putZ, i_putL, i_putR, i_aldI, i_aldB, i_aldL, i_aldD, i_astI, i_astL, i_astD, i_alen, i_ret, i_iret, i_zret, i_lret, i_fret, i_dret, i_aret, i_invS0, i_invV0, i_m2, i_m1, i_ml, i_obj, lk, lkp, stf1, stf2, Value.category, rV, xTo, lv_args, xCk, xCat, xRc, xAk, hg_S, hg_I, hg_J, hg_D, hg_R, hs_I, hs_J, hs_D, hs_R, uI_at, uJ_at, uD_at, uR_at, List.take_succ_cons, List.take_zero, List.drop_succ_cons, List.drop_zero, List.reverse_cons, List.reverse_nil, List.nil_append, List.cons_append, List.map_cons, List.map_nil, List.sum_cons, List.sum_nil, List.length_cons, List.length_nil, Option.toList_some, Option.toList_none, true_and, and_true, false_and, and_false, true_implies, false_implies, implies_true, not_true_eq_false, not_false_eq_true, ne_eq, if_true, if_false, Bool.and_true, Bool.true_and, decide_true, decide_false, reduceIte, reduceCtorEq, Bool.and_self, Bool.and_eq_true, decide_eq_true_eq, and_self, true_or, or_true, false_or, or_false, Nat.zero_add, Nat.add_zero, eq_self, Nat.reduceEqDiff, Nat.reduceLeDiff, Nat.reduceLT, Nat.reduceAdd, Nat.reduceSub, Nat.reduceMul]
    refine L25 hL0 h4' (by decide) (by omega) (by omega) (by decide) (by decide) (fun S5 I5 J5 D5 R5 f5 v5 cap5 b5' h5' hf5 => ?_)
    simp only [xSeq, i_push, i_load, i_iload, i_lload, i_dload, i_aload, i_istore, i_astore, i_lstore, i_dstore, i_iinc, i_ii, i_iiz, i_ll, i_llz, i_lli, i_li, i_i, i_l, i_i2l, i_l2i, i_dup, i_dup2, i_dup2w, i_dupx1, i_pop, i_pop2, i_goto, i_ifc, i_icmp, i_getI, i_getL, i_getR, i_putI, i_putZ, i_putL, i_putR, i_aldI, i_aldB, i_aldL, i_aldD, i_astI, i_astL, i_astD, i_alen, i_ret, i_iret, i_zret, i_lret, i_fret, i_dret, i_aret, i_invS0, i_invV0, i_m2, i_m1, i_ml, i_obj, lk, lkp, stf1, stf2, Value.category, rV, xTo, lv_args, xCk, xCat, xRc, xAk, hg_S, hg_I, hg_J, hg_D, hg_R, hs_I, hs_J, hs_D, hs_R, uI_at, uJ_at, uD_at, uR_at, List.take_succ_cons, List.take_zero, List.drop_succ_cons, List.drop_zero, List.reverse_cons, List.reverse_nil, List.nil_append, List.cons_append, List.map_cons, List.map_nil, List.sum_cons, List.sum_nil, List.length_cons, List.length_nil, Option.toList_some, Option.toList_none, true_and, and_true, false_and, and_false, true_implies, false_implies, implies_true, not_true_eq_false, not_false_eq_true, ne_eq, if_true, if_false, Bool.and_true, Bool.true_and, decide_true, decide_false, reduceIte, reduceCtorEq, Bool.and_self, Bool.and_eq_true, decide_eq_true_eq, and_self, true_or, or_true, false_or, or_false, Nat.zero_add, Nat.add_zero, eq_self, Nat.reduceEqDiff, Nat.reduceLeDiff, Nat.reduceLT, Nat.reduceAdd, Nat.reduceSub, Nat.reduceMul, nI_1]
    exact nx _ _ _ _ _ _ _ _ _ h5' (by omega) (by show 4 * j ≤ b.1 - 1 - 1 - 1 - 1; omega) (by show 20000 * j ≤ b.2 - 5000 - 5000 - 5000 - 5000; omega)
theorem L328_65 (hL : LM S R) (hX0 : XM n E I0) (hB : EB E n) (hp : PQ E n) (hw : rg w 0 2 = true) (hy : y ≤ 30)
    (kk : ∀ I D, OM I0 (tl E n y w (y - 1)) I → Q (.ok (some (.int (nI (tl E n y w (y - 1)))))) (S, I, J, D, R) b) :
    ∀ (j a : Nat) (I : xI) (D : xDb), a + 1 + j = y → OM I0 (tl E n y w a) I → xRun xT 328 65 [(0, .ref 200), (1, .int w), (2, .int (nI y)), (3, .int (nI (a + 1)))] [] (S, I, J, D, R) b Q
  | 0, a, I, D, hj, h => by
    have e : a = y - 1 := by omega
    have e1 : (nI y ≤ nI (a + 1)) = True := by rw [nI_leP (by omega) (by omega)]; exact eq_true (by omega)
    rw [e] at h
    have c2 := h.1
    rw [e328_65]
    simp only [B328_65, xSeq, i_push, i_load, i_iload, i_lload, i_dload, i_aload, i_istore, i_astore, i_lstore, i_dstore, i_iinc, i_ii, i_iiz, i_ll, i_llz, i_lli, i_li, i_i, i_l, i_i2l, i_l2i, i_dup, i_dup2, i_dup2w, i_dupx1, i_pop, i_pop2, i_goto, i_ifc, i_icmp, i_getI, i_getL, i_getR, i_putI, i_putZ, i_putL, i_putR, i_aldI, i_aldB, i_aldL, i_aldD, i_astI, i_astL, i_astD, i_alen, i_ret, i_iret, i_zret, i_lret, i_fret, i_dret, i_aret, i_invS0, i_invV0, i_m2, i_m1, i_ml, i_obj, lk, lkp, stf1, stf2, Value.category, rV, xTo, lv_args, xCk, xCat, xRc, xAk, hg_S, hg_I, hg_J, hg_D, hg_R, hs_I, hs_J, hs_D, hs_R, uI_at, uJ_at, uD_at, uR_at, List.take_succ_cons, List.take_zero, List.drop_succ_cons, List.drop_zero, List.reverse_cons, List.reverse_nil, List.nil_append, List.cons_append, List.map_cons, List.map_nil, List.sum_cons, List.sum_nil, List.length_cons, List.length_nil, Option.toList_some, Option.toList_none, true_and, and_true, false_and, and_false, true_implies, false_implies, implies_true, not_true_eq_false, not_false_eq_true, ne_eq, if_true, if_false, Bool.and_true, Bool.true_and, decide_true, decide_false, reduceIte, reduceCtorEq, Bool.and_self, Bool.and_eq_true, decide_eq_true_eq, and_self, true_or, or_true, false_or, or_false, Nat.zero_add, Nat.add_zero, eq_self, Nat.reduceEqDiff, Nat.reduceLeDiff, Nat.reduceLT, Nat.reduceAdd, Nat.reduceSub, Nat.reduceMul, e1, LM_out hL, e328_109, B328_109, c2]
    exact kk I D h
  | j + 1, a, I, D, hj, h => by
    have e1 : (nI y ≤ nI (a + 1)) = False := by rw [nI_leP (by omega) (by omega)]; exact eq_false (by omega)
    have hab : AB (a + 1) y := ⟨by omega, by omega, by omega⟩
    have ht := tl_le (E := E) (n := n) (w := w) y a
    have h1 := nch_bd (nI (a + 1))
    have h2 := nch_bd (vA E n y w (a + 1))
    have hnan := vA_n (w := w) hB (rtP_gl hab) hp
    have etl : tl E n y w (a + 1) = tl E n y w a + nch (nI (a + 1)) + 1 + nch (vA E n y w (a + 1)) + 1 := rfl
    have ev : FP.d2i (FP.dmul (fg E n (rtP (a + 1) y) w) k1000) = vA E n y w (a + 1) := rfl
    have nx := fun I D => L328_65 hL hX0 hB hp hw hy kk j (a + 1) I D (by omega)
    rw [etl] at nx
    have l319 := fun (I : xI) (D : xDb) (b : Nat × Nat) (Q : xQ) hX kk => L319 (S := S) (I := I) (J := J) (D := D) (R := R) (b := b) (Q := Q) (x := a + 1) (y := y) hL hX hB hp hab hw kk
    obtain ⟨g, hg⟩ : ∃ g, g = fg E n (rtP (a + 1) y) w := ⟨_, rfl⟩
    obtain ⟨V, hV⟩ : ∃ V, V = vA E n y w (a + 1) := ⟨_, rfl⟩
    obtain ⟨T, hT⟩ : ∃ T, T = tl E n y w a := ⟨_, rfl⟩
    rw [← hg] at hnan ev
    simp only [← hg] at l319
    rw [← hV] at ev h2 nx
    rw [← hT] at h ht nx
    have ek : (4652007308841189376 : UInt64) = k1000 := rfl
    rw [e328_65]
    simp only [B328_65, xSeq, i_push, i_load, i_iload, i_lload, i_dload, i_aload, i_istore, i_astore, i_lstore, i_dstore, i_iinc, i_ii, i_iiz, i_ll, i_llz, i_lli, i_li, i_i, i_l, i_i2l, i_l2i, i_dup, i_dup2, i_dup2w, i_dupx1, i_pop, i_pop2, i_goto, i_ifc, i_icmp, i_getI, i_getL, i_getR, i_putI, i_putZ, i_putL, i_putR, i_aldI, i_aldB, i_aldL, i_aldD, i_astI, i_astL, i_astD, i_alen, i_ret, i_iret, i_zret, i_lret, i_fret, i_dret, i_aret, i_invS0, i_invV0, i_m2, i_m1, i_ml, i_obj, lk, lkp, stf1, stf2, Value.category, rV, xTo, lv_args, xCk, xCat, xRc, xAk, hg_S, hg_I, hg_J, hg_D, hg_R, hs_I, hs_J, hs_D, hs_R, uI_at, uJ_at, uD_at, uR_at, List.take_succ_cons, List.take_zero, List.drop_succ_cons, List.drop_zero, List.reverse_cons, List.reverse_nil, List.nil_append, List.cons_append, List.map_cons, List.map_nil, List.sum_cons, List.sum_nil, List.length_cons, List.length_nil, Option.toList_some, Option.toList_none, true_and, and_true, false_and, and_false, true_implies, false_implies, implies_true, not_true_eq_false, not_false_eq_true, ne_eq, if_true, if_false, Bool.and_true, Bool.true_and, decide_true, decide_false, reduceIte, reduceCtorEq, Bool.and_self, Bool.and_eq_true, decide_eq_true_eq, and_self, true_or, or_true, false_or, or_false, Nat.zero_add, Nat.add_zero, eq_self, Nat.reduceEqDiff, Nat.reduceLeDiff, Nat.reduceLT, Nat.reduceAdd, Nat.reduceSub, Nat.reduceMul, e1, LM_out hL, ek]
    refine L329 hL h (by omega) (fun I1 h1' => ?_)
    simp only [xSeq, i_push, i_load, i_iload, i_lload, i_dload, i_aload, i_istore, i_astore, i_lstore, i_dstore, i_iinc, i_ii, i_iiz, i_ll, i_llz, i_lli, i_li, i_i, i_l, i_i2l, i_l2i, i_dup, i_dup2, i_dup2w, i_dupx1, i_pop, i_pop2, i_goto, i_ifc, i_icmp, i_getI, i_getL, i_getR, i_putI, i_putZ, i_putL, i_putR, i_aldI, i_aldB, i_aldL, i_aldD, i_astI, i_astL, i_astD, i_alen, i_ret, i_iret, i_zret, i_lret, i_fret, i_dret, i_aret, i_invS0, i_invV0, i_m2, i_m1, i_ml, i_obj, lk, lkp, stf1, stf2, Value.category, rV, xTo, lv_args, xCk, xCat, xRc, xAk, hg_S, hg_I, hg_J, hg_D, hg_R, hs_I, hs_J, hs_D, hs_R, uI_at, uJ_at, uD_at, uR_at, List.take_succ_cons, List.take_zero, List.drop_succ_cons, List.drop_zero, List.reverse_cons, List.reverse_nil, List.nil_append, List.cons_append, List.map_cons, List.map_nil, List.sum_cons, List.sum_nil, List.length_cons, List.length_nil, Option.toList_some, Option.toList_none, true_and, and_true, false_and, and_false, true_implies, false_implies, implies_true, not_true_eq_false, not_false_eq_true, ne_eq, if_true, if_false, Bool.and_true, Bool.true_and, decide_true, decide_false, reduceIte, reduceCtorEq, Bool.and_self, Bool.and_eq_true, decide_eq_true_eq, and_self, true_or, or_true, false_or, or_false, Nat.zero_add, Nat.add_zero, eq_self, Nat.reduceEqDiff, Nat.reduceLeDiff, Nat.reduceLT, Nat.reduceAdd, Nat.reduceSub, Nat.reduceMul, LM_out hL]
    rw [R327 hL h1'.1 (by omega)]
    simp only [xSeq, i_push, i_load, i_iload, i_lload, i_dload, i_aload, i_istore, i_astore, i_lstore, i_dstore, i_iinc, i_ii, i_iiz, i_ll, i_llz, i_lli, i_li, i_i, i_l, i_i2l, i_l2i, i_dup, i_dup2, i_dup2w, i_dupx1, i_pop, i_pop2, i_goto, i_ifc, i_icmp, i_getI, i_getL, i_getR, i_putI, i_putZ, i_putL, i_putR, i_aldI, i_aldB, i_aldL, i_aldD, i_astI, i_astL, i_astD, i_alen, i_ret, i_iret, i_zret, i_lret, i_fret, i_dret, i_aret, i_invS0, i_invV0, i_m2, i_m1, i_ml, i_obj, lk, lkp, stf1, stf2, Value.category, rV, xTo, lv_args, xCk, xCat, xRc, xAk, hg_S, hg_I, hg_J, hg_D, hg_R, hs_I, hs_J, hs_D, hs_R, uI_at, uJ_at, uD_at, uR_at, List.take_succ_cons, List.take_zero, List.drop_succ_cons, List.drop_zero, List.reverse_cons, List.reverse_nil, List.nil_append, List.cons_append, List.map_cons, List.map_nil, List.sum_cons, List.sum_nil, List.length_cons, List.length_nil, Option.toList_some, Option.toList_none, true_and, and_true, false_and, and_false, true_implies, false_implies, implies_true, not_true_eq_false, not_false_eq_true, ne_eq, if_true, if_false, Bool.and_true, Bool.true_and, decide_true, decide_false, reduceIte, reduceCtorEq, Bool.and_self, Bool.and_eq_true, decide_eq_true_eq, and_self, true_or, or_true, false_or, or_false, Nat.zero_add, Nat.add_zero, eq_self, Nat.reduceEqDiff, Nat.reduceLeDiff, Nat.reduceLT, Nat.reduceAdd, Nat.reduceSub, Nat.reduceMul, LM_out hL]
    have h2' := OM_w (x := 58) h1'
    refine l319 _ _ _ _ (OM_XM h2' hX0) (fun D3 _ => ?_)
    simp only [xSeq, i_push, i_load, i_iload, i_lload, i_dload, i_aload, i_istore, i_astore, i_lstore, i_dstore, i_iinc, i_ii, i_iiz, i_ll, i_llz, i_lli, i_li, i_i, i_l, i_i2l, i_l2i, i_dup, i_dup2, i_dup2w, i_dupx1, i_pop, i_pop2, i_goto, i_ifc, i_icmp, i_getI, i_getL, i_getR, i_putI, i_putZ, i_putL, i_putR, i_aldI, i_aldB, i_aldL, i_aldD, i_astI, i_astL, i_astD, i_alen, i_ret, i_iret, i_zret, i_lret, i_fret, i_dret, i_aret, i_invS0, i_invV0, i_m2, i_m1, i_ml, i_obj, lk, lkp, stf1, stf2, Value.category, rV, xTo, lv_args, xCk, xCat, xRc, xAk, hg_S, hg_I, hg_J, hg_D, hg_R, hs_I, hs_J, hs_D, hs_R, uI_at, uJ_at, uD_at, uR_at, List.take_succ_cons, List.take_zero, List.drop_succ_cons, List.drop_zero, List.reverse_cons, List.reverse_nil, List.nil_append, List.cons_append, List.map_cons, List.map_nil, List.sum_cons, List.sum_nil, List.length_cons, List.length_nil, Option.toList_some, Option.toList_none, true_and, and_true, false_and, and_false, true_implies, false_implies, implies_true, not_true_eq_false, not_false_eq_true, ne_eq, if_true, if_false, Bool.and_true, Bool.true_and, decide_true, decide_false, reduceIte, reduceCtorEq, Bool.and_self, Bool.and_eq_true, decide_eq_true_eq, and_self, true_or, or_true, false_or, or_false, Nat.zero_add, Nat.add_zero, eq_self, Nat.reduceEqDiff, Nat.reduceLeDiff, Nat.reduceLT, Nat.reduceAdd, Nat.reduceSub, Nat.reduceMul, i_dd, i_d2i, al_eq hnan, ev, LM_out hL]
    refine L329 (x := V) hL h2' (by omega) (fun I4 h4' => ?_)
    simp only [xSeq, i_push, i_load, i_iload, i_lload, i_dload, i_aload, i_istore, i_astore, i_lstore, i_dstore, i_iinc, i_ii, i_iiz, i_ll, i_llz, i_lli, i_li, i_i, i_l, i_i2l, i_l2i, i_dup, i_dup2, i_dup2w, i_dupx1, i_pop, i_pop2, i_goto, i_ifc, i_icmp, i_getI, i_getL, i_getR, i_putI, i_putZ, i_putL, i_putR, i_aldI, i_aldB, i_aldL, i_aldD, i_astI, i_astL, i_astD, i_alen, i_ret, i_iret, i_zret, i_lret, i_fret, i_dret, i_aret, i_invS0, i_invV0, i_m2, i_m1, i_ml, i_obj, lk, lkp, stf1, stf2, Value.category, rV, xTo, lv_args, xCk, xCat, xRc, xAk, hg_S, hg_I, hg_J, hg_D, hg_R, hs_I, hs_J, hs_D, hs_R, uI_at, uJ_at, uD_at, uR_at, List.take_succ_cons, List.take_zero, List.drop_succ_cons, List.drop_zero, List.reverse_cons, List.reverse_nil, List.nil_append, List.cons_append, List.map_cons, List.map_nil, List.sum_cons, List.sum_nil, List.length_cons, List.length_nil, Option.toList_some, Option.toList_none, true_and, and_true, false_and, and_false, true_implies, false_implies, implies_true, not_true_eq_false, not_false_eq_true, ne_eq, if_true, if_false, Bool.and_true, Bool.true_and, decide_true, decide_false, reduceIte, reduceCtorEq, Bool.and_self, Bool.and_eq_true, decide_eq_true_eq, and_self, true_or, or_true, false_or, or_false, Nat.zero_add, Nat.add_zero, eq_self, Nat.reduceEqDiff, Nat.reduceLeDiff, Nat.reduceLT, Nat.reduceAdd, Nat.reduceSub, Nat.reduceMul, LM_out hL]
    rw [R327 hL h4'.1 (by omega)]
    simp only [xSeq, i_push, i_load, i_iload, i_lload, i_dload, i_aload, i_istore, i_astore, i_lstore, i_dstore, i_iinc, i_ii, i_iiz, i_ll, i_llz, i_lli, i_li, i_i, i_l, i_i2l, i_l2i, i_dup, i_dup2, i_dup2w, i_dupx1, i_pop, i_pop2, i_goto, i_ifc, i_icmp, i_getI, i_getL, i_getR, i_putI, i_putZ, i_putL, i_putR, i_aldI, i_aldB, i_aldL, i_aldD, i_astI, i_astL, i_astD, i_alen, i_ret, i_iret, i_zret, i_lret, i_fret, i_dret, i_aret, i_invS0, i_invV0, i_m2, i_m1, i_ml, i_obj, lk, lkp, stf1, stf2, Value.category, rV, xTo, lv_args, xCk, xCat, xRc, xAk, hg_S, hg_I, hg_J, hg_D, hg_R, hs_I, hs_J, hs_D, hs_R, uI_at, uJ_at, uD_at, uR_at, List.take_succ_cons, List.take_zero, List.drop_succ_cons, List.drop_zero, List.reverse_cons, List.reverse_nil, List.nil_append, List.cons_append, List.map_cons, List.map_nil, List.sum_cons, List.sum_nil, List.length_cons, List.length_nil, Option.toList_some, Option.toList_none, true_and, and_true, false_and, and_false, true_implies, false_implies, implies_true, not_true_eq_false, not_false_eq_true, ne_eq, if_true, if_false, Bool.and_true, Bool.true_and, decide_true, decide_false, reduceIte, reduceCtorEq, Bool.and_self, Bool.and_eq_true, decide_eq_true_eq, and_self, true_or, or_true, false_or, or_false, Nat.zero_add, Nat.add_zero, eq_self, Nat.reduceEqDiff, Nat.reduceLeDiff, Nat.reduceLT, Nat.reduceAdd, Nat.reduceSub, Nat.reduceMul, nI_1]
    exact nx _ _ (OM_w (x := 59) h4')
end
/-! ===== what both sides hold: any grid, any settings, any samples ===== -/
section
abbrev xGd : Type := Nat × Nat × Nat
def gn (g : xGd) : Nat := g.1 * g.2.1
def gll (g : xGd) : List (Nat × Nat) := bl g.1 g.2.1 g.2.2 (gn g)
def gm (g : xGd) : Nat := (gll g).length
def gf (g : xGd) : Nat → Nat := fE (gll g)
def gs (g : xGd) : Nat → Nat := sE (gll g)
def gdd (g : xGd) : Nat → Nat := dE (gll g)
def gb (g : xGd) : Nat → Nat → Nat := bE (gll g)
/-- rows, columns, edge as texts may give them -/
def GOK (g : xGd) : Prop := 2 ≤ g.1 ∧ g.1 ≤ 8 ∧ 2 ≤ g.2.1 ∧ g.2.1 ≤ 8 ∧ g.2.2 < 3
theorem GOK_gka {g : xGd} (h : GOK g) : gka g.1 g.2.1 g.2.2 = true := by
  obtain ⟨r, c, e⟩ := g
  obtain ⟨h1, h2, h3, h4, h5⟩ := h
  have h1 : 2 ≤ r := h1
  have h2 : r ≤ 8 := h2
  have h3 : 2 ≤ c := h3
  have h4 : c ≤ 8 := h4
  have h5 : e < 3 := h5
  show gka r c e = true
  rcases (show r = 2 ∨ r = 3 ∨ r = 4 ∨ r = 5 ∨ r = 6 ∨ r = 7 ∨ r = 8 by omega) with rfl | rfl | rfl | rfl | rfl | rfl | rfl
  · exact gka_2 c (by omega) h3 e h5
  · exact gka_3 c (by omega) h3 e h5
  · exact gka_4 c (by omega) h3 e h5
  · exact gka_5 c (by omega) h3 e h5
  · exact gka_6 c (by omega) h3 e h5
  · exact gka_7 c (by omega) h3 e h5
  · exact gka_8 c (by omega) h3 e h5
theorem GOK_gk {g : xGd} (h : GOK g) : gk (gn g) (gll g) = true ∧ gm g ≤ 2 * gn g ∧ 0 < gm g := by
  have h1 := GOK_gka h
  unfold gka at h1
  simp only [Bool.and_eq_true, decide_eq_true_eq] at h1
  exact ⟨h1.1.1, h1.1.2, h1.2⟩
theorem gG {g : xGd} (h : GOK g) : GR (gn g) (gm g) (gf g) (gs g) (gdd g) (gb g) ∧ GN (gn g) (gm g) (gf g) (gs g) (gdd g) (gb g) ∧ GI (gn g) (gf g) (gs g) (gdd g) (gb g) := gk_ok (GOK_gk h).1
theorem gn_bd {g : xGd} (h : GOK g) : 0 < gn g ∧ gn g ≤ 64 ∧ gm g ≤ 128 ∧ 0 < gm g := ⟨(gG h).1.1, (gG h).1.2.1, (gG h).1.2.2.1, (GOK_gk h).2.2⟩
/-- strengths, field, A, B, rule; spins, generator, attempts, flips; samples: how many, their configurations, their energies -/
abbrev xSt : Type := (Nat → Int32) × Int32 × Nat × Nat × Int32 × xG × Nat × (Nat → Nat) × (Nat → Int32)
def mkS (st : Nat → Int32) (F : Int32) (a b : Nat) (ru : Int32) (z : xG) (k : Nat) (c : Nat → Nat) (e : Nat → Int32) : xSt := (st, F, a, b, ru, z, k, c, e)
def stS (x : xSt) : Nat → Int32 := x.1
def stF (x : xSt) : Int32 := x.2.1
def stA (x : xSt) : Nat := x.2.2.1
def stB (x : xSt) : Nat := x.2.2.2.1
def stR (x : xSt) : Int32 := x.2.2.2.2.1
def stZ (x : xSt) : xG := x.2.2.2.2.2.1
def stK (x : xSt) : Nat := x.2.2.2.2.2.2.1
def stC (x : xSt) : Nat → Nat := x.2.2.2.2.2.2.2.1
def stE (x : xSt) : Nat → Int32 := x.2.2.2.2.2.2.2.2
section
variable (st : Nat → Int32) (F : Int32) (a b : Nat) (ru : Int32) (z : xG) (k : Nat) (c : Nat → Nat) (e : Nat → Int32)
theorem mk_S : stS (mkS st F a b ru z k c e) = st := rfl
theorem mk_F : stF (mkS st F a b ru z k c e) = F := rfl
theorem mk_A : stA (mkS st F a b ru z k c e) = a := rfl
theorem mk_B : stB (mkS st F a b ru z k c e) = b := rfl
theorem mk_R : stR (mkS st F a b ru z k c e) = ru := rfl
theorem mk_Z : stZ (mkS st F a b ru z k c e) = z := rfl
theorem mk_K : stK (mkS st F a b ru z k c e) = k := rfl
theorem mk_C : stC (mkS st F a b ru z k c e) = c := rfl
theorem mk_E : stE (mkS st F a b ru z k c e) = e := rfl
end
/-- the state with other spins, generator, counts -/
def toZ (x : xSt) (z : xG) : xSt := mkS (stS x) (stF x) (stA x) (stB x) (stR x) z (stK x) (stC x) (stE x)
/-- the state with another sample -/
def toK (x : xSt) (k : Nat) (c : Nat → Nat) (e : Nat → Int32) : xSt := mkS (stS x) (stF x) (stA x) (stB x) (stR x) (stZ x) k c e
/-- the energy, the change by a flip -/
def eG (g : xGd) (x : xSt) : Nat → Int32 := en (stF x) (stS x) (gn g) (gm g) (gf g) (gs g)
def dG (g : xGd) (x : xSt) : Nat → Nat → Int32 := dl (stF x) (stS x) (gf g) (gs g) (gdd g) (gb g)
/-- a state as it may be -/
def SOK (g : xGd) (N : Nat) (x : xSt) : Prop := (SB (stF x) (stS x) (gm g) ∧ 0 < stA x ∧ stA x < stB x ∧ stB x ≤ 99 ∧ (stR x = 0 ∨ stR x = 1 ∨ stR x = 2)) ∧ ((stZ x).1 < 2 ^ gn g ∧ (stZ x).2.1 < 2147483648 ∧ ∃ ta, (stZ x).2.2.1 = nI ta ∧ ta ≤ N) ∧ stK x ≤ 10000 ∧ ∀ i, i < stK x → stC x i < 2 ^ gn g ∧ -576 ≤ (stE x i).toInt ∧ (stE x i).toInt ≤ 576
/-- a byte as the lab holds it -/
def sB8 (v : Nat) : Int32 := if v < 128 then nI v else nI v - 256
def WF (N : Nat) (g : xGd) (x : xSt) (sv : Option xSt) (k : Nat) (by' : Nat → Nat) : Prop := GOK g ∧ SOK g N x ∧ (∀ y, sv = some y → SOK g N y) ∧ k ≤ 600 ∧ ∀ j, j < k → by' j < 256
/-- the lab's state at o -/
def CS (o m : Nat) (y : xSt) (I : xI) (J : xJ) : Prop := (I o 6 = stF y ∧ I o 7 = nI (stA y) ∧ I o 8 = nI (stB y) ∧ I o 9 = stR y ∧ I o 10 = (stZ y).2.2.1 ∧ I o 11 = (stZ y).2.2.2 ∧ J o 4 = lN (stZ y).1 ∧ J o 5 = lN (stZ y).2.1) ∧ (∀ k, k < m → I (o + 1) k = stS y k) ∧ (I (o + 2) 0 = nI (stK y) ∧ stK y ≤ 10000) ∧ ∀ i, i < stK y → J (o + 7) i = lN (stC y i) ∧ I (o + 8) i = stE y i
/-- rows for samples: none yet, or there -/
def SH (o p : Nat) (S : xS) (I : xI) (R : xR) : Prop := (R (o + 2) 1 = some (o + 3) ∧ S (o + 3) = (101, 0) ∧ R (o + 2) 2 = some (o + 4) ∧ S (o + 4) = (100, 0) ∧ S (o + 7) = (0, 0) ∧ S (o + 8) = (0, 0) ∧ I (o + 2) 0 = 0 ∧ 20002 ≤ p) ∨ (R (o + 2) 1 = some (o + 7) ∧ S (o + 7) = (101, 10000) ∧ R (o + 2) 2 = some (o + 8) ∧ S (o + 8) = (100, 10000))
/-- the table of the samples -/
def ST (p : Nat) (S : xS) (R : xR) : Prop := (R 112 3 = some 115 ∧ S 115 = (100, 0) ∧ S 119 = (0, 0) ∧ 32769 ≤ p) ∨ (R 112 3 = some 119 ∧ S 119 = (100, 32768))
/-- the rows of the enumeration -/
def SX (p : Nat) (S : xS) (I : xI) (R : xR) : Prop := (R 130 6 = some 131 ∧ S 131 = (104, 0) ∧ (∀ o, 151 ≤ o → o ≤ 156 → S o = (0, 0)) ∧ I 130 1 = 0 ∧ 200006 ≤ p) ∨ LE S R
/-- how often the output may grow yet -/
def gw (cap : Nat) : Nat := if cap < 32 then 5 else if cap < 64 then 4 else if cap < 128 then 3 else if cap < 256 then 2 else if cap < 512 then 1 else 0
/-- the output, and what lies behind it: all free from f on -/
def OU (f p : Nat) (S : xS) (I : xI) (R : xR) : Prop := (∃ v cap cnt, R 140 0 = some v ∧ S v = (103, cap) ∧ I 140 1 = 0 ∧ I 140 3 = nI cnt ∧ (v = 160 ∨ 402 ≤ v ∧ v < f) ∧ cnt ≤ cap ∧ 16 ≤ cap ∧ cap ≤ 2002 ∧ (∀ k, k < cap → bF (I v k)) ∧ 2003 * gw cap ≤ p) ∧ 402 ≤ f ∧ f ≤ 900000 ∧ ∀ o, f ≤ o → o < 900000 → S o = (0, 0)
/-- all rows -/
def RM (P f : Nat) (S : xS) (I : xI) (R : xR) : Prop := ∃ p1 p2 p3 p4 p5, p1 + p2 + p3 + p4 + p5 ≤ P ∧ SH 110 p1 S I R ∧ SH 120 p2 S I R ∧ ST p3 S R ∧ SX p4 S I R ∧ OU f p5 S I R
/-- the lab -/
def AC (g : xGd) (x : xSt) (sv : Option xSt) (k : Nat) (by' : Nat → Nat) (e1 e2 : Int32) (P f : Nat) (S : xS) (I : xI) (J : xJ) (R : xR) : Prop :=
  LC S R ∧ (CL I (gn g) (gm g) (gf g) (gs g) (gdd g) (gb g) ∧ I 102 0 = nI g.1 ∧ I 102 1 = nI g.2.1 ∧ J 102 4 = lN (aU (gn g))) ∧ CS 110 (gm g) x I J ∧
  (I 100 7 = (if sv.isSome = true then 1 else 0) ∧ ∀ y, sv = some y → CS 120 (gm g) y I J) ∧ (I 100 1 = nI k ∧ (∀ j, j < k → I 101 j = sB8 (by' j)) ∧ I 100 2 = e1 ∧ I 100 3 = e2) ∧
  (I 130 1 = 0 ∨ XL (gn g) (eG g x) S I R) ∧ RM P f S I R
/-- the model's state: in row o, its longs from j on, its samples from row p on -/
def MS (o j p n m : Nat) (y : xSt) (I : xI) (J : xJ) : Prop := (I o 2 = nI (stA y) ∧ I o 3 = nI (stB y) ∧ I o 4 = stF y ∧ I o 5 = stR y ∧ I o 6 = (stZ y).2.2.1 ∧ I o 7 = (stZ y).2.2.2 ∧ J 200 j = lN (stZ y).1 ∧ J 200 (j + 1) = lN (stZ y).2.1) ∧ (∀ k, k < m → I o (16 + k) = stS y k) ∧ (I o 9 = nI (stK y) ∧ stK y ≤ 10000) ∧ ∀ i, i < stK y → I p i = stE y i ∧ I (p + 1) i = mg n (stC y i) ∧ J (p + 2) i = lN (stC y i)
/-- the model -/
def AM (g : xGd) (x : xSt) (sv : Option xSt) (k : Nat) (by' : Nat → Nat) (e1 e2 : Int32) (S : xS) (I : xI) (J : xJ) (R : xR) : Prop :=
  LM S R ∧ (CM I (gn g) (gm g) (gf g) (gs g) (gdd g) (gb g) ∧ I 300 0 = nI g.1 ∧ I 300 1 = nI g.2.1 ∧ I 200 18 = nI g.2.2) ∧ MS 300 3 308 (gn g) (gm g) x I J ∧
  (I 200 7 = (if sv.isSome = true then 1 else 0) ∧ ∀ y, sv = some y → MS 302 5 311 (gn g) (gm g) y I J ∧ I 302 0 = nI g.1 ∧ I 302 1 = nI g.2.1 ∧ I 302 8 = nI (gm g) ∧ I 302 10 = nI (gn g)) ∧
  (I 200 21 = nI k ∧ (∀ j, j < k → I 320 j = nI (by' j)) ∧ I 200 22 = e1 ∧ I 200 23 = e2) ∧ (I 200 51 = 0 ∨ XM (gn g) (eG g x) I) ∧ ∃ u, I 200 59 = nI u ∧ u ≤ 800
end
/-! ===== frames of both sides: printed by a01.frame.py ===== -/
section
variable {g : xGd} {x x' : xSt} {sv : Option xSt} {k : Nat} {by' : Nat → Nat} {e1 e2 : Int32} {P f : Nat} {S S' : xS} {I I' : xI} {J J' : xJ} {R R' : xR}
theorem LC_e (h : LC S R) (hS : ∀ o, o < 200 → S' o = S o) (hR : ∀ o, o < 200 → R' o = R o) : LC S' R' := by
  unfold LC at *
  rw [hS 100 (by decide), hS 101 (by decide), hS 102 (by decide), hS 103 (by decide), hS 104 (by decide), hS 105 (by decide), hS 106 (by decide), hS 107 (by decide), hS 108 (by decide), hS 110 (by decide), hS 111 (by decide), hS 112 (by decide), hS 116 (by decide), hS 120 (by decide), hS 121 (by decide), hS 122 (by decide), hS 126 (by decide), hS 130 (by decide), hS 137 (by decide), hS 138 (by decide), hS 139 (by decide), hS 140 (by decide), hR 100 (by decide), hR 102 (by decide), hR 110 (by decide), hR 120 (by decide), hR 130 (by decide)]
  exact h
theorem LE_e (h : LE S R) (hS : ∀ o, o < 200 → S' o = S o) (hR : ∀ o, o < 200 → R' o = R o) : LE S' R' := by
  unfold LE at *
  rw [hS 151 (by decide), hS 152 (by decide), hS 153 (by decide), hS 154 (by decide), hS 155 (by decide), hS 156 (by decide), hR 130 (by decide)]
  exact h
theorem LM_e (h : LM S R) (hS : ∀ o, 200 ≤ o → o < 400 → S' o = S o) (hR : ∀ o, 200 ≤ o → o < 400 → R' o = R o) : LM S' R' := by
  unfold LM at *
  rw [hS 200 (by decide) (by decide), hS 300 (by decide) (by decide), hS 301 (by decide) (by decide), hS 302 (by decide) (by decide), hS 308 (by decide) (by decide), hS 309 (by decide) (by decide), hS 310 (by decide) (by decide), hS 311 (by decide) (by decide), hS 312 (by decide) (by decide), hS 313 (by decide) (by decide), hS 314 (by decide) (by decide), hS 315 (by decide) (by decide), hS 316 (by decide) (by decide), hS 317 (by decide) (by decide), hS 320 (by decide) (by decide), hS 334 (by decide) (by decide), hS 335 (by decide) (by decide), hS 340 (by decide) (by decide), hS 341 (by decide) (by decide), hS 342 (by decide) (by decide), hS 343 (by decide) (by decide), hS 344 (by decide) (by decide), hS 345 (by decide) (by decide), hS 346 (by decide) (by decide), hS 347 (by decide) (by decide), hS 348 (by decide) (by decide), hS 352 (by decide) (by decide), hS 353 (by decide) (by decide), hS 354 (by decide) (by decide), hS 355 (by decide) (by decide), hS 356 (by decide) (by decide), hS 357 (by decide) (by decide), hS 358 (by decide) (by decide), hR 200 (by decide) (by decide)]
  exact h
theorem CS_e {o m : Nat} {y : xSt} (h : CS o m y I J) (h0 : I' o = I o) (h1 : I' (o + 1) = I (o + 1)) (h2 : I' (o + 2) = I (o + 2)) (h8 : I' (o + 8) = I (o + 8)) (j0 : J' o = J o) (j7 : J' (o + 7) = J (o + 7)) : CS o m y I' J' := by
  unfold CS at *
  rw [h0, h1, h2, h8, j0, j7]
  exact h
theorem SH_e {o p : Nat} (h : SH o p S I R) (hs : ∀ a, a = o + 3 ∨ a = o + 4 ∨ a = o + 7 ∨ a = o + 8 → S' a = S a) (hr : R' (o + 2) = R (o + 2)) (hi : R (o + 2) 1 = some (o + 3) → I (o + 2) 0 = 0 → I' (o + 2) 0 = 0) : SH o p S' I' R' := by
  unfold SH at *
  rw [hs (o + 3) (by omega), hs (o + 4) (by omega), hs (o + 7) (by omega), hs (o + 8) (by omega), hr]
  rcases h with ⟨a1, a2, a3, a4, a5, a6, a7, a8⟩ | h
  · exact Or.inl ⟨a1, a2, a3, a4, a5, a6, hi a1 a7, a8⟩
  · exact Or.inr h
theorem ST_e {p : Nat} (h : ST p S R) (hS : ∀ o, o < 200 → S' o = S o) (hR : ∀ o, o < 200 → R' o = R o) : ST p S' R' := by
  unfold ST at *
  rw [hS 115 (by decide), hS 119 (by decide), hR 112 (by decide)]
  exact h
theorem SX_e {p : Nat} (h : SX p S I R) (hS : ∀ o, o < 200 → S' o = S o) (hR : ∀ o, o < 200 → R' o = R o) (hi : R 130 6 = some 131 → I 130 1 = 0 → I' 130 1 = 0) : SX p S' I' R' := by
  unfold SX at *
  rcases h with ⟨a1, a2, a3, a4, a5⟩ | h
  · left
    rw [hS 131 (by decide), hR 130 (by decide)]
    exact ⟨a1, a2, fun o h1 h2 => by rw [hS o (by omega)]; exact a3 o h1 h2, hi a1 a4, a5⟩
  · exact Or.inr (LE_e h hS hR)
theorem OU_e {p : Nat} (h : OU f p S I R) (hS : ∀ o, o < 200 → S' o = S o) (hS2 : ∀ o, 402 ≤ o → o < 900000 → S' o = S o) (hR : R' 140 = R 140) (hI : I' 140 = I 140) (hI1 : I' 160 = I 160) (hI2 : ∀ o, 402 ≤ o → o < 900000 → I' o = I o) : OU f p S' I' R' := by
  obtain ⟨⟨v, cap, cnt, a1, a2, a3, a4, a5, a6⟩, b1, b2, b3⟩ := h
  have ev : S' v = S v ∧ I' v = I v := by
    rcases a5 with rfl | a5
    · exact ⟨hS 160 (by decide), hI1⟩
    · exact ⟨hS2 v a5.1 (by omega), hI2 v a5.1 (by omega)⟩
  refine ⟨⟨v, cap, cnt, ?_, ?_, ?_, ?_, a5, ?_⟩, b1, b2, fun o h1 h2 => ?_⟩
  · rw [hR]; exact a1
  · rw [ev.1]; exact a2
  · rw [hI]; exact a3
  · rw [hI]; exact a4
  · rw [ev.2]; exact a6
  · rw [hS2 o (by omega) h2]; exact b3 o h1 h2
theorem XL_e {n : Nat} {E : Nat → Int32} (h : XL n E S I R) (hS : ∀ o, o < 200 → S' o = S o) (hR : ∀ o, o < 200 → R' o = R o) (h1 : ∀ j, 1 ≤ j → j ≤ 5 → I' 130 j = I 130 j) (h2 : I' 151 = I 151) (h3 : I' 154 = I 154) (h4 : I' 155 = I 155) (h5 : I' 156 = I 156) : XL n E S' I' R' := by
  unfold XL at *
  rw [h1 1 (by decide) (by decide), h1 2 (by decide) (by decide), h1 3 (by decide) (by decide), h1 4 (by decide) (by decide), h1 5 (by decide) (by decide), h2, h3, h4, h5]
  exact ⟨LE_e h.1 hS hR, h.2⟩
/-- what a call may change without a word -/
abbrev kp (o : Nat) : Prop := o ≠ 116 ∧ o ≠ 126 ∧ o ≠ 137 ∧ o ≠ 138 ∧ o ≠ 139 ∧ o ≠ 152 ∧ o ≠ 153
/-- .. and with one: the state's own rows -/
abbrev kq (o : Nat) : Prop := o ≠ 110 ∧ o ≠ 111 ∧ o ≠ 112 ∧ o ≠ 118 ∧ o ≠ 130
theorem AC_mk (h : AC g x sv k by' e1 e2 P f S I J R) (hS : ∀ o, o < 200 → S' o = S o) (hS2 : ∀ o, 402 ≤ o → o < 900000 → S' o = S o) (hR : ∀ o, o < 200 → R' o = R o)
    (hI : ∀ o, o < 200 → kp o → kq o → I' o = I o) (hI2 : ∀ o, 402 ≤ o → o < 900000 → I' o = I o) (hJ : ∀ o, o < 200 → o ≠ 110 → o ≠ 117 → J' o = J o)
    (h130 : ∀ j, j ≠ 1 → I' 130 j = I 130 j) (hx : I' 130 1 = 0 ∨ (I' 130 1 = I 130 1 ∧ eG g x' = eG g x)) (hc : CS 110 (gm g) x' I' J') (hk : stK x' = 0 ∨ R 112 1 = some 117) : AC g x' sv k by' e1 e2 P f S' I' J' R' := by
  obtain ⟨a1, ⟨a2, a3, a4, a5⟩, a6, ⟨a7, a8⟩, ⟨a9, a10, a11, a12⟩, a13, p1, p2, p3, p4, p5, q0, q1, q2, q3, q4, q5⟩ := h
  have i (o : Nat) (h1 : o < 200) (h2 : kp o) (h3 : kq o) := hI o h1 h2 h3
  refine ⟨LC_e a1 hS hR, ⟨?_, ?_, ?_, ?_⟩, hc, ⟨?_, fun y hy => ?_⟩, ⟨?_, ?_, ?_, ?_⟩, ?_, p1, p2, p3, p4, p5, q0, SH_e q1 (fun a ha => hS a (by omega)) (hR 112 (by decide)) (fun h1 h2 => ?_), SH_e q2 (fun a ha => hS a (by omega)) (hR 122 (by decide)) (fun h1 h2 => ?_), ST_e q3 hS hR, SX_e q4 hS hR (fun h1 h2 => ?_), OU_e q5 hS hS2 (hR 140 (by decide)) (i 140 (by decide) (by decide) (by decide)) (i 160 (by decide) (by decide) (by decide)) hI2⟩
  · exact CL_k a2 (fun o j h1 h2 => by rw [i o (by omega) (by unfold kp; omega) (by unfold kq; omega)])
  · rw [i 102 (by decide) (by decide) (by decide)]; exact a3
  · rw [i 102 (by decide) (by decide) (by decide)]; exact a4
  · rw [hJ 102 (by decide) (by decide) (by decide)]; exact a5
  · rw [i 100 (by decide) (by decide) (by decide)]; exact a7
  · exact CS_e (a8 y hy) (i 120 (by decide) (by decide) (by decide)) (i 121 (by decide) (by decide) (by decide)) (i 122 (by decide) (by decide) (by decide)) (i 128 (by decide) (by decide) (by decide)) (hJ 120 (by decide) (by decide) (by decide)) (hJ 127 (by decide) (by decide) (by decide))
  · rw [i 100 (by decide) (by decide) (by decide)]; exact a9
  · rw [i 101 (by decide) (by decide) (by decide)]; exact a10
  · rw [i 100 (by decide) (by decide) (by decide)]; exact a11
  · rw [i 100 (by decide) (by decide) (by decide)]; exact a12
  · rcases hx with hx | ⟨hx, he⟩
    · exact Or.inl hx
    · rcases a13 with a13 | a13
      · left; rw [hx]; exact a13
      · right
        rw [he]
        exact XL_e a13 hS hR (fun j _ _ => if e : j = 1 then by rw [e]; exact hx else h130 j e) (i 151 (by decide) (by decide) (by decide)) (i 154 (by decide) (by decide) (by decide)) (i 155 (by decide) (by decide) (by decide)) (i 156 (by decide) (by decide) (by decide))
  · rcases hk with hk | hk
    · rw [hc.2.2.1.1, hk]; rfl
    · rw [hk] at h1; cases h1
  · rw [i 122 (by decide) (by decide) (by decide)]; exact h2
  · rcases hx with hx | ⟨hx, he⟩
    · exact hx
    · rw [hx]; exact h2
/-- nothing changes that the lab's words speak of -/
theorem AC_fr (h : AC g x sv k by' e1 e2 P f S I J R) (hS : ∀ o, o < 200 → S' o = S o) (hS2 : ∀ o, 402 ≤ o → o < 900000 → S' o = S o) (hR : ∀ o, o < 200 → R' o = R o)
    (hI : ∀ o, o < 200 → kp o → I' o = I o) (hI2 : ∀ o, 402 ≤ o → o < 900000 → I' o = I o) (hJ : ∀ o, o < 200 → J' o = J o) : AC g x sv k by' e1 e2 P f S' I' J' R' := by
  have hc : CS 110 (gm g) x I' J' := CS_e h.2.2.1 (hI 110 (by decide) (by decide)) (hI 111 (by decide) (by decide)) (hI 112 (by decide) (by decide)) (hI 118 (by decide) (by decide)) (hJ 110 (by decide)) (hJ 117 (by decide))
  refine AC_mk h hS hS2 hR (fun o h1 h2 _ => hI o h1 h2) hI2 (fun o h1 _ _ => hJ o h1) (fun j _ => by rw [hI 130 (by decide) (by decide)]) (Or.inr ⟨by rw [hI 130 (by decide) (by decide)], rfl⟩) hc ?_
  obtain ⟨a1, ⟨a2, a3, a4, a5⟩, a6, ⟨a7, a8⟩, ⟨a9, a10, a11, a12⟩, a13, p1, p2, p3, p4, p5, q0, q1, q2, q3, q4, q5⟩ := h
  rcases q1 with q1 | q1
  · left
    have e1 := a6.2.2.1.1
    rw [q1.2.2.2.2.2.2.1, show (0 : Int32) = nI 0 from rfl] at e1
    exact ((nI_eq (by decide) (by have := a6.2.2.1.2; omega)).mp e1).symm
  · exact Or.inr q1.1
end
/-! ===== frames of the model: printed by a02.mframe.py ===== -/
section
variable {g : xGd} {x x' : xSt} {sv : Option xSt} {k : Nat} {by' : Nat → Nat} {e1 e2 : Int32} {S S' : xS} {I I' : xI} {J J' : xJ} {R R' : xR}
theorem MS_e {o j p n m : Nat} {y : xSt} (h : MS o j p n m y I J) (h0 : I' o = I o) (h1 : I' p = I p) (h2 : I' (p + 1) = I (p + 1)) (j0 : J' 200 j = J 200 j) (j1 : J' 200 (j + 1) = J 200 (j + 1)) (j2 : J' (p + 2) = J (p + 2)) : MS o j p n m y I' J' := by
  unfold MS at *
  rw [h0, h1, h2, j0, j1, j2]
  exact h
theorem XM_e {n : Nat} {E : Nat → Int32} (h : XM n E I) (h1 : ∀ j, 49 ≤ j → j ≤ 51 → I' 200 j = I 200 j) (h2 : I' 346 = I 346) (h3 : I' 347 = I 347) (h4 : I' 348 = I 348) (h5 : I' 343 = I 343) : XM n E I' := by
  unfold XM at *
  rw [h1 49 (by decide) (by decide), h1 50 (by decide) (by decide), h1 51 (by decide) (by decide), h2, h3, h4, h5]
  exact h
/-- rows of the model that a call may change without a word; fields -/
abbrev kr (o : Nat) : Prop := (o = 300 ∨ o = 302 ∨ (308 ≤ o ∧ o ≤ 317) ∨ o = 320 ∨ o = 343 ∨ (346 ≤ o ∧ o ≤ 348))
abbrev kf (j : Nat) : Prop := j = 7 ∨ j = 18 ∨ j = 21 ∨ j = 22 ∨ j = 23 ∨ (49 ≤ j ∧ j ≤ 51) ∨ j = 59
/-- .. the state's own -/
abbrev kt (o : Nat) : Prop := o ≠ 300 ∧ o ≠ 308 ∧ o ≠ 309
theorem AM_mk (h : AM g x sv k by' e1 e2 S I J R) (hS : ∀ o, 200 ≤ o → o < 400 → S' o = S o) (hR : ∀ o, 200 ≤ o → o < 400 → R' o = R o)
    (hI : ∀ o, kr o → kt o → I' o = I o) (hf : ∀ j, kf j → j ≠ 51 → I' 200 j = I 200 j) (hw : ∀ j, j = 0 ∨ j = 1 ∨ j = 8 ∨ j = 10 → I' 300 j = I 300 j) (hJ : ∀ j, j = 5 ∨ j = 6 → J' 200 j = J 200 j) (hJ2 : J' 313 = J 313)
    (hx : I' 200 51 = 0 ∨ (I' 200 51 = I 200 51 ∧ eG g x' = eG g x)) (hc : MS 300 3 308 (gn g) (gm g) x' I' J') : AM g x' sv k by' e1 e2 S' I' J' R' := by
  obtain ⟨a1, ⟨a2, a3, a4, a5⟩, a6, ⟨a7, a8⟩, ⟨a9, a10, a11, a12⟩, a13, u, a14, a15⟩ := h
  have i (o : Nat) (h1 : kr o) (h2 : kt o) := hI o h1 h2
  refine ⟨LM_e a1 hS hR, ⟨?_, ?_, ?_, ?_⟩, hc, ⟨?_, fun y hy => ?_⟩, ⟨?_, ?_, ?_, ?_⟩, ?_, u, ?_, a15⟩
  · exact CM_k2 a2 (hw 10 (by decide)) (hw 8 (by decide)) (fun o j h1 h2 => by rw [i o (by unfold kr; omega) (by unfold kt; omega)])
  · rw [hw 0 (by decide)]; exact a3
  · rw [hw 1 (by decide)]; exact a4
  · rw [hf 18 (by decide) (by decide)]; exact a5
  · rw [hf 7 (by decide) (by decide)]; exact a7
  · rw [i 302 (by decide) (by decide)]
    exact ⟨MS_e (a8 y hy).1 (i 302 (by decide) (by decide)) (i 311 (by decide) (by decide)) (i 312 (by decide) (by decide)) (hJ 5 (by decide)) (hJ 6 (by decide)) hJ2, (a8 y hy).2⟩
  · rw [hf 21 (by decide) (by decide)]; exact a9
  · rw [i 320 (by decide) (by decide)]; exact a10
  · rw [hf 22 (by decide) (by decide)]; exact a11
  · rw [hf 23 (by decide) (by decide)]; exact a12
  · rcases hx with hx | ⟨hx, he⟩
    · exact Or.inl hx
    · rcases a13 with a13 | a13
      · left; rw [hx]; exact a13
      · right
        rw [he]
        exact XM_e a13 (fun j h1 h2 => if e : j = 51 then by rw [e]; exact hx else hf j (by unfold kf; omega) e) (i 346 (by decide) (by decide)) (i 347 (by decide) (by decide)) (i 348 (by decide) (by decide)) (i 343 (by decide) (by decide))
  · rw [hf 59 (by decide) (by decide)]; exact a14
theorem AM_fr (h : AM g x sv k by' e1 e2 S I J R) (hS : ∀ o, 200 ≤ o → o < 400 → S' o = S o) (hR : ∀ o, 200 ≤ o → o < 400 → R' o = R o)
    (hI : ∀ o, kr o → I' o = I o) (hf : ∀ j, kf j → I' 200 j = I 200 j) (hJ : ∀ j, j = 3 ∨ j = 4 ∨ j = 5 ∨ j = 6 → J' 200 j = J 200 j) (hJ2 : ∀ o, o = 310 ∨ o = 313 → J' o = J o) : AM g x sv k by' e1 e2 S' I' J' R' :=
  AM_mk h hS hR (fun o h1 _ => hI o h1) (fun j h1 _ => hf j h1) (fun j _ => by rw [hI 300 (by decide)]) (fun j h1 => hJ j (by omega)) (hJ2 313 (by decide)) (Or.inr ⟨hf 51 (by decide), rfl⟩)
    (MS_e h.2.2.1 (hI 300 (by decide)) (hI 308 (by decide)) (hI 309 (by decide)) (hJ 3 (by decide)) (hJ 4 (by decide)) (hJ2 310 (by decide)))
/-- what a call of the class leaves alone -/
def frC (S : xS) (I : xI) (J : xJ) (R : xR) (S' : xS) (I' : xI) (J' : xJ) (R' : xR) : Prop := ∀ o, (200 ≤ o ∧ o < 402 ∨ 900000 ≤ o) → S' o = S o ∧ I' o = I o ∧ R' o = R o ∧ (o ≠ 400 → J' o = J o)
/-- what a call of the model leaves alone -/
def frM (I : xI) (J : xJ) (I' : xI) (J' : xJ) : Prop := ∀ o, (o < 200 ∨ 400 ≤ o) → I' o = I o ∧ J' o = J o
theorem AM_frC (h : AM g x sv k by' e1 e2 S I J R) (hf : frC S I J R S' I' J' R') : AM g x sv k by' e1 e2 S' I' J' R' := by
  have a (o : Nat) (h1 : 200 ≤ o) (h2 : o < 400) := hf o (Or.inl ⟨h1, by omega⟩)
  exact AM_fr h (fun o h1 h2 => (a o h1 h2).1) (fun o h1 h2 => (a o h1 h2).2.2.1) (fun o h1 => (a o (by unfold kr at h1; omega) (by unfold kr at h1; omega)).2.1) (fun j _ => by rw [(a 200 (by decide) (by decide)).2.1]) (fun j _ => by rw [(a 200 (by decide) (by decide)).2.2.2 (by decide)]) (fun o h1 => (a o (by omega) (by omega)).2.2.2 (by omega))
theorem AC_frM {P f : Nat} (h : AC g x sv k by' e1 e2 P f S I J R) (hf : frM I J I' J') : AC g x sv k by' e1 e2 P f S I' J' R :=
  AC_fr h (fun _ _ => rfl) (fun _ _ _ => rfl) (fun _ _ => rfl) (fun o h1 _ => (hf o (Or.inl h1)).1) (fun o h1 _ => (hf o (Or.inr (by omega))).1) (fun o h1 => (hf o (Or.inl h1)).2)
theorem frC_rfl : frC S I J R S I J R := fun _ _ => ⟨rfl, rfl, rfl, fun _ => rfl⟩
theorem frC_out {v : Int64} : frC S I J R S I (uJ J 400 0 v) R := fun o _ => ⟨rfl, rfl, rfl, fun h => by funext j; rw [uJ_at, if_neg (fun e => h e.1)]⟩
theorem frM_rfl : frM I J I J := fun _ _ => ⟨rfl, rfl⟩
end
/-! ===== calls of both sides, as contracts over states ===== -/
section
abbrev xA : Type := xGd × xSt × Option xSt × Nat × (Nat → Nat) × Int32 × Int32
def AA (z : xA) (P f : Nat) (S : xS) (I : xI) (J : xJ) (R : xR) : Prop := AC z.1 z.2.1 z.2.2.1 z.2.2.2.1 z.2.2.2.2.1 z.2.2.2.2.2.1 z.2.2.2.2.2.2 P f S I J R
def ABm (z : xA) (S : xS) (I : xI) (J : xJ) (R : xR) : Prop := AM z.1 z.2.1 z.2.2.1 z.2.2.2.1 z.2.2.2.2.1 z.2.2.2.2.2.1 z.2.2.2.2.2.2 S I J R
def WA (N : Nat) (z : xA) : Prop := WF N z.1 z.2.1 z.2.2.1 z.2.2.2.1 z.2.2.2.2.1
/-- the law's own things -/
def LW (S : xS) : Prop := S 400 = (101, 1) ∧ S 401 = (102, 1) ∧ S 900800 = (107, 100) ∧ S 900801 = (107, 100)
/-- a call of the class, from one state to another, with an answer; a: 1 where it may make things -/
def CC (a y : Nat) (l : xL) (z z' : xA) (post : Option Value → xJ → xDb → Prop) : Prop := ∀ P f S I J D R, AA z P f S I J R → LW S → f ≤ 800000 → ∃ P', P' ≤ P ∧ (a = 0 → P' = P) ∧ ∀ b Q, 100 * a + (P - P') ≤ b.1 → 5000 * a + (P - P') ≤ b.2 →
  (∀ v S' I' J' D' R' f' b', post v J' D' → AA z' P' f' S' I' J' R' → frC S I J R S' I' J' R' → f' ≤ f + 1000 → Q (.ok v) (S', I', J', D', R') b') → xRun xT y 0 l [] (S, I, J, D, R) b Q
/-- a call of the model -/
def MC (y : Nat) (l : xL) (z z' : xA) (post : Option Value → xI → xJ → xDb → Prop) : Prop := ∀ S I J D R b Q, ABm z S I J R →
  (∀ v I' J' D', post v I' J' D' → ABm z' S I' J' R → frM I J I' J' → Q (.ok v) (S, I', J', D', R) b) → xRun xT y 0 l [] (S, I, J, D, R) b Q
theorem CC_post {a y : Nat} {l : xL} {z z' : xA} {p q : Option Value → xJ → xDb → Prop} (h : CC a y l z z' p) (hq : ∀ v J D, p v J D → q v J D) : CC a y l z z' q := by
  intro P f S I J D R h1 h2 h3
  obtain ⟨P', h4, h6, h5⟩ := h P f S I J D R h1 h2 h3
  exact ⟨P', h4, h6, fun b Q b1 b2 kk => h5 b Q b1 b2 (fun v S' I' J' D' R' f' b' k1 k2 k3 k4 => kk v S' I' J' D' R' f' b' (hq _ _ _ k1) k2 k3 k4)⟩
theorem MC_post {y : Nat} {l : xL} {z z' : xA} {p q : Option Value → xI → xJ → xDb → Prop} (h : MC y l z z' p) (hq : ∀ v I J D, p v I J D → q v I J D) : MC y l z z' q :=
  fun S I J D R b Q h1 kk => h S I J D R b Q h1 (fun v I' J' D' k1 k2 k3 => kk v I' J' D' (hq _ _ _ _ k1) k2 k3)
variable {g : xGd} {x x' : xSt} {sv : Option xSt} {k : Nat} {by' : Nat → Nat} {e1 e2 : Int32} {N P f : Nat} {S : xS} {I : xI} {J : xJ} {D : xDb} {R : xR}
/-- a question that changes nothing -/
theorem CC_q {y : Nat} {l : xL} {z : xA} {v : Option Value} {post : Option Value → xJ → xDb → Prop} (hp : ∀ J D, post v J D)
    (h : ∀ P f S I J D R b (Q : xQ), AA z P f S I J R → xRun xT y 0 l [] (S, I, J, D, R) b Q = Q (.ok v) (S, I, J, D, R) b) : CC 0 y l z z post :=
  fun P f S I J D R h1 h2 h3 => ⟨P, Nat.le_refl P, fun _ => rfl, fun b Q _ _ kk => by
    rw [h P f S I J D R b Q h1]
    exact kk v S I J D R f b (hp _ _) h1 frC_rfl (by omega)⟩
/-- what the lab's words give -/
theorem AC_o (h : AC g x sv k by' e1 e2 P f S I J R) (w : WF N g x sv k by') : LC S R ∧ CL I (gn g) (gm g) (gf g) (gs g) (gdd g) (gb g) ∧ GR (gn g) (gm g) (gf g) (gs g) (gdd g) (gb g) ∧ (I 110 6 = stF x ∧ I 110 7 = nI (stA x) ∧ I 110 8 = nI (stB x) ∧ I 110 9 = stR x ∧ I 110 10 = (stZ x).2.2.1 ∧ I 110 11 = (stZ x).2.2.2 ∧ J 110 4 = lN (stZ x).1 ∧ J 110 5 = lN (stZ x).2.1) ∧ J 102 4 = lN (aU (gn g)) ∧ (∀ j, j < gm g → I 111 j = stS x j) ∧ ((stZ x).1 < 2 ^ gn g ∧ (stZ x).1 < 2 ^ 64 ∧ (stZ x).2.1 < 2147483648) ∧ (0 < gn g ∧ gn g ≤ 64 ∧ gm g ≤ 128 ∧ 0 < gm g) := by
  have b := gn_bd w.1
  refine ⟨h.1, h.2.1.1, (gG w.1).1, h.2.2.1.1, h.2.1.2.2.2, h.2.2.1.2.1, ⟨w.2.1.2.1.1, Nat.lt_of_lt_of_le w.2.1.2.1.1 (Nat.pow_le_pow_right (by decide) b.2.1), w.2.1.2.1.2.1⟩, b⟩
theorem AM_o (h : AM g x sv k by' e1 e2 S I J R) (w : WF N g x sv k by') : LM S R ∧ CM I (gn g) (gm g) (gf g) (gs g) (gdd g) (gb g) ∧ GR (gn g) (gm g) (gf g) (gs g) (gdd g) (gb g) ∧ (I 300 2 = nI (stA x) ∧ I 300 3 = nI (stB x) ∧ I 300 4 = stF x ∧ I 300 5 = stR x ∧ I 300 6 = (stZ x).2.2.1 ∧ I 300 7 = (stZ x).2.2.2 ∧ J 200 3 = lN (stZ x).1 ∧ J 200 4 = lN (stZ x).2.1) ∧ (∀ j, j < gm g → I 300 (16 + j) = stS x j) ∧ ((stZ x).1 < 2 ^ gn g ∧ (stZ x).1 < 2 ^ 64 ∧ (stZ x).2.1 < 2147483648) ∧ (0 < gn g ∧ gn g ≤ 64 ∧ gm g ≤ 128 ∧ 0 < gm g) := by
  have b := gn_bd w.1
  refine ⟨h.1, h.2.1.1, (gG w.1).1, h.2.2.1.1, h.2.2.1.2.1, ⟨w.2.1.2.1.1, Nat.lt_of_lt_of_le w.2.1.2.1.1 (Nat.pow_le_pow_right (by decide) b.2.1), w.2.1.2.1.2.1⟩, b⟩
theorem AC_en (h : AC g x sv k by' e1 e2 P f S I J R) : en (I 110 6) (I 111) (gn g) (gm g) (gf g) (gs g) = eG g x := by
  funext s
  unfold eG
  rw [h.2.2.1.1.1]
  exact en_congr s (fun j hj => h.2.2.1.2.1 j hj)
theorem AM_en (h : AM g x sv k by' e1 e2 S I J R) : en (I 300 4) (fun j => I 300 (16 + j)) (gn g) (gm g) (gf g) (gs g) = eG g x := by
  funext s
  unfold eG
  rw [h.2.2.1.1.2.2.1]
  exact en_congr s (fun j hj => h.2.2.1.2.1 j hj)
theorem AC_dl (h : AC g x sv k by' e1 e2 P f S I J R) (w : WF N g x sv k by') (s : Nat) {t : Nat} (ht : t < gn g) : dl (I 110 6) (I 111) (gf g) (gs g) (gdd g) (gb g) s t = dG g x s t := by
  unfold dG
  rw [h.2.2.1.1.1]
  exact dl_congr (gG w.1).1 s ht (fun j hj => h.2.2.1.2.1 j hj)
theorem AM_dl (h : AM g x sv k by' e1 e2 S I J R) (w : WF N g x sv k by') (s : Nat) {t : Nat} (ht : t < gn g) : dl (I 300 4) (fun j => I 300 (16 + j)) (gf g) (gs g) (gdd g) (gb g) s t = dG g x s t := by
  unfold dG
  rw [h.2.2.1.1.2.2.1]
  exact dl_congr (gG w.1).1 s ht (fun j hj => h.2.2.1.2.1 j hj)
/-- the model has asked: only its thrown code is new -/
theorem AM_19 (h : AM g x sv k by' e1 e2 S I J R) (v : Int32) : AM g x sv k by' e1 e2 S (uI I 200 19 v) J R :=
  AM_fr h (fun _ _ _ => rfl) (fun _ _ _ => rfl) (fun o h1 => by funext j; rw [uI_at, if_neg (fun e => by rw [e.1] at h1; exact absurd h1 (by decide))]) (fun j h1 => by rw [uI_at, if_neg (fun e => by rw [e.2] at h1; exact absurd h1 (by decide))]) (fun _ _ => rfl) (fun _ _ => rfl)
theorem frM_19 (v : Int32) : frM I J (uI I 200 19 v) J := fun o h1 => ⟨by funext j; rw [uI_at, if_neg (fun e => by omega)], rfl⟩
/-- a question to the model -/
theorem MC_q {y : Nat} {l : xL} {z : xA} {v : Option Value} {c : Int32} {post : Option Value → xI → xJ → xDb → Prop} (hp : ∀ I J D, I 200 19 = c → post v I J D)
    (h : ∀ S I J D R b (Q : xQ), ABm z S I J R → xRun xT y 0 l [] (S, I, J, D, R) b Q = Q (.ok v) (S, uI I 200 19 c, J, D, R) b) : MC y l z z post :=
  fun S I J D R b Q h1 kk => by
    rw [h S I J D R b Q h1]
    exact kk v _ J D (hp _ _ _ (by rw [uI_at, if_pos ⟨rfl, rfl⟩])) (AM_19 h1 c) (frM_19 c)
/-- the lab has answered into the law's row -/
theorem AC_out (h : AC g x sv k by' e1 e2 P f S I J R) (v : Int64) : AC g x sv k by' e1 e2 P f S I (uJ J 400 0 v) R :=
  AC_fr h (fun _ _ => rfl) (fun _ _ _ => rfl) (fun _ _ => rfl) (fun _ _ _ => rfl) (fun _ _ _ => rfl) (fun o h1 => by funext j; rw [uJ_at, if_neg (fun e => by omega)])
end
/-! ===== questions without arguments: printed by a04.asks.py ===== -/
section
variable {z : xA} {N : Nat}
theorem KC15 (w : WA N z) : CC 0 126 [(0, .ref 100)] z z (fun r _ _ => r = some (.int (eG z.1 z.2.1 (stZ z.2.1).1))) := CC_q (fun _ _ => rfl) (fun P f S I J D R b Q h => by
  obtain ⟨hL, hC, hG, ⟨i6, i7, i8, i9, i10, i11, j4, j5⟩, j102, i111, ⟨s1, s2, s3⟩, ⟨n0, n1, n2, n3⟩⟩ := AC_o h w
  rw [R126 hL hG hC j4 s2 s1, AC_en h])
theorem KM15 (w : WA N z) : MC 254 [(0, .ref 200)] z z (fun r I _ _ => r = some (.int (eG z.1 z.2.1 (stZ z.2.1).1)) ∧ I 200 19 = 0) := MC_q (c := 0) (fun _ _ _ e => ⟨rfl, e⟩) (fun S I J D R b Q h => by
  obtain ⟨hM, hD, hG, ⟨i2, i3, i4, i5, i6, i7, j3, j4⟩, i16, ⟨s1, s2, s3⟩, ⟨n0, n1, n2, n3⟩⟩ := AM_o h w
  rw [R254 hM hG hD j3 s2, AM_en h])
theorem KC16 (w : WA N z) : CC 0 127 [(0, .ref 100)] z z (fun r _ _ => r = some (.int (mg (gn z.1) (stZ z.2.1).1))) := CC_q (fun _ _ => rfl) (fun P f S I J D R b Q h => by
  obtain ⟨hL, hC, hG, ⟨i6, i7, i8, i9, i10, i11, j4, j5⟩, j102, i111, ⟨s1, s2, s3⟩, ⟨n0, n1, n2, n3⟩⟩ := AC_o h w
  rw [R127 hL hC.1 n1 j4 s1])
theorem KM16 (w : WA N z) : MC 255 [(0, .ref 200)] z z (fun r I _ _ => r = some (.int (mg (gn z.1) (stZ z.2.1).1)) ∧ I 200 19 = 0) := MC_q (c := 0) (fun _ _ _ e => ⟨rfl, e⟩) (fun S I J D R b Q h => by
  obtain ⟨hM, hD, hG, ⟨i2, i3, i4, i5, i6, i7, j3, j4⟩, i16, ⟨s1, s2, s3⟩, ⟨n0, n1, n2, n3⟩⟩ := AM_o h w
  rw [R255 hM hD.1 n1 j3 s2])
theorem KC3 (w : WA N z) : CC 0 122 [(0, .ref 100)] z z (fun r _ _ => r = some (.int z.2.2.2.2.2.1)) := CC_q (fun _ _ => rfl) (fun P f S I J D R b Q h => by
  obtain ⟨hL, hC, hG, ⟨i6, i7, i8, i9, i10, i11, j4, j5⟩, j102, i111, ⟨s1, s2, s3⟩, ⟨n0, n1, n2, n3⟩⟩ := AC_o h w
  rw [e122_0]; simp only [B122_0, xSeq, i_push, i_load, i_iload, i_lload, i_dload, i_aload, i_istore, i_astore, i_lstore, i_dstore, i_iinc, i_ii, i_iiz, i_ll, i_llz, i_lli, i_li, i_i, i_l, i_i2l, i_l2i, i_dup, i_dup2, i_dup2w, i_dupx1, i_pop, i_pop2, i_goto, i_ifc, i_icmp, i_getI, i_getL, i_getR, i_putI, i_putZ, i_putL, i_putR, i_aldI, i_aldB, i_aldL, i_aldD, i_astI, i_astL, i_astD, i_alen, i_ret, i_iret, i_zret, i_lret, i_fret, i_dret, i_aret, i_invS0, i_invV0, i_m2, i_m1, i_ml, i_obj, lk, lkp, stf1, stf2, Value.category, rV, xTo, lv_args, xCk, xCat, xRc, xAk, hg_S, hg_I, hg_J, hg_D, hg_R, hs_I, hs_J, hs_D, hs_R, uI_at, uJ_at, uD_at, uR_at, List.take_succ_cons, List.take_zero, List.drop_succ_cons, List.drop_zero, List.reverse_cons, List.reverse_nil, List.nil_append, List.cons_append, List.map_cons, List.map_nil, List.sum_cons, List.sum_nil, List.length_cons, List.length_nil, Option.toList_some, Option.toList_none, true_and, and_true, false_and, and_false, true_implies, false_implies, implies_true, not_true_eq_false, not_false_eq_true, ne_eq, if_true, if_false, Bool.and_true, Bool.true_and, decide_true, decide_false, reduceIte, reduceCtorEq, Bool.and_self, Bool.and_eq_true, decide_eq_true_eq, and_self, true_or, or_true, false_or, or_false, Nat.zero_add, Nat.add_zero, eq_self, Nat.reduceEqDiff, Nat.reduceLeDiff, Nat.reduceLT, Nat.reduceAdd, Nat.reduceSub, Nat.reduceMul, LC_out hL]; rw [h.2.2.2.2.1.2.2.1])
theorem KM3 (w : WA N z) : MC 231 [(0, .ref 200)] z z (fun r I _ _ => r = some (.int z.2.2.2.2.2.1) ∧ I 200 19 = 0) := MC_q (c := 0) (fun _ _ _ e => ⟨rfl, e⟩) (fun S I J D R b Q h => by
  obtain ⟨hM, hD, hG, ⟨i2, i3, i4, i5, i6, i7, j3, j4⟩, i16, ⟨s1, s2, s3⟩, ⟨n0, n1, n2, n3⟩⟩ := AM_o h w
  rw [e231_0]; simp only [B231_0, xSeq, i_push, i_load, i_iload, i_lload, i_dload, i_aload, i_istore, i_astore, i_lstore, i_dstore, i_iinc, i_ii, i_iiz, i_ll, i_llz, i_lli, i_li, i_i, i_l, i_i2l, i_l2i, i_dup, i_dup2, i_dup2w, i_dupx1, i_pop, i_pop2, i_goto, i_ifc, i_icmp, i_getI, i_getL, i_getR, i_putI, i_putZ, i_putL, i_putR, i_aldI, i_aldB, i_aldL, i_aldD, i_astI, i_astL, i_astD, i_alen, i_ret, i_iret, i_zret, i_lret, i_fret, i_dret, i_aret, i_invS0, i_invV0, i_m2, i_m1, i_ml, i_obj, lk, lkp, stf1, stf2, Value.category, rV, xTo, lv_args, xCk, xCat, xRc, xAk, hg_S, hg_I, hg_J, hg_D, hg_R, hs_I, hs_J, hs_D, hs_R, uI_at, uJ_at, uD_at, uR_at, List.take_succ_cons, List.take_zero, List.drop_succ_cons, List.drop_zero, List.reverse_cons, List.reverse_nil, List.nil_append, List.cons_append, List.map_cons, List.map_nil, List.sum_cons, List.sum_nil, List.length_cons, List.length_nil, Option.toList_some, Option.toList_none, true_and, and_true, false_and, and_false, true_implies, false_implies, implies_true, not_true_eq_false, not_false_eq_true, ne_eq, if_true, if_false, Bool.and_true, Bool.true_and, decide_true, decide_false, reduceIte, reduceCtorEq, Bool.and_self, Bool.and_eq_true, decide_eq_true_eq, and_self, true_or, or_true, false_or, or_false, Nat.zero_add, Nat.add_zero, eq_self, Nat.reduceEqDiff, Nat.reduceLeDiff, Nat.reduceLT, Nat.reduceAdd, Nat.reduceSub, Nat.reduceMul, LM_out hM]; rw [h.2.2.2.2.1.2.2.1])
theorem KC4 (w : WA N z) : CC 0 123 [(0, .ref 100)] z z (fun r _ _ => r = some (.int z.2.2.2.2.2.2)) := CC_q (fun _ _ => rfl) (fun P f S I J D R b Q h => by
  obtain ⟨hL, hC, hG, ⟨i6, i7, i8, i9, i10, i11, j4, j5⟩, j102, i111, ⟨s1, s2, s3⟩, ⟨n0, n1, n2, n3⟩⟩ := AC_o h w
  rw [e123_0]; simp only [B123_0, xSeq, i_push, i_load, i_iload, i_lload, i_dload, i_aload, i_istore, i_astore, i_lstore, i_dstore, i_iinc, i_ii, i_iiz, i_ll, i_llz, i_lli, i_li, i_i, i_l, i_i2l, i_l2i, i_dup, i_dup2, i_dup2w, i_dupx1, i_pop, i_pop2, i_goto, i_ifc, i_icmp, i_getI, i_getL, i_getR, i_putI, i_putZ, i_putL, i_putR, i_aldI, i_aldB, i_aldL, i_aldD, i_astI, i_astL, i_astD, i_alen, i_ret, i_iret, i_zret, i_lret, i_fret, i_dret, i_aret, i_invS0, i_invV0, i_m2, i_m1, i_ml, i_obj, lk, lkp, stf1, stf2, Value.category, rV, xTo, lv_args, xCk, xCat, xRc, xAk, hg_S, hg_I, hg_J, hg_D, hg_R, hs_I, hs_J, hs_D, hs_R, uI_at, uJ_at, uD_at, uR_at, List.take_succ_cons, List.take_zero, List.drop_succ_cons, List.drop_zero, List.reverse_cons, List.reverse_nil, List.nil_append, List.cons_append, List.map_cons, List.map_nil, List.sum_cons, List.sum_nil, List.length_cons, List.length_nil, Option.toList_some, Option.toList_none, true_and, and_true, false_and, and_false, true_implies, false_implies, implies_true, not_true_eq_false, not_false_eq_true, ne_eq, if_true, if_false, Bool.and_true, Bool.true_and, decide_true, decide_false, reduceIte, reduceCtorEq, Bool.and_self, Bool.and_eq_true, decide_eq_true_eq, and_self, true_or, or_true, false_or, or_false, Nat.zero_add, Nat.add_zero, eq_self, Nat.reduceEqDiff, Nat.reduceLeDiff, Nat.reduceLT, Nat.reduceAdd, Nat.reduceSub, Nat.reduceMul, LC_out hL]; rw [h.2.2.2.2.1.2.2.2])
theorem KM4 (w : WA N z) : MC 232 [(0, .ref 200)] z z (fun r I _ _ => r = some (.int z.2.2.2.2.2.2) ∧ I 200 19 = 0) := MC_q (c := 0) (fun _ _ _ e => ⟨rfl, e⟩) (fun S I J D R b Q h => by
  obtain ⟨hM, hD, hG, ⟨i2, i3, i4, i5, i6, i7, j3, j4⟩, i16, ⟨s1, s2, s3⟩, ⟨n0, n1, n2, n3⟩⟩ := AM_o h w
  rw [e232_0]; simp only [B232_0, xSeq, i_push, i_load, i_iload, i_lload, i_dload, i_aload, i_istore, i_astore, i_lstore, i_dstore, i_iinc, i_ii, i_iiz, i_ll, i_llz, i_lli, i_li, i_i, i_l, i_i2l, i_l2i, i_dup, i_dup2, i_dup2w, i_dupx1, i_pop, i_pop2, i_goto, i_ifc, i_icmp, i_getI, i_getL, i_getR, i_putI, i_putZ, i_putL, i_putR, i_aldI, i_aldB, i_aldL, i_aldD, i_astI, i_astL, i_astD, i_alen, i_ret, i_iret, i_zret, i_lret, i_fret, i_dret, i_aret, i_invS0, i_invV0, i_m2, i_m1, i_ml, i_obj, lk, lkp, stf1, stf2, Value.category, rV, xTo, lv_args, xCk, xCat, xRc, xAk, hg_S, hg_I, hg_J, hg_D, hg_R, hs_I, hs_J, hs_D, hs_R, uI_at, uJ_at, uD_at, uR_at, List.take_succ_cons, List.take_zero, List.drop_succ_cons, List.drop_zero, List.reverse_cons, List.reverse_nil, List.nil_append, List.cons_append, List.map_cons, List.map_nil, List.sum_cons, List.sum_nil, List.length_cons, List.length_nil, Option.toList_some, Option.toList_none, true_and, and_true, false_and, and_false, true_implies, false_implies, implies_true, not_true_eq_false, not_false_eq_true, ne_eq, if_true, if_false, Bool.and_true, Bool.true_and, decide_true, decide_false, reduceIte, reduceCtorEq, Bool.and_self, Bool.and_eq_true, decide_eq_true_eq, and_self, true_or, or_true, false_or, or_false, Nat.zero_add, Nat.add_zero, eq_self, Nat.reduceEqDiff, Nat.reduceLeDiff, Nat.reduceLT, Nat.reduceAdd, Nat.reduceSub, Nat.reduceMul, LM_out hM]; rw [h.2.2.2.2.1.2.2.2])
theorem KC12 (w : WA N z) : CC 0 124 [(0, .ref 100)] z z (fun r _ _ => r = some (.long (lN (stZ z.2.1).1))) := CC_q (fun _ _ => rfl) (fun P f S I J D R b Q h => by
  obtain ⟨hL, hC, hG, ⟨i6, i7, i8, i9, i10, i11, j4, j5⟩, j102, i111, ⟨s1, s2, s3⟩, ⟨n0, n1, n2, n3⟩⟩ := AC_o h w
  rw [e124_0]; simp only [B124_0, xSeq, i_push, i_load, i_iload, i_lload, i_dload, i_aload, i_istore, i_astore, i_lstore, i_dstore, i_iinc, i_ii, i_iiz, i_ll, i_llz, i_lli, i_li, i_i, i_l, i_i2l, i_l2i, i_dup, i_dup2, i_dup2w, i_dupx1, i_pop, i_pop2, i_goto, i_ifc, i_icmp, i_getI, i_getL, i_getR, i_putI, i_putZ, i_putL, i_putR, i_aldI, i_aldB, i_aldL, i_aldD, i_astI, i_astL, i_astD, i_alen, i_ret, i_iret, i_zret, i_lret, i_fret, i_dret, i_aret, i_invS0, i_invV0, i_m2, i_m1, i_ml, i_obj, lk, lkp, stf1, stf2, Value.category, rV, xTo, lv_args, xCk, xCat, xRc, xAk, hg_S, hg_I, hg_J, hg_D, hg_R, hs_I, hs_J, hs_D, hs_R, uI_at, uJ_at, uD_at, uR_at, List.take_succ_cons, List.take_zero, List.drop_succ_cons, List.drop_zero, List.reverse_cons, List.reverse_nil, List.nil_append, List.cons_append, List.map_cons, List.map_nil, List.sum_cons, List.sum_nil, List.length_cons, List.length_nil, Option.toList_some, Option.toList_none, true_and, and_true, false_and, and_false, true_implies, false_implies, implies_true, not_true_eq_false, not_false_eq_true, ne_eq, if_true, if_false, Bool.and_true, Bool.true_and, decide_true, decide_false, reduceIte, reduceCtorEq, Bool.and_self, Bool.and_eq_true, decide_eq_true_eq, and_self, true_or, or_true, false_or, or_false, Nat.zero_add, Nat.add_zero, eq_self, Nat.reduceEqDiff, Nat.reduceLeDiff, Nat.reduceLT, Nat.reduceAdd, Nat.reduceSub, Nat.reduceMul, LC_out hL, j4])
theorem KM12 (w : WA N z) : MC 247 [(0, .ref 200)] z z (fun r I _ _ => r = some (.long (lN (stZ z.2.1).1)) ∧ I 200 19 = 0) := MC_q (c := 0) (fun _ _ _ e => ⟨rfl, e⟩) (fun S I J D R b Q h => by
  obtain ⟨hM, hD, hG, ⟨i2, i3, i4, i5, i6, i7, j3, j4⟩, i16, ⟨s1, s2, s3⟩, ⟨n0, n1, n2, n3⟩⟩ := AM_o h w
  rw [e247_0]; simp only [B247_0, xSeq, i_push, i_load, i_iload, i_lload, i_dload, i_aload, i_istore, i_astore, i_lstore, i_dstore, i_iinc, i_ii, i_iiz, i_ll, i_llz, i_lli, i_li, i_i, i_l, i_i2l, i_l2i, i_dup, i_dup2, i_dup2w, i_dupx1, i_pop, i_pop2, i_goto, i_ifc, i_icmp, i_getI, i_getL, i_getR, i_putI, i_putZ, i_putL, i_putR, i_aldI, i_aldB, i_aldL, i_aldD, i_astI, i_astL, i_astD, i_alen, i_ret, i_iret, i_zret, i_lret, i_fret, i_dret, i_aret, i_invS0, i_invV0, i_m2, i_m1, i_ml, i_obj, lk, lkp, stf1, stf2, Value.category, rV, xTo, lv_args, xCk, xCat, xRc, xAk, hg_S, hg_I, hg_J, hg_D, hg_R, hs_I, hs_J, hs_D, hs_R, uI_at, uJ_at, uD_at, uR_at, List.take_succ_cons, List.take_zero, List.drop_succ_cons, List.drop_zero, List.reverse_cons, List.reverse_nil, List.nil_append, List.cons_append, List.map_cons, List.map_nil, List.sum_cons, List.sum_nil, List.length_cons, List.length_nil, Option.toList_some, Option.toList_none, true_and, and_true, false_and, and_false, true_implies, false_implies, implies_true, not_true_eq_false, not_false_eq_true, ne_eq, if_true, if_false, Bool.and_true, Bool.true_and, decide_true, decide_false, reduceIte, reduceCtorEq, Bool.and_self, Bool.and_eq_true, decide_eq_true_eq, and_self, true_or, or_true, false_or, or_false, Nat.zero_add, Nat.add_zero, eq_self, Nat.reduceEqDiff, Nat.reduceLeDiff, Nat.reduceLT, Nat.reduceAdd, Nat.reduceSub, Nat.reduceMul, LM_out hM, j3])
theorem KC18 (w : WA N z) : CC 0 128 [(0, .ref 100)] z z (fun r _ _ => r = some (.int (nI (ct (fun k => decide (pr (stS z.2.1 k) ((stZ z.2.1).1.testBit (gf z.1 k)) ((stZ z.2.1).1.testBit (gs z.1 k)) < 0)) (gm z.1))))) := CC_q (fun _ _ => rfl) (fun P f S I J D R b Q h => by
  obtain ⟨hL, hC, hG, ⟨i6, i7, i8, i9, i10, i11, j4, j5⟩, j102, i111, ⟨s1, s2, s3⟩, ⟨n0, n1, n2, n3⟩⟩ := AC_o h w
  rw [R128 hL hG hC s2 j4, ct_congr (fun k hk => by rw [i111 k hk])])
theorem KM18 (w : WA N z) : MC 258 [(0, .ref 200)] z z (fun r I _ _ => r = some (.int (nI (ct (fun k => decide (pr (stS z.2.1 k) ((stZ z.2.1).1.testBit (gf z.1 k)) ((stZ z.2.1).1.testBit (gs z.1 k)) < 0)) (gm z.1)))) ∧ I 200 19 = 0) := MC_q (c := 0) (fun _ _ _ e => ⟨rfl, e⟩) (fun S I J D R b Q h => by
  obtain ⟨hM, hD, hG, ⟨i2, i3, i4, i5, i6, i7, j3, j4⟩, i16, ⟨s1, s2, s3⟩, ⟨n0, n1, n2, n3⟩⟩ := AM_o h w
  rw [R258 hM hG hD s2 j3, ct_congr (fun k hk => by rw [i16 k hk])])
theorem KC19 (w : WA N z) : CC 0 129 [(0, .ref 100)] z z (fun r _ _ => r = some (.int (nI (ct (fun k => decide (0 < dG z.1 z.2.1 (stZ z.2.1).1 k)) (gn z.1))))) := CC_q (fun _ _ => rfl) (fun P f S I J D R b Q h => by
  obtain ⟨hL, hC, hG, ⟨i6, i7, i8, i9, i10, i11, j4, j5⟩, j102, i111, ⟨s1, s2, s3⟩, ⟨n0, n1, n2, n3⟩⟩ := AC_o h w
  rw [R129 hL hG hC s2 j4, ct_congr (fun k hk => by rw [AC_dl h w _ hk])])
theorem KM19 (w : WA N z) : MC 259 [(0, .ref 200)] z z (fun r I _ _ => r = some (.int (nI (ct (fun k => decide (0 < dG z.1 z.2.1 (stZ z.2.1).1 k)) (gn z.1)))) ∧ I 200 19 = 0) := MC_q (c := 0) (fun _ _ _ e => ⟨rfl, e⟩) (fun S I J D R b Q h => by
  obtain ⟨hM, hD, hG, ⟨i2, i3, i4, i5, i6, i7, j3, j4⟩, i16, ⟨s1, s2, s3⟩, ⟨n0, n1, n2, n3⟩⟩ := AM_o h w
  rw [R259 hM hG hD s2 j3, ct_congr (fun k hk => by rw [AM_dl h w _ hk])])
theorem KC52 (w : WA N z) : CC 0 130 [(0, .ref 100)] z z (fun r _ _ => r = some (.int (nI (ct (fun k => decide (dG z.1 z.2.1 (stZ z.2.1).1 k = 0)) (gn z.1))))) := CC_q (fun _ _ => rfl) (fun P f S I J D R b Q h => by
  obtain ⟨hL, hC, hG, ⟨i6, i7, i8, i9, i10, i11, j4, j5⟩, j102, i111, ⟨s1, s2, s3⟩, ⟨n0, n1, n2, n3⟩⟩ := AC_o h w
  rw [R130 hL hG hC s2 j4, ct_congr (fun k hk => by rw [AC_dl h w _ hk])])
theorem KM52 (w : WA N z) : MC 260 [(0, .ref 200)] z z (fun r I _ _ => r = some (.int (nI (ct (fun k => decide (dG z.1 z.2.1 (stZ z.2.1).1 k = 0)) (gn z.1)))) ∧ I 200 19 = 0) := MC_q (c := 0) (fun _ _ _ e => ⟨rfl, e⟩) (fun S I J D R b Q h => by
  obtain ⟨hM, hD, hG, ⟨i2, i3, i4, i5, i6, i7, j3, j4⟩, i16, ⟨s1, s2, s3⟩, ⟨n0, n1, n2, n3⟩⟩ := AM_o h w
  rw [R260 hM hG hD s2 j3, ct_congr (fun k hk => by rw [AM_dl h w _ hk])])
end
