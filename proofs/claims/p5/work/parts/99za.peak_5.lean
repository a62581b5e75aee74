/-! ===== peaks ===== -/
section
/-- the best A: so many more from a on, the best so far, its figure -/
def pkF (E : Nat → Int32) (n : Nat) (w : Int32) (y : Nat) : Nat → Nat → Nat → UInt64 → Nat
  | 0, _, k, _ => k
  | j + 1, a, k, g => if 0 < Op.cmpValue (FP.dcmp (fg E n (rtP a y) w) g) .l then pkF E n w y j (a + 1) a (fg E n (rtP a y) w) else pkF E n w y j (a + 1) k g
variable {S : xS} {I : xI} {J : xJ} {D : xDb} {R : xR} {b : Nat × Nat} {Q : xQ} {n : Nat} {E : Nat → Int32} {y : Nat} {w : Int32}
theorem L181_35 (hL : LC S R) (hX : XL n E S I R) (hB : EB E n) (hp : PQ E n) (hw : rg w 0 2 = true) (hy : y ≤ 30) {res : Nat}
    (kk : ∀ D', (∀ o k, o ≠ 139 → D' o k = D o k) → Q (.ok (some (.int (nI res)))) (S, I, J, D', R) b) :
    ∀ (j a k : Nat) (g : UInt64) (D1 : xDb), a + j = y → 0 < a → pkF E n w y j a k g = res → (∀ o k, o ≠ 139 → D1 o k = D o k) → xRun xT 181 35 [(1, .int w), (2, .int (nI y)), (3, .ref 130), (4, .int (nI k)), (5, .double g), (7, .int (nI a))] [] (S, I, J, D1, R) b Q
  | 0, a, k, g, D1, ha, h0, hk, hd => by
    have e : a = y := by omega
    have ek : k = res := hk
    rw [e181_35]
    simp only [B181_35, xSeq, i_push, i_load, i_iload, i_lload, i_dload, i_aload, i_istore, i_astore, i_lstore, i_dstore, i_iinc, i_ii, i_iiz, i_ll, i_llz, i_lli, i_li, i_i, i_l, i_i2l, i_l2i, i_dup, i_dup2, i_dup2w, i_dupx1, i_pop, i_pop2, i_goto, i_ifc, i_icmp, i_getI, i_getL, i_getR, i_putI, i_putZ, i_putL, i_putR, i_aldI, i_aldB, i_aldL, i_aldD, i_astI, i_astL, i_astD, i_alen, i_ret, i_iret, i_zret, i_lret, i_fret, i_dret, i_aret, i_invS0, i_invV0, i_m2, i_m1, i_ml, i_obj, lk, lkp, stf1, stf2, Value.category, rV, xTo, lv_args, xCk, xCat, xRc, xAk, hg_S, hg_I, hg_J, hg_D, hg_R, hs_I, hs_J, hs_D, hs_R, uI_at, uJ_at, uD_at, uR_at, List.take_succ_cons, List.take_zero, List.drop_succ_cons, List.drop_zero, List.reverse_cons, List.reverse_nil, List.nil_append, List.cons_append, List.map_cons, List.map_nil, List.sum_cons, List.sum_nil, List.length_cons, List.length_nil, Option.toList_some, Option.toList_none, true_and, and_true, false_and, and_false, true_implies, false_implies, implies_true, not_true_eq_false, not_false_eq_true, ne_eq, if_true, if_false, Bool.and_true, Bool.true_and, decide_true, decide_false, reduceIte, reduceCtorEq, Bool.and_self, Bool.and_eq_true, decide_eq_true_eq, and_self, true_or, or_true, false_or, or_false, Nat.zero_add, Nat.add_zero, eq_self, Nat.reduceEqDiff, Nat.reduceLeDiff, Nat.reduceLT, Nat.reduceAdd, Nat.reduceSub, Nat.reduceMul, e, nI_leP (show y < 2147483648 by omega) (show y < 2147483648 by omega), Nat.le_refl, e181_73, B181_73, ek]
    exact kk D1 hd
  | j + 1, a, k, g, D1, ha, h0, hk, hd => by
    rw [pkF] at hk
    obtain ⟨v, hv⟩ : ∃ v, v = fg E n (rtP a y) w := ⟨_, rfl⟩
    rw [← hv] at hk
    rw [e181_35]
    simp only [B181_35, xSeq, i_push, i_load, i_iload, i_lload, i_dload, i_aload, i_istore, i_astore, i_lstore, i_dstore, i_iinc, i_ii, i_iiz, i_ll, i_llz, i_lli, i_li, i_i, i_l, i_i2l, i_l2i, i_dup, i_dup2, i_dup2w, i_dupx1, i_pop, i_pop2, i_goto, i_ifc, i_icmp, i_getI, i_getL, i_getR, i_putI, i_putZ, i_putL, i_putR, i_aldI, i_aldB, i_aldL, i_aldD, i_astI, i_astL, i_astD, i_alen, i_ret, i_iret, i_zret, i_lret, i_fret, i_dret, i_aret, i_invS0, i_invV0, i_m2, i_m1, i_ml, i_obj, lk, lkp, stf1, stf2, Value.category, rV, xTo, lv_args, xCk, xCat, xRc, xAk, hg_S, hg_I, hg_J, hg_D, hg_R, hs_I, hs_J, hs_D, hs_R, uI_at, uJ_at, uD_at, uR_at, List.take_succ_cons, List.take_zero, List.drop_succ_cons, List.drop_zero, List.reverse_cons, List.reverse_nil, List.nil_append, List.cons_append, List.map_cons, List.map_nil, List.sum_cons, List.sum_nil, List.length_cons, List.length_nil, Option.toList_some, Option.toList_none, true_and, and_true, false_and, and_false, true_implies, false_implies, implies_true, not_true_eq_false, not_false_eq_true, ne_eq, if_true, if_false, Bool.and_true, Bool.true_and, decide_true, decide_false, reduceIte, reduceCtorEq, Bool.and_self, Bool.and_eq_true, decide_eq_true_eq, and_self, true_or, or_true, false_or, or_false, Nat.zero_add, Nat.add_zero, eq_self, Nat.reduceEqDiff, Nat.reduceLeDiff, Nat.reduceLT, Nat.reduceAdd, Nat.reduceSub, Nat.reduceMul, LC_out hL, nI_leP (show y < 2147483648 by omega) (show a < 2147483648 by omega), show (y ≤ a) = False from eq_false (by omega)]
    refine L109 hL hX hB hp ⟨h0, by omega, by omega⟩ hw (fun D2 d2 => ?_)
    rw [← hv]
    by_cases hc : 0 < Op.cmpValue (FP.dcmp v g) .l
    · rw [if_pos hc] at hk
      simp only [xSeq, i_push, i_load, i_iload, i_lload, i_dload, i_aload, i_istore, i_astore, i_lstore, i_dstore, i_iinc, i_ii, i_iiz, i_ll, i_llz, i_lli, i_li, i_i, i_l, i_i2l, i_l2i, i_dup, i_dup2, i_dup2w, i_dupx1, i_pop, i_pop2, i_goto, i_ifc, i_icmp, i_getI, i_getL, i_getR, i_putI, i_putZ, i_putL, i_putR, i_aldI, i_aldB, i_aldL, i_aldD, i_astI, i_astL, i_astD, i_alen, i_ret, i_iret, i_zret, i_lret, i_fret, i_dret, i_aret, i_invS0, i_invV0, i_m2, i_m1, i_ml, i_obj, lk, lkp, stf1, stf2, Value.category, rV, xTo, lv_args, xCk, xCat, xRc, xAk, hg_S, hg_I, hg_J, hg_D, hg_R, hs_I, hs_J, hs_D, hs_R, uI_at, uJ_at, uD_at, uR_at, List.take_succ_cons, List.take_zero, List.drop_succ_cons, List.drop_zero, List.reverse_cons, List.reverse_nil, List.nil_append, List.cons_append, List.map_cons, List.map_nil, List.sum_cons, List.sum_nil, List.length_cons, List.length_nil, Option.toList_some, Option.toList_none, true_and, and_true, false_and, and_false, true_implies, false_implies, implies_true, not_true_eq_false, not_false_eq_true, ne_eq, if_true, if_false, Bool.and_true, Bool.true_and, decide_true, decide_false, reduceIte, reduceCtorEq, Bool.and_self, Bool.and_eq_true, decide_eq_true_eq, and_self, true_or, or_true, false_or, or_false, Nat.zero_add, Nat.add_zero, eq_self, Nat.reduceEqDiff, Nat.reduceLeDiff, Nat.reduceLT, Nat.reduceAdd, Nat.reduceSub, Nat.reduceMul, i_ddi, show (Op.cmpValue (FP.dcmp v g) .l ≤ 0) = False from eq_false (Int32.not_le.mpr hc), e181_67, B181_67, nI_1]
      exact L181_35 hL hX hB hp hw hy kk j (a + 1) a v D2 (by omega) (by omega) hk (fun o k ho => (d2 o k ho).trans (hd o k ho))
    · rw [if_neg hc] at hk
      simp only [xSeq, i_push, i_load, i_iload, i_lload, i_dload, i_aload, i_istore, i_astore, i_lstore, i_dstore, i_iinc, i_ii, i_iiz, i_ll, i_llz, i_lli, i_li, i_i, i_l, i_i2l, i_l2i, i_dup, i_dup2, i_dup2w, i_dupx1, i_pop, i_pop2, i_goto, i_ifc, i_icmp, i_getI, i_getL, i_getR, i_putI, i_putZ, i_putL, i_putR, i_aldI, i_aldB, i_aldL, i_aldD, i_astI, i_astL, i_astD, i_alen, i_ret, i_iret, i_zret, i_lret, i_fret, i_dret, i_aret, i_invS0, i_invV0, i_m2, i_m1, i_ml, i_obj, lk, lkp, stf1, stf2, Value.category, rV, xTo, lv_args, xCk, xCat, xRc, xAk, hg_S, hg_I, hg_J, hg_D, hg_R, hs_I, hs_J, hs_D, hs_R, uI_at, uJ_at, uD_at, uR_at, List.take_succ_cons, List.take_zero, List.drop_succ_cons, List.drop_zero, List.reverse_cons, List.reverse_nil, List.nil_append, List.cons_append, List.map_cons, List.map_nil, List.sum_cons, List.sum_nil, List.length_cons, List.length_nil, Option.toList_some, Option.toList_none, true_and, and_true, false_and, and_false, true_implies, false_implies, implies_true, not_true_eq_false, not_false_eq_true, ne_eq, if_true, if_false, Bool.and_true, Bool.true_and, decide_true, decide_false, reduceIte, reduceCtorEq, Bool.and_self, Bool.and_eq_true, decide_eq_true_eq, and_self, true_or, or_true, false_or, or_false, Nat.zero_add, Nat.add_zero, eq_self, Nat.reduceEqDiff, Nat.reduceLeDiff, Nat.reduceLT, Nat.reduceAdd, Nat.reduceSub, Nat.reduceMul, i_ddi, show (Op.cmpValue (FP.dcmp v g) .l ≤ 0) = True from eq_true (Int32.not_lt.mp hc), e181_67, B181_67, nI_1]
      exact L181_35 hL hX hB hp hw hy kk j (a + 1) k g D2 (by omega) (by omega) hk (fun o k ho => (d2 o k ho).trans (hd o k ho))
theorem L322_72 (hL : LM S R) (hX : XM n E I) (hB : EB E n) (hp : PQ E n) (hw : rg w 0 2 = true) (hy : y ≤ 30) {res : Nat}
    (kk : ∀ D', (∀ o k, o ≠ 352 → D' o k = D o k) → Q (.ok (some (.int (nI res)))) (S, I, J, D', R) b) :
    ∀ (j a k : Nat) (g : UInt64) (D1 : xDb), a + j = y → 0 < a → pkF E n w y j a k g = res → (∀ o k, o ≠ 352 → D1 o k = D o k) → xRun xT 322 72 [(0, .ref 200), (1, .int w), (2, .int (nI y)), (3, .int (nI k)), (4, .double g), (6, .int (nI a))] [] (S, I, J, D1, R) b Q
  | 0, a, k, g, D1, ha, h0, hk, hd => by
    have e : a = y := by omega
    have ek : k = res := hk
    rw [e322_72]
    simp only [B322_72, xSeq, i_push, i_load, i_iload, i_lload, i_dload, i_aload, i_istore, i_astore, i_lstore, i_dstore, i_iinc, i_ii, i_iiz, i_ll, i_llz, i_lli, i_li, i_i, i_l, i_i2l, i_l2i, i_dup, i_dup2, i_dup2w, i_dupx1, i_pop, i_pop2, i_goto, i_ifc, i_icmp, i_getI, i_getL, i_getR, i_putI, i_putZ, i_putL, i_putR, i_aldI, i_aldB, i_aldL, i_aldD, i_astI, i_astL, i_astD, i_alen, i_ret, i_iret, i_zret, i_lret, i_fret, i_dret, i_aret, i_invS0, i_invV0, i_m2, i_m1, i_ml, i_obj, lk, lkp, stf1, stf2, Value.category, rV, xTo, lv_args, xCk, xCat, xRc, xAk, hg_S, hg_I, hg_J, hg_D, hg_R, hs_I, hs_J, hs_D, hs_R, uI_at, uJ_at, uD_at, uR_at, List.take_succ_cons, List.take_zero, List.drop_succ_cons, List.drop_zero, List.reverse_cons, List.reverse_nil, List.nil_append, List.cons_append, List.map_cons, List.map_nil, List.sum_cons, List.sum_nil, List.length_cons, List.length_nil, Option.toList_some, Option.toList_none, true_and, and_true, false_and, and_false, true_implies, false_implies, implies_true, not_true_eq_false, not_false_eq_true, ne_eq, if_true, if_false, Bool.and_true, Bool.true_and, decide_true, decide_false, reduceIte, reduceCtorEq, Bool.and_self, Bool.and_eq_true, decide_eq_true_eq, and_self, true_or, or_true, false_or, or_false, Nat.zero_add, Nat.add_zero, eq_self, Nat.reduceEqDiff, Nat.reduceLeDiff, Nat.reduceLT, Nat.reduceAdd, Nat.reduceSub, Nat.reduceMul, e, nI_leP (show y < 2147483648 by omega) (show y < 2147483648 by omega), Nat.le_refl, e322_112, B322_112, ek]
    exact kk D1 hd
  | j + 1, a, k, g, D1, ha, h0, hk, hd => by
    rw [pkF] at hk
    obtain ⟨v, hv⟩ : ∃ v, v = fg E n (rtP a y) w := ⟨_, rfl⟩
    rw [← hv] at hk
    rw [e322_72]
    simp only [B322_72, xSeq, i_push, i_load, i_iload, i_lload, i_dload, i_aload, i_istore, i_astore, i_lstore, i_dstore, i_iinc, i_ii, i_iiz, i_ll, i_llz, i_lli, i_li, i_i, i_l, i_i2l, i_l2i, i_dup, i_dup2, i_dup2w, i_dupx1, i_pop, i_pop2, i_goto, i_ifc, i_icmp, i_getI, i_getL, i_getR, i_putI, i_putZ, i_putL, i_putR, i_aldI, i_aldB, i_aldL, i_aldD, i_astI, i_astL, i_astD, i_alen, i_ret, i_iret, i_zret, i_lret, i_fret, i_dret, i_aret, i_invS0, i_invV0, i_m2, i_m1, i_ml, i_obj, lk, lkp, stf1, stf2, Value.category, rV, xTo, lv_args, xCk, xCat, xRc, xAk, hg_S, hg_I, hg_J, hg_D, hg_R, hs_I, hs_J, hs_D, hs_R, uI_at, uJ_at, uD_at, uR_at, List.take_succ_cons, List.take_zero, List.drop_succ_cons, List.drop_zero, List.reverse_cons, List.reverse_nil, List.nil_append, List.cons_append, List.map_cons, List.map_nil, List.sum_cons, List.sum_nil, List.length_cons, List.length_nil, Option.toList_some, Option.toList_none, true_and, and_true, false_and, and_false, true_implies, false_implies, implies_true, not_true_eq_false, not_false_eq_true, ne_eq, if_true, if_false, Bool.and_true, Bool.true_and, decide_true, decide_false, reduceIte, reduceCtorEq, Bool.and_self, Bool.and_eq_true, decide_eq_true_eq, and_self, true_or, or_true, false_or, or_false, Nat.zero_add, Nat.add_zero, eq_self, Nat.reduceEqDiff, Nat.reduceLeDiff, Nat.reduceLT, Nat.reduceAdd, Nat.reduceSub, Nat.reduceMul, LM_out hL, nI_leP (show y < 2147483648 by omega) (show a < 2147483648 by omega), show (y ≤ a) = False from eq_false (by omega)]
    refine L319 hL hX hB hp ⟨h0, by omega, by omega⟩ hw (fun D2 d2 => ?_)
    rw [← hv]
    by_cases hc : 0 < Op.cmpValue (FP.dcmp v g) .l
    · rw [if_pos hc] at hk
      simp only [xSeq, i_push, i_load, i_iload, i_lload, i_dload, i_aload, i_istore, i_astore, i_lstore, i_dstore, i_iinc, i_ii, i_iiz, i_ll, i_llz, i_lli, i_li, i_i, i_l, i_i2l, i_l2i, i_dup, i_dup2, i_dup2w, i_dupx1, i_pop, i_pop2, i_goto, i_ifc, i_icmp, i_getI, i_getL, i_getR, i_putI, i_putZ, i_putL, i_putR, i_aldI, i_aldB, i_aldL, i_aldD, i_astI, i_astL, i_astD, i_alen, i_ret, i_iret, i_zret, i_lret, i_fret, i_dret, i_aret, i_invS0, i_invV0, i_m2, i_m1, i_ml, i_obj, lk, lkp, stf1, stf2, Value.category, rV, xTo, lv_args, xCk, xCat, xRc, xAk, hg_S, hg_I, hg_J, hg_D, hg_R, hs_I, hs_J, hs_D, hs_R, uI_at, uJ_at, uD_at, uR_at, List.take_succ_cons, List.take_zero, List.drop_succ_cons, List.drop_zero, List.reverse_cons, List.reverse_nil, List.nil_append, List.cons_append, List.map_cons, List.map_nil, List.sum_cons, List.sum_nil, List.length_cons, List.length_nil, Option.toList_some, Option.toList_none, true_and, and_true, false_and, and_false, true_implies, false_implies, implies_true, not_true_eq_false, not_false_eq_true, ne_eq, if_true, if_false, Bool.and_true, Bool.true_and, decide_true, decide_false, reduceIte, reduceCtorEq, Bool.and_self, Bool.and_eq_true, decide_eq_true_eq, and_self, true_or, or_true, false_or, or_false, Nat.zero_add, Nat.add_zero, eq_self, Nat.reduceEqDiff, Nat.reduceLeDiff, Nat.reduceLT, Nat.reduceAdd, Nat.reduceSub, Nat.reduceMul, i_ddi, hc, e322_99, B322_99, e322_106, B322_106, nI_1]
      exact L322_72 hL hX hB hp hw hy kk j (a + 1) a v D2 (by omega) (by omega) hk (fun o k ho => (d2 o k ho).trans (hd o k ho))
    · rw [if_neg hc] at hk
      simp only [xSeq, i_push, i_load, i_iload, i_lload, i_dload, i_aload, i_istore, i_astore, i_lstore, i_dstore, i_iinc, i_ii, i_iiz, i_ll, i_llz, i_lli, i_li, i_i, i_l, i_i2l, i_l2i, i_dup, i_dup2, i_dup2w, i_dupx1, i_pop, i_pop2, i_goto, i_ifc, i_icmp, i_getI, i_getL, i_getR, i_putI, i_putZ, i_putL, i_putR, i_aldI, i_aldB, i_aldL, i_aldD, i_astI, i_astL, i_astD, i_alen, i_ret, i_iret, i_zret, i_lret, i_fret, i_dret, i_aret, i_invS0, i_invV0, i_m2, i_m1, i_ml, i_obj, lk, lkp, stf1, stf2, Value.category, rV, xTo, lv_args, xCk, xCat, xRc, xAk, hg_S, hg_I, hg_J, hg_D, hg_R, hs_I, hs_J, hs_D, hs_R, uI_at, uJ_at, uD_at, uR_at, List.take_succ_cons, List.take_zero, List.drop_succ_cons, List.drop_zero, List.reverse_cons, List.reverse_nil, List.nil_append, List.cons_append, List.map_cons, List.map_nil, List.sum_cons, List.sum_nil, List.length_cons, List.length_nil, Option.toList_some, Option.toList_none, true_and, and_true, false_and, and_false, true_implies, false_implies, implies_true, not_true_eq_false, not_false_eq_true, ne_eq, if_true, if_false, Bool.and_true, Bool.true_and, decide_true, decide_false, reduceIte, reduceCtorEq, Bool.and_self, Bool.and_eq_true, decide_eq_true_eq, and_self, true_or, or_true, false_or, or_false, Nat.zero_add, Nat.add_zero, eq_self, Nat.reduceEqDiff, Nat.reduceLeDiff, Nat.reduceLT, Nat.reduceAdd, Nat.reduceSub, Nat.reduceMul, i_ddi, hc, e322_106, B322_106, nI_1]
      exact L322_72 hL hX hB hp hw hy kk j (a + 1) k g D2 (by omega) (by omega) hk (fun o k ho => (d2 o k ho).trans (hd o k ho))
theorem rg_y {u : Int32} (h : rg u 2 30 = true) : ∃ y, 2 ≤ y ∧ y ≤ 30 ∧ u = nI y := by
  unfold rg at h
  rw [Bool.and_eq_true, Bool.not_eq_true', Bool.not_eq_true', decide_eq_false_iff_not, decide_eq_false_iff_not] at h
  obtain ⟨h1, h2⟩ := h
  rw [Int32.lt_iff_toInt_lt] at h1 h2
  have t2 : (2 : Int32).toInt = 2 := rfl
  have t30 : (30 : Int32).toInt = 30 := rfl
  obtain ⟨y, hy, rfl⟩ := nI_of (x := u) (fun e => by
    rw [Int32.lt_iff_toInt_lt, show (0 : Int32).toInt = 0 from rfl] at e
    omega)
  rw [nI_toInt hy] at h1 h2
  exact ⟨y, by omega, by omega, rfl⟩
end
/-! ===== the lowest bit ===== -/
section
def tzf : Nat → Nat → Nat
  | 0, _ => 0
  | f + 1, x => if x % 2 = 1 then 0 else tzf f (x / 2) + 1
theorem tz_u : ∀ (t f q : Nat), t < f → tzf f (2 ^ t * (2 * q + 1)) = t
  | 0, f, q, h => by
    obtain ⟨f', rfl⟩ : ∃ f', f = f' + 1 := ⟨f - 1, by omega⟩
    rw [tzf, if_pos (by omega)]
  | t + 1, f, q, h => by
    obtain ⟨f', rfl⟩ : ∃ f', f = f' + 1 := ⟨f - 1, by omega⟩
    have e : 2 ^ (t + 1) * (2 * q + 1) = 2 * (2 ^ t * (2 * q + 1)) := by rw [Nat.pow_succ, Nat.mul_comm (2 ^ t) 2, Nat.mul_assoc]
    rw [tzf, if_neg (by omega), e, Nat.mul_div_cancel_left _ (by decide), tz_u t f' q (by omega)]
theorem tz_ex : ∀ (f x : Nat), 0 < x → x < 2 ^ f → ∃ t q, t < f ∧ x = 2 ^ t * (2 * q + 1)
  | 0, x, h, h2 => by
    rw [Nat.pow_zero] at h2
    omega
  | f + 1, x, h, h2 => by
    by_cases e : x % 2 = 1
    · exact ⟨0, x / 2, by omega, by omega⟩
    · obtain ⟨t, q, h3, h4⟩ := tz_ex f (x / 2) (by omega) (by rw [Nat.pow_succ] at h2; omega)
      refine ⟨t + 1, q, by omega, ?_⟩
      rw [Nat.pow_succ, Nat.mul_comm (2 ^ t) 2, Nat.mul_assoc, ← h4]
      omega
theorem low_mask {x t q : Nat} (hx : x < 2 ^ 32) (e : x = 2 ^ t * (2 * q + 1)) : (x ^^^ 4294967295) &&& (x - 1) = 2 ^ t - 1 := by
  have hp := Nat.two_pow_pos t
  have e1 : x - 1 = 2 ^ t * (2 * q) + (2 ^ t - 1) := by
    rw [e, Nat.mul_add, Nat.mul_one]
    omega
  have e2 : x = 2 ^ t * (2 * q + 1) + 0 := e
  apply Nat.eq_of_testBit_eq
  intro i
  rw [Nat.testBit_and, Nat.testBit_xor, Nat.testBit_two_pow_sub_one, show (4294967295 : Nat) = 2 ^ 32 - 1 from rfl, Nat.testBit_two_pow_sub_one, e1, Nat.testBit_two_pow_mul_add _ (by omega), Nat.testBit_two_pow_sub_one]
  by_cases h : i < t
  · have h32 : i < 32 := by
      refine Nat.lt_of_not_le (fun h3 => ?_)
      have : 2 ^ 32 ≤ 2 ^ t := Nat.pow_le_pow_right (by decide) (by omega)
      have h4 : 2 ^ t ≤ x := by rw [e]; exact Nat.le_mul_of_pos_right _ (by omega)
      omega
    have hb : x.testBit i = false := by
      rw [e2, Nat.testBit_two_pow_mul_add _ hp, if_pos h, Nat.zero_testBit]
    rw [if_pos h, hb, decide_eq_true h, decide_eq_true h32]
    rfl
  · rw [if_neg h, decide_eq_false h]
    have hb : x.testBit i = (2 * q + 1).testBit (i - t) := by
      rw [e2, Nat.testBit_two_pow_mul_add _ hp, if_neg h]
    by_cases h5 : i - t = 0
    · rw [h5, Nat.testBit_zero]
      have : 2 * q % 2 = 0 := by omega
      rw [this]
      simp
    · obtain ⟨k, hk⟩ : ∃ k, i - t = k + 1 := ⟨i - t - 1, by omega⟩
      have e3 : (2 * q).testBit (k + 1) = q.testBit k := by rw [Nat.testBit_succ]; congr 1; omega
      have e4 : (2 * q + 1).testBit (k + 1) = q.testBit k := by rw [Nat.testBit_succ]; congr 1; omega
      rw [hb, hk, e3, e4]
      by_cases h32 : i < 32
      · rw [decide_eq_true h32]
        cases q.testBit k <;> rfl
      · have h6 : x.testBit i = false := Nat.testBit_lt_two_pow (Nat.lt_of_lt_of_le hx (Nat.pow_le_pow_right (by decide) (by omega)))
        rw [hb, hk, e4] at h6
        rw [h6]
        simp
variable {S : xS} {I : xI} {J : xJ} {D : xDb} {R : xR} {b : Nat × Nat} {Q : xQ}
theorem pm_lt {t : Nat} (h : t ≤ 31) : 2 ^ t - 1 < 2147483648 ∧ 2 ^ t ≤ 2147483648 := by
  have := Nat.pow_le_pow_right (show 0 < 2 by decide) h
  omega
theorem pm_le {t k : Nat} (hk : 1 ≤ k) : (2 ^ t - 1 ≤ 2 ^ k) = (t ≤ k) := by
  have := Nat.two_pow_pos k
  have := Nat.two_pow_pos t
  apply propext
  constructor
  · intro h
    refine Nat.le_of_not_lt (fun h2 => ?_)
    have h3 := Nat.pow_le_pow_right (show 0 < 2 by decide) (show k + 1 ≤ t from h2)
    rw [Nat.pow_succ] at h3
    have h4 : 2 ^ 1 ≤ 2 ^ k := Nat.pow_le_pow_right (by decide) hk
    omega
  · intro h
    have := Nat.pow_le_pow_right (show 0 < 2 by decide) h
    omega
theorem pm_sh {t k : Nat} (h : k < t) : (2 ^ t - 1) / 2 ^ k = 2 ^ (t - k) - 1 := by
  have hp := Nat.two_pow_pos k
  have e : 2 ^ t = 2 ^ k * 2 ^ (t - k) := by rw [← Nat.pow_add]; congr 1; omega
  have hq := Nat.two_pow_pos (t - k)
  have e2 : 2 ^ t - 1 = 2 ^ k * (2 ^ (t - k) - 1) + (2 ^ k - 1) := by
    rw [e, Nat.mul_sub, Nat.mul_one]
    have : 2 ^ k * 1 ≤ 2 ^ k * 2 ^ (t - k) := Nat.mul_le_mul_left _ hq
    omega
  rw [e2, Nat.mul_add_div hp, Nat.div_eq_of_lt (by omega), Nat.add_zero]
theorem t_17 {t : Nat} (h : t ≤ 31) : xRun xT 5 17 [(0, .int (nI (2 ^ t - 1)))] [] (S, I, J, D, R) b Q = xRun xT 5 34 [(0, .int (nI (2 ^ (if t ≤ 16 then t else t - 16) - 1))), (1, .int (nI (if t ≤ 16 then 1 else 17)))] [] (S, I, J, D, R) b Q := by
  have hb := pm_lt h
  have e1 : (nI (2 ^ t - 1) ≤ 65536) = (t ≤ 16) := by rw [show (65536 : Int32) = nI (2 ^ 16) from rfl, nI_leP hb.1 (by decide), pm_le (by decide)]
  rw [e5_17]
  by_cases h1 : t ≤ 16
  · simp only [B5_17, xSeq, i_push, i_load, i_iload, i_lload, i_dload, i_aload, i_istore, i_astore, i_lstore, i_dstore, i_iinc, i_ii, i_iiz, i_ll, i_llz, i_lli, i_li, i_i, i_l, i_i2l, i_l2i, i_dup, i_dup2, i_dup2w, i_dupx1, i_pop, i_pop2, i_goto, i_ifc, i_icmp, i_getI, i_getL, i_getR, i_putI, i_putZ, i_putL, i_putR, i_aldI, i_aldB, i_aldL, i_aldD, i_astI, i_astL, i_astD, i_alen, i_ret, i_iret, i_zret, i_lret, i_fret, i_dret, i_aret, i_invS0, i_invV0, i_m2, i_m1, i_ml, i_obj, lk, lkp, stf1, stf2, Value.category, rV, xTo, lv_args, xCk, xCat, xRc, xAk, hg_S, hg_I, hg_J, hg_D, hg_R, hs_I, hs_J, hs_D, hs_R, uI_at, uJ_at, uD_at, uR_at, List.take_succ_cons, List.take_zero, List.drop_succ_cons, List.drop_zero, List.reverse_cons, List.reverse_nil, List.nil_append, List.cons_append, List.map_cons, List.map_nil, List.sum_cons, List.sum_nil, List.length_cons, List.length_nil, Option.toList_some, Option.toList_none, true_and, and_true, false_and, and_false, true_implies, false_implies, implies_true, not_true_eq_false, not_false_eq_true, ne_eq, if_true, if_false, Bool.and_true, Bool.true_and, decide_true, decide_false, reduceIte, reduceCtorEq, Bool.and_self, Bool.and_eq_true, decide_eq_true_eq, and_self, true_or, or_true, false_or, or_false, Nat.zero_add, Nat.add_zero, eq_self, Nat.reduceEqDiff, Nat.reduceLeDiff, Nat.reduceLT, Nat.reduceAdd, Nat.reduceSub, Nat.reduceMul, e1, h1, if_true]
    rfl
  · simp only [B5_17, xSeq, i_push, i_load, i_iload, i_lload, i_dload, i_aload, i_istore, i_astore, i_lstore, i_dstore, i_iinc, i_ii, i_iiz, i_ll, i_llz, i_lli, i_li, i_i, i_l, i_i2l, i_l2i, i_dup, i_dup2, i_dup2w, i_dupx1, i_pop, i_pop2, i_goto, i_ifc, i_icmp, i_getI, i_getL, i_getR, i_putI, i_putZ, i_putL, i_putR, i_aldI, i_aldB, i_aldL, i_aldD, i_astI, i_astL, i_astD, i_alen, i_ret, i_iret, i_zret, i_lret, i_fret, i_dret, i_aret, i_invS0, i_invV0, i_m2, i_m1, i_ml, i_obj, lk, lkp, stf1, stf2, Value.category, rV, xTo, lv_args, xCk, xCat, xRc, xAk, hg_S, hg_I, hg_J, hg_D, hg_R, hs_I, hs_J, hs_D, hs_R, uI_at, uJ_at, uD_at, uR_at, List.take_succ_cons, List.take_zero, List.drop_succ_cons, List.drop_zero, List.reverse_cons, List.reverse_nil, List.nil_append, List.cons_append, List.map_cons, List.map_nil, List.sum_cons, List.sum_nil, List.length_cons, List.length_nil, Option.toList_some, Option.toList_none, true_and, and_true, false_and, and_false, true_implies, false_implies, implies_true, not_true_eq_false, not_false_eq_true, ne_eq, if_true, if_false, Bool.and_true, Bool.true_and, decide_true, decide_false, reduceIte, reduceCtorEq, Bool.and_self, Bool.and_eq_true, decide_eq_true_eq, and_self, true_or, or_true, false_or, or_false, Nat.zero_add, Nat.add_zero, eq_self, Nat.reduceEqDiff, Nat.reduceLeDiff, Nat.reduceLT, Nat.reduceAdd, Nat.reduceSub, Nat.reduceMul, e1, h1, if_false, i_ushr (show 2 ^ t - 1 < 2 ^ 32 by omega) 16 16 (by decide), pm_sh (show 16 < t by omega)]
    rfl
theorem t_34 {t m : Nat} (h : t ≤ 16) : xRun xT 5 34 [(0, .int (nI (2 ^ t - 1))), (1, .int (nI m))] [] (S, I, J, D, R) b Q = xRun xT 5 49 [(0, .int (nI (2 ^ (if t ≤ 8 then t else t - 8) - 1))), (1, .int (nI (if t ≤ 8 then m else m + 8)))] [] (S, I, J, D, R) b Q := by
  have hb := pm_lt (show t ≤ 31 by omega)
  have e1 : (nI (2 ^ t - 1) ≤ 256) = (t ≤ 8) := by rw [show (256 : Int32) = nI (2 ^ 8) from rfl, nI_leP hb.1 (by decide), pm_le (by decide)]
  have e8 : nI m + 8 = nI (m + 8) := by rw [show (8 : Int32) = nI 8 from rfl, nI_add]
  rw [e5_34]
  by_cases h1 : t ≤ 8
  · simp only [B5_34, xSeq, i_push, i_load, i_iload, i_lload, i_dload, i_aload, i_istore, i_astore, i_lstore, i_dstore, i_iinc, i_ii, i_iiz, i_ll, i_llz, i_lli, i_li, i_i, i_l, i_i2l, i_l2i, i_dup, i_dup2, i_dup2w, i_dupx1, i_pop, i_pop2, i_goto, i_ifc, i_icmp, i_getI, i_getL, i_getR, i_putI, i_putZ, i_putL, i_putR, i_aldI, i_aldB, i_aldL, i_aldD, i_astI, i_astL, i_astD, i_alen, i_ret, i_iret, i_zret, i_lret, i_fret, i_dret, i_aret, i_invS0, i_invV0, i_m2, i_m1, i_ml, i_obj, lk, lkp, stf1, stf2, Value.category, rV, xTo, lv_args, xCk, xCat, xRc, xAk, hg_S, hg_I, hg_J, hg_D, hg_R, hs_I, hs_J, hs_D, hs_R, uI_at, uJ_at, uD_at, uR_at, List.take_succ_cons, List.take_zero, List.drop_succ_cons, List.drop_zero, List.reverse_cons, List.reverse_nil, List.nil_append, List.cons_append, List.map_cons, List.map_nil, List.sum_cons, List.sum_nil, List.length_cons, List.length_nil, Option.toList_some, Option.toList_none, true_and, and_true, false_and, and_false, true_implies, false_implies, implies_true, not_true_eq_false, not_false_eq_true, ne_eq, if_true, if_false, Bool.and_true, Bool.true_and, decide_true, decide_false, reduceIte, reduceCtorEq, Bool.and_self, Bool.and_eq_true, decide_eq_true_eq, and_self, true_or, or_true, false_or, or_false, Nat.zero_add, Nat.add_zero, eq_self, Nat.reduceEqDiff, Nat.reduceLeDiff, Nat.reduceLT, Nat.reduceAdd, Nat.reduceSub, Nat.reduceMul, e1, h1, if_true]
  · simp only [B5_34, xSeq, i_push, i_load, i_iload, i_lload, i_dload, i_aload, i_istore, i_astore, i_lstore, i_dstore, i_iinc, i_ii, i_iiz, i_ll, i_llz, i_lli, i_li, i_i, i_l, i_i2l, i_l2i, i_dup, i_dup2, i_dup2w, i_dupx1, i_pop, i_pop2, i_goto, i_ifc, i_icmp, i_getI, i_getL, i_getR, i_putI, i_putZ, i_putL, i_putR, i_aldI, i_aldB, i_aldL, i_aldD, i_astI, i_astL, i_astD, i_alen, i_ret, i_iret, i_zret, i_lret, i_fret, i_dret, i_aret, i_invS0, i_invV0, i_m2, i_m1, i_ml, i_obj, lk, lkp, stf1, stf2, Value.category, rV, xTo, lv_args, xCk, xCat, xRc, xAk, hg_S, hg_I, hg_J, hg_D, hg_R, hs_I, hs_J, hs_D, hs_R, uI_at, uJ_at, uD_at, uR_at, List.take_succ_cons, List.take_zero, List.drop_succ_cons, List.drop_zero, List.reverse_cons, List.reverse_nil, List.nil_append, List.cons_append, List.map_cons, List.map_nil, List.sum_cons, List.sum_nil, List.length_cons, List.length_nil, Option.toList_some, Option.toList_none, true_and, and_true, false_and, and_false, true_implies, false_implies, implies_true, not_true_eq_false, not_false_eq_true, ne_eq, if_true, if_false, Bool.and_true, Bool.true_and, decide_true, decide_false, reduceIte, reduceCtorEq, Bool.and_self, Bool.and_eq_true, decide_eq_true_eq, and_self, true_or, or_true, false_or, or_false, Nat.zero_add, Nat.add_zero, eq_self, Nat.reduceEqDiff, Nat.reduceLeDiff, Nat.reduceLT, Nat.reduceAdd, Nat.reduceSub, Nat.reduceMul, e1, h1, if_false, e8, i_ushr (show 2 ^ t - 1 < 2 ^ 32 by omega) 8 8 (by decide), pm_sh (show 8 < t by omega)]
theorem t_49 {t m : Nat} (h : t ≤ 8) : xRun xT 5 49 [(0, .int (nI (2 ^ t - 1))), (1, .int (nI m))] [] (S, I, J, D, R) b Q = xRun xT 5 62 [(0, .int (nI (2 ^ (if t ≤ 4 then t else t - 4) - 1))), (1, .int (nI (if t ≤ 4 then m else m + 4)))] [] (S, I, J, D, R) b Q := by
  have hb := pm_lt (show t ≤ 31 by omega)
  have e1 : (nI (2 ^ t - 1) ≤ 16) = (t ≤ 4) := by rw [show (16 : Int32) = nI (2 ^ 4) from rfl, nI_leP hb.1 (by decide), pm_le (by decide)]
  have e8 : nI m + 4 = nI (m + 4) := by rw [show (4 : Int32) = nI 4 from rfl, nI_add]
  rw [e5_49]
  by_cases h1 : t ≤ 4
  · simp only [B5_49, xSeq, i_push, i_load, i_iload, i_lload, i_dload, i_aload, i_istore, i_astore, i_lstore, i_dstore, i_iinc, i_ii, i_iiz, i_ll, i_llz, i_lli, i_li, i_i, i_l, i_i2l, i_l2i, i_dup, i_dup2, i_dup2w, i_dupx1, i_pop, i_pop2, i_goto, i_ifc, i_icmp, i_getI, i_getL, i_getR, i_putI, i_putZ, i_putL, i_putR, i_aldI, i_aldB, i_aldL, i_aldD, i_astI, i_astL, i_astD, i_alen, i_ret, i_iret, i_zret, i_lret, i_fret, i_dret, i_aret, i_invS0, i_invV0, i_m2, i_m1, i_ml, i_obj, lk, lkp, stf1, stf2, Value.category, rV, xTo, lv_args, xCk, xCat, xRc, xAk, hg_S, hg_I, hg_J, hg_D, hg_R, hs_I, hs_J, hs_D, hs_R, uI_at, uJ_at, uD_at, uR_at, List.take_succ_cons, List.take_zero, List.drop_succ_cons, List.drop_zero, List.reverse_cons, List.reverse_nil, List.nil_append, List.cons_append, List.map_cons, List.map_nil, List.sum_cons, List.sum_nil, List.length_cons, List.length_nil, Option.toList_some, Option.toList_none, true_and, and_true, false_and, and_false, true_implies, false_implies, implies_true, not_true_eq_false, not_false_eq_true, ne_eq, if_true, if_false, Bool.and_true, Bool.true_and, decide_true, decide_false, reduceIte, reduceCtorEq, Bool.and_self, Bool.and_eq_true, decide_eq_true_eq, and_self, true_or, or_true, false_or, or_false, Nat.zero_add, Nat.add_zero, eq_self, Nat.reduceEqDiff, Nat.reduceLeDiff, Nat.reduceLT, Nat.reduceAdd, Nat.reduceSub, Nat.reduceMul, e1, h1, if_true]
  · simp only [B5_49, xSeq, i_push, i_load, i_iload, i_lload, i_dload, i_aload, i_istore, i_astore, i_lstore, i_dstore, i_iinc, i_ii, i_iiz, i_ll, i_llz, i_lli, i_li, i_i, i_l, i_i2l, i_l2i, i_dup, i_dup2, i_dup2w, i_dupx1, i_pop, i_pop2, i_goto, i_ifc, i_icmp, i_getI, i_getL, i_getR, i_putI, i_putZ, i_putL, i_putR, i_aldI, i_aldB, i_aldL, i_aldD, i_astI, i_astL, i_astD, i_alen, i_ret, i_iret, i_zret, i_lret, i_fret, i_dret, i_aret, i_invS0, i_invV0, i_m2, i_m1, i_ml, i_obj, lk, lkp, stf1, stf2, Value.category, rV, xTo, lv_args, xCk, xCat, xRc, xAk, hg_S, hg_I, hg_J, hg_D, hg_R, hs_I, hs_J, hs_D, hs_R, uI_at, uJ_at, uD_at, uR_at, List.take_succ_cons, List.take_zero, List.drop_succ_cons, List.drop_zero, List.reverse_cons, List.reverse_nil, List.nil_append, List.cons_append, List.map_cons, List.map_nil, List.sum_cons, List.sum_nil, List.length_cons, List.length_nil, Option.toList_some, Option.toList_none, true_and, and_true, false_and, and_false, true_implies, false_implies, implies_true, not_true_eq_false, not_false_eq_true, ne_eq, if_true, if_false, Bool.and_true, Bool.true_and, decide_true, decide_false, reduceIte, reduceCtorEq, Bool.and_self, Bool.and_eq_true, decide_eq_true_eq, and_self, true_or, or_true, false_or, or_false, Nat.zero_add, Nat.add_zero, eq_self, Nat.reduceEqDiff, Nat.reduceLeDiff, Nat.reduceLT, Nat.reduceAdd, Nat.reduceSub, Nat.reduceMul, e1, h1, if_false, e8, i_ushr (show 2 ^ t - 1 < 2 ^ 32 by omega) 4 4 (by decide), pm_sh (show 4 < t by omega)]
theorem t_62 {t m : Nat} (h : t ≤ 4) : xRun xT 5 62 [(0, .int (nI (2 ^ t - 1))), (1, .int (nI m))] [] (S, I, J, D, R) b Q = xRun xT 5 74 [(0, .int (nI (2 ^ (if t ≤ 2 then t else t - 2) - 1))), (1, .int (nI (if t ≤ 2 then m else m + 2)))] [] (S, I, J, D, R) b Q := by
  have hb := pm_lt (show t ≤ 31 by omega)
  have e1 : (nI (2 ^ t - 1) ≤ 4) = (t ≤ 2) := by rw [show (4 : Int32) = nI (2 ^ 2) from rfl, nI_leP hb.1 (by decide), pm_le (by decide)]
  have e8 : nI m + 2 = nI (m + 2) := by rw [show (2 : Int32) = nI 2 from rfl, nI_add]
  rw [e5_62]
  by_cases h1 : t ≤ 2
  · simp only [B5_62, xSeq, i_push, i_load, i_iload, i_lload, i_dload, i_aload, i_istore, i_astore, i_lstore, i_dstore, i_iinc, i_ii, i_iiz, i_ll, i_llz, i_lli, i_li, i_i, i_l, i_i2l, i_l2i, i_dup, i_dup2, i_dup2w, i_dupx1, i_pop, i_pop2, i_goto, i_ifc, i_icmp, i_getI, i_getL, i_getR, i_putI, i_putZ, i_putL, i_putR, i_aldI, i_aldB, i_aldL, i_aldD, i_astI, i_astL, i_astD, i_alen, i_ret, i_iret, i_zret, i_lret, i_fret, i_dret, i_aret, i_invS0, i_invV0, i_m2, i_m1, i_ml, i_obj, lk, lkp, stf1, stf2, Value.category, rV, xTo, lv_args, xCk, xCat, xRc, xAk, hg_S, hg_I, hg_J, hg_D, hg_R, hs_I, hs_J, hs_D, hs_R, uI_at, uJ_at, uD_at, uR_at, List.take_succ_cons, List.take_zero, List.drop_succ_cons, List.drop_zero, List.reverse_cons, List.reverse_nil, List.nil_append, List.cons_append, List.map_cons, List.map_nil, List.sum_cons, List.sum_nil, List.length_cons, List.length_nil, Option.toList_some, Option.toList_none, true_and, and_true, false_and, and_false, true_implies, false_implies, implies_true, not_true_eq_false, not_false_eq_true, ne_eq, if_true, if_false, Bool.and_true, Bool.true_and, decide_true, decide_false, reduceIte, reduceCtorEq, Bool.and_self, Bool.and_eq_true, decide_eq_true_eq, and_self, true_or, or_true, false_or, or_false, Nat.zero_add, Nat.add_zero, eq_self, Nat.reduceEqDiff, Nat.reduceLeDiff, Nat.reduceLT, Nat.reduceAdd, Nat.reduceSub, Nat.reduceMul, e1, h1, if_true]
  · simp only [B5_62, xSeq, i_push, i_load, i_iload, i_lload, i_dload, i_aload, i_istore, i_astore, i_lstore, i_dstore, i_iinc, i_ii, i_iiz, i_ll, i_llz, i_lli, i_li, i_i, i_l, i_i2l, i_l2i, i_dup, i_dup2, i_dup2w, i_dupx1, i_pop, i_pop2, i_goto, i_ifc, i_icmp, i_getI, i_getL, i_getR, i_putI, i_putZ, i_putL, i_putR, i_aldI, i_aldB, i_aldL, i_aldD, i_astI, i_astL, i_astD, i_alen, i_ret, i_iret, i_zret, i_lret, i_fret, i_dret, i_aret, i_invS0, i_invV0, i_m2, i_m1, i_ml, i_obj, lk, lkp, stf1, stf2, Value.category, rV, xTo, lv_args, xCk, xCat, xRc, xAk, hg_S, hg_I, hg_J, hg_D, hg_R, hs_I, hs_J, hs_D, hs_R, uI_at, uJ_at, uD_at, uR_at, List.take_succ_cons, List.take_zero, List.drop_succ_cons, List.drop_zero, List.reverse_cons, List.reverse_nil, List.nil_append, List.cons_append, List.map_cons, List.map_nil, List.sum_cons, List.sum_nil, List.length_cons, List.length_nil, Option.toList_some, Option.toList_none, true_and, and_true, false_and, and_false, true_implies, false_implies, implies_true, not_true_eq_false, not_false_eq_true, ne_eq, if_true, if_false, Bool.and_true, Bool.true_and, decide_true, decide_false, reduceIte, reduceCtorEq, Bool.and_self, Bool.and_eq_true, decide_eq_true_eq, and_self, true_or, or_true, false_or, or_false, Nat.zero_add, Nat.add_zero, eq_self, Nat.reduceEqDiff, Nat.reduceLeDiff, Nat.reduceLT, Nat.reduceAdd, Nat.reduceSub, Nat.reduceMul, e1, h1, if_false, e8, i_ushr (show 2 ^ t - 1 < 2 ^ 32 by omega) 2 2 (by decide), pm_sh (show 2 < t by omega)]
theorem t_74 {t m : Nat} (h0 : 1 ≤ t) (h : t ≤ 2) : xRun xT 5 74 [(0, .int (nI (2 ^ t - 1))), (1, .int (nI m))] [] (S, I, J, D, R) b Q = Q (.ok (some (.int (nI (m + t - 1))))) (S, I, J, D, R) b := by
  have e : (2 ^ t - 1) / 2 ^ 1 = t - 1 := by
    rcases (show t = 1 ∨ t = 2 by omega) with rfl | rfl <;> rfl
  have hb := pm_lt (show t ≤ 31 by omega)
  rw [e5_74]
  simp only [B5_74, xSeq, i_push, i_load, i_iload, i_lload, i_dload, i_aload, i_istore, i_astore, i_lstore, i_dstore, i_iinc, i_ii, i_iiz, i_ll, i_llz, i_lli, i_li, i_i, i_l, i_i2l, i_l2i, i_dup, i_dup2, i_dup2w, i_dupx1, i_pop, i_pop2, i_goto, i_ifc, i_icmp, i_getI, i_getL, i_getR, i_putI, i_putZ, i_putL, i_putR, i_aldI, i_aldB, i_aldL, i_aldD, i_astI, i_astL, i_astD, i_alen, i_ret, i_iret, i_zret, i_lret, i_fret, i_dret, i_aret, i_invS0, i_invV0, i_m2, i_m1, i_ml, i_obj, lk, lkp, stf1, stf2, Value.category, rV, xTo, lv_args, xCk, xCat, xRc, xAk, hg_S, hg_I, hg_J, hg_D, hg_R, hs_I, hs_J, hs_D, hs_R, uI_at, uJ_at, uD_at, uR_at, List.take_succ_cons, List.take_zero, List.drop_succ_cons, List.drop_zero, List.reverse_cons, List.reverse_nil, List.nil_append, List.cons_append, List.map_cons, List.map_nil, List.sum_cons, List.sum_nil, List.length_cons, List.length_nil, Option.toList_some, Option.toList_none, true_and, and_true, false_and, and_false, true_implies, false_implies, implies_true, not_true_eq_false, not_false_eq_true, ne_eq, if_true, if_false, Bool.and_true, Bool.true_and, decide_true, decide_false, reduceIte, reduceCtorEq, Bool.and_self, Bool.and_eq_true, decide_eq_true_eq, and_self, true_or, or_true, false_or, or_false, Nat.zero_add, Nat.add_zero, eq_self, Nat.reduceEqDiff, Nat.reduceLeDiff, Nat.reduceLT, Nat.reduceAdd, Nat.reduceSub, Nat.reduceMul, i_ushr (show 2 ^ t - 1 < 2 ^ 32 by omega) 1 1 (by decide), e, nI_add]
  rw [show m + (t - 1) = m + t - 1 by omega]
theorem Y5 {x t q : Nat} (hx : x < 2 ^ 32) (e : x = 2 ^ t * (2 * q + 1)) : xRun xT 5 0 [(0, .int (nI x))] [] (S, I, J, D, R) b Q = Q (.ok (some (.int (nI t)))) (S, I, J, D, R) b := by
  have hp := Nat.two_pow_pos t
  have hx0 : 2 ^ t ≤ x := by rw [e]; exact Nat.le_mul_of_pos_right _ (by omega)
  have ht : t ≤ 31 := by
    refine Nat.le_of_not_lt (fun h3 => ?_)
    have : 2 ^ 32 ≤ 2 ^ t := Nat.pow_le_pow_right (by decide) (by omega)
    omega
  have e1 : (nI x ^^^ -1) &&& (nI x - 1) = nI (2 ^ t - 1) := by
    rw [show (-1 : Int32) = nI 4294967295 from by decide, i_xorN, show (1 : Int32) = nI 1 from rfl, nI_subn (show 1 ≤ x by omega), i_andN, low_mask hx e]
  have hb := pm_lt ht
  rw [e5_0]
  simp only [B5_0, xSeq, i_push, i_load, i_iload, i_lload, i_dload, i_aload, i_istore, i_astore, i_lstore, i_dstore, i_iinc, i_ii, i_iiz, i_ll, i_llz, i_lli, i_li, i_i, i_l, i_i2l, i_l2i, i_dup, i_dup2, i_dup2w, i_dupx1, i_pop, i_pop2, i_goto, i_ifc, i_icmp, i_getI, i_getL, i_getR, i_putI, i_putZ, i_putL, i_putR, i_aldI, i_aldB, i_aldL, i_aldD, i_astI, i_astL, i_astD, i_alen, i_ret, i_iret, i_zret, i_lret, i_fret, i_dret, i_aret, i_invS0, i_invV0, i_m2, i_m1, i_ml, i_obj, lk, lkp, stf1, stf2, Value.category, rV, xTo, lv_args, xCk, xCat, xRc, xAk, hg_S, hg_I, hg_J, hg_D, hg_R, hs_I, hs_J, hs_D, hs_R, uI_at, uJ_at, uD_at, uR_at, List.take_succ_cons, List.take_zero, List.drop_succ_cons, List.drop_zero, List.reverse_cons, List.reverse_nil, List.nil_append, List.cons_append, List.map_cons, List.map_nil, List.sum_cons, List.sum_nil, List.length_cons, List.length_nil, Option.toList_some, Option.toList_none, true_and, and_true, false_and, and_false, true_implies, false_implies, implies_true, not_true_eq_false, not_false_eq_true, ne_eq, if_true, if_false, Bool.and_true, Bool.true_and, decide_true, decide_false, reduceIte, reduceCtorEq, Bool.and_self, Bool.and_eq_true, decide_eq_true_eq, and_self, true_or, or_true, false_or, or_false, Nat.zero_add, Nat.add_zero, eq_self, Nat.reduceEqDiff, Nat.reduceLeDiff, Nat.reduceLT, Nat.reduceAdd, Nat.reduceSub, Nat.reduceMul, e1]
  rcases Nat.eq_zero_or_pos t with h0 | h0
  · subst h0
    simp only [show ((0 : Int32) < nI (2 ^ 0 - 1)) = False from eq_false (by decide), xSeq, i_push, i_load, i_iload, i_lload, i_dload, i_aload, i_istore, i_astore, i_lstore, i_dstore, i_iinc, i_ii, i_iiz, i_ll, i_llz, i_lli, i_li, i_i, i_l, i_i2l, i_l2i, i_dup, i_dup2, i_dup2w, i_dupx1, i_pop, i_pop2, i_goto, i_ifc, i_icmp, i_getI, i_getL, i_getR, i_putI, i_putZ, i_putL, i_putR, i_aldI, i_aldB, i_aldL, i_aldD, i_astI, i_astL, i_astD, i_alen, i_ret, i_iret, i_zret, i_lret, i_fret, i_dret, i_aret, i_invS0, i_invV0, i_m2, i_m1, i_ml, i_obj, lk, lkp, stf1, stf2, Value.category, rV, xTo, lv_args, xCk, xCat, xRc, xAk, hg_S, hg_I, hg_J, hg_D, hg_R, hs_I, hs_J, hs_D, hs_R, uI_at, uJ_at, uD_at, uR_at, List.take_succ_cons, List.take_zero, List.drop_succ_cons, List.drop_zero, List.reverse_cons, List.reverse_nil, List.nil_append, List.cons_append, List.map_cons, List.map_nil, List.sum_cons, List.sum_nil, List.length_cons, List.length_nil, Option.toList_some, Option.toList_none, true_and, and_true, false_and, and_false, true_implies, false_implies, implies_true, not_true_eq_false, not_false_eq_true, ne_eq, if_true, if_false, Bool.and_true, Bool.true_and, decide_true, decide_false, reduceIte, reduceCtorEq, Bool.and_self, Bool.and_eq_true, decide_eq_true_eq, and_self, true_or, or_true, false_or, or_false, Nat.zero_add, Nat.add_zero, eq_self, Nat.reduceEqDiff, Nat.reduceLeDiff, Nat.reduceLT, Nat.reduceAdd, Nat.reduceSub, Nat.reduceMul, show (nI (2 ^ 0 - 1) &&& 32 : Int32) = nI 0 from by decide]
  · have h2 : 2 ^ 1 ≤ 2 ^ t := Nat.pow_le_pow_right (by decide) h0
    have e2 : ((0 : Int32) < nI (2 ^ t - 1)) = True := eq_true (by
      rw [show (0 : Int32) = nI 0 from rfl, nI_ltI (by decide) hb.1]
      omega)
    simp only [e2, xSeq, i_push, i_load, i_iload, i_lload, i_dload, i_aload, i_istore, i_astore, i_lstore, i_dstore, i_iinc, i_ii, i_iiz, i_ll, i_llz, i_lli, i_li, i_i, i_l, i_i2l, i_l2i, i_dup, i_dup2, i_dup2w, i_dupx1, i_pop, i_pop2, i_goto, i_ifc, i_icmp, i_getI, i_getL, i_getR, i_putI, i_putZ, i_putL, i_putR, i_aldI, i_aldB, i_aldL, i_aldD, i_astI, i_astL, i_astD, i_alen, i_ret, i_iret, i_zret, i_lret, i_fret, i_dret, i_aret, i_invS0, i_invV0, i_m2, i_m1, i_ml, i_obj, lk, lkp, stf1, stf2, Value.category, rV, xTo, lv_args, xCk, xCat, xRc, xAk, hg_S, hg_I, hg_J, hg_D, hg_R, hs_I, hs_J, hs_D, hs_R, uI_at, uJ_at, uD_at, uR_at, List.take_succ_cons, List.take_zero, List.drop_succ_cons, List.drop_zero, List.reverse_cons, List.reverse_nil, List.nil_append, List.cons_append, List.map_cons, List.map_nil, List.sum_cons, List.sum_nil, List.length_cons, List.length_nil, Option.toList_some, Option.toList_none, true_and, and_true, false_and, and_false, true_implies, false_implies, implies_true, not_true_eq_false, not_false_eq_true, ne_eq, if_true, if_false, Bool.and_true, Bool.true_and, decide_true, decide_false, reduceIte, reduceCtorEq, Bool.and_self, Bool.and_eq_true, decide_eq_true_eq, and_self, true_or, or_true, false_or, or_false, Nat.zero_add, Nat.add_zero, eq_self, Nat.reduceEqDiff, Nat.reduceLeDiff, Nat.reduceLT, Nat.reduceAdd, Nat.reduceSub, Nat.reduceMul]
    rw [t_17 ht, t_34 (by split <;> omega), t_49 (by repeat' split
                                                     all_goals omega), t_62 (by repeat' split
                                                                                all_goals omega), t_74 (by repeat' split
                                                                                                           all_goals omega) (by repeat' split
                                                                                                                                all_goals omega)]
    refine congrArg (fun z => Q (.ok (some (.int (nI z)))) (S, I, J, D, R) b) ?_
    repeat' split
    all_goals omega
theorem lN_i32 {x : Nat} (hx : x < 2 ^ 64) : (lN x).toInt32 = nI (x % 4294967296) := by
  rw [lN_i]
  apply i_inj
  rw [i_tb, i_tb]
  apply BitVec.eq_of_toNat_eq
  rw [BitVec.toNat_ofNat, BitVec.toNat_ofNat]
  omega
theorem nI_ne0' {k : Nat} (h : k < 4294967296) : (nI k = 0) = (k = 0) := by
  apply propext
  constructor
  · intro e
    have h2 : (nI k).toBitVec.toNat = (0 : Int32).toBitVec.toNat := by rw [e]
    rw [pk_tn h] at h2
    exact h2
  · rintro rfl
    rfl
theorem Y3 {x : Nat} (h0 : 0 < x) (hx : x < 2 ^ 64) : xRun xT 3 0 [(0, .long (lN x))] [] (S, I, J, D, R) b Q = Q (.ok (some (.int (nI (tzf 64 x))))) (S, I, J, D, R) b := by
  have hq : x < 18446744073709551616 := hx
  have e1 := lN_i32 hx
  rw [e3_0]
  by_cases h : x % 4294967296 = 0
  · have e2 : (nI (x % 4294967296) = 0) = True := by rw [nI_ne0' (by omega)]; exact eq_true h
    have e3 : (jLushr (lN x) 32).toInt32 = nI (x / 4294967296) := by
      rw [show (32 : Int32) = nI 32 from rfl, q_ushr hx (by decide), lN_i]
    obtain ⟨t, q, h1, h2⟩ := tz_ex 32 (x / 4294967296) (by omega) (by omega)
    have h3 : x = 2 ^ (t + 32) * (2 * q + 1) := by
      have : x = 4294967296 * (x / 4294967296) := by omega
      rw [this, h2, Nat.pow_add, Nat.mul_comm (2 ^ t) (2 ^ 32), Nat.mul_assoc]
    have h4 : tzf 64 x = t + 32 := by rw [h3]; exact tz_u _ _ _ (by omega)
    have hY := fun (b : Nat × Nat) (Q : xQ) => Y5 (S := S) (I := I) (J := J) (D := D) (R := R) (b := b) (Q := Q) (x := x / 4294967296) (by omega) h2
    have e5 : (32 : Int32) + nI t = nI (t + 32) := by rw [show (32 : Int32) = nI 32 from rfl, nI_add, Nat.add_comm]
    simp only [B3_0, xSeq, i_push, i_load, i_iload, i_lload, i_dload, i_aload, i_istore, i_astore, i_lstore, i_dstore, i_iinc, i_ii, i_iiz, i_ll, i_llz, i_lli, i_li, i_i, i_l, i_i2l, i_l2i, i_dup, i_dup2, i_dup2w, i_dupx1, i_pop, i_pop2, i_goto, i_ifc, i_icmp, i_getI, i_getL, i_getR, i_putI, i_putZ, i_putL, i_putR, i_aldI, i_aldB, i_aldL, i_aldD, i_astI, i_astL, i_astD, i_alen, i_ret, i_iret, i_zret, i_lret, i_fret, i_dret, i_aret, i_invS0, i_invV0, i_m2, i_m1, i_ml, i_obj, lk, lkp, stf1, stf2, Value.category, rV, xTo, lv_args, xCk, xCat, xRc, xAk, hg_S, hg_I, hg_J, hg_D, hg_R, hs_I, hs_J, hs_D, hs_R, uI_at, uJ_at, uD_at, uR_at, List.take_succ_cons, List.take_zero, List.drop_succ_cons, List.drop_zero, List.reverse_cons, List.reverse_nil, List.nil_append, List.cons_append, List.map_cons, List.map_nil, List.sum_cons, List.sum_nil, List.length_cons, List.length_nil, Option.toList_some, Option.toList_none, true_and, and_true, false_and, and_false, true_implies, false_implies, implies_true, not_true_eq_false, not_false_eq_true, ne_eq, if_true, if_false, Bool.and_true, Bool.true_and, decide_true, decide_false, reduceIte, reduceCtorEq, Bool.and_self, Bool.and_eq_true, decide_eq_true_eq, and_self, true_or, or_true, false_or, or_false, Nat.zero_add, Nat.add_zero, eq_self, Nat.reduceEqDiff, Nat.reduceLeDiff, Nat.reduceLT, Nat.reduceAdd, Nat.reduceSub, Nat.reduceMul, e1, e2, ne_eq, not_true_eq_false, e3, hY, e5, e3_25, B3_25, h4]
  · have e2 : (nI (x % 4294967296) = 0) = False := by rw [nI_ne0' (by omega)]; exact eq_false h
    obtain ⟨t, q, h1, h2⟩ := tz_ex 32 (x % 4294967296) (by omega) (by omega)
    have h3 : x = 2 ^ t * (2 * (q + 2 ^ (31 - t) * (x / 4294967296)) + 1) := by
      have e6 : 2 ^ t * (2 * 2 ^ (31 - t)) = 4294967296 := by
        rw [← Nat.pow_succ', ← Nat.pow_add, show t + (31 - t + 1) = 32 by omega]
      have e7 : 2 ^ t * (2 * (q + 2 ^ (31 - t) * (x / 4294967296)) + 1) = 2 ^ t * (2 * q + 1) + 2 ^ t * (2 * 2 ^ (31 - t)) * (x / 4294967296) := by
        rw [Nat.mul_assoc (2 ^ t), ← Nat.mul_add]
        congr 1
        rw [Nat.mul_assoc 2]
        omega
      rw [e7, e6, ← h2]
      omega
    have h4 : tzf 64 x = t := by
      have := tz_u t 64 (q + 2 ^ (31 - t) * (x / 4294967296)) (by omega)
      rw [← h3] at this
      exact this
    have hY := fun (b : Nat × Nat) (Q : xQ) => Y5 (S := S) (I := I) (J := J) (D := D) (R := R) (b := b) (Q := Q) (x := x % 4294967296) (by omega) h2
    simp only [B3_0, xSeq, i_push, i_load, i_iload, i_lload, i_dload, i_aload, i_istore, i_astore, i_lstore, i_dstore, i_iinc, i_ii, i_iiz, i_ll, i_llz, i_lli, i_li, i_i, i_l, i_i2l, i_l2i, i_dup, i_dup2, i_dup2w, i_dupx1, i_pop, i_pop2, i_goto, i_ifc, i_icmp, i_getI, i_getL, i_getR, i_putI, i_putZ, i_putL, i_putR, i_aldI, i_aldB, i_aldL, i_aldD, i_astI, i_astL, i_astD, i_alen, i_ret, i_iret, i_zret, i_lret, i_fret, i_dret, i_aret, i_invS0, i_invV0, i_m2, i_m1, i_ml, i_obj, lk, lkp, stf1, stf2, Value.category, rV, xTo, lv_args, xCk, xCat, xRc, xAk, hg_S, hg_I, hg_J, hg_D, hg_R, hs_I, hs_J, hs_D, hs_R, uI_at, uJ_at, uD_at, uR_at, List.take_succ_cons, List.take_zero, List.drop_succ_cons, List.drop_zero, List.reverse_cons, List.reverse_nil, List.nil_append, List.cons_append, List.map_cons, List.map_nil, List.sum_cons, List.sum_nil, List.length_cons, List.length_nil, Option.toList_some, Option.toList_none, true_and, and_true, false_and, and_false, true_implies, false_implies, implies_true, not_true_eq_false, not_false_eq_true, ne_eq, if_true, if_false, Bool.and_true, Bool.true_and, decide_true, decide_false, reduceIte, reduceCtorEq, Bool.and_self, Bool.and_eq_true, decide_eq_true_eq, and_self, true_or, or_true, false_or, or_false, Nat.zero_add, Nat.add_zero, eq_self, Nat.reduceEqDiff, Nat.reduceLeDiff, Nat.reduceLT, Nat.reduceAdd, Nat.reduceSub, Nat.reduceMul, e1, e2, ne_eq, not_false_eq_true, e3_21, B3_21, hY, e3_25, B3_25, h4]
end
/-! ===== domains of the class ===== -/
section
theorem jMax_nI {a c : Nat} (ha : a < 2147483648) (hc : c < 2147483648) : jMax (nI a) (nI c) = nI (max a c) := by
  unfold jMax
  by_cases h : a < c
  · rw [if_pos ((nI_ltI ha hc).mpr h), Nat.max_eq_right (by omega)]
  · rw [if_neg (fun e => h ((nI_ltI ha hc).mp e)), Nat.max_eq_left (by omega)]
theorem jMin_nI {a c : Nat} (ha : a < 2147483648) (hc : c < 2147483648) : jMin (nI a) (nI c) = nI (min a c) := by
  unfold jMin
  by_cases h : c < a
  · rw [if_pos ((nI_ltI hc ha).mpr h), Nat.min_eq_right (by omega)]
  · rw [if_neg (fun e => h ((nI_ltI hc ha).mp e)), Nat.min_eq_left (by omega)]
/-- the neighbours of a site in its own spin, over the first bonds at it -/
def aN (st : Nat → Int32) (fi se : Nat → Nat) (sb : Nat → Nat → Nat) (x t : Nat) : Nat → Nat
  | 0 => 0
  | i + 1 => if st (sb t i) ≠ 0 ∧ x.testBit (fi (sb t i)) = x.testBit (se (sb t i)) then aN st fi se sb x t i ||| 2 ^ (if fi (sb t i) = t then se (sb t i) else fi (sb t i)) else aN st fi se sb x t i
theorem aN_lt {n m : Nat} {fi se dg : Nat → Nat} {sb : Nat → Nat → Nat} (hG : GR n m fi se dg sb) (st : Nat → Int32) (x : Nat) {t : Nat} (ht : t < n) : ∀ i, i ≤ dg t → aN st fi se sb x t i < 2 ^ n
  | 0, _ => Nat.two_pow_pos n
  | i + 1, hi => by
    obtain ⟨g0, g1, g2, g3, g4, g5, g6⟩ := hG
    have hk := g6 t i ht (by omega)
    have h := aN_lt ⟨g0, g1, g2, g3, g4, g5, g6⟩ st x ht i (by omega)
    rw [aN]
    split
    · refine Nat.or_lt_two_pow h (Nat.pow_lt_pow_right (by decide) ?_)
      split
      · exact g4 _ hk
      · exact g3 _ hk
    · exact h
variable {S : xS} {I : xI} {J : xJ} {D : xDb} {R : xR} {b : Nat × Nat} {Q : xQ} {n m : Nat} {fi se dg : Nat → Nat} {sb : Nat → Nat → Nat}
theorem R79_5 (hL : LC S R) (hG : GR n m fi se dg sb) (hC : CL I n m fi se dg sb) {x t : Nat} (hx : x < 2 ^ 64) (hJ : J 110 4 = lN x) (ht : t < n) : ∀ (j i : Nat), i + j = dg t → xRun xT 79 5 [(0, .ref 110), (1, .int (nI t)), (2, .long (lN (aN (I 111) fi se sb x t i))), (4, .int (nI i))] [] (S, I, J, D, R) b Q = Q (.ok (some (.long (lN (aN (I 111) fi se sb x t (dg t)))))) (S, I, J, D, R) b
  | 0, i, hi => by
    obtain ⟨g0, g1, g2, g3, g4, g5, g6⟩ := hG
    obtain ⟨c1, c2, c3, c4, c5, c6⟩ := hC
    have h5 := g5 t ht
    have e : i = dg t := by omega
    subst e
    rw [e79_5]
    simp only [B79_5, xSeq, i_push, i_load, i_iload, i_lload, i_dload, i_aload, i_istore, i_astore, i_lstore, i_dstore, i_iinc, i_ii, i_iiz, i_ll, i_llz, i_lli, i_li, i_i, i_l, i_i2l, i_l2i, i_dup, i_dup2, i_dup2w, i_dupx1, i_pop, i_pop2, i_goto, i_ifc, i_icmp, i_getI, i_getL, i_getR, i_putI, i_putZ, i_putL, i_putR, i_aldI, i_aldB, i_aldL, i_aldD, i_astI, i_astL, i_astD, i_alen, i_ret, i_iret, i_zret, i_lret, i_fret, i_dret, i_aret, i_invS0, i_invV0, i_m2, i_m1, i_ml, i_obj, lk, lkp, stf1, stf2, Value.category, rV, xTo, lv_args, xCk, xCat, xRc, xAk, hg_S, hg_I, hg_J, hg_D, hg_R, hs_I, hs_J, hs_D, hs_R, uI_at, uJ_at, uD_at, uR_at, List.take_succ_cons, List.take_zero, List.drop_succ_cons, List.drop_zero, List.reverse_cons, List.reverse_nil, List.nil_append, List.cons_append, List.map_cons, List.map_nil, List.sum_cons, List.sum_nil, List.length_cons, List.length_nil, Option.toList_some, Option.toList_none, true_and, and_true, false_and, and_false, true_implies, false_implies, implies_true, not_true_eq_false, not_false_eq_true, ne_eq, if_true, if_false, Bool.and_true, Bool.true_and, decide_true, decide_false, reduceIte, reduceCtorEq, Bool.and_self, Bool.and_eq_true, decide_eq_true_eq, and_self, true_or, or_true, false_or, or_false, Nat.zero_add, Nat.add_zero, eq_self, Nat.reduceEqDiff, Nat.reduceLeDiff, Nat.reduceLT, Nat.reduceAdd, Nat.reduceSub, Nat.reduceMul, LC_out hL, nI_inP (show t < 64 by omega) (by decide), nI_ix (show t < 2147483648 by omega), c5 t ht, nI_leP (show dg t < 2147483648 by omega) (show dg t < 2147483648 by omega), Nat.le_refl, e79_78, B79_78]
  | j + 1, i, hi => by
    have hG' := hG
    have hC' := hC
    obtain ⟨g0, g1, g2, g3, g4, g5, g6⟩ := hG'
    obtain ⟨c1, c2, c3, c4, c5, c6⟩ := hC'
    have h5 := g5 t ht
    have hk := g6 t i ht (by omega)
    have ho : (if fi (sb t i) = t then se (sb t i) else fi (sb t i)) < 64 := by
      split
      · exact Nat.lt_of_lt_of_le (g4 _ hk) g1
      · exact Nat.lt_of_lt_of_le (g3 _ hk) g1
    have h := R79_5 hL hG hC hx hJ ht j (i + 1) (by omega)
    have ha : aN (I 111) fi se sb x t i < 2 ^ 64 := Nat.lt_of_lt_of_le (aN_lt hG (I 111) x ht i (by omega)) (Nat.pow_le_pow_right (by decide) g1)
    rw [aN] at h
    obtain ⟨a, hA⟩ : ∃ a, a = aN (I 111) fi se sb x t i := ⟨_, rfl⟩
    rw [← hA] at h ha ⊢
    obtain ⟨o, hO⟩ : ∃ o, o = (if fi (sb t i) = t then se (sb t i) else fi (sb t i)) := ⟨_, rfl⟩
    rw [← hO] at h ho
    rw [e79_5]
    simp only [B79_5, xSeq, i_push, i_load, i_iload, i_lload, i_dload, i_aload, i_istore, i_astore, i_lstore, i_dstore, i_iinc, i_ii, i_iiz, i_ll, i_llz, i_lli, i_li, i_i, i_l, i_i2l, i_l2i, i_dup, i_dup2, i_dup2w, i_dupx1, i_pop, i_pop2, i_goto, i_ifc, i_icmp, i_getI, i_getL, i_getR, i_putI, i_putZ, i_putL, i_putR, i_aldI, i_aldB, i_aldL, i_aldD, i_astI, i_astL, i_astD, i_alen, i_ret, i_iret, i_zret, i_lret, i_fret, i_dret, i_aret, i_invS0, i_invV0, i_m2, i_m1, i_ml, i_obj, lk, lkp, stf1, stf2, Value.category, rV, xTo, lv_args, xCk, xCat, xRc, xAk, hg_S, hg_I, hg_J, hg_D, hg_R, hs_I, hs_J, hs_D, hs_R, uI_at, uJ_at, uD_at, uR_at, List.take_succ_cons, List.take_zero, List.drop_succ_cons, List.drop_zero, List.reverse_cons, List.reverse_nil, List.nil_append, List.cons_append, List.map_cons, List.map_nil, List.sum_cons, List.sum_nil, List.length_cons, List.length_nil, Option.toList_some, Option.toList_none, true_and, and_true, false_and, and_false, true_implies, false_implies, implies_true, not_true_eq_false, not_false_eq_true, ne_eq, if_true, if_false, Bool.and_true, Bool.true_and, decide_true, decide_false, reduceIte, reduceCtorEq, Bool.and_self, Bool.and_eq_true, decide_eq_true_eq, and_self, true_or, or_true, false_or, or_false, Nat.zero_add, Nat.add_zero, eq_self, Nat.reduceEqDiff, Nat.reduceLeDiff, Nat.reduceLT, Nat.reduceAdd, Nat.reduceSub, Nat.reduceMul, LC_out hL, nI_inP (show t < 64 by omega) (by decide), nI_ix (show t < 2147483648 by omega), c5 t ht, nI_leP (show dg t < 2147483648 by omega) (show i < 2147483648 by omega), show (dg t ≤ i) = False from eq_false (by omega), R52 hL hG hC ht (show i < dg t by omega), nI_inP (show sb t i < 128 by omega) (by decide), nI_ix (show sb t i < 2147483648 by omega), e79_72, B79_72, nI_1, hJ, R53 hL hG hC hx hk, R54 hL hG hC ht hk, ← hO, q_1shlL ho, q_or ha (Nat.pow_lt_pow_right (show 1 < 2 by decide) ho)]
    by_cases h0 : I 111 (sb t i) = 0
    · rw [if_neg (fun e => e.1 h0)] at h
      simp only [h0, true_and, and_true, false_and, and_false, true_implies, false_implies, implies_true, not_true_eq_false, not_false_eq_true, ne_eq, if_true, if_false, Bool.and_true, Bool.true_and, decide_true, decide_false, reduceIte, reduceCtorEq, Bool.and_self, Bool.and_eq_true, decide_eq_true_eq, and_self, true_or, or_true, false_or, or_false, Nat.zero_add, Nat.add_zero, eq_self, Nat.reduceEqDiff, Nat.reduceLeDiff, Nat.reduceLT, Nat.reduceAdd, Nat.reduceSub, Nat.reduceMul, h]
    · by_cases hb : x.testBit (fi (sb t i)) = x.testBit (se (sb t i))
      · rw [if_pos ⟨h0, hb⟩] at h
        simp only [h0, hb, true_and, and_true, false_and, and_false, true_implies, false_implies, implies_true, not_true_eq_false, not_false_eq_true, ne_eq, if_true, if_false, Bool.and_true, Bool.true_and, decide_true, decide_false, reduceIte, reduceCtorEq, Bool.and_self, Bool.and_eq_true, decide_eq_true_eq, and_self, true_or, or_true, false_or, or_false, Nat.zero_add, Nat.add_zero, eq_self, Nat.reduceEqDiff, Nat.reduceLeDiff, Nat.reduceLT, Nat.reduceAdd, Nat.reduceSub, Nat.reduceMul, i1_0, h]
      · rw [if_neg (fun e => hb e.2)] at h
        simp only [h0, hb, true_and, and_true, false_and, and_false, true_implies, false_implies, implies_true, not_true_eq_false, not_false_eq_true, ne_eq, if_true, if_false, Bool.and_true, Bool.true_and, decide_true, decide_false, reduceIte, reduceCtorEq, Bool.and_self, Bool.and_eq_true, decide_eq_true_eq, and_self, true_or, or_true, false_or, or_false, Nat.zero_add, Nat.add_zero, eq_self, Nat.reduceEqDiff, Nat.reduceLeDiff, Nat.reduceLT, Nat.reduceAdd, Nat.reduceSub, Nat.reduceMul, h]
theorem R79 (hL : LC S R) (hG : GR n m fi se dg sb) (hC : CL I n m fi se dg sb) {x t : Nat} (hx : x < 2 ^ 64) (hJ : J 110 4 = lN x) (ht : t < n) : xRun xT 79 0 [(0, .ref 110), (1, .int (nI t))] [] (S, I, J, D, R) b Q = Q (.ok (some (.long (lN (aN (I 111) fi se sb x t (dg t)))))) (S, I, J, D, R) b := by
  have h := R79_5 (D := D) (b := b) (Q := Q) hL hG hC hx hJ ht (dg t) 0 (by omega)
  rw [e79_0]
  simp only [B79_0, xSeq, i_push, i_load, i_iload, i_lload, i_dload, i_aload, i_istore, i_astore, i_lstore, i_dstore, i_iinc, i_ii, i_iiz, i_ll, i_llz, i_lli, i_li, i_i, i_l, i_i2l, i_l2i, i_dup, i_dup2, i_dup2w, i_dupx1, i_pop, i_pop2, i_goto, i_ifc, i_icmp, i_getI, i_getL, i_getR, i_putI, i_putZ, i_putL, i_putR, i_aldI, i_aldB, i_aldL, i_aldD, i_astI, i_astL, i_astD, i_alen, i_ret, i_iret, i_zret, i_lret, i_fret, i_dret, i_aret, i_invS0, i_invV0, i_m2, i_m1, i_ml, i_obj, lk, lkp, stf1, stf2, Value.category, rV, xTo, lv_args, xCk, xCat, xRc, xAk, hg_S, hg_I, hg_J, hg_D, hg_R, hs_I, hs_J, hs_D, hs_R, uI_at, uJ_at, uD_at, uR_at, List.take_succ_cons, List.take_zero, List.drop_succ_cons, List.drop_zero, List.reverse_cons, List.reverse_nil, List.nil_append, List.cons_append, List.map_cons, List.map_nil, List.sum_cons, List.sum_nil, List.length_cons, List.length_nil, Option.toList_some, Option.toList_none, true_and, and_true, false_and, and_false, true_implies, false_implies, implies_true, not_true_eq_false, not_false_eq_true, ne_eq, if_true, if_false, Bool.and_true, Bool.true_and, decide_true, decide_false, reduceIte, reduceCtorEq, Bool.and_self, Bool.and_eq_true, decide_eq_true_eq, and_self, true_or, or_true, false_or, or_false, Nat.zero_add, Nat.add_zero, eq_self, Nat.reduceEqDiff, Nat.reduceLeDiff, Nat.reduceLT, Nat.reduceAdd, Nat.reduceSub, Nat.reduceMul]
  exact h
/-- what is reached from sites that wait, in so many turns -/
def dm (nb : Nat → Nat) : Nat → Nat → Nat → Nat
  | 0, d, _ => d
  | f + 1, d, p => if p = 0 then d else dm nb f (d ||| (nb (tzf 64 p) &&& (d ^^^ 18446744073709551615))) ((p &&& (p - 1)) ||| (nb (tzf 64 p) &&& (d ^^^ 18446744073709551615)))
theorem tzf_lt {p n : Nat} (h0 : 0 < p) (hp : p < 2 ^ n) (hn : n ≤ 64) : tzf 64 p < n := by
  obtain ⟨t, q, h1, h2⟩ := tz_ex n p h0 hp
  rw [h2, tz_u t 64 q (by omega)]
  exact h1
theorem dm_lt (nb : Nat → Nat) {n : Nat} (hn : n ≤ 64) (h : ∀ t, t < n → nb t < 2 ^ n) : ∀ (f d p : Nat), d < 2 ^ n → p < 2 ^ n → dm nb f d p < 2 ^ n
  | 0, d, p, hd, hp => hd
  | f + 1, d, p, hd, hp => by
    rw [dm]
    split
    · exact hd
    · next h0 =>
      have hr : nb (tzf 64 p) &&& (d ^^^ 18446744073709551615) < 2 ^ n := Nat.lt_of_le_of_lt Nat.and_le_left (h _ (tzf_lt (by omega) hp hn))
      exact dm_lt nb hn h f _ _ (Nat.or_lt_two_pow hd hr) (Nat.or_lt_two_pow (Nat.lt_of_le_of_lt Nat.and_le_left hp) hr)
theorem R78_10 (hL : LC S R) (hG : GR n m fi se dg sb) (hC : CL I n m fi se dg sb) {x : Nat} (hx : x < 2 ^ 64) (hJ : J 110 4 = lN x) : ∀ (j i d p : Nat), i + j = 64 → d < 2 ^ n → p < 2 ^ n → xRun xT 78 10 [(0, .ref 110), (2, .long (lN d)), (4, .long (lN p)), (6, .int (nI i))] [] (S, I, J, D, R) b Q = Q (.ok (some (.long (lN (dm (fun t => aN (I 111) fi se sb x t (dg t)) j d p))))) (S, I, J, D, R) b
  | 0, i, d, p, hi, hd, hp => by
    have e : i = 64 := by omega
    subst e
    rw [e78_10]
    simp only [B78_10, xSeq, i_push, i_load, i_iload, i_lload, i_dload, i_aload, i_istore, i_astore, i_lstore, i_dstore, i_iinc, i_ii, i_iiz, i_ll, i_llz, i_lli, i_li, i_i, i_l, i_i2l, i_l2i, i_dup, i_dup2, i_dup2w, i_dupx1, i_pop, i_pop2, i_goto, i_ifc, i_icmp, i_getI, i_getL, i_getR, i_putI, i_putZ, i_putL, i_putR, i_aldI, i_aldB, i_aldL, i_aldD, i_astI, i_astL, i_astD, i_alen, i_ret, i_iret, i_zret, i_lret, i_fret, i_dret, i_aret, i_invS0, i_invV0, i_m2, i_m1, i_ml, i_obj, lk, lkp, stf1, stf2, Value.category, rV, xTo, lv_args, xCk, xCat, xRc, xAk, hg_S, hg_I, hg_J, hg_D, hg_R, hs_I, hs_J, hs_D, hs_R, uI_at, uJ_at, uD_at, uR_at, List.take_succ_cons, List.take_zero, List.drop_succ_cons, List.drop_zero, List.reverse_cons, List.reverse_nil, List.nil_append, List.cons_append, List.map_cons, List.map_nil, List.sum_cons, List.sum_nil, List.length_cons, List.length_nil, Option.toList_some, Option.toList_none, true_and, and_true, false_and, and_false, true_implies, false_implies, implies_true, not_true_eq_false, not_false_eq_true, ne_eq, if_true, if_false, Bool.and_true, Bool.true_and, decide_true, decide_false, reduceIte, reduceCtorEq, Bool.and_self, Bool.and_eq_true, decide_eq_true_eq, and_self, true_or, or_true, false_or, or_false, Nat.zero_add, Nat.add_zero, eq_self, Nat.reduceEqDiff, Nat.reduceLeDiff, Nat.reduceLT, Nat.reduceAdd, Nat.reduceSub, Nat.reduceMul, show ((64 : Int32) ≤ nI 64) = True from eq_true (by decide), e78_68, B78_68, dm]
  | j + 1, i, d, p, hi, hd, hp => by
    have hG' := hG
    obtain ⟨g0, g1, g2, g3, g4, g5, g6⟩ := hG'
    have hw : 2 ^ n ≤ 2 ^ 64 := Nat.pow_le_pow_right (by decide) g1
    have e64 : ((64 : Int32) ≤ nI i) = False := by rw [show (64 : Int32) = nI 64 from rfl, nI_leP (by decide) (show i < 2147483648 by omega)]; exact eq_false (by omega)
    rw [dm]
    rw [e78_10]
    by_cases h0 : p = 0
    · have e0 : (lg_cmp (lN p) 0 = 0) = True := by rw [show (0 : Int64) = lN 0 from rfl, lN_cmp (by omega) (by decide)]; exact eq_true h0
      simp only [B78_10, xSeq, i_push, i_load, i_iload, i_lload, i_dload, i_aload, i_istore, i_astore, i_lstore, i_dstore, i_iinc, i_ii, i_iiz, i_ll, i_llz, i_lli, i_li, i_i, i_l, i_i2l, i_l2i, i_dup, i_dup2, i_dup2w, i_dupx1, i_pop, i_pop2, i_goto, i_ifc, i_icmp, i_getI, i_getL, i_getR, i_putI, i_putZ, i_putL, i_putR, i_aldI, i_aldB, i_aldL, i_aldD, i_astI, i_astL, i_astD, i_alen, i_ret, i_iret, i_zret, i_lret, i_fret, i_dret, i_aret, i_invS0, i_invV0, i_m2, i_m1, i_ml, i_obj, lk, lkp, stf1, stf2, Value.category, rV, xTo, lv_args, xCk, xCat, xRc, xAk, hg_S, hg_I, hg_J, hg_D, hg_R, hs_I, hs_J, hs_D, hs_R, uI_at, uJ_at, uD_at, uR_at, List.take_succ_cons, List.take_zero, List.drop_succ_cons, List.drop_zero, List.reverse_cons, List.reverse_nil, List.nil_append, List.cons_append, List.map_cons, List.map_nil, List.sum_cons, List.sum_nil, List.length_cons, List.length_nil, Option.toList_some, Option.toList_none, true_and, and_true, false_and, and_false, true_implies, false_implies, implies_true, not_true_eq_false, not_false_eq_true, ne_eq, if_true, if_false, Bool.and_true, Bool.true_and, decide_true, decide_false, reduceIte, reduceCtorEq, Bool.and_self, Bool.and_eq_true, decide_eq_true_eq, and_self, true_or, or_true, false_or, or_false, Nat.zero_add, Nat.add_zero, eq_self, Nat.reduceEqDiff, Nat.reduceLeDiff, Nat.reduceLT, Nat.reduceAdd, Nat.reduceSub, Nat.reduceMul, e64, e0, e78_68, B78_68]
      rw [if_pos h0]
    · have e0 : (lg_cmp (lN p) 0 = 0) = False := by rw [show (0 : Int64) = lN 0 from rfl, lN_cmp (by omega) (by decide)]; exact eq_false h0
      have ht := tzf_lt (by omega) hp g1
      have hnb := aN_lt hG (I 111) x ht _ (Nat.le_refl _)
      have hY := fun (b : Nat × Nat) (Q : xQ) => Y3 (S := S) (I := I) (J := J) (D := D) (R := R) (b := b) (Q := Q) (x := p) (by omega) (by omega)
      have h79 := fun (b : Nat × Nat) (Q : xQ) => R79 (D := D) (b := b) (Q := Q) hL hG hC hx hJ ht
      rw [if_neg h0]
      obtain ⟨r, hR⟩ : ∃ r, r = aN (I 111) fi se sb x (tzf 64 p) (dg (tzf 64 p)) := ⟨_, rfl⟩
      have hr : r &&& (d ^^^ 18446744073709551615) < 2 ^ n := Nat.lt_of_le_of_lt Nat.and_le_left (by rw [hR]; exact hnb)
      have h := R78_10 hL hG hC hx hJ j (i + 1) (d ||| (r &&& (d ^^^ 18446744073709551615))) ((p &&& (p - 1)) ||| (r &&& (d ^^^ 18446744073709551615))) (by omega) (Nat.or_lt_two_pow hd hr) (Nat.or_lt_two_pow (Nat.lt_of_le_of_lt Nat.and_le_left hp) hr)
      rw [← hR] at hnb h79 ⊢
      obtain ⟨t', hT⟩ : ∃ t', t' = tzf 64 p := ⟨_, rfl⟩
      rw [← hT] at hY h79
      have e1 : lN r &&& (lN d ^^^ -1) = lN (r &&& (d ^^^ 18446744073709551615)) := by
        rw [show (-1 : Int64) = lN 18446744073709551615 from by decide, q_xor, q_and (by omega) (Nat.xor_lt_two_pow (show d < 2 ^ 64 by omega) (by decide))]
      have e2 : lN p &&& (lN p - 1) = lN (p &&& (p - 1)) := by
        rw [show (1 : Int64) = lN 1 from rfl, lN_sub (show 1 ≤ p by omega), q_and (by omega) (by omega)]
      obtain ⟨z, hz⟩ : ∃ z, z = r &&& (d ^^^ 18446744073709551615) := ⟨_, rfl⟩
      rw [← hz] at e1 hr h ⊢
      have hp2 : p &&& (p - 1) < 2 ^ 64 := Nat.lt_of_le_of_lt Nat.and_le_left (by omega)
      obtain ⟨y, hy⟩ : ∃ y, y = p &&& (p - 1) := ⟨_, rfl⟩
      rw [← hy] at e2 hp2 h ⊢
      simp only [B78_10, xSeq, i_push, i_load, i_iload, i_lload, i_dload, i_aload, i_istore, i_astore, i_lstore, i_dstore, i_iinc, i_ii, i_iiz, i_ll, i_llz, i_lli, i_li, i_i, i_l, i_i2l, i_l2i, i_dup, i_dup2, i_dup2w, i_dupx1, i_pop, i_pop2, i_goto, i_ifc, i_icmp, i_getI, i_getL, i_getR, i_putI, i_putZ, i_putL, i_putR, i_aldI, i_aldB, i_aldL, i_aldD, i_astI, i_astL, i_astD, i_alen, i_ret, i_iret, i_zret, i_lret, i_fret, i_dret, i_aret, i_invS0, i_invV0, i_m2, i_m1, i_ml, i_obj, lk, lkp, stf1, stf2, Value.category, rV, xTo, lv_args, xCk, xCat, xRc, xAk, hg_S, hg_I, hg_J, hg_D, hg_R, hs_I, hs_J, hs_D, hs_R, uI_at, uJ_at, uD_at, uR_at, List.take_succ_cons, List.take_zero, List.drop_succ_cons, List.drop_zero, List.reverse_cons, List.reverse_nil, List.nil_append, List.cons_append, List.map_cons, List.map_nil, List.sum_cons, List.sum_nil, List.length_cons, List.length_nil, Option.toList_some, Option.toList_none, true_and, and_true, false_and, and_false, true_implies, false_implies, implies_true, not_true_eq_false, not_false_eq_true, ne_eq, if_true, if_false, Bool.and_true, Bool.true_and, decide_true, decide_false, reduceIte, reduceCtorEq, Bool.and_self, Bool.and_eq_true, decide_eq_true_eq, and_self, true_or, or_true, false_or, or_false, Nat.zero_add, Nat.add_zero, eq_self, Nat.reduceEqDiff, Nat.reduceLeDiff, Nat.reduceLT, Nat.reduceAdd, Nat.reduceSub, Nat.reduceMul, LC_out hL, e64, e0, hY, h79, e1, e2, q_or (show d < 2 ^ 64 by omega) (show z < 2 ^ 64 by omega), q_or hp2 (show z < 2 ^ 64 by omega), nI_1]
      exact h
theorem R78 (hL : LC S R) (hG : GR n m fi se dg sb) (hC : CL I n m fi se dg sb) {x t : Nat} (hx : x < 2 ^ 64) (hJ : J 110 4 = lN x) (ht : t < n) : xRun xT 78 0 [(0, .ref 110), (1, .int (nI t))] [] (S, I, J, D, R) b Q = Q (.ok (some (.long (lN (dm (fun t => aN (I 111) fi se sb x t (dg t)) 64 (2 ^ t) (2 ^ t)))))) (S, I, J, D, R) b := by
  have h2 : 2 ^ t < 2 ^ n := Nat.pow_lt_pow_right (by decide) ht
  have h := R78_10 (D := D) (b := b) (Q := Q) hL hG hC hx hJ 64 0 (2 ^ t) (2 ^ t) (by omega) h2 h2
  have g1 := hG.2.1
  rw [e78_0]
  simp only [B78_0, xSeq, i_push, i_load, i_iload, i_lload, i_dload, i_aload, i_istore, i_astore, i_lstore, i_dstore, i_iinc, i_ii, i_iiz, i_ll, i_llz, i_lli, i_li, i_i, i_l, i_i2l, i_l2i, i_dup, i_dup2, i_dup2w, i_dupx1, i_pop, i_pop2, i_goto, i_ifc, i_icmp, i_getI, i_getL, i_getR, i_putI, i_putZ, i_putL, i_putR, i_aldI, i_aldB, i_aldL, i_aldD, i_astI, i_astL, i_astD, i_alen, i_ret, i_iret, i_zret, i_lret, i_fret, i_dret, i_aret, i_invS0, i_invV0, i_m2, i_m1, i_ml, i_obj, lk, lkp, stf1, stf2, Value.category, rV, xTo, lv_args, xCk, xCat, xRc, xAk, hg_S, hg_I, hg_J, hg_D, hg_R, hs_I, hs_J, hs_D, hs_R, uI_at, uJ_at, uD_at, uR_at, List.take_succ_cons, List.take_zero, List.drop_succ_cons, List.drop_zero, List.reverse_cons, List.reverse_nil, List.nil_append, List.cons_append, List.map_cons, List.map_nil, List.sum_cons, List.sum_nil, List.length_cons, List.length_nil, Option.toList_some, Option.toList_none, true_and, and_true, false_and, and_false, true_implies, false_implies, implies_true, not_true_eq_false, not_false_eq_true, ne_eq, if_true, if_false, Bool.and_true, Bool.true_and, decide_true, decide_false, reduceIte, reduceCtorEq, Bool.and_self, Bool.and_eq_true, decide_eq_true_eq, and_self, true_or, or_true, false_or, or_false, Nat.zero_add, Nat.add_zero, eq_self, Nat.reduceEqDiff, Nat.reduceLeDiff, Nat.reduceLT, Nat.reduceAdd, Nat.reduceSub, Nat.reduceMul, q_1shlL (show t < 64 by omega)]
  exact h
/-- sites that no domain before holds, and what the domains hold -/
def dC (dom : Nat → Nat) : Nat → Nat × Nat × Nat
  | 0 => (0, 0, 0)
  | i + 1 => if (dC dom i).1.testBit i = true then dC dom i else ((dC dom i).1 ||| dom i, (dC dom i).2.1 + 1, max (dC dom i).2.2 (pop 64 (dom i)))
theorem dC_le (dom : Nat → Nat) : ∀ i, (dC dom i).2.1 ≤ i ∧ (dC dom i).2.2 ≤ 64
  | 0 => ⟨Nat.le_refl _, Nat.zero_le _⟩
  | i + 1 => by
    have h := dC_le dom i
    have h2 := pop_le 64 (dom i)
    rw [dC]
    split
    · exact ⟨by omega, h.2⟩
    · exact ⟨by show _ + 1 ≤ _; omega, Nat.max_le.mpr ⟨h.2, h2⟩⟩
theorem dC_lt (dom : Nat → Nat) {n : Nat} (h : ∀ t, t < n → dom t < 2 ^ n) : ∀ i, i ≤ n → (dC dom i).1 < 2 ^ n
  | 0, _ => Nat.two_pow_pos n
  | i + 1, hi => by
    have h2 := dC_lt dom h i (by omega)
    rw [dC]
    split
    · exact h2
    · exact Nat.or_lt_two_pow h2 (h i (by omega))
/-- the domain of a site -/
def dX (st : Nat → Int32) (fi se dg : Nat → Nat) (sb : Nat → Nat → Nat) (x t : Nat) : Nat := dm (fun t => aN st fi se sb x t (dg t)) 64 (2 ^ t) (2 ^ t)
theorem dX_lt (hG : GR n m fi se dg sb) (st : Nat → Int32) (x : Nat) {t : Nat} (ht : t < n) : dX st fi se dg sb x t < 2 ^ n := dm_lt _ hG.2.1 (fun t ht => aN_lt hG st x ht _ (Nat.le_refl _)) 64 _ _ (Nat.pow_lt_pow_right (by decide) ht) (Nat.pow_lt_pow_right (by decide) ht)
theorem R133_7 (hL : LC S R) (hG : GR n m fi se dg sb) (hC : CL I n m fi se dg sb) {x : Nat} (hx : x < 2 ^ 64) (hJ : J 110 4 = lN x) : ∀ (j i : Nat), i + j = n → xRun xT 133 7 [(0, .ref 100), (1, .long (lN (dC (dX (I 111) fi se dg sb x) i).1)), (3, .int (nI (dC (dX (I 111) fi se dg sb x) i).2.1)), (4, .int (nI i))] [] (S, I, J, D, R) b Q = Q (.ok (some (.int (nI (dC (dX (I 111) fi se dg sb x) n).2.1)))) (S, I, J, D, R) b
  | 0, i, hi => by
    have g1 := hG.2.1
    have e : i = n := by omega
    subst e
    rw [e133_7]
    simp only [B133_7, xSeq, i_push, i_load, i_iload, i_lload, i_dload, i_aload, i_istore, i_astore, i_lstore, i_dstore, i_iinc, i_ii, i_iiz, i_ll, i_llz, i_lli, i_li, i_i, i_l, i_i2l, i_l2i, i_dup, i_dup2, i_dup2w, i_dupx1, i_pop, i_pop2, i_goto, i_ifc, i_icmp, i_getI, i_getL, i_getR, i_putI, i_putZ, i_putL, i_putR, i_aldI, i_aldB, i_aldL, i_aldD, i_astI, i_astL, i_astD, i_alen, i_ret, i_iret, i_zret, i_lret, i_fret, i_dret, i_aret, i_invS0, i_invV0, i_m2, i_m1, i_ml, i_obj, lk, lkp, stf1, stf2, Value.category, rV, xTo, lv_args, xCk, xCat, xRc, xAk, hg_S, hg_I, hg_J, hg_D, hg_R, hs_I, hs_J, hs_D, hs_R, uI_at, uJ_at, uD_at, uR_at, List.take_succ_cons, List.take_zero, List.drop_succ_cons, List.drop_zero, List.reverse_cons, List.reverse_nil, List.nil_append, List.cons_append, List.map_cons, List.map_nil, List.sum_cons, List.sum_nil, List.length_cons, List.length_nil, Option.toList_some, Option.toList_none, true_and, and_true, false_and, and_false, true_implies, false_implies, implies_true, not_true_eq_false, not_false_eq_true, ne_eq, if_true, if_false, Bool.and_true, Bool.true_and, decide_true, decide_false, reduceIte, reduceCtorEq, Bool.and_self, Bool.and_eq_true, decide_eq_true_eq, and_self, true_or, or_true, false_or, or_false, Nat.zero_add, Nat.add_zero, eq_self, Nat.reduceEqDiff, Nat.reduceLeDiff, Nat.reduceLT, Nat.reduceAdd, Nat.reduceSub, Nat.reduceMul, LC_out hL, hC.1, nI_leP (show i < 2147483648 by omega) (show i < 2147483648 by omega), Nat.le_refl, e133_51, B133_51]
  | j + 1, i, hi => by
    have g1 := hG.2.1
    have hw : 2 ^ n ≤ 2 ^ 64 := Nat.pow_le_pow_right (by decide) g1
    have h := R133_7 hL hG hC hx hJ j (i + 1) (by omega)
    have hd := dX_lt hG (I 111) x (show i < n by omega)
    have h78 := fun (b : Nat × Nat) (Q : xQ) => R78 (D := D) (b := b) (Q := Q) hL hG hC hx hJ (show i < n by omega)
    have e : dm (fun t => aN (I 111) fi se sb x t (dg t)) 64 (2 ^ i) (2 ^ i) = dX (I 111) fi se dg sb x i := rfl
    rw [e] at h78
    have h1 := dC_lt (dX (I 111) fi se dg sb x) (fun t ht => dX_lt hG (I 111) x ht) i (by omega)
    rw [dC] at h
    obtain ⟨z, hz⟩ : ∃ z, z = dC (dX (I 111) fi se dg sb x) i := ⟨_, rfl⟩
    rw [← hz] at h h1 ⊢
    obtain ⟨d, hD⟩ : ∃ d, d = dX (I 111) fi se dg sb x i := ⟨_, rfl⟩
    rw [← hD] at h hd h78
    rw [e133_7]
    simp only [B133_7, xSeq, i_push, i_load, i_iload, i_lload, i_dload, i_aload, i_istore, i_astore, i_lstore, i_dstore, i_iinc, i_ii, i_iiz, i_ll, i_llz, i_lli, i_li, i_i, i_l, i_i2l, i_l2i, i_dup, i_dup2, i_dup2w, i_dupx1, i_pop, i_pop2, i_goto, i_ifc, i_icmp, i_getI, i_getL, i_getR, i_putI, i_putZ, i_putL, i_putR, i_aldI, i_aldB, i_aldL, i_aldD, i_astI, i_astL, i_astD, i_alen, i_ret, i_iret, i_zret, i_lret, i_fret, i_dret, i_aret, i_invS0, i_invV0, i_m2, i_m1, i_ml, i_obj, lk, lkp, stf1, stf2, Value.category, rV, xTo, lv_args, xCk, xCat, xRc, xAk, hg_S, hg_I, hg_J, hg_D, hg_R, hs_I, hs_J, hs_D, hs_R, uI_at, uJ_at, uD_at, uR_at, List.take_succ_cons, List.take_zero, List.drop_succ_cons, List.drop_zero, List.reverse_cons, List.reverse_nil, List.nil_append, List.cons_append, List.map_cons, List.map_nil, List.sum_cons, List.sum_nil, List.length_cons, List.length_nil, Option.toList_some, Option.toList_none, true_and, and_true, false_and, and_false, true_implies, false_implies, implies_true, not_true_eq_false, not_false_eq_true, ne_eq, if_true, if_false, Bool.and_true, Bool.true_and, decide_true, decide_false, reduceIte, reduceCtorEq, Bool.and_self, Bool.and_eq_true, decide_eq_true_eq, and_self, true_or, or_true, false_or, or_false, Nat.zero_add, Nat.add_zero, eq_self, Nat.reduceEqDiff, Nat.reduceLeDiff, Nat.reduceLT, Nat.reduceAdd, Nat.reduceSub, Nat.reduceMul, LC_out hL, hC.1, nI_leP (show n < 2147483648 by omega) (show i < 2147483648 by omega), show (n ≤ i) = False from eq_false (by omega), q_bit (show z.1 < 2 ^ 64 by omega) (show i < 64 by omega), q_cmp0, ne_eq, h78, q_or (show z.1 < 2 ^ 64 by omega) (show d < 2 ^ 64 by omega), e133_45, B133_45, nI_1]
    by_cases hb : z.1.testBit i = true
    · rw [if_pos hb] at h
      simp only [hb, true_and, and_true, false_and, and_false, true_implies, false_implies, implies_true, not_true_eq_false, not_false_eq_true, ne_eq, if_true, if_false, Bool.and_true, Bool.true_and, decide_true, decide_false, reduceIte, reduceCtorEq, Bool.and_self, Bool.and_eq_true, decide_eq_true_eq, and_self, true_or, or_true, false_or, or_false, Nat.zero_add, Nat.add_zero, eq_self, Nat.reduceEqDiff, Nat.reduceLeDiff, Nat.reduceLT, Nat.reduceAdd, Nat.reduceSub, Nat.reduceMul, h]
    · rw [if_neg hb] at h
      simp only [hb, true_and, and_true, false_and, and_false, true_implies, false_implies, implies_true, not_true_eq_false, not_false_eq_true, ne_eq, if_true, if_false, Bool.and_true, Bool.true_and, decide_true, decide_false, reduceIte, reduceCtorEq, Bool.and_self, Bool.and_eq_true, decide_eq_true_eq, and_self, true_or, or_true, false_or, or_false, Nat.zero_add, Nat.add_zero, eq_self, Nat.reduceEqDiff, Nat.reduceLeDiff, Nat.reduceLT, Nat.reduceAdd, Nat.reduceSub, Nat.reduceMul, h]
theorem R133 (hL : LC S R) (hG : GR n m fi se dg sb) (hC : CL I n m fi se dg sb) {x : Nat} (hx : x < 2 ^ 64) (hJ : J 110 4 = lN x) : xRun xT 133 0 [(0, .ref 100)] [] (S, I, J, D, R) b Q = Q (.ok (some (.int (nI (dC (dX (I 111) fi se dg sb x) n).2.1)))) (S, I, J, D, R) b := by
  have h := R133_7 (D := D) (b := b) (Q := Q) hL hG hC hx hJ n 0 (by omega)
  rw [e133_0]
  simp only [B133_0, xSeq, i_push, i_load, i_iload, i_lload, i_dload, i_aload, i_istore, i_astore, i_lstore, i_dstore, i_iinc, i_ii, i_iiz, i_ll, i_llz, i_lli, i_li, i_i, i_l, i_i2l, i_l2i, i_dup, i_dup2, i_dup2w, i_dupx1, i_pop, i_pop2, i_goto, i_ifc, i_icmp, i_getI, i_getL, i_getR, i_putI, i_putZ, i_putL, i_putR, i_aldI, i_aldB, i_aldL, i_aldD, i_astI, i_astL, i_astD, i_alen, i_ret, i_iret, i_zret, i_lret, i_fret, i_dret, i_aret, i_invS0, i_invV0, i_m2, i_m1, i_ml, i_obj, lk, lkp, stf1, stf2, Value.category, rV, xTo, lv_args, xCk, xCat, xRc, xAk, hg_S, hg_I, hg_J, hg_D, hg_R, hs_I, hs_J, hs_D, hs_R, uI_at, uJ_at, uD_at, uR_at, List.take_succ_cons, List.take_zero, List.drop_succ_cons, List.drop_zero, List.reverse_cons, List.reverse_nil, List.nil_append, List.cons_append, List.map_cons, List.map_nil, List.sum_cons, List.sum_nil, List.length_cons, List.length_nil, Option.toList_some, Option.toList_none, true_and, and_true, false_and, and_false, true_implies, false_implies, implies_true, not_true_eq_false, not_false_eq_true, ne_eq, if_true, if_false, Bool.and_true, Bool.true_and, decide_true, decide_false, reduceIte, reduceCtorEq, Bool.and_self, Bool.and_eq_true, decide_eq_true_eq, and_self, true_or, or_true, false_or, or_false, Nat.zero_add, Nat.add_zero, eq_self, Nat.reduceEqDiff, Nat.reduceLeDiff, Nat.reduceLT, Nat.reduceAdd, Nat.reduceSub, Nat.reduceMul]
  exact h
theorem R134_7 (hL : LC S R) (hG : GR n m fi se dg sb) (hC : CL I n m fi se dg sb) {x : Nat} (hx : x < 2 ^ 64) (hJ : J 110 4 = lN x) : ∀ (j i : Nat), i + j = n → xRun xT 134 7 [(0, .ref 100), (1, .long (lN (dC (dX (I 111) fi se dg sb x) i).1)), (3, .int (nI (dC (dX (I 111) fi se dg sb x) i).2.2)), (4, .int (nI i))] [] (S, I, J, D, R) b Q = Q (.ok (some (.int (nI (dC (dX (I 111) fi se dg sb x) n).2.2)))) (S, I, J, D, R) b
  | 0, i, hi => by
    have g1 := hG.2.1
    have e : i = n := by omega
    subst e
    rw [e134_7]
    simp only [B134_7, xSeq, i_push, i_load, i_iload, i_lload, i_dload, i_aload, i_istore, i_astore, i_lstore, i_dstore, i_iinc, i_ii, i_iiz, i_ll, i_llz, i_lli, i_li, i_i, i_l, i_i2l, i_l2i, i_dup, i_dup2, i_dup2w, i_dupx1, i_pop, i_pop2, i_goto, i_ifc, i_icmp, i_getI, i_getL, i_getR, i_putI, i_putZ, i_putL, i_putR, i_aldI, i_aldB, i_aldL, i_aldD, i_astI, i_astL, i_astD, i_alen, i_ret, i_iret, i_zret, i_lret, i_fret, i_dret, i_aret, i_invS0, i_invV0, i_m2, i_m1, i_ml, i_obj, lk, lkp, stf1, stf2, Value.category, rV, xTo, lv_args, xCk, xCat, xRc, xAk, hg_S, hg_I, hg_J, hg_D, hg_R, hs_I, hs_J, hs_D, hs_R, uI_at, uJ_at, uD_at, uR_at, List.take_succ_cons, List.take_zero, List.drop_succ_cons, List.drop_zero, List.reverse_cons, List.reverse_nil, List.nil_append, List.cons_append, List.map_cons, List.map_nil, List.sum_cons, List.sum_nil, List.length_cons, List.length_nil, Option.toList_some, Option.toList_none, true_and, and_true, false_and, and_false, true_implies, false_implies, implies_true, not_true_eq_false, not_false_eq_true, ne_eq, if_true, if_false, Bool.and_true, Bool.true_and, decide_true, decide_false, reduceIte, reduceCtorEq, Bool.and_self, Bool.and_eq_true, decide_eq_true_eq, and_self, true_or, or_true, false_or, or_false, Nat.zero_add, Nat.add_zero, eq_self, Nat.reduceEqDiff, Nat.reduceLeDiff, Nat.reduceLT, Nat.reduceAdd, Nat.reduceSub, Nat.reduceMul, LC_out hL, hC.1, nI_leP (show i < 2147483648 by omega) (show i < 2147483648 by omega), Nat.le_refl, e134_62, B134_62]
  | j + 1, i, hi => by
    have g1 := hG.2.1
    have hw : 2 ^ n ≤ 2 ^ 64 := Nat.pow_le_pow_right (by decide) g1
    have h := R134_7 hL hG hC hx hJ j (i + 1) (by omega)
    have hd := dX_lt hG (I 111) x (show i < n by omega)
    have h78 := fun (b : Nat × Nat) (Q : xQ) => R78 (D := D) (b := b) (Q := Q) hL hG hC hx hJ (show i < n by omega)
    have e : dm (fun t => aN (I 111) fi se sb x t (dg t)) 64 (2 ^ i) (2 ^ i) = dX (I 111) fi se dg sb x i := rfl
    rw [e] at h78
    have h1 := dC_lt (dX (I 111) fi se dg sb x) (fun t ht => dX_lt hG (I 111) x ht) i (by omega)
    have h3 := (dC_le (dX (I 111) fi se dg sb x) i).2
    rw [dC] at h
    obtain ⟨z, hz⟩ : ∃ z, z = dC (dX (I 111) fi se dg sb x) i := ⟨_, rfl⟩
    rw [← hz] at h h1 h3 ⊢
    obtain ⟨d, hD⟩ : ∃ d, d = dX (I 111) fi se dg sb x i := ⟨_, rfl⟩
    rw [← hD] at h hd h78
    have hp := pop_le 64 d
    have hY := fun (b : Nat × Nat) (Q : xQ) => Y2 (S := S) (I := I) (J := J) (D := D) (R := R) (b := b) (Q := Q) (x := d) (by omega)
    rw [e134_7]
    simp only [B134_7, xSeq, i_push, i_load, i_iload, i_lload, i_dload, i_aload, i_istore, i_astore, i_lstore, i_dstore, i_iinc, i_ii, i_iiz, i_ll, i_llz, i_lli, i_li, i_i, i_l, i_i2l, i_l2i, i_dup, i_dup2, i_dup2w, i_dupx1, i_pop, i_pop2, i_goto, i_ifc, i_icmp, i_getI, i_getL, i_getR, i_putI, i_putZ, i_putL, i_putR, i_aldI, i_aldB, i_aldL, i_aldD, i_astI, i_astL, i_astD, i_alen, i_ret, i_iret, i_zret, i_lret, i_fret, i_dret, i_aret, i_invS0, i_invV0, i_m2, i_m1, i_ml, i_obj, lk, lkp, stf1, stf2, Value.category, rV, xTo, lv_args, xCk, xCat, xRc, xAk, hg_S, hg_I, hg_J, hg_D, hg_R, hs_I, hs_J, hs_D, hs_R, uI_at, uJ_at, uD_at, uR_at, List.take_succ_cons, List.take_zero, List.drop_succ_cons, List.drop_zero, List.reverse_cons, List.reverse_nil, List.nil_append, List.cons_append, List.map_cons, List.map_nil, List.sum_cons, List.sum_nil, List.length_cons, List.length_nil, Option.toList_some, Option.toList_none, true_and, and_true, false_and, and_false, true_implies, false_implies, implies_true, not_true_eq_false, not_false_eq_true, ne_eq, if_true, if_false, Bool.and_true, Bool.true_and, decide_true, decide_false, reduceIte, reduceCtorEq, Bool.and_self, Bool.and_eq_true, decide_eq_true_eq, and_self, true_or, or_true, false_or, or_false, Nat.zero_add, Nat.add_zero, eq_self, Nat.reduceEqDiff, Nat.reduceLeDiff, Nat.reduceLT, Nat.reduceAdd, Nat.reduceSub, Nat.reduceMul, LC_out hL, hC.1, nI_leP (show n < 2147483648 by omega) (show i < 2147483648 by omega), show (n ≤ i) = False from eq_false (by omega), q_bit (show z.1 < 2 ^ 64 by omega) (show i < 64 by omega), q_cmp0, ne_eq, h78, q_or (show z.1 < 2 ^ 64 by omega) (show d < 2 ^ 64 by omega), hY, jMax_nI (show z.2.2 < 2147483648 by omega) (show pop 64 d < 2147483648 by omega), e134_56, B134_56, nI_1]
    by_cases hb : z.1.testBit i = true
    · rw [if_pos hb] at h
      simp only [hb, true_and, and_true, false_and, and_false, true_implies, false_implies, implies_true, not_true_eq_false, not_false_eq_true, ne_eq, if_true, if_false, Bool.and_true, Bool.true_and, decide_true, decide_false, reduceIte, reduceCtorEq, Bool.and_self, Bool.and_eq_true, decide_eq_true_eq, and_self, true_or, or_true, false_or, or_false, Nat.zero_add, Nat.add_zero, eq_self, Nat.reduceEqDiff, Nat.reduceLeDiff, Nat.reduceLT, Nat.reduceAdd, Nat.reduceSub, Nat.reduceMul, h]
    · rw [if_neg hb] at h
      simp only [hb, true_and, and_true, false_and, and_false, true_implies, false_implies, implies_true, not_true_eq_false, not_false_eq_true, ne_eq, if_true, if_false, Bool.and_true, Bool.true_and, decide_true, decide_false, reduceIte, reduceCtorEq, Bool.and_self, Bool.and_eq_true, decide_eq_true_eq, and_self, true_or, or_true, false_or, or_false, Nat.zero_add, Nat.add_zero, eq_self, Nat.reduceEqDiff, Nat.reduceLeDiff, Nat.reduceLT, Nat.reduceAdd, Nat.reduceSub, Nat.reduceMul, h]
theorem R134 (hL : LC S R) (hG : GR n m fi se dg sb) (hC : CL I n m fi se dg sb) {x : Nat} (hx : x < 2 ^ 64) (hJ : J 110 4 = lN x) : xRun xT 134 0 [(0, .ref 100)] [] (S, I, J, D, R) b Q = Q (.ok (some (.int (nI (dC (dX (I 111) fi se dg sb x) n).2.2)))) (S, I, J, D, R) b := by
  have h := R134_7 (D := D) (b := b) (Q := Q) hL hG hC hx hJ n 0 (by omega)
  rw [e134_0]
  simp only [B134_0, xSeq, i_push, i_load, i_iload, i_lload, i_dload, i_aload, i_istore, i_astore, i_lstore, i_dstore, i_iinc, i_ii, i_iiz, i_ll, i_llz, i_lli, i_li, i_i, i_l, i_i2l, i_l2i, i_dup, i_dup2, i_dup2w, i_dupx1, i_pop, i_pop2, i_goto, i_ifc, i_icmp, i_getI, i_getL, i_getR, i_putI, i_putZ, i_putL, i_putR, i_aldI, i_aldB, i_aldL, i_aldD, i_astI, i_astL, i_astD, i_alen, i_ret, i_iret, i_zret, i_lret, i_fret, i_dret, i_aret, i_invS0, i_invV0, i_m2, i_m1, i_ml, i_obj, lk, lkp, stf1, stf2, Value.category, rV, xTo, lv_args, xCk, xCat, xRc, xAk, hg_S, hg_I, hg_J, hg_D, hg_R, hs_I, hs_J, hs_D, hs_R, uI_at, uJ_at, uD_at, uR_at, List.take_succ_cons, List.take_zero, List.drop_succ_cons, List.drop_zero, List.reverse_cons, List.reverse_nil, List.nil_append, List.cons_append, List.map_cons, List.map_nil, List.sum_cons, List.sum_nil, List.length_cons, List.length_nil, Option.toList_some, Option.toList_none, true_and, and_true, false_and, and_false, true_implies, false_implies, implies_true, not_true_eq_false, not_false_eq_true, ne_eq, if_true, if_false, Bool.and_true, Bool.true_and, decide_true, decide_false, reduceIte, reduceCtorEq, Bool.and_self, Bool.and_eq_true, decide_eq_true_eq, and_self, true_or, or_true, false_or, or_false, Nat.zero_add, Nat.add_zero, eq_self, Nat.reduceEqDiff, Nat.reduceLeDiff, Nat.reduceLT, Nat.reduceAdd, Nat.reduceSub, Nat.reduceMul]
  exact h
end
/-! ===== groups of the model ===== -/
section
/-- the row of groups, all else as before -/
def GO (I0 : xI) (g : Nat → Nat) (n : Nat) (I : xI) : Prop := (∀ k, k < n → I 341 k = nI (g k)) ∧ ∀ o k, o ≠ 341 → I o k = I0 o k
/-- the group with the higher number takes the lower -/
def jn (g : Nat → Nat) (s o k : Nat) : Nat := if g k = max (g s) (g o) then min (g s) (g o) else g k
variable {S : xS} {I : xI} {J : xJ} {D : xDb} {R : xR} {b : Nat × Nat} {Q : xQ} {n m : Nat} {fi se dg : Nat → Nat} {sb : Nat → Nat → Nat}
theorem L282_2 {I0 : xI} (hL : LM S R) (h10 : I0 300 10 = nI n) (hn : n ≤ 64) (kk : ∀ I, GO I0 (fun k => k) n I → Q (.ok none) (S, I, J, D, R) b) : ∀ (j i : Nat) (I : xI), i + j = n → GO I0 (fun k => k) i I → xRun xT 282 2 [(0, .ref 200), (1, .int (nI i))] [] (S, I, J, D, R) b Q
  | 0, i, I, hi, h => by
    have e : i = n := by omega
    subst e
    rw [e282_2]
    simp only [B282_2, xSeq, i_push, i_load, i_iload, i_lload, i_dload, i_aload, i_istore, i_astore, i_lstore, i_dstore, i_iinc, i_ii, i_iiz, i_ll, i_llz, i_lli, i_li, i_i, i_l, i_i2l, i_l2i, i_dup, i_dup2, i_dup2w, i_dupx1, i_pop, i_pop2, i_goto, i_ifc, i_icmp, i_getI, i_getL, i_getR, i_putI, i_putZ, i_putL, i_putR, i_aldI, i_aldB, i_aldL, i_aldD, i_astI, i_astL, i_astD, i_alen, i_ret, i_iret, i_zret, i_lret, i_fret, i_dret, i_aret, i_invS0, i_invV0, i_m2, i_m1, i_ml, i_obj, lk, lkp, stf1, stf2, Value.category, rV, xTo, lv_args, xCk, xCat, xRc, xAk, hg_S, hg_I, hg_J, hg_D, hg_R, hs_I, hs_J, hs_D, hs_R, uI_at, uJ_at, uD_at, uR_at, List.take_succ_cons, List.take_zero, List.drop_succ_cons, List.drop_zero, List.reverse_cons, List.reverse_nil, List.nil_append, List.cons_append, List.map_cons, List.map_nil, List.sum_cons, List.sum_nil, List.length_cons, List.length_nil, Option.toList_some, Option.toList_none, true_and, and_true, false_and, and_false, true_implies, false_implies, implies_true, not_true_eq_false, not_false_eq_true, ne_eq, if_true, if_false, Bool.and_true, Bool.true_and, decide_true, decide_false, reduceIte, reduceCtorEq, Bool.and_self, Bool.and_eq_true, decide_eq_true_eq, and_self, true_or, or_true, false_or, or_false, Nat.zero_add, Nat.add_zero, eq_self, Nat.reduceEqDiff, Nat.reduceLeDiff, Nat.reduceLT, Nat.reduceAdd, Nat.reduceSub, Nat.reduceMul, xi144_0, ix_0, xi144_1, ix_1, xi144_2, ix_2, xi144_3, ix_3, xi144_4, ix_4, xi144_5, ix_5, xi144_6, ix_6, xi144_7, ix_7, xi144_8, ix_8, xi144_9, ix_9, xi144_10, ix_10, LM_out hL, (h.2 _ _ (by decide)).trans h10, nI_leP (show i < 2147483648 by omega) (show i < 2147483648 by omega), Nat.le_refl, e282_26, B282_26]
    exact kk I h
  | j + 1, i, I, hi, h => by
    rw [e282_2]
    simp only [B282_2, xSeq, i_push, i_load, i_iload, i_lload, i_dload, i_aload, i_istore, i_astore, i_lstore, i_dstore, i_iinc, i_ii, i_iiz, i_ll, i_llz, i_lli, i_li, i_i, i_l, i_i2l, i_l2i, i_dup, i_dup2, i_dup2w, i_dupx1, i_pop, i_pop2, i_goto, i_ifc, i_icmp, i_getI, i_getL, i_getR, i_putI, i_putZ, i_putL, i_putR, i_aldI, i_aldB, i_aldL, i_aldD, i_astI, i_astL, i_astD, i_alen, i_ret, i_iret, i_zret, i_lret, i_fret, i_dret, i_aret, i_invS0, i_invV0, i_m2, i_m1, i_ml, i_obj, lk, lkp, stf1, stf2, Value.category, rV, xTo, lv_args, xCk, xCat, xRc, xAk, hg_S, hg_I, hg_J, hg_D, hg_R, hs_I, hs_J, hs_D, hs_R, uI_at, uJ_at, uD_at, uR_at, List.take_succ_cons, List.take_zero, List.drop_succ_cons, List.drop_zero, List.reverse_cons, List.reverse_nil, List.nil_append, List.cons_append, List.map_cons, List.map_nil, List.sum_cons, List.sum_nil, List.length_cons, List.length_nil, Option.toList_some, Option.toList_none, true_and, and_true, false_and, and_false, true_implies, false_implies, implies_true, not_true_eq_false, not_false_eq_true, ne_eq, if_true, if_false, Bool.and_true, Bool.true_and, decide_true, decide_false, reduceIte, reduceCtorEq, Bool.and_self, Bool.and_eq_true, decide_eq_true_eq, and_self, true_or, or_true, false_or, or_false, Nat.zero_add, Nat.add_zero, eq_self, Nat.reduceEqDiff, Nat.reduceLeDiff, Nat.reduceLT, Nat.reduceAdd, Nat.reduceSub, Nat.reduceMul, xi144_0, ix_0, xi144_1, ix_1, xi144_2, ix_2, xi144_3, ix_3, xi144_4, ix_4, xi144_5, ix_5, xi144_6, ix_6, xi144_7, ix_7, xi144_8, ix_8, xi144_9, ix_9, xi144_10, ix_10, LM_out hL, (h.2 _ _ (by decide)).trans h10, nI_leP (show n < 2147483648 by omega) (show i < 2147483648 by omega), show (n ≤ i) = False from eq_false (by omega), nI_inP (show i < 64 by omega) (by decide), nI_ix (show i < 2147483648 by omega), nI_1]
    refine L282_2 hL h10 hn kk j (i + 1) _ (by omega) ⟨fun k hk => ?_, fun o k ho => ?_⟩
    · rw [uI_at]
      by_cases e : k = i
      · rw [if_pos ⟨rfl, e⟩, e]
      · rw [if_neg (fun h => e h.2)]
        exact h.1 k (by omega)
    · rw [uI_at, if_neg (fun e => ho e.1)]
      exact h.2 o k ho
theorem L282 {I0 : xI} (hL : LM S R) (h10 : I0 300 10 = nI n) (hn : n ≤ 64) (kk : ∀ I, GO I0 (fun k => k) n I → Q (.ok none) (S, I, J, D, R) b) : xRun xT 282 0 [(0, .ref 200)] [] (S, I0, J, D, R) b Q := by
  rw [e282_0]
  simp only [B282_0, xSeq, i_push, i_load, i_iload, i_lload, i_dload, i_aload, i_istore, i_astore, i_lstore, i_dstore, i_iinc, i_ii, i_iiz, i_ll, i_llz, i_lli, i_li, i_i, i_l, i_i2l, i_l2i, i_dup, i_dup2, i_dup2w, i_dupx1, i_pop, i_pop2, i_goto, i_ifc, i_icmp, i_getI, i_getL, i_getR, i_putI, i_putZ, i_putL, i_putR, i_aldI, i_aldB, i_aldL, i_aldD, i_astI, i_astL, i_astD, i_alen, i_ret, i_iret, i_zret, i_lret, i_fret, i_dret, i_aret, i_invS0, i_invV0, i_m2, i_m1, i_ml, i_obj, lk, lkp, stf1, stf2, Value.category, rV, xTo, lv_args, xCk, xCat, xRc, xAk, hg_S, hg_I, hg_J, hg_D, hg_R, hs_I, hs_J, hs_D, hs_R, uI_at, uJ_at, uD_at, uR_at, List.take_succ_cons, List.take_zero, List.drop_succ_cons, List.drop_zero, List.reverse_cons, List.reverse_nil, List.nil_append, List.cons_append, List.map_cons, List.map_nil, List.sum_cons, List.sum_nil, List.length_cons, List.length_nil, Option.toList_some, Option.toList_none, true_and, and_true, false_and, and_false, true_implies, false_implies, implies_true, not_true_eq_false, not_false_eq_true, ne_eq, if_true, if_false, Bool.and_true, Bool.true_and, decide_true, decide_false, reduceIte, reduceCtorEq, Bool.and_self, Bool.and_eq_true, decide_eq_true_eq, and_self, true_or, or_true, false_or, or_false, Nat.zero_add, Nat.add_zero, eq_self, Nat.reduceEqDiff, Nat.reduceLeDiff, Nat.reduceLT, Nat.reduceAdd, Nat.reduceSub, Nat.reduceMul]
  exact L282_2 hL h10 hn kk n 0 I0 (by omega) ⟨fun k hk => absurd hk (by omega), fun _ _ _ => rfl⟩
theorem L283_36 {I0 : xI} {g : Nat → Nat} {hi lo : Nat} (hL : LM S R) (h10 : I0 300 10 = nI n) (hn : n ≤ 64) (hg : ∀ k, k < n → g k < 64) (hh : hi < 64) (hl : lo < 64) (kk : ∀ I, GO I0 (fun k => if g k = hi then lo else g k) n I → Q (.ok none) (S, I, J, D, R) b) : ∀ (j i : Nat) (I : xI), i + j = n → ((∀ k, k < n → I 341 k = nI (if k < i ∧ g k = hi then lo else g k)) ∧ ∀ o k, o ≠ 341 → I o k = I0 o k) → xRun xT 283 36 [(0, .ref 200), (3, .int (nI lo)), (4, .int (nI hi)), (5, .int (nI i))] [] (S, I, J, D, R) b Q
  | 0, i, I, hij, h => by
    have e : i = n := by omega
    subst e
    rw [e283_36]
    simp only [B283_36, xSeq, i_push, i_load, i_iload, i_lload, i_dload, i_aload, i_istore, i_astore, i_lstore, i_dstore, i_iinc, i_ii, i_iiz, i_ll, i_llz, i_lli, i_li, i_i, i_l, i_i2l, i_l2i, i_dup, i_dup2, i_dup2w, i_dupx1, i_pop, i_pop2, i_goto, i_ifc, i_icmp, i_getI, i_getL, i_getR, i_putI, i_putZ, i_putL, i_putR, i_aldI, i_aldB, i_aldL, i_aldD, i_astI, i_astL, i_astD, i_alen, i_ret, i_iret, i_zret, i_lret, i_fret, i_dret, i_aret, i_invS0, i_invV0, i_m2, i_m1, i_ml, i_obj, lk, lkp, stf1, stf2, Value.category, rV, xTo, lv_args, xCk, xCat, xRc, xAk, hg_S, hg_I, hg_J, hg_D, hg_R, hs_I, hs_J, hs_D, hs_R, uI_at, uJ_at, uD_at, uR_at, List.take_succ_cons, List.take_zero, List.drop_succ_cons, List.drop_zero, List.reverse_cons, List.reverse_nil, List.nil_append, List.cons_append, List.map_cons, List.map_nil, List.sum_cons, List.sum_nil, List.length_cons, List.length_nil, Option.toList_some, Option.toList_none, true_and, and_true, false_and, and_false, true_implies, false_implies, implies_true, not_true_eq_false, not_false_eq_true, ne_eq, if_true, if_false, Bool.and_true, Bool.true_and, decide_true, decide_false, reduceIte, reduceCtorEq, Bool.and_self, Bool.and_eq_true, decide_eq_true_eq, and_self, true_or, or_true, false_or, or_false, Nat.zero_add, Nat.add_zero, eq_self, Nat.reduceEqDiff, Nat.reduceLeDiff, Nat.reduceLT, Nat.reduceAdd, Nat.reduceSub, Nat.reduceMul, xi144_0, ix_0, xi144_1, ix_1, xi144_2, ix_2, xi144_3, ix_3, xi144_4, ix_4, xi144_5, ix_5, xi144_6, ix_6, xi144_7, ix_7, xi144_8, ix_8, xi144_9, ix_9, xi144_10, ix_10, LM_out hL, (h.2 _ _ (by decide)).trans h10, nI_leP (show i < 2147483648 by omega) (show i < 2147483648 by omega), Nat.le_refl, e283_74, B283_74]
    refine kk I ⟨fun k hk => ?_, h.2⟩
    have := h.1 k hk
    simp only [hk, true_and] at this
    exact this
  | j + 1, i, I, hij, h => by
    have hi' := hg i (by omega)
    have hv : I 341 i = nI (g i) := by rw [h.1 i (by omega), if_neg (fun e => Nat.lt_irrefl _ e.1)]
    rw [e283_36]
    simp only [B283_36, xSeq, i_push, i_load, i_iload, i_lload, i_dload, i_aload, i_istore, i_astore, i_lstore, i_dstore, i_iinc, i_ii, i_iiz, i_ll, i_llz, i_lli, i_li, i_i, i_l, i_i2l, i_l2i, i_dup, i_dup2, i_dup2w, i_dupx1, i_pop, i_pop2, i_goto, i_ifc, i_icmp, i_getI, i_getL, i_getR, i_putI, i_putZ, i_putL, i_putR, i_aldI, i_aldB, i_aldL, i_aldD, i_astI, i_astL, i_astD, i_alen, i_ret, i_iret, i_zret, i_lret, i_fret, i_dret, i_aret, i_invS0, i_invV0, i_m2, i_m1, i_ml, i_obj, lk, lkp, stf1, stf2, Value.category, rV, xTo, lv_args, xCk, xCat, xRc, xAk, hg_S, hg_I, hg_J, hg_D, hg_R, hs_I, hs_J, hs_D, hs_R, uI_at, uJ_at, uD_at, uR_at, List.take_succ_cons, List.take_zero, List.drop_succ_cons, List.drop_zero, List.reverse_cons, List.reverse_nil, List.nil_append, List.cons_append, List.map_cons, List.map_nil, List.sum_cons, List.sum_nil, List.length_cons, List.length_nil, Option.toList_some, Option.toList_none, true_and, and_true, false_and, and_false, true_implies, false_implies, implies_true, not_true_eq_false, not_false_eq_true, ne_eq, if_true, if_false, Bool.and_true, Bool.true_and, decide_true, decide_false, reduceIte, reduceCtorEq, Bool.and_self, Bool.and_eq_true, decide_eq_true_eq, and_self, true_or, or_true, false_or, or_false, Nat.zero_add, Nat.add_zero, eq_self, Nat.reduceEqDiff, Nat.reduceLeDiff, Nat.reduceLT, Nat.reduceAdd, Nat.reduceSub, Nat.reduceMul, xi144_0, ix_0, xi144_1, ix_1, xi144_2, ix_2, xi144_3, ix_3, xi144_4, ix_4, xi144_5, ix_5, xi144_6, ix_6, xi144_7, ix_7, xi144_8, ix_8, xi144_9, ix_9, xi144_10, ix_10, LM_out hL, (h.2 _ _ (by decide)).trans h10, nI_leP (show n < 2147483648 by omega) (show i < 2147483648 by omega), show (n ≤ i) = False from eq_false (by omega), nI_inP (show i < 64 by omega) (by decide), nI_ix (show i < 2147483648 by omega), hv, nI_iff (show g i < 2147483648 by omega) (show hi < 2147483648 by omega), e283_68, B283_68, nI_1, ne_eq]
    by_cases e : g i = hi
    · simp only [e, true_and, and_true, false_and, and_false, true_implies, false_implies, implies_true, not_true_eq_false, not_false_eq_true, ne_eq, if_true, if_false, Bool.and_true, Bool.true_and, decide_true, decide_false, reduceIte, reduceCtorEq, Bool.and_self, Bool.and_eq_true, decide_eq_true_eq, and_self, true_or, or_true, false_or, or_false, Nat.zero_add, Nat.add_zero, eq_self, Nat.reduceEqDiff, Nat.reduceLeDiff, Nat.reduceLT, Nat.reduceAdd, Nat.reduceSub, Nat.reduceMul]
      refine L283_36 hL h10 hn hg hh hl kk j (i + 1) _ (by omega) ⟨fun k hk => ?_, fun o k ho => ?_⟩
      · rw [uI_at]
        by_cases e2 : k = i
        · subst e2
          rw [if_pos ⟨rfl, rfl⟩, if_pos ⟨by omega, e⟩]
        · rw [if_neg (fun h => e2 h.2), h.1 k hk]
          by_cases e3 : k < i
          · simp only [show (k < i + 1) = True from eq_true (by omega), show (k < i) = True from eq_true e3]
          · rw [if_neg (fun h => e3 h.1), if_neg (fun h => (show ¬ k < i + 1 by omega) h.1)]
      · rw [uI_at, if_neg (fun e => ho e.1)]
        exact h.2 o k ho
    · simp only [e, true_and, and_true, false_and, and_false, true_implies, false_implies, implies_true, not_true_eq_false, not_false_eq_true, ne_eq, if_true, if_false, Bool.and_true, Bool.true_and, decide_true, decide_false, reduceIte, reduceCtorEq, Bool.and_self, Bool.and_eq_true, decide_eq_true_eq, and_self, true_or, or_true, false_or, or_false, Nat.zero_add, Nat.add_zero, eq_self, Nat.reduceEqDiff, Nat.reduceLeDiff, Nat.reduceLT, Nat.reduceAdd, Nat.reduceSub, Nat.reduceMul]
      refine L283_36 hL h10 hn hg hh hl kk j (i + 1) _ (by omega) ⟨fun k hk => ?_, h.2⟩
      rw [h.1 k hk]
      by_cases e2 : k = i
      · subst e2
        rw [if_neg (fun h => e h.2), if_neg (fun h => e h.2)]
      · by_cases e3 : k < i
        · simp only [show (k < i + 1) = True from eq_true (by omega), show (k < i) = True from eq_true e3]
        · rw [if_neg (fun h => e3 h.1), if_neg (fun h => (show ¬ k < i + 1 by omega) h.1)]
theorem L283 {I0 : xI} {g : Nat → Nat} {s o : Nat} (hL : LM S R) (h10 : I0 300 10 = nI n) (hn : n ≤ 64) (hg : ∀ k, k < n → g k < 64) (hs : s < n) (ho : o < n) (hI : GO I0 g n I) (kk : ∀ I, GO I0 (jn g s o) n I → Q (.ok none) (S, I, J, D, R) b) : xRun xT 283 0 [(0, .ref 200), (1, .int (nI s)), (2, .int (nI o))] [] (S, I, J, D, R) b Q := by
  have h1 := hg s hs
  have h2 := hg o ho
  rw [e283_0]
  simp only [B283_0, xSeq, i_push, i_load, i_iload, i_lload, i_dload, i_aload, i_istore, i_astore, i_lstore, i_dstore, i_iinc, i_ii, i_iiz, i_ll, i_llz, i_lli, i_li, i_i, i_l, i_i2l, i_l2i, i_dup, i_dup2, i_dup2w, i_dupx1, i_pop, i_pop2, i_goto, i_ifc, i_icmp, i_getI, i_getL, i_getR, i_putI, i_putZ, i_putL, i_putR, i_aldI, i_aldB, i_aldL, i_aldD, i_astI, i_astL, i_astD, i_alen, i_ret, i_iret, i_zret, i_lret, i_fret, i_dret, i_aret, i_invS0, i_invV0, i_m2, i_m1, i_ml, i_obj, lk, lkp, stf1, stf2, Value.category, rV, xTo, lv_args, xCk, xCat, xRc, xAk, hg_S, hg_I, hg_J, hg_D, hg_R, hs_I, hs_J, hs_D, hs_R, uI_at, uJ_at, uD_at, uR_at, List.take_succ_cons, List.take_zero, List.drop_succ_cons, List.drop_zero, List.reverse_cons, List.reverse_nil, List.nil_append, List.cons_append, List.map_cons, List.map_nil, List.sum_cons, List.sum_nil, List.length_cons, List.length_nil, Option.toList_some, Option.toList_none, true_and, and_true, false_and, and_false, true_implies, false_implies, implies_true, not_true_eq_false, not_false_eq_true, ne_eq, if_true, if_false, Bool.and_true, Bool.true_and, decide_true, decide_false, reduceIte, reduceCtorEq, Bool.and_self, Bool.and_eq_true, decide_eq_true_eq, and_self, true_or, or_true, false_or, or_false, Nat.zero_add, Nat.add_zero, eq_self, Nat.reduceEqDiff, Nat.reduceLeDiff, Nat.reduceLT, Nat.reduceAdd, Nat.reduceSub, Nat.reduceMul, xi144_0, ix_0, xi144_1, ix_1, xi144_2, ix_2, xi144_3, ix_3, xi144_4, ix_4, xi144_5, ix_5, xi144_6, ix_6, xi144_7, ix_7, xi144_8, ix_8, xi144_9, ix_9, xi144_10, ix_10, LM_out hL, nI_inP (show s < 64 by omega) (by decide), nI_ix (show s < 2147483648 by omega), nI_inP (show o < 64 by omega) (by decide), nI_ix (show o < 2147483648 by omega), hI.1 s hs, hI.1 o ho, jMin_nI (show g s < 2147483648 by omega) (show g o < 2147483648 by omega), jMax_nI (show g s < 2147483648 by omega) (show g o < 2147483648 by omega)]
  refine L283_36 hL h10 hn hg (Nat.max_lt.mpr ⟨h1, h2⟩) (Nat.lt_of_le_of_lt (Nat.min_le_left _ _) h1) kk n 0 I (by omega) ⟨fun k hk => ?_, hI.2⟩
  rw [hI.1 k hk, if_neg (fun h => Nat.not_lt_zero _ h.1)]
theorem R280 (hL : LM S R) (hG : GR n m fi se dg sb) (hC : CM I n m fi se dg sb) {x k : Nat} (hx : x < 2 ^ 64) (hJ : J 200 3 = lN x) (hk : k < m) : xRun xT 280 0 [(0, .ref 200), (1, .int (nI k))] [] (S, I, J, D, R) b Q = Q (.ok (some (.int (if x.testBit (fi k) = x.testBit (se k) then 1 else 0)))) (S, I, J, D, R) b := by
  obtain ⟨g0, g1, g2, g3, g4, g5, g6⟩ := hG
  obtain ⟨c1, c2, c3, c4, c5, c6⟩ := hC
  have h3 := g3 k hk
  have h4 := g4 k hk
  have e : (sg (x.testBit (fi k)) = sg (x.testBit (se k))) = (x.testBit (fi k) = x.testBit (se k)) := by
    cases x.testBit (fi k) <;> cases x.testBit (se k) <;> decide
  rw [e280_0]
  simp only [B280_0, xSeq, i_push, i_load, i_iload, i_lload, i_dload, i_aload, i_istore, i_astore, i_lstore, i_dstore, i_iinc, i_ii, i_iiz, i_ll, i_llz, i_lli, i_li, i_i, i_l, i_i2l, i_l2i, i_dup, i_dup2, i_dup2w, i_dupx1, i_pop, i_pop2, i_goto, i_ifc, i_icmp, i_getI, i_getL, i_getR, i_putI, i_putZ, i_putL, i_putR, i_aldI, i_aldB, i_aldL, i_aldD, i_astI, i_astL, i_astD, i_alen, i_ret, i_iret, i_zret, i_lret, i_fret, i_dret, i_aret, i_invS0, i_invV0, i_m2, i_m1, i_ml, i_obj, lk, lkp, stf1, stf2, Value.category, rV, xTo, lv_args, xCk, xCat, xRc, xAk, hg_S, hg_I, hg_J, hg_D, hg_R, hs_I, hs_J, hs_D, hs_R, uI_at, uJ_at, uD_at, uR_at, List.take_succ_cons, List.take_zero, List.drop_succ_cons, List.drop_zero, List.reverse_cons, List.reverse_nil, List.nil_append, List.cons_append, List.map_cons, List.map_nil, List.sum_cons, List.sum_nil, List.length_cons, List.length_nil, Option.toList_some, Option.toList_none, true_and, and_true, false_and, and_false, true_implies, false_implies, implies_true, not_true_eq_false, not_false_eq_true, ne_eq, if_true, if_false, Bool.and_true, Bool.true_and, decide_true, decide_false, reduceIte, reduceCtorEq, Bool.and_self, Bool.and_eq_true, decide_eq_true_eq, and_self, true_or, or_true, false_or, or_false, Nat.zero_add, Nat.add_zero, eq_self, Nat.reduceEqDiff, Nat.reduceLeDiff, Nat.reduceLT, Nat.reduceAdd, Nat.reduceSub, Nat.reduceMul, xi144_0, ix_0, xi144_1, ix_1, xi144_2, ix_2, xi144_3, ix_3, xi144_4, ix_4, xi144_5, ix_5, xi144_6, ix_6, xi144_7, ix_7, xi144_8, ix_8, xi144_9, ix_9, xi144_10, ix_10, LM_out hL, hJ, nI_inP (show k < 128 by omega) (by decide), nI_ix (show k < 2147483648 by omega), c3 k hk, c4 k hk, R238 (S := S) (R := R) hx (show fi k < 64 by omega), R238 (S := S) (R := R) hx (show se k < 64 by omega), ne_eq, e, e280_33, B280_33, e280_34, B280_34]
  by_cases hb : x.testBit (fi k) = x.testBit (se k) <;> simp only [hb, true_and, and_true, false_and, and_false, true_implies, false_implies, implies_true, not_true_eq_false, not_false_eq_true, ne_eq, if_true, if_false, Bool.and_true, Bool.true_and, decide_true, decide_false, reduceIte, reduceCtorEq, Bool.and_self, Bool.and_eq_true, decide_eq_true_eq, and_self, true_or, or_true, false_or, or_false, Nat.zero_add, Nat.add_zero, eq_self, Nat.reduceEqDiff, Nat.reduceLeDiff, Nat.reduceLT, Nat.reduceAdd, Nat.reduceSub, Nat.reduceMul]
/-- the groups behind so many bonds, as a list -/
def jl (g : List Nat) (s o : Nat) : List Nat := g.map (fun v => if v = max (g.getD s 0) (g.getD o 0) then min (g.getD s 0) (g.getD o 0) else v)
def ly (n : Nat) (on : Nat → Bool) (fi se : Nat → Nat) : Nat → List Nat
  | 0 => List.range n
  | k + 1 => if on k = true then jl (ly n on fi se k) (fi k) (se k) else ly n on fi se k
theorem jl_len (g : List Nat) (s o : Nat) : (jl g s o).length = g.length := List.length_map _
theorem jl_at {g : List Nat} {s o k : Nat} (h : k < g.length) : (jl g s o).getD k 0 = jn (fun k => g.getD k 0) s o k := getD_map h
theorem ly_len (n : Nat) (on : Nat → Bool) (fi se : Nat → Nat) : ∀ k, (ly n on fi se k).length = n
  | 0 => List.length_range
  | k + 1 => by
    rw [ly]
    split
    · rw [jl_len]; exact ly_len n on fi se k
    · exact ly_len n on fi se k
theorem jl_lt {n : Nat} {g : List Nat} {s o : Nat} (hl : g.length = n) (h : ∀ k, k < n → g.getD k 0 < n) (hs : s < n) (ho : o < n) : ∀ k, k < n → (jl g s o).getD k 0 < n := by
  intro k hk
  rw [jl_at (by omega)]
  unfold jn
  split
  · exact Nat.lt_of_le_of_lt (Nat.min_le_left _ _) (h s hs)
  · exact h k hk
theorem ly_lt (n : Nat) (on : Nat → Bool) {fi se : Nat → Nat} {m : Nat} (h1 : ∀ k, k < m → fi k < n) (h2 : ∀ k, k < m → se k < n) : ∀ k, k ≤ m → ∀ i, i < n → (ly n on fi se k).getD i 0 < n
  | 0, _, i, hi => by
    rw [ly, ← List.getElem_eq_getD (h := by rw [List.length_range]; exact hi) 0, List.getElem_range]
    exact hi
  | k + 1, hk, i, hi => by
    have h := ly_lt n on h1 h2 k (by omega)
    rw [ly]
    split
    · exact jl_lt (ly_len _ _ _ _ _) h (h1 k (by omega)) (h2 k (by omega)) i hi
    · exact h i hi
theorem GO_CM {I0 : xI} {g : Nat → Nat} (hI : GO I0 g n I) (hC : CM I0 n m fi se dg sb) : CM I n m fi se dg sb := CM_k hC (fun o k ho => hI.2 o k (by omega))
/-- which bonds join in domains -/
def oD2 (st : Nat → Int32) (fi se : Nat → Nat) (x k : Nat) : Bool := decide (x.testBit (fi k) = x.testBit (se k)) && !decide (st k = 0)
theorem GO_jl {I0 : xI} {g : List Nat} {s o : Nat} (hl : g.length = n) (h : GO I0 (jn (fun k => g.getD k 0) s o) n I) : GO I0 (fun k => (jl g s o).getD k 0) n I := ⟨fun k hk => (h.1 k hk).trans (congrArg nI (jl_at (by omega)).symm), h.2⟩
theorem L286_6 {I0 : xI} {J : xJ} (hL : LM S R) (hG : GR n m fi se dg sb) (hC : CM I0 n m fi se dg sb) {x : Nat} (hx : x < 2 ^ 64) (hJ : J 200 3 = lN x) (kk : ∀ I, GO I0 (fun k => (ly n (oD2 (fun k => I0 300 (16 + k)) fi se x) fi se m).getD k 0) n I → Q (.ok none) (S, I, J, D, R) b) : ∀ (j i : Nat) (I : xI), i + j = m → GO I0 (fun k => (ly n (oD2 (fun k => I0 300 (16 + k)) fi se x) fi se i).getD k 0) n I → xRun xT 286 6 [(0, .ref 200), (1, .int (nI i))] [] (S, I, J, D, R) b Q
  | 0, i, I, hi, h => by
    have hC' := GO_CM h hC
    have g2 := hG.2.2.1
    have e : i = m := by omega
    subst e
    rw [e286_6]
    simp only [B286_6, xSeq, i_push, i_load, i_iload, i_lload, i_dload, i_aload, i_istore, i_astore, i_lstore, i_dstore, i_iinc, i_ii, i_iiz, i_ll, i_llz, i_lli, i_li, i_i, i_l, i_i2l, i_l2i, i_dup, i_dup2, i_dup2w, i_dupx1, i_pop, i_pop2, i_goto, i_ifc, i_icmp, i_getI, i_getL, i_getR, i_putI, i_putZ, i_putL, i_putR, i_aldI, i_aldB, i_aldL, i_aldD, i_astI, i_astL, i_astD, i_alen, i_ret, i_iret, i_zret, i_lret, i_fret, i_dret, i_aret, i_invS0, i_invV0, i_m2, i_m1, i_ml, i_obj, lk, lkp, stf1, stf2, Value.category, rV, xTo, lv_args, xCk, xCat, xRc, xAk, hg_S, hg_I, hg_J, hg_D, hg_R, hs_I, hs_J, hs_D, hs_R, uI_at, uJ_at, uD_at, uR_at, List.take_succ_cons, List.take_zero, List.drop_succ_cons, List.drop_zero, List.reverse_cons, List.reverse_nil, List.nil_append, List.cons_append, List.map_cons, List.map_nil, List.sum_cons, List.sum_nil, List.length_cons, List.length_nil, Option.toList_some, Option.toList_none, true_and, and_true, false_and, and_false, true_implies, false_implies, implies_true, not_true_eq_false, not_false_eq_true, ne_eq, if_true, if_false, Bool.and_true, Bool.true_and, decide_true, decide_false, reduceIte, reduceCtorEq, Bool.and_self, Bool.and_eq_true, decide_eq_true_eq, and_self, true_or, or_true, false_or, or_false, Nat.zero_add, Nat.add_zero, eq_self, Nat.reduceEqDiff, Nat.reduceLeDiff, Nat.reduceLT, Nat.reduceAdd, Nat.reduceSub, Nat.reduceMul, xi144_0, ix_0, xi144_1, ix_1, xi144_2, ix_2, xi144_3, ix_3, xi144_4, ix_4, xi144_5, ix_5, xi144_6, ix_6, xi144_7, ix_7, xi144_8, ix_8, xi144_9, ix_9, xi144_10, ix_10, LM_out hL, hC'.2.1, nI_leP (show i < 2147483648 by omega) (show i < 2147483648 by omega), Nat.le_refl, e286_59, B286_59]
    exact kk I h
  | j + 1, i, I, hi, h => by
    have hC' := GO_CM h hC
    obtain ⟨g0, g1, g2, g3, g4, g5, g6⟩ := hG
    have hG : GR n m fi se dg sb := ⟨g0, g1, g2, g3, g4, g5, g6⟩
    have hst : I 300 (16 + i) = I0 300 (16 + i) := h.2 _ _ (by decide)
    have hY := fun (b : Nat × Nat) (Q : xQ) => R280 (D := D) (b := b) (Q := Q) hL hG hC' hx hJ (show i < m by omega)
    have nx := fun (I : xI) => L286_6 hL hG hC hx hJ kk j (i + 1) I (by omega)
    rw [ly] at nx
    have h1 := ly_lt n (oD2 (fun k => I0 300 (16 + k)) fi se x) g3 g4 i (by omega)
    have h2 := ly_len n (oD2 (fun k => I0 300 (16 + k)) fi se x) fi se i
    have ho : oD2 (fun k => I0 300 (16 + k)) fi se x i = (decide (x.testBit (fi i) = x.testBit (se i)) && !decide (I0 300 (16 + i) = 0)) := rfl
    rw [ho] at nx
    obtain ⟨g, hg⟩ : ∃ g, g = ly n (oD2 (fun k => I0 300 (16 + k)) fi se x) fi se i := ⟨_, rfl⟩
    rw [← hg] at h h1 h2 nx
    obtain ⟨c1, c2, c3, c4, c5, c6⟩ := hC'
    rw [e286_6]
    simp only [B286_6, xSeq, i_push, i_load, i_iload, i_lload, i_dload, i_aload, i_istore, i_astore, i_lstore, i_dstore, i_iinc, i_ii, i_iiz, i_ll, i_llz, i_lli, i_li, i_i, i_l, i_i2l, i_l2i, i_dup, i_dup2, i_dup2w, i_dupx1, i_pop, i_pop2, i_goto, i_ifc, i_icmp, i_getI, i_getL, i_getR, i_putI, i_putZ, i_putL, i_putR, i_aldI, i_aldB, i_aldL, i_aldD, i_astI, i_astL, i_astD, i_alen, i_ret, i_iret, i_zret, i_lret, i_fret, i_dret, i_aret, i_invS0, i_invV0, i_m2, i_m1, i_ml, i_obj, lk, lkp, stf1, stf2, Value.category, rV, xTo, lv_args, xCk, xCat, xRc, xAk, hg_S, hg_I, hg_J, hg_D, hg_R, hs_I, hs_J, hs_D, hs_R, uI_at, uJ_at, uD_at, uR_at, List.take_succ_cons, List.take_zero, List.drop_succ_cons, List.drop_zero, List.reverse_cons, List.reverse_nil, List.nil_append, List.cons_append, List.map_cons, List.map_nil, List.sum_cons, List.sum_nil, List.length_cons, List.length_nil, Option.toList_some, Option.toList_none, true_and, and_true, false_and, and_false, true_implies, false_implies, implies_true, not_true_eq_false, not_false_eq_true, ne_eq, if_true, if_false, Bool.and_true, Bool.true_and, decide_true, decide_false, reduceIte, reduceCtorEq, Bool.and_self, Bool.and_eq_true, decide_eq_true_eq, and_self, true_or, or_true, false_or, or_false, Nat.zero_add, Nat.add_zero, eq_self, Nat.reduceEqDiff, Nat.reduceLeDiff, Nat.reduceLT, Nat.reduceAdd, Nat.reduceSub, Nat.reduceMul, xi144_0, ix_0, xi144_1, ix_1, xi144_2, ix_2, xi144_3, ix_3, xi144_4, ix_4, xi144_5, ix_5, xi144_6, ix_6, xi144_7, ix_7, xi144_8, ix_8, xi144_9, ix_9, xi144_10, ix_10, LM_out hL, c2, nI_leP (show m < 2147483648 by omega) (show i < 2147483648 by omega), show (m ≤ i) = False from eq_false (by omega), hY, nI_c16, nI_inP (show 16 + i < 144 by omega) (by decide), nI_ix (show 16 + i < 2147483648 by omega), nI_inP (show i < 128 by omega) (by decide), nI_ix (show i < 2147483648 by omega), hst, c3 i (by omega), c4 i (by omega)]
    by_cases hb : x.testBit (fi i) = x.testBit (se i)
    · by_cases h0 : I0 300 (16 + i) = 0
      · rw [decide_eq_true h0, Bool.not_true, Bool.and_false, if_neg (by decide)] at nx
        simp only [hb, h0, true_and, and_true, false_and, and_false, true_implies, false_implies, implies_true, not_true_eq_false, not_false_eq_true, ne_eq, if_true, if_false, Bool.and_true, Bool.true_and, decide_true, decide_false, reduceIte, reduceCtorEq, Bool.and_self, Bool.and_eq_true, decide_eq_true_eq, and_self, true_or, or_true, false_or, or_false, Nat.zero_add, Nat.add_zero, eq_self, Nat.reduceEqDiff, Nat.reduceLeDiff, Nat.reduceLT, Nat.reduceAdd, Nat.reduceSub, Nat.reduceMul, i1_0, e286_53, B286_53, nI_1, xSeq, i_push, i_load, i_iload, i_lload, i_dload, i_aload, i_istore, i_astore, i_lstore, i_dstore, i_iinc, i_ii, i_iiz, i_ll, i_llz, i_lli, i_li, i_i, i_l, i_i2l, i_l2i, i_dup, i_dup2, i_dup2w, i_dupx1, i_pop, i_pop2, i_goto, i_ifc, i_icmp, i_getI, i_getL, i_getR, i_putI, i_putZ, i_putL, i_putR, i_aldI, i_aldB, i_aldL, i_aldD, i_astI, i_astL, i_astD, i_alen, i_ret, i_iret, i_zret, i_lret, i_fret, i_dret, i_aret, i_invS0, i_invV0, i_m2, i_m1, i_ml, i_obj, lk, lkp, stf1, stf2, Value.category, rV, xTo, lv_args, xCk, xCat, xRc, xAk, hg_S, hg_I, hg_J, hg_D, hg_R, hs_I, hs_J, hs_D, hs_R, uI_at, uJ_at, uD_at, uR_at, List.take_succ_cons, List.take_zero, List.drop_succ_cons, List.drop_zero, List.reverse_cons, List.reverse_nil, List.nil_append, List.cons_append, List.map_cons, List.map_nil, List.sum_cons, List.sum_nil, List.length_cons, List.length_nil, Option.toList_some, Option.toList_none, true_and, and_true, false_and, and_false, true_implies, false_implies, implies_true, not_true_eq_false, not_false_eq_true, ne_eq, if_true, if_false, Bool.and_true, Bool.true_and, decide_true, decide_false, reduceIte, reduceCtorEq, Bool.and_self, Bool.and_eq_true, decide_eq_true_eq, and_self, true_or, or_true, false_or, or_false, Nat.zero_add, Nat.add_zero, eq_self, Nat.reduceEqDiff, Nat.reduceLeDiff, Nat.reduceLT, Nat.reduceAdd, Nat.reduceSub, Nat.reduceMul]
        exact nx I h
      · rw [decide_eq_false h0, decide_eq_true hb, Bool.not_false, Bool.and_true, if_pos rfl] at nx
        simp only [hb, h0, true_and, and_true, false_and, and_false, true_implies, false_implies, implies_true, not_true_eq_false, not_false_eq_true, ne_eq, if_true, if_false, Bool.and_true, Bool.true_and, decide_true, decide_false, reduceIte, reduceCtorEq, Bool.and_self, Bool.and_eq_true, decide_eq_true_eq, and_self, true_or, or_true, false_or, or_false, Nat.zero_add, Nat.add_zero, eq_self, Nat.reduceEqDiff, Nat.reduceLeDiff, Nat.reduceLT, Nat.reduceAdd, Nat.reduceSub, Nat.reduceMul, i1_0]
        refine L283 hL hC.1 g1 (fun k hk => Nat.lt_of_lt_of_le (h1 k hk) g1) (g3 i (by omega)) (g4 i (by omega)) h (fun I' h' => ?_)
        simp only [xSeq, i_push, i_load, i_iload, i_lload, i_dload, i_aload, i_istore, i_astore, i_lstore, i_dstore, i_iinc, i_ii, i_iiz, i_ll, i_llz, i_lli, i_li, i_i, i_l, i_i2l, i_l2i, i_dup, i_dup2, i_dup2w, i_dupx1, i_pop, i_pop2, i_goto, i_ifc, i_icmp, i_getI, i_getL, i_getR, i_putI, i_putZ, i_putL, i_putR, i_aldI, i_aldB, i_aldL, i_aldD, i_astI, i_astL, i_astD, i_alen, i_ret, i_iret, i_zret, i_lret, i_fret, i_dret, i_aret, i_invS0, i_invV0, i_m2, i_m1, i_ml, i_obj, lk, lkp, stf1, stf2, Value.category, rV, xTo, lv_args, xCk, xCat, xRc, xAk, hg_S, hg_I, hg_J, hg_D, hg_R, hs_I, hs_J, hs_D, hs_R, uI_at, uJ_at, uD_at, uR_at, List.take_succ_cons, List.take_zero, List.drop_succ_cons, List.drop_zero, List.reverse_cons, List.reverse_nil, List.nil_append, List.cons_append, List.map_cons, List.map_nil, List.sum_cons, List.sum_nil, List.length_cons, List.length_nil, Option.toList_some, Option.toList_none, true_and, and_true, false_and, and_false, true_implies, false_implies, implies_true, not_true_eq_false, not_false_eq_true, ne_eq, if_true, if_false, Bool.and_true, Bool.true_and, decide_true, decide_false, reduceIte, reduceCtorEq, Bool.and_self, Bool.and_eq_true, decide_eq_true_eq, and_self, true_or, or_true, false_or, or_false, Nat.zero_add, Nat.add_zero, eq_self, Nat.reduceEqDiff, Nat.reduceLeDiff, Nat.reduceLT, Nat.reduceAdd, Nat.reduceSub, Nat.reduceMul, e286_53, B286_53, nI_1]
        exact nx I' (GO_jl h2 h')
    · rw [decide_eq_false hb, Bool.false_and, if_neg (by decide)] at nx
      simp only [hb, true_and, and_true, false_and, and_false, true_implies, false_implies, implies_true, not_true_eq_false, not_false_eq_true, ne_eq, if_true, if_false, Bool.and_true, Bool.true_and, decide_true, decide_false, reduceIte, reduceCtorEq, Bool.and_self, Bool.and_eq_true, decide_eq_true_eq, and_self, true_or, or_true, false_or, or_false, Nat.zero_add, Nat.add_zero, eq_self, Nat.reduceEqDiff, Nat.reduceLeDiff, Nat.reduceLT, Nat.reduceAdd, Nat.reduceSub, Nat.reduceMul, e286_53, B286_53, nI_1, xSeq, i_push, i_load, i_iload, i_lload, i_dload, i_aload, i_istore, i_astore, i_lstore, i_dstore, i_iinc, i_ii, i_iiz, i_ll, i_llz, i_lli, i_li, i_i, i_l, i_i2l, i_l2i, i_dup, i_dup2, i_dup2w, i_dupx1, i_pop, i_pop2, i_goto, i_ifc, i_icmp, i_getI, i_getL, i_getR, i_putI, i_putZ, i_putL, i_putR, i_aldI, i_aldB, i_aldL, i_aldD, i_astI, i_astL, i_astD, i_alen, i_ret, i_iret, i_zret, i_lret, i_fret, i_dret, i_aret, i_invS0, i_invV0, i_m2, i_m1, i_ml, i_obj, lk, lkp, stf1, stf2, Value.category, rV, xTo, lv_args, xCk, xCat, xRc, xAk, hg_S, hg_I, hg_J, hg_D, hg_R, hs_I, hs_J, hs_D, hs_R, uI_at, uJ_at, uD_at, uR_at, List.take_succ_cons, List.take_zero, List.drop_succ_cons, List.drop_zero, List.reverse_cons, List.reverse_nil, List.nil_append, List.cons_append, List.map_cons, List.map_nil, List.sum_cons, List.sum_nil, List.length_cons, List.length_nil, Option.toList_some, Option.toList_none, true_and, and_true, false_and, and_false, true_implies, false_implies, implies_true, not_true_eq_false, not_false_eq_true, ne_eq, if_true, if_false, Bool.and_true, Bool.true_and, decide_true, decide_false, reduceIte, reduceCtorEq, Bool.and_self, Bool.and_eq_true, decide_eq_true_eq, and_self, true_or, or_true, false_or, or_false, Nat.zero_add, Nat.add_zero, eq_self, Nat.reduceEqDiff, Nat.reduceLeDiff, Nat.reduceLT, Nat.reduceAdd, Nat.reduceSub, Nat.reduceMul]
      exact nx I h
theorem L286 {I0 : xI} {J : xJ} (hL : LM S R) (hG : GR n m fi se dg sb) (hC : CM I0 n m fi se dg sb) {x : Nat} (hx : x < 2 ^ 64) (hJ : J 200 3 = lN x) (kk : ∀ I, GO I0 (fun k => (ly n (oD2 (fun k => I0 300 (16 + k)) fi se x) fi se m).getD k 0) n I → Q (.ok none) (S, I, J, D, R) b) : xRun xT 286 0 [(0, .ref 200)] [] (S, I0, J, D, R) b Q := by
  rw [e286_0]
  simp only [B286_0, xSeq, i_push, i_load, i_iload, i_lload, i_dload, i_aload, i_istore, i_astore, i_lstore, i_dstore, i_iinc, i_ii, i_iiz, i_ll, i_llz, i_lli, i_li, i_i, i_l, i_i2l, i_l2i, i_dup, i_dup2, i_dup2w, i_dupx1, i_pop, i_pop2, i_goto, i_ifc, i_icmp, i_getI, i_getL, i_getR, i_putI, i_putZ, i_putL, i_putR, i_aldI, i_aldB, i_aldL, i_aldD, i_astI, i_astL, i_astD, i_alen, i_ret, i_iret, i_zret, i_lret, i_fret, i_dret, i_aret, i_invS0, i_invV0, i_m2, i_m1, i_ml, i_obj, lk, lkp, stf1, stf2, Value.category, rV, xTo, lv_args, xCk, xCat, xRc, xAk, hg_S, hg_I, hg_J, hg_D, hg_R, hs_I, hs_J, hs_D, hs_R, uI_at, uJ_at, uD_at, uR_at, List.take_succ_cons, List.take_zero, List.drop_succ_cons, List.drop_zero, List.reverse_cons, List.reverse_nil, List.nil_append, List.cons_append, List.map_cons, List.map_nil, List.sum_cons, List.sum_nil, List.length_cons, List.length_nil, Option.toList_some, Option.toList_none, true_and, and_true, false_and, and_false, true_implies, false_implies, implies_true, not_true_eq_false, not_false_eq_true, ne_eq, if_true, if_false, Bool.and_true, Bool.true_and, decide_true, decide_false, reduceIte, reduceCtorEq, Bool.and_self, Bool.and_eq_true, decide_eq_true_eq, and_self, true_or, or_true, false_or, or_false, Nat.zero_add, Nat.add_zero, eq_self, Nat.reduceEqDiff, Nat.reduceLeDiff, Nat.reduceLT, Nat.reduceAdd, Nat.reduceSub, Nat.reduceMul, LM_out hL]
  refine L282 hL hC.1 hG.2.1 (fun I h => ?_)
  simp only [xSeq, i_push, i_load, i_iload, i_lload, i_dload, i_aload, i_istore, i_astore, i_lstore, i_dstore, i_iinc, i_ii, i_iiz, i_ll, i_llz, i_lli, i_li, i_i, i_l, i_i2l, i_l2i, i_dup, i_dup2, i_dup2w, i_dupx1, i_pop, i_pop2, i_goto, i_ifc, i_icmp, i_getI, i_getL, i_getR, i_putI, i_putZ, i_putL, i_putR, i_aldI, i_aldB, i_aldL, i_aldD, i_astI, i_astL, i_astD, i_alen, i_ret, i_iret, i_zret, i_lret, i_fret, i_dret, i_aret, i_invS0, i_invV0, i_m2, i_m1, i_ml, i_obj, lk, lkp, stf1, stf2, Value.category, rV, xTo, lv_args, xCk, xCat, xRc, xAk, hg_S, hg_I, hg_J, hg_D, hg_R, hs_I, hs_J, hs_D, hs_R, uI_at, uJ_at, uD_at, uR_at, List.take_succ_cons, List.take_zero, List.drop_succ_cons, List.drop_zero, List.reverse_cons, List.reverse_nil, List.nil_append, List.cons_append, List.map_cons, List.map_nil, List.sum_cons, List.sum_nil, List.length_cons, List.length_nil, Option.toList_some, Option.toList_none, true_and, and_true, false_and, and_false, true_implies, false_implies, implies_true, not_true_eq_false, not_false_eq_true, ne_eq, if_true, if_false, Bool.and_true, Bool.true_and, decide_true, decide_false, reduceIte, reduceCtorEq, Bool.and_self, Bool.and_eq_true, decide_eq_true_eq, and_self, true_or, or_true, false_or, or_false, Nat.zero_add, Nat.add_zero, eq_self, Nat.reduceEqDiff, Nat.reduceLeDiff, Nat.reduceLT, Nat.reduceAdd, Nat.reduceSub, Nat.reduceMul]
  refine L286_6 hL hG hC hx hJ kk m 0 I (by omega) ⟨fun k hk => ?_, h.2⟩
  have e : (List.range n).getD k 0 = k := by rw [← List.getElem_eq_getD (h := by rw [List.length_range]; exact hk) 0, List.getElem_range]
  exact (h.1 k hk).trans (congrArg nI e.symm)
/-- how many groups; how large the group of a site -/
theorem R284_4 {g : Nat → Nat} (hL : LM S R) (h10 : I 300 10 = nI n) (hn : n ≤ 64) (h : ∀ k, k < n → I 341 k = nI (g k)) (hg : ∀ k, k < n → g k < 64) : ∀ (j i : Nat), i + j = n → xRun xT 284 4 [(0, .ref 200), (1, .int (nI (ct (fun s => decide (g s = s)) i))), (2, .int (nI i))] [] (S, I, J, D, R) b Q = Q (.ok (some (.int (nI (ct (fun s => decide (g s = s)) n))))) (S, I, J, D, R) b
  | 0, i, hi => by
    have e : i = n := by omega
    subst e
    rw [e284_4]
    simp only [B284_4, xSeq, i_push, i_load, i_iload, i_lload, i_dload, i_aload, i_istore, i_astore, i_lstore, i_dstore, i_iinc, i_ii, i_iiz, i_ll, i_llz, i_lli, i_li, i_i, i_l, i_i2l, i_l2i, i_dup, i_dup2, i_dup2w, i_dupx1, i_pop, i_pop2, i_goto, i_ifc, i_icmp, i_getI, i_getL, i_getR, i_putI, i_putZ, i_putL, i_putR, i_aldI, i_aldB, i_aldL, i_aldD, i_astI, i_astL, i_astD, i_alen, i_ret, i_iret, i_zret, i_lret, i_fret, i_dret, i_aret, i_invS0, i_invV0, i_m2, i_m1, i_ml, i_obj, lk, lkp, stf1, stf2, Value.category, rV, xTo, lv_args, xCk, xCat, xRc, xAk, hg_S, hg_I, hg_J, hg_D, hg_R, hs_I, hs_J, hs_D, hs_R, uI_at, uJ_at, uD_at, uR_at, List.take_succ_cons, List.take_zero, List.drop_succ_cons, List.drop_zero, List.reverse_cons, List.reverse_nil, List.nil_append, List.cons_append, List.map_cons, List.map_nil, List.sum_cons, List.sum_nil, List.length_cons, List.length_nil, Option.toList_some, Option.toList_none, true_and, and_true, false_and, and_false, true_implies, false_implies, implies_true, not_true_eq_false, not_false_eq_true, ne_eq, if_true, if_false, Bool.and_true, Bool.true_and, decide_true, decide_false, reduceIte, reduceCtorEq, Bool.and_self, Bool.and_eq_true, decide_eq_true_eq, and_self, true_or, or_true, false_or, or_false, Nat.zero_add, Nat.add_zero, eq_self, Nat.reduceEqDiff, Nat.reduceLeDiff, Nat.reduceLT, Nat.reduceAdd, Nat.reduceSub, Nat.reduceMul, xi144_0, ix_0, xi144_1, ix_1, xi144_2, ix_2, xi144_3, ix_3, xi144_4, ix_4, xi144_5, ix_5, xi144_6, ix_6, xi144_7, ix_7, xi144_8, ix_8, xi144_9, ix_9, xi144_10, ix_10, LM_out hL, h10, nI_leP (show i < 2147483648 by omega) (show i < 2147483648 by omega), Nat.le_refl, e284_39, B284_39]
  | j + 1, i, hi => by
    have h1 := hg i (by omega)
    have h2 := R284_4 hL h10 hn h hg j (i + 1) (by omega)
    rw [ct] at h2
    rw [e284_4]
    simp only [B284_4, xSeq, i_push, i_load, i_iload, i_lload, i_dload, i_aload, i_istore, i_astore, i_lstore, i_dstore, i_iinc, i_ii, i_iiz, i_ll, i_llz, i_lli, i_li, i_i, i_l, i_i2l, i_l2i, i_dup, i_dup2, i_dup2w, i_dupx1, i_pop, i_pop2, i_goto, i_ifc, i_icmp, i_getI, i_getL, i_getR, i_putI, i_putZ, i_putL, i_putR, i_aldI, i_aldB, i_aldL, i_aldD, i_astI, i_astL, i_astD, i_alen, i_ret, i_iret, i_zret, i_lret, i_fret, i_dret, i_aret, i_invS0, i_invV0, i_m2, i_m1, i_ml, i_obj, lk, lkp, stf1, stf2, Value.category, rV, xTo, lv_args, xCk, xCat, xRc, xAk, hg_S, hg_I, hg_J, hg_D, hg_R, hs_I, hs_J, hs_D, hs_R, uI_at, uJ_at, uD_at, uR_at, List.take_succ_cons, List.take_zero, List.drop_succ_cons, List.drop_zero, List.reverse_cons, List.reverse_nil, List.nil_append, List.cons_append, List.map_cons, List.map_nil, List.sum_cons, List.sum_nil, List.length_cons, List.length_nil, Option.toList_some, Option.toList_none, true_and, and_true, false_and, and_false, true_implies, false_implies, implies_true, not_true_eq_false, not_false_eq_true, ne_eq, if_true, if_false, Bool.and_true, Bool.true_and, decide_true, decide_false, reduceIte, reduceCtorEq, Bool.and_self, Bool.and_eq_true, decide_eq_true_eq, and_self, true_or, or_true, false_or, or_false, Nat.zero_add, Nat.add_zero, eq_self, Nat.reduceEqDiff, Nat.reduceLeDiff, Nat.reduceLT, Nat.reduceAdd, Nat.reduceSub, Nat.reduceMul, xi144_0, ix_0, xi144_1, ix_1, xi144_2, ix_2, xi144_3, ix_3, xi144_4, ix_4, xi144_5, ix_5, xi144_6, ix_6, xi144_7, ix_7, xi144_8, ix_8, xi144_9, ix_9, xi144_10, ix_10, LM_out hL, h10, nI_leP (show n < 2147483648 by omega) (show i < 2147483648 by omega), show (n ≤ i) = False from eq_false (by omega), nI_inP (show i < 64 by omega) (by decide), nI_ix (show i < 2147483648 by omega), h i (by omega), ne_eq, nI_iff (show g i < 2147483648 by omega) (show i < 2147483648 by omega), e284_30, B284_30, e284_31, B284_31, nI_1]
    by_cases e : g i = i
    · simp only [e, true_and, and_true, false_and, and_false, true_implies, false_implies, implies_true, not_true_eq_false, not_false_eq_true, ne_eq, if_true, if_false, Bool.and_true, Bool.true_and, decide_true, decide_false, reduceIte, reduceCtorEq, Bool.and_self, Bool.and_eq_true, decide_eq_true_eq, and_self, true_or, or_true, false_or, or_false, Nat.zero_add, Nat.add_zero, eq_self, Nat.reduceEqDiff, Nat.reduceLeDiff, Nat.reduceLT, Nat.reduceAdd, Nat.reduceSub, Nat.reduceMul, nI_1, decide_true] at h2 ⊢
      exact h2
    · simp only [e, true_and, and_true, false_and, and_false, true_implies, false_implies, implies_true, not_true_eq_false, not_false_eq_true, ne_eq, if_true, if_false, Bool.and_true, Bool.true_and, decide_true, decide_false, reduceIte, reduceCtorEq, Bool.and_self, Bool.and_eq_true, decide_eq_true_eq, and_self, true_or, or_true, false_or, or_false, Nat.zero_add, Nat.add_zero, eq_self, Nat.reduceEqDiff, Nat.reduceLeDiff, Nat.reduceLT, Nat.reduceAdd, Nat.reduceSub, Nat.reduceMul, Int32.add_zero] at h2 ⊢
      exact h2
theorem R284 {g : Nat → Nat} (hL : LM S R) (h10 : I 300 10 = nI n) (hn : n ≤ 64) (h : ∀ k, k < n → I 341 k = nI (g k)) (hg : ∀ k, k < n → g k < 64) : xRun xT 284 0 [(0, .ref 200)] [] (S, I, J, D, R) b Q = Q (.ok (some (.int (nI (ct (fun s => decide (g s = s)) n))))) (S, I, J, D, R) b := by
  have h2 := R284_4 (J := J) (D := D) (b := b) (Q := Q) hL h10 hn h hg n 0 (by omega)
  rw [e284_0]
  simp only [B284_0, xSeq, i_push, i_load, i_iload, i_lload, i_dload, i_aload, i_istore, i_astore, i_lstore, i_dstore, i_iinc, i_ii, i_iiz, i_ll, i_llz, i_lli, i_li, i_i, i_l, i_i2l, i_l2i, i_dup, i_dup2, i_dup2w, i_dupx1, i_pop, i_pop2, i_goto, i_ifc, i_icmp, i_getI, i_getL, i_getR, i_putI, i_putZ, i_putL, i_putR, i_aldI, i_aldB, i_aldL, i_aldD, i_astI, i_astL, i_astD, i_alen, i_ret, i_iret, i_zret, i_lret, i_fret, i_dret, i_aret, i_invS0, i_invV0, i_m2, i_m1, i_ml, i_obj, lk, lkp, stf1, stf2, Value.category, rV, xTo, lv_args, xCk, xCat, xRc, xAk, hg_S, hg_I, hg_J, hg_D, hg_R, hs_I, hs_J, hs_D, hs_R, uI_at, uJ_at, uD_at, uR_at, List.take_succ_cons, List.take_zero, List.drop_succ_cons, List.drop_zero, List.reverse_cons, List.reverse_nil, List.nil_append, List.cons_append, List.map_cons, List.map_nil, List.sum_cons, List.sum_nil, List.length_cons, List.length_nil, Option.toList_some, Option.toList_none, true_and, and_true, false_and, and_false, true_implies, false_implies, implies_true, not_true_eq_false, not_false_eq_true, ne_eq, if_true, if_false, Bool.and_true, Bool.true_and, decide_true, decide_false, reduceIte, reduceCtorEq, Bool.and_self, Bool.and_eq_true, decide_eq_true_eq, and_self, true_or, or_true, false_or, or_false, Nat.zero_add, Nat.add_zero, eq_self, Nat.reduceEqDiff, Nat.reduceLeDiff, Nat.reduceLT, Nat.reduceAdd, Nat.reduceSub, Nat.reduceMul]
  exact h2
theorem R288_4 {g : Nat → Nat} (hL : LM S R) (h10 : I 300 10 = nI n) (hn : n ≤ 64) (h : ∀ k, k < n → I 341 k = nI (g k)) (hg : ∀ k, k < n → g k < 64) {t : Nat} (ht : t < n) : ∀ (j i : Nat), i + j = n → xRun xT 288 4 [(0, .ref 200), (1, .int (nI t)), (2, .int (nI (ct (fun s => decide (g s = g t)) i))), (3, .int (nI i))] [] (S, I, J, D, R) b Q = Q (.ok (some (.int (nI (ct (fun s => decide (g s = g t)) n))))) (S, I, J, D, R) b
  | 0, i, hi => by
    have e : i = n := by omega
    subst e
    rw [e288_4]
    simp only [B288_4, xSeq, i_push, i_load, i_iload, i_lload, i_dload, i_aload, i_istore, i_astore, i_lstore, i_dstore, i_iinc, i_ii, i_iiz, i_ll, i_llz, i_lli, i_li, i_i, i_l, i_i2l, i_l2i, i_dup, i_dup2, i_dup2w, i_dupx1, i_pop, i_pop2, i_goto, i_ifc, i_icmp, i_getI, i_getL, i_getR, i_putI, i_putZ, i_putL, i_putR, i_aldI, i_aldB, i_aldL, i_aldD, i_astI, i_astL, i_astD, i_alen, i_ret, i_iret, i_zret, i_lret, i_fret, i_dret, i_aret, i_invS0, i_invV0, i_m2, i_m1, i_ml, i_obj, lk, lkp, stf1, stf2, Value.category, rV, xTo, lv_args, xCk, xCat, xRc, xAk, hg_S, hg_I, hg_J, hg_D, hg_R, hs_I, hs_J, hs_D, hs_R, uI_at, uJ_at, uD_at, uR_at, List.take_succ_cons, List.take_zero, List.drop_succ_cons, List.drop_zero, List.reverse_cons, List.reverse_nil, List.nil_append, List.cons_append, List.map_cons, List.map_nil, List.sum_cons, List.sum_nil, List.length_cons, List.length_nil, Option.toList_some, Option.toList_none, true_and, and_true, false_and, and_false, true_implies, false_implies, implies_true, not_true_eq_false, not_false_eq_true, ne_eq, if_true, if_false, Bool.and_true, Bool.true_and, decide_true, decide_false, reduceIte, reduceCtorEq, Bool.and_self, Bool.and_eq_true, decide_eq_true_eq, and_self, true_or, or_true, false_or, or_false, Nat.zero_add, Nat.add_zero, eq_self, Nat.reduceEqDiff, Nat.reduceLeDiff, Nat.reduceLT, Nat.reduceAdd, Nat.reduceSub, Nat.reduceMul, xi144_0, ix_0, xi144_1, ix_1, xi144_2, ix_2, xi144_3, ix_3, xi144_4, ix_4, xi144_5, ix_5, xi144_6, ix_6, xi144_7, ix_7, xi144_8, ix_8, xi144_9, ix_9, xi144_10, ix_10, LM_out hL, h10, nI_leP (show i < 2147483648 by omega) (show i < 2147483648 by omega), Nat.le_refl, e288_44, B288_44]
  | j + 1, i, hi => by
    have h1 := hg i (by omega)
    have h3 := hg t ht
    have h2 := R288_4 hL h10 hn h hg ht j (i + 1) (by omega)
    rw [ct] at h2
    rw [e288_4]
    simp only [B288_4, xSeq, i_push, i_load, i_iload, i_lload, i_dload, i_aload, i_istore, i_astore, i_lstore, i_dstore, i_iinc, i_ii, i_iiz, i_ll, i_llz, i_lli, i_li, i_i, i_l, i_i2l, i_l2i, i_dup, i_dup2, i_dup2w, i_dupx1, i_pop, i_pop2, i_goto, i_ifc, i_icmp, i_getI, i_getL, i_getR, i_putI, i_putZ, i_putL, i_putR, i_aldI, i_aldB, i_aldL, i_aldD, i_astI, i_astL, i_astD, i_alen, i_ret, i_iret, i_zret, i_lret, i_fret, i_dret, i_aret, i_invS0, i_invV0, i_m2, i_m1, i_ml, i_obj, lk, lkp, stf1, stf2, Value.category, rV, xTo, lv_args, xCk, xCat, xRc, xAk, hg_S, hg_I, hg_J, hg_D, hg_R, hs_I, hs_J, hs_D, hs_R, uI_at, uJ_at, uD_at, uR_at, List.take_succ_cons, List.take_zero, List.drop_succ_cons, List.drop_zero, List.reverse_cons, List.reverse_nil, List.nil_append, List.cons_append, List.map_cons, List.map_nil, List.sum_cons, List.sum_nil, List.length_cons, List.length_nil, Option.toList_some, Option.toList_none, true_and, and_true, false_and, and_false, true_implies, false_implies, implies_true, not_true_eq_false, not_false_eq_true, ne_eq, if_true, if_false, Bool.and_true, Bool.true_and, decide_true, decide_false, reduceIte, reduceCtorEq, Bool.and_self, Bool.and_eq_true, decide_eq_true_eq, and_self, true_or, or_true, false_or, or_false, Nat.zero_add, Nat.add_zero, eq_self, Nat.reduceEqDiff, Nat.reduceLeDiff, Nat.reduceLT, Nat.reduceAdd, Nat.reduceSub, Nat.reduceMul, xi144_0, ix_0, xi144_1, ix_1, xi144_2, ix_2, xi144_3, ix_3, xi144_4, ix_4, xi144_5, ix_5, xi144_6, ix_6, xi144_7, ix_7, xi144_8, ix_8, xi144_9, ix_9, xi144_10, ix_10, LM_out hL, h10, nI_leP (show n < 2147483648 by omega) (show i < 2147483648 by omega), show (n ≤ i) = False from eq_false (by omega), nI_inP (show i < 64 by omega) (by decide), nI_ix (show i < 2147483648 by omega), nI_inP (show t < 64 by omega) (by decide), nI_ix (show t < 2147483648 by omega), h i (by omega), h t ht, ne_eq, nI_iff (show g i < 2147483648 by omega) (show g t < 2147483648 by omega), e288_35, B288_35, e288_36, B288_36, nI_1]
    by_cases e : g i = g t
    · simp only [e, true_and, and_true, false_and, and_false, true_implies, false_implies, implies_true, not_true_eq_false, not_false_eq_true, ne_eq, if_true, if_false, Bool.and_true, Bool.true_and, decide_true, decide_false, reduceIte, reduceCtorEq, Bool.and_self, Bool.and_eq_true, decide_eq_true_eq, and_self, true_or, or_true, false_or, or_false, Nat.zero_add, Nat.add_zero, eq_self, Nat.reduceEqDiff, Nat.reduceLeDiff, Nat.reduceLT, Nat.reduceAdd, Nat.reduceSub, Nat.reduceMul, nI_1, decide_true] at h2 ⊢
      exact h2
    · simp only [e, true_and, and_true, false_and, and_false, true_implies, false_implies, implies_true, not_true_eq_false, not_false_eq_true, ne_eq, if_true, if_false, Bool.and_true, Bool.true_and, decide_true, decide_false, reduceIte, reduceCtorEq, Bool.and_self, Bool.and_eq_true, decide_eq_true_eq, and_self, true_or, or_true, false_or, or_false, Nat.zero_add, Nat.add_zero, eq_self, Nat.reduceEqDiff, Nat.reduceLeDiff, Nat.reduceLT, Nat.reduceAdd, Nat.reduceSub, Nat.reduceMul, Int32.add_zero] at h2 ⊢
      exact h2
theorem R288 {g : Nat → Nat} (hL : LM S R) (h10 : I 300 10 = nI n) (hn : n ≤ 64) (h : ∀ k, k < n → I 341 k = nI (g k)) (hg : ∀ k, k < n → g k < 64) {t : Nat} (ht : t < n) : xRun xT 288 0 [(0, .ref 200), (1, .int (nI t))] [] (S, I, J, D, R) b Q = Q (.ok (some (.int (nI (ct (fun s => decide (g s = g t)) n))))) (S, I, J, D, R) b := by
  have h2 := R288_4 (J := J) (D := D) (b := b) (Q := Q) hL h10 hn h hg ht n 0 (by omega)
  rw [e288_0]
  simp only [B288_0, xSeq, i_push, i_load, i_iload, i_lload, i_dload, i_aload, i_istore, i_astore, i_lstore, i_dstore, i_iinc, i_ii, i_iiz, i_ll, i_llz, i_lli, i_li, i_i, i_l, i_i2l, i_l2i, i_dup, i_dup2, i_dup2w, i_dupx1, i_pop, i_pop2, i_goto, i_ifc, i_icmp, i_getI, i_getL, i_getR, i_putI, i_putZ, i_putL, i_putR, i_aldI, i_aldB, i_aldL, i_aldD, i_astI, i_astL, i_astD, i_alen, i_ret, i_iret, i_zret, i_lret, i_fret, i_dret, i_aret, i_invS0, i_invV0, i_m2, i_m1, i_ml, i_obj, lk, lkp, stf1, stf2, Value.category, rV, xTo, lv_args, xCk, xCat, xRc, xAk, hg_S, hg_I, hg_J, hg_D, hg_R, hs_I, hs_J, hs_D, hs_R, uI_at, uJ_at, uD_at, uR_at, List.take_succ_cons, List.take_zero, List.drop_succ_cons, List.drop_zero, List.reverse_cons, List.reverse_nil, List.nil_append, List.cons_append, List.map_cons, List.map_nil, List.sum_cons, List.sum_nil, List.length_cons, List.length_nil, Option.toList_some, Option.toList_none, true_and, and_true, false_and, and_false, true_implies, false_implies, implies_true, not_true_eq_false, not_false_eq_true, ne_eq, if_true, if_false, Bool.and_true, Bool.true_and, decide_true, decide_false, reduceIte, reduceCtorEq, Bool.and_self, Bool.and_eq_true, decide_eq_true_eq, and_self, true_or, or_true, false_or, or_false, Nat.zero_add, Nat.add_zero, eq_self, Nat.reduceEqDiff, Nat.reduceLeDiff, Nat.reduceLT, Nat.reduceAdd, Nat.reduceSub, Nat.reduceMul]
  exact h2
/-- the largest group -/
def mx (f : Nat → Nat) : Nat → Nat
  | 0 => 0
  | i + 1 => max (mx f i) (f i)
theorem mx_le {f : Nat → Nat} {N : Nat} (h : ∀ k, f k ≤ N) : ∀ i, mx f i ≤ N
  | 0 => Nat.zero_le _
  | i + 1 => Nat.max_le.mpr ⟨mx_le h i, h i⟩
theorem R289_13 {g : Nat → Nat} (hL : LM S R) (h10 : I 300 10 = nI n) (hn : n ≤ 64) (h : ∀ k, k < n → I 341 k = nI (g k)) (hg : ∀ k, k < n → g k < 64) : ∀ (j i : Nat), i + j = n → xRun xT 289 13 [(0, .ref 200), (1, .int (nI (mx (fun t => ct (fun s => decide (g s = g t)) n) i))), (2, .int (nI i))] [] (S, I, J, D, R) b Q = Q (.ok (some (.int (nI (mx (fun t => ct (fun s => decide (g s = g t)) n) n))))) (S, I, J, D, R) b
  | 0, i, hi => by
    have e : i = n := by omega
    subst e
    rw [e289_13]
    simp only [B289_13, xSeq, i_push, i_load, i_iload, i_lload, i_dload, i_aload, i_istore, i_astore, i_lstore, i_dstore, i_iinc, i_ii, i_iiz, i_ll, i_llz, i_lli, i_li, i_i, i_l, i_i2l, i_l2i, i_dup, i_dup2, i_dup2w, i_dupx1, i_pop, i_pop2, i_goto, i_ifc, i_icmp, i_getI, i_getL, i_getR, i_putI, i_putZ, i_putL, i_putR, i_aldI, i_aldB, i_aldL, i_aldD, i_astI, i_astL, i_astD, i_alen, i_ret, i_iret, i_zret, i_lret, i_fret, i_dret, i_aret, i_invS0, i_invV0, i_m2, i_m1, i_ml, i_obj, lk, lkp, stf1, stf2, Value.category, rV, xTo, lv_args, xCk, xCat, xRc, xAk, hg_S, hg_I, hg_J, hg_D, hg_R, hs_I, hs_J, hs_D, hs_R, uI_at, uJ_at, uD_at, uR_at, List.take_succ_cons, List.take_zero, List.drop_succ_cons, List.drop_zero, List.reverse_cons, List.reverse_nil, List.nil_append, List.cons_append, List.map_cons, List.map_nil, List.sum_cons, List.sum_nil, List.length_cons, List.length_nil, Option.toList_some, Option.toList_none, true_and, and_true, false_and, and_false, true_implies, false_implies, implies_true, not_true_eq_false, not_false_eq_true, ne_eq, if_true, if_false, Bool.and_true, Bool.true_and, decide_true, decide_false, reduceIte, reduceCtorEq, Bool.and_self, Bool.and_eq_true, decide_eq_true_eq, and_self, true_or, or_true, false_or, or_false, Nat.zero_add, Nat.add_zero, eq_self, Nat.reduceEqDiff, Nat.reduceLeDiff, Nat.reduceLT, Nat.reduceAdd, Nat.reduceSub, Nat.reduceMul, xi144_0, ix_0, xi144_1, ix_1, xi144_2, ix_2, xi144_3, ix_3, xi144_4, ix_4, xi144_5, ix_5, xi144_6, ix_6, xi144_7, ix_7, xi144_8, ix_8, xi144_9, ix_9, xi144_10, ix_10, LM_out hL, h10, nI_leP (show i < 2147483648 by omega) (show i < 2147483648 by omega), Nat.le_refl, e289_40, B289_40]
  | j + 1, i, hi => by
    have h2 := R289_13 hL h10 hn h hg j (i + 1) (by omega)
    have hY := fun (b : Nat × Nat) (Q : xQ) => R288 (J := J) (D := D) (b := b) (Q := Q) hL h10 hn h hg (show i < n by omega)
    have m1 := mx_le (f := fun t => ct (fun s => decide (g s = g t)) n) (fun k => ct_le _ n) i
    have m2 := ct_le (fun s => decide (g s = g i)) n
    rw [mx] at h2
    rw [e289_13]
    simp only [B289_13, xSeq, i_push, i_load, i_iload, i_lload, i_dload, i_aload, i_istore, i_astore, i_lstore, i_dstore, i_iinc, i_ii, i_iiz, i_ll, i_llz, i_lli, i_li, i_i, i_l, i_i2l, i_l2i, i_dup, i_dup2, i_dup2w, i_dupx1, i_pop, i_pop2, i_goto, i_ifc, i_icmp, i_getI, i_getL, i_getR, i_putI, i_putZ, i_putL, i_putR, i_aldI, i_aldB, i_aldL, i_aldD, i_astI, i_astL, i_astD, i_alen, i_ret, i_iret, i_zret, i_lret, i_fret, i_dret, i_aret, i_invS0, i_invV0, i_m2, i_m1, i_ml, i_obj, lk, lkp, stf1, stf2, Value.category, rV, xTo, lv_args, xCk, xCat, xRc, xAk, hg_S, hg_I, hg_J, hg_D, hg_R, hs_I, hs_J, hs_D, hs_R, uI_at, uJ_at, uD_at, uR_at, List.take_succ_cons, List.take_zero, List.drop_succ_cons, List.drop_zero, List.reverse_cons, List.reverse_nil, List.nil_append, List.cons_append, List.map_cons, List.map_nil, List.sum_cons, List.sum_nil, List.length_cons, List.length_nil, Option.toList_some, Option.toList_none, true_and, and_true, false_and, and_false, true_implies, false_implies, implies_true, not_true_eq_false, not_false_eq_true, ne_eq, if_true, if_false, Bool.and_true, Bool.true_and, decide_true, decide_false, reduceIte, reduceCtorEq, Bool.and_self, Bool.and_eq_true, decide_eq_true_eq, and_self, true_or, or_true, false_or, or_false, Nat.zero_add, Nat.add_zero, eq_self, Nat.reduceEqDiff, Nat.reduceLeDiff, Nat.reduceLT, Nat.reduceAdd, Nat.reduceSub, Nat.reduceMul, xi144_0, ix_0, xi144_1, ix_1, xi144_2, ix_2, xi144_3, ix_3, xi144_4, ix_4, xi144_5, ix_5, xi144_6, ix_6, xi144_7, ix_7, xi144_8, ix_8, xi144_9, ix_9, xi144_10, ix_10, LM_out hL, h10, nI_leP (show n < 2147483648 by omega) (show i < 2147483648 by omega), show (n ≤ i) = False from eq_false (by omega), hY, jMax_nI (Nat.lt_of_le_of_lt m1 (show n < 2147483648 by omega)) (Nat.lt_of_le_of_lt m2 (show n < 2147483648 by omega)), nI_1]
    exact h2
end
/-! ===== cases of domains: printed by 99zf.dcases.py ===== -/
section
theorem aN_congr {n m : Nat} {fi se dg : Nat → Nat} {sb : Nat → Nat → Nat} (hG : GR n m fi se dg sb) {st st' : Nat → Int32} (h : ∀ k, k < m → st k = st' k) (x : Nat) {t : Nat} (ht : t < n) : ∀ i, i ≤ dg t → aN st fi se sb x t i = aN st' fi se sb x t i
  | 0, _ => rfl
  | i + 1, hi => by
    rw [aN, aN, aN_congr hG h x ht i (by omega), h _ (hG.2.2.2.2.2.2 t i ht (by omega))]
theorem dm_congr {nb nb' : Nat → Nat} {n : Nat} (hn : n ≤ 64) (h : ∀ t, t < n → nb t = nb' t) (hl : ∀ t, t < n → nb' t < 2 ^ n) : ∀ (f d p : Nat), p < 2 ^ n → dm nb f d p = dm nb' f d p
  | 0, d, p, _ => rfl
  | f + 1, d, p, hp => by
    rw [dm, dm]
    by_cases h0 : p = 0
    · rw [if_pos h0, if_pos h0]
    · have ht := tzf_lt (by omega) hp hn
      rw [if_neg h0, if_neg h0, h _ ht, dm_congr hn h hl f _ _ (Nat.or_lt_two_pow (Nat.lt_of_le_of_lt Nat.and_le_left hp) (Nat.lt_of_le_of_lt Nat.and_le_left (hl _ ht)))]
theorem dX_congr {n m : Nat} {fi se dg : Nat → Nat} {sb : Nat → Nat → Nat} (hG : GR n m fi se dg sb) {st st' : Nat → Int32} (h : ∀ k, k < m → st k = st' k) (x : Nat) {t : Nat} (ht : t < n) : dX st fi se dg sb x t = dX st' fi se dg sb x t :=
  dm_congr hG.2.1 (fun _ ht => aN_congr hG h x ht _ (Nat.le_refl _)) (fun _ ht => aN_lt hG st' x ht _ (Nat.le_refl _)) 64 _ _ (Nat.pow_lt_pow_right (by decide) ht)
theorem dC_congr {d d' : Nat → Nat} {n : Nat} (h : ∀ t, t < n → d t = d' t) : ∀ i, i ≤ n → dC d i = dC d' i
  | 0, _ => rfl
  | i + 1, hi => by
    rw [dC, dC, dC_congr h i (by omega), h i (by omega)]
theorem ly_congr {n : Nat} {on on' : Nat → Bool} {fi se : Nat → Nat} {m : Nat} (h : ∀ k, k < m → on k = on' k) : ∀ k, k ≤ m → ly n on fi se k = ly n on' fi se k
  | 0, _ => rfl
  | k + 1, hk => by
    rw [ly, ly, ly_congr h k (by omega), h k (by omega)]
theorem dX_B4 : ∀ t, t < 16 → dX (fun _ => 1) (fE B4) (sE B4) (dE B4) (bE B4) 65535 t = 65535 := by decide +kernel
theorem ly_B4 : ly 16 (fun _ => true) (fE B4) (sE B4) 32 = List.replicate 16 0 := by decide +kernel
theorem B4_alike : ∀ k, k < 32 → (Nat.testBit 65535 (fE B4 k) = Nat.testBit 65535 (sE B4 k)) := by decide +kernel
theorem fX {st : Nat → Int32} (g1 : GR 16 32 (fE B4) (sE B4) (dE B4) (bE B4)) (h : ∀ k, k < 32 → st k = 1) {t : Nat} (ht : t < 16) : dX st (fE B4) (sE B4) (dE B4) (bE B4) 65535 t = 65535 := (dX_congr g1 (st' := fun _ => 1) h 65535 ht).trans (dX_B4 t ht)
theorem fDC {st : Nat → Int32} (g1 : GR 16 32 (fE B4) (sE B4) (dE B4) (bE B4)) (h : ∀ k, k < 32 → st k = 1) : dC (dX st (fE B4) (sE B4) (dE B4) (bE B4) 65535) 16 = (65535, 1, 16) := (dC_congr (d' := fun _ => 65535) (fun t ht => fX g1 h ht) 16 (Nat.le_refl _)).trans (by decide +kernel)
theorem fY {st : Nat → Int32} (h : ∀ k, k < 32 → st k = 1) : ly 16 (oD2 st (fE B4) (sE B4) 65535) (fE B4) (sE B4) 32 = List.replicate 16 0 := (ly_congr (on' := fun _ => true) (fun k hk => by
  unfold oD2
  rw [decide_eq_true (B4_alike k hk), h k hk]
  rfl) 32 (Nat.le_refl _)).trans ly_B4
theorem f16 : ∀ k, k < 16 → (List.replicate 16 0).getD k 0 = 0 := by decide
theorem ct16 : ct (fun s => decide ((List.replicate 16 0).getD s 0 = s)) 16 = 1 ∧ (∀ t, t < 16 → ct (fun s => decide ((List.replicate 16 0).getD s 0 = (List.replicate 16 0).getD t 0)) 16 = 16) ∧ mx (fun t => ct (fun s => decide ((List.replicate 16 0).getD s 0 = (List.replicate 16 0).getD t 0)) 16) 16 = 16 := by decide +kernel
theorem f16' : ∀ k, k < 16 → (List.replicate 16 0).getD k 0 < 64 := fun k hk => by rw [f16 k hk]; decide

end
