/-! ===== means ===== -/
section
/-- a level's place among the weights -/
def xi (l : List Nat) (i : Nat) : Nat := l.getD i 0 / 17 - l.getD 0 0 / 17
def wt (E : Nat → Int32) (n : Nat) (r : UInt64) (i : Nat) : UInt64 := FP.dmul (FP.i2d (gN E n ((lv E n).getD i 0))) (wP r (xi (lv E n) i))
def vl (E : Nat → Int32) (n : Nat) (w : Int32) (i : Nat) : Int64 := vF w (gE ((lv E n).getD i 0)) (gM n ((lv E n).getD i 0))
def tm (E : Nat → Int32) (n : Nat) (r : UInt64) (w : Int32) (i : Nat) : UInt64 := FP.dmul (wt E n r i) (FP.l2d (vl E n w i))
def sS (E : Nat → Int32) (n : Nat) (r : UInt64) (w : Int32) : Nat → UInt64
  | 0 => FP.dconst0
  | j + 1 => FP.dadd (sS E n r w j) (tm E n r w j)
def sA (E : Nat → Int32) (n : Nat) (r : UInt64) : Nat → UInt64
  | 0 => FP.dconst0
  | j + 1 => FP.dadd (sA E n r j) (wt E n r j)
def mn (E : Nat → Int32) (n : Nat) (r : UInt64) (w : Int32) : UInt64 := FP.ddiv (sS E n r w (lv E n).length) (sA E n r (lv E n).length)
variable {E : Nat → Int32} {n : Nat} {r : UInt64} {w : Int32}
theorem lv_x (hB : EB E n) {i : Nat} (hi : i < (lv E n).length) : (lv E n).getD 0 0 ≤ (lv E n).getD i 0 ∧ xi (lv E n) i < 289 ∧ gE ((lv E n).getD i 0) - gE ((lv E n).getD 0 0) = nI (xi (lv E n) i) := by
  have h1 : (lv E n).getD 0 0 ≤ (lv E n).getD i 0 := by
    rcases Nat.eq_zero_or_pos i with h | h
    · rw [h]; exact Nat.le_refl _
    · have hp := fl_srt (fun k => decide (0 < cL E n k)) 4913
      have h2 : 0 < (lv E n).length := by omega
      have := List.pairwise_iff_getElem.mp hp 0 i h2 hi h
      rw [getD_lt h2, getD_lt hi]
      exact Nat.le_of_lt this
  have h3 := (lv_get hB hi).1
  have h4 : (lv E n).getD 0 0 / 17 ≤ (lv E n).getD i 0 / 17 := Nat.div_le_div_right h1
  refine ⟨h1, by unfold xi; omega, ?_⟩
  unfold gE xi
  rw [← nI_subn h4]
  grind
theorem cL_le {k : Nat} (hB : EB E n) : cL E n k ≤ 65536 := Nat.le_trans (ct_le _ _) (pow16 hB.1)
theorem wt_gp (hB : EB E n) (hr : gp 0 uo r) {i : Nat} : gp 0 (65536 * uo) (wt E n r i) := by
  have hc := cL_le (k := (lv E n).getD i 0) hB
  exact gp_mul (i2d_n (k := cL E n ((lv E n).getD i 0)) (by omega)) (wP_gp hr _) (rp_n (by decide)) (Nat.mul_le_mul_right _ (Nat.mul_le_mul_right _ hc)) rp_0 (by rw [Nat.zero_mul]; exact Nat.zero_le _)
theorem wt_0 (hB : EB E n) : gp uo (65536 * uo) (wt E n r 0) := by
  have hc := cL_le (k := (lv E n).getD 0 0) hB
  have h0 := (lv_get hB (lv_pos hB)).2.1
  have e : wP r (xi (lv E n) 0) = FP.dconst1 := by
    unfold xi
    rw [Nat.sub_self]
    rfl
  unfold wt
  rw [e]
  exact gp_mul (i2d_n (k := cL E n ((lv E n).getD 0 0)) (by omega)) gp_1 (rp_n (by decide)) (Nat.mul_le_mul_right _ (Nat.mul_le_mul_right _ hc)) rp_u (by
    rw [Nat.mul_assoc]
    exact Nat.le_mul_of_pos_left _ h0)
theorem v_e : ∀ k, k < 289 → (Nat.ble ((nI k - 144).toInt64).toInt.natAbs 65536 && Nat.ble ((nI k - 144).toInt64 * (nI k - 144).toInt64).toInt.natAbs 65536) = true := by decide +kernel
theorem v_m : ∀ n, n < 17 → ∀ p, p < n + 1 → (Nat.ble ((jAbs (2 * nI p - nI n)).toInt64).toInt.natAbs 65536 && Nat.ble ((2 * nI p - nI n).toInt64 * (2 * nI p - nI n).toInt64).toInt.natAbs 65536 && Nat.ble ((2 * nI p - nI n).toInt64 * (2 * nI p - nI n).toInt64 * ((2 * nI p - nI n).toInt64 * (2 * nI p - nI n).toInt64)).toInt.natAbs 65536) = true := by decide +kernel
theorem vl_bd (hB : EB E n) {i : Nat} (hi : i < (lv E n).length) : (vl E n w i).toInt.natAbs ≤ 65536 := by
  obtain ⟨h1, h2, h3⟩ := lv_get hB hi
  have hn := hB.1
  have he := v_e ((lv E n).getD i 0 / 17) (by omega)
  have hm := v_m n (by omega) ((lv E n).getD i 0 % 17) (by omega)
  rw [Bool.and_eq_true, Nat.ble_eq, Nat.ble_eq] at he
  rw [Bool.and_eq_true, Bool.and_eq_true, Nat.ble_eq, Nat.ble_eq, Nat.ble_eq] at hm
  unfold vl vF gE gM
  split
  · exact he.1
  · split
    · exact hm.1.1
    · split
      · exact hm.1.2
      · split
        · exact hm.2
        · exact he.2
theorem l2d_fb {a : Int64} {K : Nat} (h : a.toInt.natAbs ≤ K) (hK : K < 9007199254740992) : fb (K * uo) (FP.l2d a) :=
  fb_le (l2d_z rfl (by omega)).1 (Nat.mul_le_mul_right _ h)
theorem tm_fb (hB : EB E n) (hr : gp 0 uo r) {i : Nat} (hi : i < (lv E n).length) : fb (4294967296 * uo) (tm E n r w i) := by
  refine fb_mul (gp_fb (wt_gp hB hr)) (l2d_fb (vl_bd hB hi) (by decide)) (rp_n (by decide)) (Nat.le_of_eq ?_)
  rw [Nat.mul_mul_mul_comm, Nat.mul_assoc 4294967296]
theorem sS_fb (hB : EB E n) (hr : gp 0 uo r) : ∀ j, j ≤ (lv E n).length → fb (j * 4294967296 * uo) (sS E n r w j)
  | 0, _ => fb_le (gp_fb gp_0) (Nat.zero_le _)
  | j + 1, h => by
    have hl := lv_len E n
    refine fb_add (sS_fb hB hr j (by omega)) (tm_fb hB hr (by omega)) (rp_n (by omega)) (Nat.le_of_eq ?_)
    rw [Nat.succ_mul j, Nat.add_mul]
theorem sA_gp (hB : EB E n) (hr : gp 0 uo r) : ∀ j, j + 1 ≤ (lv E n).length → gp uo ((j + 1) * 65536 * uo) (sA E n r (j + 1))
  | 0, h => gp_add gp_0 (wt_0 hB) (rp_n (by decide)) (by rw [Nat.zero_add, Nat.one_mul]; exact Nat.le_refl _) rp_u (by rw [Nat.zero_add]; exact Nat.le_refl _)
  | j + 1, h => by
    have hl := lv_len E n
    have e : (j + 1) * 65536 * uo + 65536 * uo = (j + 1 + 1) * 65536 * uo := by
      have e2 : (j + 1 + 1) * 65536 = (j + 1) * 65536 + 65536 := Nat.succ_mul _ _
      rw [e2, Nat.add_mul ((j + 1) * 65536)]
    exact gp_add (sA_gp hB hr j (by omega)) (wt_gp hB hr) (rp_n (by omega)) (Nat.le_of_eq e) rp_u (Nat.le_add_right _ _)
theorem sA_n (hB : EB E n) (hr : gp 0 uo r) {j : Nat} (h : j ≤ (lv E n).length) : isNaN64 (sA E n r j) = false := by
  rcases Nat.eq_zero_or_pos j with e | e
  · subst e
    exact fb_n (gp_fb gp_0)
  · obtain ⟨j', rfl⟩ : ∃ j', j = j' + 1 := ⟨j - 1, by omega⟩
    exact fb_n (gp_fb (sA_gp hB hr j' h))
theorem sA_all (hB : EB E n) (hr : gp 0 uo r) : gp uo (4913 * 65536 * uo) (sA E n r (lv E n).length) := by
  have hl := lv_len E n
  have h0 := lv_pos hB
  obtain ⟨j', hj⟩ : ∃ j', (lv E n).length = j' + 1 := ⟨(lv E n).length - 1, by omega⟩
  rw [hj]
  exact gp_le (sA_gp hB hr j' (by omega)) (Nat.le_refl _) (Nat.mul_le_mul_right _ (Nat.mul_le_mul_right _ (by omega)))
theorem mn_fb (hB : EB E n) (hr : gp 0 uo r) : fb (4913 * 4294967296 * uo) (mn E n r w) := by
  have hl := lv_len E n
  exact fb_div (fb_le (sS_fb hB hr _ (Nat.le_refl _)) (Nat.mul_le_mul_right _ (Nat.mul_le_mul_right _ hl))) (sA_all hB hr) uo_pos (rp_n (by decide)) (Nat.le_refl _)
variable {S : xS} {I : xI} {J : xJ} {D : xDb} {R : xR} {b : Nat × Nat} {Q : xQ} {x y : Nat}
theorem R107_8 (hL : LC S R) (hX : XL n E S I R) (hB : EB E n) (h : AB x y) (hD : ∀ k, k < 289 → D 139 k = wP (rtP x y) k) : ∀ (j i : Nat), i + j = (lv E n).length → xRun xT 107 8 [(0, .ref 130), (1, .int w), (2, .double (sS E n (rtP x y) w i)), (4, .double (sA E n (rtP x y) i)), (6, .int (nI i))] [] (S, I, J, D, R) b Q = Q (.ok (some (.double (mn E n (rtP x y) w)))) (S, I, J, D, R) b
  | 0, i, hi => by
    have hl := lv_len E n
    have hr := rtP_gp h
    have e : i = (lv E n).length := by omega
    rw [e107_8]
    simp only [B107_8, xSeq, i_push, i_load, i_iload, i_lload, i_dload, i_aload, i_istore, i_astore, i_lstore, i_dstore, i_iinc, i_ii, i_iiz, i_ll, i_llz, i_lli, i_li, i_i, i_l, i_i2l, i_l2i, i_dup, i_dup2, i_dup2w, i_dupx1, i_pop, i_pop2, i_goto, i_ifc, i_icmp, i_getI, i_getL, i_getR, i_putI, i_putZ, i_putL, i_putR, i_aldI, i_aldB, i_aldL, i_aldD, i_astI, i_astL, i_astD, i_alen, i_ret, i_iret, i_zret, i_lret, i_fret, i_dret, i_aret, i_invS0, i_invV0, i_m2, i_m1, i_ml, i_obj, lk, lkp, stf1, stf2, Value.category, rV, xTo, lv_args, xCk, xCat, xRc, xAk, hg_S, hg_I, hg_J, hg_D, hg_R, hs_I, hs_J, hs_D, hs_R, uI_at, uJ_at, uD_at, uR_at, List.take_succ_cons, List.take_zero, List.drop_succ_cons, List.drop_zero, List.reverse_cons, List.reverse_nil, List.nil_append, List.cons_append, List.map_cons, List.map_nil, List.sum_cons, List.sum_nil, List.length_cons, List.length_nil, Option.toList_some, Option.toList_none, true_and, and_true, false_and, and_false, true_implies, false_implies, implies_true, not_true_eq_false, not_false_eq_true, ne_eq, if_true, if_false, Bool.and_true, Bool.true_and, decide_true, decide_false, reduceIte, reduceCtorEq, Bool.and_self, Bool.and_eq_true, decide_eq_true_eq, and_self, true_or, or_true, false_or, or_false, Nat.zero_add, Nat.add_zero, eq_self, Nat.reduceEqDiff, Nat.reduceLeDiff, Nat.reduceLT, Nat.reduceAdd, Nat.reduceSub, Nat.reduceMul, LC_out hL, hX.2.2.2.2.2.1, e, nI_leP (show (lv E n).length < 2147483648 by omega) (show (lv E n).length < 2147483648 by omega), Nat.le_refl, e107_83, B107_83, R108 (gp_cmp (sA_all hB hr) uo_pos) (fb_n (mn_fb (w := w) hB hr)), mn]
  | j + 1, i, hi => by
    have hl := lv_len E n
    have hr := rtP_gp h
    have ih := R107_8 hL hX hB h hD j (i + 1) (by omega)
    have hi2 : i < (lv E n).length := by omega
    obtain ⟨g1, g2, g3⟩ := hX.2.2.2.2.2.2.1 i hi2
    obtain ⟨-, x2, x3⟩ := lv_x hB hi2
    have e1 : FP.dmul (FP.i2d (gN E n ((lv E n).getD i 0))) (wP (rtP x y) (xi (lv E n) i)) = wt E n (rtP x y) i := rfl
    have e2 : vF w (gE ((lv E n).getD i 0)) (gM n ((lv E n).getD i 0)) = vl E n w i := rfl
    have e3 : FP.dmul (wt E n (rtP x y) i) (FP.l2d (vl E n w i)) = tm E n (rtP x y) w i := rfl
    have e4 : FP.dadd (sS E n (rtP x y) w i) (tm E n (rtP x y) w i) = sS E n (rtP x y) w (i + 1) := rfl
    have e5 : FP.dadd (sA E n (rtP x y) i) (wt E n (rtP x y) i) = sA E n (rtP x y) (i + 1) := rfl
    have n1 : isNaN64 (wt E n (rtP x y) i) = false := fb_n (gp_fb (wt_gp hB hr))
    have n3 : isNaN64 (tm E n (rtP x y) w i) = false := fb_n (tm_fb hB hr hi2)
    have n4 : isNaN64 (sS E n (rtP x y) w (i + 1)) = false := fb_n (sS_fb hB hr (i + 1) (by omega))
    have n5 : isNaN64 (sA E n (rtP x y) (i + 1)) = false := sA_n hB hr (by omega)
    rw [e107_8]
    simp only [B107_8, xSeq, i_push, i_load, i_iload, i_lload, i_dload, i_aload, i_istore, i_astore, i_lstore, i_dstore, i_iinc, i_ii, i_iiz, i_ll, i_llz, i_lli, i_li, i_i, i_l, i_i2l, i_l2i, i_dup, i_dup2, i_dup2w, i_dupx1, i_pop, i_pop2, i_goto, i_ifc, i_icmp, i_getI, i_getL, i_getR, i_putI, i_putZ, i_putL, i_putR, i_aldI, i_aldB, i_aldL, i_aldD, i_astI, i_astL, i_astD, i_alen, i_ret, i_iret, i_zret, i_lret, i_fret, i_dret, i_aret, i_invS0, i_invV0, i_m2, i_m1, i_ml, i_obj, lk, lkp, stf1, stf2, Value.category, rV, xTo, lv_args, xCk, xCat, xRc, xAk, hg_S, hg_I, hg_J, hg_D, hg_R, hs_I, hs_J, hs_D, hs_R, uI_at, uJ_at, uD_at, uR_at, List.take_succ_cons, List.take_zero, List.drop_succ_cons, List.drop_zero, List.reverse_cons, List.reverse_nil, List.nil_append, List.cons_append, List.map_cons, List.map_nil, List.sum_cons, List.sum_nil, List.length_cons, List.length_nil, Option.toList_some, Option.toList_none, true_and, and_true, false_and, and_false, true_implies, false_implies, implies_true, not_true_eq_false, not_false_eq_true, ne_eq, if_true, if_false, Bool.and_true, Bool.true_and, decide_true, decide_false, reduceIte, reduceCtorEq, Bool.and_self, Bool.and_eq_true, decide_eq_true_eq, and_self, true_or, or_true, false_or, or_false, Nat.zero_add, Nat.add_zero, eq_self, Nat.reduceEqDiff, Nat.reduceLeDiff, Nat.reduceLT, Nat.reduceAdd, Nat.reduceSub, Nat.reduceMul, LC_out hL, LE_out hX.1, hX.2.2.2.2.1, hX.2.2.2.2.2.1, nI_leP (show (lv E n).length < 2147483648 by omega) (show i < 2147483648 by omega), show ((lv E n).length ≤ i) = False from eq_false (by omega), nI_inP (show i < 4913 by omega) (by decide), nI_ix (show i < 2147483648 by omega), g1, g2, g3, x3, nI_inP x2 (by decide), nI_ix (show xi (lv E n) i < 2147483648 by omega), hD _ x2, i_i2d, i_l2d, i_dd, e1, al_eq n1, R139, e2, e3, al_eq n3, e4, al_eq n4, e5, al_eq n5, nI_1, ih]
theorem R107 (hL : LC S R) (hX : XL n E S I R) (hB : EB E n) (h : AB x y) (hD : ∀ k, k < 289 → D 139 k = wP (rtP x y) k) : xRun xT 107 0 [(0, .ref 130), (1, .int w)] [] (S, I, J, D, R) b Q = Q (.ok (some (.double (mn E n (rtP x y) w)))) (S, I, J, D, R) b := by
  have h8 := R107_8 (J := J) (b := b) (Q := Q) (w := w) hL hX hB h hD (lv E n).length 0 (by omega)
  rw [nI_0] at h8
  rw [e107_0]
  simp only [B107_0, xSeq, i_push, i_load, i_iload, i_lload, i_dload, i_aload, i_istore, i_astore, i_lstore, i_dstore, i_iinc, i_ii, i_iiz, i_ll, i_llz, i_lli, i_li, i_i, i_l, i_i2l, i_l2i, i_dup, i_dup2, i_dup2w, i_dupx1, i_pop, i_pop2, i_goto, i_ifc, i_icmp, i_getI, i_getL, i_getR, i_putI, i_putZ, i_putL, i_putR, i_aldI, i_aldB, i_aldL, i_aldD, i_astI, i_astL, i_astD, i_alen, i_ret, i_iret, i_zret, i_lret, i_fret, i_dret, i_aret, i_invS0, i_invV0, i_m2, i_m1, i_ml, i_obj, lk, lkp, stf1, stf2, Value.category, rV, xTo, lv_args, xCk, xCat, xRc, xAk, hg_S, hg_I, hg_J, hg_D, hg_R, hs_I, hs_J, hs_D, hs_R, uI_at, uJ_at, uD_at, uR_at, List.take_succ_cons, List.take_zero, List.drop_succ_cons, List.drop_zero, List.reverse_cons, List.reverse_nil, List.nil_append, List.cons_append, List.map_cons, List.map_nil, List.sum_cons, List.sum_nil, List.length_cons, List.length_nil, Option.toList_some, Option.toList_none, true_and, and_true, false_and, and_false, true_implies, false_implies, implies_true, not_true_eq_false, not_false_eq_true, ne_eq, if_true, if_false, Bool.and_true, Bool.true_and, decide_true, decide_false, reduceIte, reduceCtorEq, Bool.and_self, Bool.and_eq_true, decide_eq_true_eq, and_self, true_or, or_true, false_or, or_false, Nat.zero_add, Nat.add_zero, eq_self, Nat.reduceEqDiff, Nat.reduceLeDiff, Nat.reduceLT, Nat.reduceAdd, Nat.reduceSub, Nat.reduceMul]
  exact h8
theorem L316_9 (hL : LM S R) (h : AB x y)
    (kk : ∀ D', (∀ k, k < 401 → D' 352 k = wP (rtP x y) k) → (∀ o k, o ≠ 352 → D' o k = D o k) → Q (.ok none) (S, I, J, D', R) b) :
    ∀ (j i : Nat) (D1 : xDb), i + j = 401 → 0 < i → (∀ k, k < i → D1 352 k = wP (rtP x y) k) → (∀ o k, o ≠ 352 → D1 o k = D o k) → xRun xT 316 9 [(0, .ref 200), (1, .int (nI x)), (2, .int (nI y)), (3, .int (nI i))] [] (S, I, J, D1, R) b Q
  | 0, i, D1, hi, h0, h1, h2 => by
    have e : i = 401 := by omega
    subst e
    rw [e316_9]
    simp only [B316_9, xSeq, i_push, i_load, i_iload, i_lload, i_dload, i_aload, i_istore, i_astore, i_lstore, i_dstore, i_iinc, i_ii, i_iiz, i_ll, i_llz, i_lli, i_li, i_i, i_l, i_i2l, i_l2i, i_dup, i_dup2, i_dup2w, i_dupx1, i_pop, i_pop2, i_goto, i_ifc, i_icmp, i_getI, i_getL, i_getR, i_putI, i_putZ, i_putL, i_putR, i_aldI, i_aldB, i_aldL, i_aldD, i_astI, i_astL, i_astD, i_alen, i_ret, i_iret, i_zret, i_lret, i_fret, i_dret, i_aret, i_invS0, i_invV0, i_m2, i_m1, i_ml, i_obj, lk, lkp, stf1, stf2, Value.category, rV, xTo, lv_args, xCk, xCat, xRc, xAk, hg_S, hg_I, hg_J, hg_D, hg_R, hs_I, hs_J, hs_D, hs_R, uI_at, uJ_at, uD_at, uR_at, List.take_succ_cons, List.take_zero, List.drop_succ_cons, List.drop_zero, List.reverse_cons, List.reverse_nil, List.nil_append, List.cons_append, List.map_cons, List.map_nil, List.sum_cons, List.sum_nil, List.length_cons, List.length_nil, Option.toList_some, Option.toList_none, true_and, and_true, false_and, and_false, true_implies, false_implies, implies_true, not_true_eq_false, not_false_eq_true, ne_eq, if_true, if_false, Bool.and_true, Bool.true_and, decide_true, decide_false, reduceIte, reduceCtorEq, Bool.and_self, Bool.and_eq_true, decide_eq_true_eq, and_self, true_or, or_true, false_or, or_false, Nat.zero_add, Nat.add_zero, eq_self, Nat.reduceEqDiff, Nat.reduceLeDiff, Nat.reduceLT, Nat.reduceAdd, Nat.reduceSub, Nat.reduceMul, show ((401 : Int32) ≤ nI 401) = True from eq_true (by decide), e316_42, B316_42]
    exact kk D1 h1 h2
  | j + 1, i, D1, hi, h0, h1, h2 => by
    have e1 : ((401 : Int32) ≤ nI i) = False := eq_false (by rw [show (401 : Int32) = nI 401 from rfl]; exact nI_ge (by omega) (by decide))
    have e2 : nI i - 1 = nI (i - 1) := by rw [show (1 : Int32) = nI 1 from rfl, nI_subn h0]
    have hn0 : isNaN64 (rtP x y) = false := fb_n (gp_fb (rtP_gp h))
    have hn : isNaN64 (wP (rtP x y) i) = false := fb_n (gp_fb (wP_gp (rtP_gp h) i))
    have e4 : FP.ddiv (FP.i2d (nI x)) (FP.i2d (nI y)) = rtP x y := rfl
    have e3 : FP.dmul (wP (rtP x y) (i - 1)) (rtP x y) = wP (rtP x y) i := by
      obtain ⟨i', rfl⟩ : ∃ i', i = i' + 1 := ⟨i - 1, by omega⟩
      rfl
    rw [e316_9]
    simp only [B316_9, xSeq, i_push, i_load, i_iload, i_lload, i_dload, i_aload, i_istore, i_astore, i_lstore, i_dstore, i_iinc, i_ii, i_iiz, i_ll, i_llz, i_lli, i_li, i_i, i_l, i_i2l, i_l2i, i_dup, i_dup2, i_dup2w, i_dupx1, i_pop, i_pop2, i_goto, i_ifc, i_icmp, i_getI, i_getL, i_getR, i_putI, i_putZ, i_putL, i_putR, i_aldI, i_aldB, i_aldL, i_aldD, i_astI, i_astL, i_astD, i_alen, i_ret, i_iret, i_zret, i_lret, i_fret, i_dret, i_aret, i_invS0, i_invV0, i_m2, i_m1, i_ml, i_obj, lk, lkp, stf1, stf2, Value.category, rV, xTo, lv_args, xCk, xCat, xRc, xAk, hg_S, hg_I, hg_J, hg_D, hg_R, hs_I, hs_J, hs_D, hs_R, uI_at, uJ_at, uD_at, uR_at, List.take_succ_cons, List.take_zero, List.drop_succ_cons, List.drop_zero, List.reverse_cons, List.reverse_nil, List.nil_append, List.cons_append, List.map_cons, List.map_nil, List.sum_cons, List.sum_nil, List.length_cons, List.length_nil, Option.toList_some, Option.toList_none, true_and, and_true, false_and, and_false, true_implies, false_implies, implies_true, not_true_eq_false, not_false_eq_true, ne_eq, if_true, if_false, Bool.and_true, Bool.true_and, decide_true, decide_false, reduceIte, reduceCtorEq, Bool.and_self, Bool.and_eq_true, decide_eq_true_eq, and_self, true_or, or_true, false_or, or_false, Nat.zero_add, Nat.add_zero, eq_self, Nat.reduceEqDiff, Nat.reduceLeDiff, Nat.reduceLT, Nat.reduceAdd, Nat.reduceSub, Nat.reduceMul, LM_out hL, e1, e2, nI_inP (show i < 401 by omega) (by decide), nI_ix (show i < 2147483648 by omega), nI_inP (show i - 1 < 401 by omega) (by decide), nI_ix (show i - 1 < 2147483648 by omega), h1 (i - 1) (by omega), i_i2d, i_dd, e4, al_eq hn0, e3, al_eq hn, nI_1]
    refine L316_9 hL h kk j (i + 1) _ (by omega) (by omega) (fun k hk => ?_) (fun o k ho => ?_)
    · rw [uD_at]
      by_cases e : k = i
      · rw [if_pos ⟨rfl, e⟩, e]
      · rw [if_neg (fun h => e h.2)]
        exact h1 k (by omega)
    · rw [uD_at, if_neg (fun h => ho h.1)]
      exact h2 o k ho
theorem L316 (hL : LM S R) (h : AB x y)
    (kk : ∀ D', (∀ k, k < 401 → D' 352 k = wP (rtP x y) k) → (∀ o k, o ≠ 352 → D' o k = D o k) → Q (.ok none) (S, I, J, D', R) b) :
    xRun xT 316 0 [(0, .ref 200), (1, .int (nI x)), (2, .int (nI y))] [] (S, I, J, D, R) b Q := by
  have h9 := L316_9 (I := I) (J := J) (b := b) (Q := Q) hL h kk 400 1 (uD D 352 0 FP.dconst1) (by decide) (by decide) (fun k hk => by
    rw [uD_at, if_pos ⟨rfl, by omega⟩, show k = 0 by omega]
    rfl) (fun o k ho => by rw [uD_at, if_neg (fun h => ho h.1)])
  rw [e316_0]
  simp only [B316_0, xSeq, i_push, i_load, i_iload, i_lload, i_dload, i_aload, i_istore, i_astore, i_lstore, i_dstore, i_iinc, i_ii, i_iiz, i_ll, i_llz, i_lli, i_li, i_i, i_l, i_i2l, i_l2i, i_dup, i_dup2, i_dup2w, i_dupx1, i_pop, i_pop2, i_goto, i_ifc, i_icmp, i_getI, i_getL, i_getR, i_putI, i_putZ, i_putL, i_putR, i_aldI, i_aldB, i_aldL, i_aldD, i_astI, i_astL, i_astD, i_alen, i_ret, i_iret, i_zret, i_lret, i_fret, i_dret, i_aret, i_invS0, i_invV0, i_m2, i_m1, i_ml, i_obj, lk, lkp, stf1, stf2, Value.category, rV, xTo, lv_args, xCk, xCat, xRc, xAk, hg_S, hg_I, hg_J, hg_D, hg_R, hs_I, hs_J, hs_D, hs_R, uI_at, uJ_at, uD_at, uR_at, List.take_succ_cons, List.take_zero, List.drop_succ_cons, List.drop_zero, List.reverse_cons, List.reverse_nil, List.nil_append, List.cons_append, List.map_cons, List.map_nil, List.sum_cons, List.sum_nil, List.length_cons, List.length_nil, Option.toList_some, Option.toList_none, true_and, and_true, false_and, and_false, true_implies, false_implies, implies_true, not_true_eq_false, not_false_eq_true, ne_eq, if_true, if_false, Bool.and_true, Bool.true_and, decide_true, decide_false, reduceIte, reduceCtorEq, Bool.and_self, Bool.and_eq_true, decide_eq_true_eq, and_self, true_or, or_true, false_or, or_false, Nat.zero_add, Nat.add_zero, eq_self, Nat.reduceEqDiff, Nat.reduceLeDiff, Nat.reduceLT, Nat.reduceAdd, Nat.reduceSub, Nat.reduceMul, LM_out hL, xi0 (show 0 < 401 by decide) (by decide), ix_0]
  exact h9
theorem R317_11 (hL : LM S R) (hX : XM n E I) (hB : EB E n) (h : AB x y) (hD : ∀ k, k < 401 → D 352 k = wP (rtP x y) k) : ∀ (j i : Nat), i + j = (lv E n).length → xRun xT 317 11 [(0, .ref 200), (3, .double (sA E n (rtP x y) i)), (5, .int (nI i))] [] (S, I, J, D, R) b Q = Q (.ok (some (.double (sA E n (rtP x y) (lv E n).length)))) (S, I, J, D, R) b
  | 0, i, hi => by
    have hl := lv_len E n
    have e : i = (lv E n).length := by omega
    rw [e317_11]
    simp only [B317_11, xSeq, i_push, i_load, i_iload, i_lload, i_dload, i_aload, i_istore, i_astore, i_lstore, i_dstore, i_iinc, i_ii, i_iiz, i_ll, i_llz, i_lli, i_li, i_i, i_l, i_i2l, i_l2i, i_dup, i_dup2, i_dup2w, i_dupx1, i_pop, i_pop2, i_goto, i_ifc, i_icmp, i_getI, i_getL, i_getR, i_putI, i_putZ, i_putL, i_putR, i_aldI, i_aldB, i_aldL, i_aldD, i_astI, i_astL, i_astD, i_alen, i_ret, i_iret, i_zret, i_lret, i_fret, i_dret, i_aret, i_invS0, i_invV0, i_m2, i_m1, i_ml, i_obj, lk, lkp, stf1, stf2, Value.category, rV, xTo, lv_args, xCk, xCat, xRc, xAk, hg_S, hg_I, hg_J, hg_D, hg_R, hs_I, hs_J, hs_D, hs_R, uI_at, uJ_at, uD_at, uR_at, List.take_succ_cons, List.take_zero, List.drop_succ_cons, List.drop_zero, List.reverse_cons, List.reverse_nil, List.nil_append, List.cons_append, List.map_cons, List.map_nil, List.sum_cons, List.sum_nil, List.length_cons, List.length_nil, Option.toList_some, Option.toList_none, true_and, and_true, false_and, and_false, true_implies, false_implies, implies_true, not_true_eq_false, not_false_eq_true, ne_eq, if_true, if_false, Bool.and_true, Bool.true_and, decide_true, decide_false, reduceIte, reduceCtorEq, Bool.and_self, Bool.and_eq_true, decide_eq_true_eq, and_self, true_or, or_true, false_or, or_false, Nat.zero_add, Nat.add_zero, eq_self, Nat.reduceEqDiff, Nat.reduceLeDiff, Nat.reduceLT, Nat.reduceAdd, Nat.reduceSub, Nat.reduceMul, LM_out hL, hX.2.1, e, nI_leP (show (lv E n).length < 2147483648 by omega) (show (lv E n).length < 2147483648 by omega), Nat.le_refl, e317_55, B317_55]
  | j + 1, i, hi => by
    have hl := lv_len E n
    have hr := rtP_gp h
    have ih := R317_11 hL hX hB h hD j (i + 1) (by omega)
    have hi2 : i < (lv E n).length := by omega
    obtain ⟨g1, g2, g3⟩ := hX.2.2.2.1 i hi2
    obtain ⟨-, x2, x3⟩ := lv_x hB hi2
    have e1 : FP.dmul (FP.i2d (gN E n ((lv E n).getD i 0))) (wP (rtP x y) (xi (lv E n) i)) = wt E n (rtP x y) i := rfl
    have e5 : FP.dadd (sA E n (rtP x y) i) (wt E n (rtP x y) i) = sA E n (rtP x y) (i + 1) := rfl
    have n1 : isNaN64 (wt E n (rtP x y) i) = false := fb_n (gp_fb (wt_gp hB hr))
    have n5 : isNaN64 (sA E n (rtP x y) (i + 1)) = false := sA_n hB hr (by omega)
    rw [e317_11]
    simp only [B317_11, xSeq, i_push, i_load, i_iload, i_lload, i_dload, i_aload, i_istore, i_astore, i_lstore, i_dstore, i_iinc, i_ii, i_iiz, i_ll, i_llz, i_lli, i_li, i_i, i_l, i_i2l, i_l2i, i_dup, i_dup2, i_dup2w, i_dupx1, i_pop, i_pop2, i_goto, i_ifc, i_icmp, i_getI, i_getL, i_getR, i_putI, i_putZ, i_putL, i_putR, i_aldI, i_aldB, i_aldL, i_aldD, i_astI, i_astL, i_astD, i_alen, i_ret, i_iret, i_zret, i_lret, i_fret, i_dret, i_aret, i_invS0, i_invV0, i_m2, i_m1, i_ml, i_obj, lk, lkp, stf1, stf2, Value.category, rV, xTo, lv_args, xCk, xCat, xRc, xAk, hg_S, hg_I, hg_J, hg_D, hg_R, hs_I, hs_J, hs_D, hs_R, uI_at, uJ_at, uD_at, uR_at, List.take_succ_cons, List.take_zero, List.drop_succ_cons, List.drop_zero, List.reverse_cons, List.reverse_nil, List.nil_append, List.cons_append, List.map_cons, List.map_nil, List.sum_cons, List.sum_nil, List.length_cons, List.length_nil, Option.toList_some, Option.toList_none, true_and, and_true, false_and, and_false, true_implies, false_implies, implies_true, not_true_eq_false, not_false_eq_true, ne_eq, if_true, if_false, Bool.and_true, Bool.true_and, decide_true, decide_false, reduceIte, reduceCtorEq, Bool.and_self, Bool.and_eq_true, decide_eq_true_eq, and_self, true_or, or_true, false_or, or_false, Nat.zero_add, Nat.add_zero, eq_self, Nat.reduceEqDiff, Nat.reduceLeDiff, Nat.reduceLT, Nat.reduceAdd, Nat.reduceSub, Nat.reduceMul, LM_out hL, hX.2.1, hX.2.2.1, nI_leP (show (lv E n).length < 2147483648 by omega) (show i < 2147483648 by omega), show ((lv E n).length ≤ i) = False from eq_false (by omega), nI_inP (show i < 6000 by omega) (by decide), nI_ix (show i < 2147483648 by omega), g1, g3, x3, nI_inP (show xi (lv E n) i < 401 by omega) (by decide), nI_ix (show xi (lv E n) i < 2147483648 by omega), hD _ (show xi (lv E n) i < 401 by omega), i_i2d, i_dd, e1, al_eq n1, e5, al_eq n5, nI_1, ih]
theorem L317 (hL : LM S R) (hX : XM n E I) (hB : EB E n) (h : AB x y)
    (kk : ∀ D', (∀ k, k < 401 → D' 352 k = wP (rtP x y) k) → (∀ o k, o ≠ 352 → D' o k = D o k) → Q (.ok (some (.double (sA E n (rtP x y) (lv E n).length)))) (S, I, J, D', R) b) :
    xRun xT 317 0 [(0, .ref 200), (1, .int (nI x)), (2, .int (nI y))] [] (S, I, J, D, R) b Q := by
  rw [e317_0]
  simp only [B317_0, xSeq, i_push, i_load, i_iload, i_lload, i_dload, i_aload, i_istore, i_astore, i_lstore, i_dstore, i_iinc, i_ii, i_iiz, i_ll, i_llz, i_lli, i_li, i_i, i_l, i_i2l, i_l2i, i_dup, i_dup2, i_dup2w, i_dupx1, i_pop, i_pop2, i_goto, i_ifc, i_icmp, i_getI, i_getL, i_getR, i_putI, i_putZ, i_putL, i_putR, i_aldI, i_aldB, i_aldL, i_aldD, i_astI, i_astL, i_astD, i_alen, i_ret, i_iret, i_zret, i_lret, i_fret, i_dret, i_aret, i_invS0, i_invV0, i_m2, i_m1, i_ml, i_obj, lk, lkp, stf1, stf2, Value.category, rV, xTo, lv_args, xCk, xCat, xRc, xAk, hg_S, hg_I, hg_J, hg_D, hg_R, hs_I, hs_J, hs_D, hs_R, uI_at, uJ_at, uD_at, uR_at, List.take_succ_cons, List.take_zero, List.drop_succ_cons, List.drop_zero, List.reverse_cons, List.reverse_nil, List.nil_append, List.cons_append, List.map_cons, List.map_nil, List.sum_cons, List.sum_nil, List.length_cons, List.length_nil, Option.toList_some, Option.toList_none, true_and, and_true, false_and, and_false, true_implies, false_implies, implies_true, not_true_eq_false, not_false_eq_true, ne_eq, if_true, if_false, Bool.and_true, Bool.true_and, decide_true, decide_false, reduceIte, reduceCtorEq, Bool.and_self, Bool.and_eq_true, decide_eq_true_eq, and_self, true_or, or_true, false_or, or_false, Nat.zero_add, Nat.add_zero, eq_self, Nat.reduceEqDiff, Nat.reduceLeDiff, Nat.reduceLT, Nat.reduceAdd, Nat.reduceSub, Nat.reduceMul, LM_out hL]
  refine L316 hL h (fun D' d1 d2 => ?_)
  have h11 := R317_11 (J := J) (b := b) (Q := Q) hL hX hB h d1 (lv E n).length 0 (by omega)
  rw [nI_0] at h11
  simp only [xSeq, i_push, i_load, i_iload, i_lload, i_dload, i_aload, i_istore, i_astore, i_lstore, i_dstore, i_iinc, i_ii, i_iiz, i_ll, i_llz, i_lli, i_li, i_i, i_l, i_i2l, i_l2i, i_dup, i_dup2, i_dup2w, i_dupx1, i_pop, i_pop2, i_goto, i_ifc, i_icmp, i_getI, i_getL, i_getR, i_putI, i_putZ, i_putL, i_putR, i_aldI, i_aldB, i_aldL, i_aldD, i_astI, i_astL, i_astD, i_alen, i_ret, i_iret, i_zret, i_lret, i_fret, i_dret, i_aret, i_invS0, i_invV0, i_m2, i_m1, i_ml, i_obj, lk, lkp, stf1, stf2, Value.category, rV, xTo, lv_args, xCk, xCat, xRc, xAk, hg_S, hg_I, hg_J, hg_D, hg_R, hs_I, hs_J, hs_D, hs_R, uI_at, uJ_at, uD_at, uR_at, List.take_succ_cons, List.take_zero, List.drop_succ_cons, List.drop_zero, List.reverse_cons, List.reverse_nil, List.nil_append, List.cons_append, List.map_cons, List.map_nil, List.sum_cons, List.sum_nil, List.length_cons, List.length_nil, Option.toList_some, Option.toList_none, true_and, and_true, false_and, and_false, true_implies, false_implies, implies_true, not_true_eq_false, not_false_eq_true, ne_eq, if_true, if_false, Bool.and_true, Bool.true_and, decide_true, decide_false, reduceIte, reduceCtorEq, Bool.and_self, Bool.and_eq_true, decide_eq_true_eq, and_self, true_or, or_true, false_or, or_false, Nat.zero_add, Nat.add_zero, eq_self, Nat.reduceEqDiff, Nat.reduceLeDiff, Nat.reduceLT, Nat.reduceAdd, Nat.reduceSub, Nat.reduceMul]
  have e0 : sA E n (rtP x y) 0 = FP.dconst0 := rfl
  rw [e0] at h11
  rw [h11]
  exact kk D' d1 d2
theorem L315_12 (hL : LM S R) (hX : XM n E I) (hB : EB E n) (h : AB x y) (hD : ∀ k, k < 401 → D 352 k = wP (rtP x y) k)
    (kk : ∀ D', (∀ k, k < 401 → D' 352 k = wP (rtP x y) k) → (∀ o k, o ≠ 352 → D' o k = D o k) → Q (.ok (some (.double (mn E n (rtP x y) w)))) (S, I, J, D', R) b) : ∀ (j i : Nat), i + j = (lv E n).length → xRun xT 315 12 [(0, .ref 200), (1, .int w), (2, .int (nI x)), (3, .int (nI y)), (4, .double (sS E n (rtP x y) w i)), (6, .int (nI i))] [] (S, I, J, D, R) b Q
  | 0, i, hi => by
    have hl := lv_len E n
    have hr := rtP_gp h
    have e : i = (lv E n).length := by omega
    have nm : isNaN64 (mn E n (rtP x y) w) = false := fb_n (mn_fb hB hr)
    have em : FP.ddiv (sS E n (rtP x y) w (lv E n).length) (sA E n (rtP x y) (lv E n).length) = mn E n (rtP x y) w := rfl
    rw [e315_12]
    simp only [B315_12, xSeq, i_push, i_load, i_iload, i_lload, i_dload, i_aload, i_istore, i_astore, i_lstore, i_dstore, i_iinc, i_ii, i_iiz, i_ll, i_llz, i_lli, i_li, i_i, i_l, i_i2l, i_l2i, i_dup, i_dup2, i_dup2w, i_dupx1, i_pop, i_pop2, i_goto, i_ifc, i_icmp, i_getI, i_getL, i_getR, i_putI, i_putZ, i_putL, i_putR, i_aldI, i_aldB, i_aldL, i_aldD, i_astI, i_astL, i_astD, i_alen, i_ret, i_iret, i_zret, i_lret, i_fret, i_dret, i_aret, i_invS0, i_invV0, i_m2, i_m1, i_ml, i_obj, lk, lkp, stf1, stf2, Value.category, rV, xTo, lv_args, xCk, xCat, xRc, xAk, hg_S, hg_I, hg_J, hg_D, hg_R, hs_I, hs_J, hs_D, hs_R, uI_at, uJ_at, uD_at, uR_at, List.take_succ_cons, List.take_zero, List.drop_succ_cons, List.drop_zero, List.reverse_cons, List.reverse_nil, List.nil_append, List.cons_append, List.map_cons, List.map_nil, List.sum_cons, List.sum_nil, List.length_cons, List.length_nil, Option.toList_some, Option.toList_none, true_and, and_true, false_and, and_false, true_implies, false_implies, implies_true, not_true_eq_false, not_false_eq_true, ne_eq, if_true, if_false, Bool.and_true, Bool.true_and, decide_true, decide_false, reduceIte, reduceCtorEq, Bool.and_self, Bool.and_eq_true, decide_eq_true_eq, and_self, true_or, or_true, false_or, or_false, Nat.zero_add, Nat.add_zero, eq_self, Nat.reduceEqDiff, Nat.reduceLeDiff, Nat.reduceLT, Nat.reduceAdd, Nat.reduceSub, Nat.reduceMul, LM_out hL, hX.2.1, e, nI_leP (show (lv E n).length < 2147483648 by omega) (show (lv E n).length < 2147483648 by omega), Nat.le_refl, e315_80, B315_80]
    refine L317 hL hX hB h (fun D' d1 d2 => ?_)
    simp only [xSeq, i_push, i_load, i_iload, i_lload, i_dload, i_aload, i_istore, i_astore, i_lstore, i_dstore, i_iinc, i_ii, i_iiz, i_ll, i_llz, i_lli, i_li, i_i, i_l, i_i2l, i_l2i, i_dup, i_dup2, i_dup2w, i_dupx1, i_pop, i_pop2, i_goto, i_ifc, i_icmp, i_getI, i_getL, i_getR, i_putI, i_putZ, i_putL, i_putR, i_aldI, i_aldB, i_aldL, i_aldD, i_astI, i_astL, i_astD, i_alen, i_ret, i_iret, i_zret, i_lret, i_fret, i_dret, i_aret, i_invS0, i_invV0, i_m2, i_m1, i_ml, i_obj, lk, lkp, stf1, stf2, Value.category, rV, xTo, lv_args, xCk, xCat, xRc, xAk, hg_S, hg_I, hg_J, hg_D, hg_R, hs_I, hs_J, hs_D, hs_R, uI_at, uJ_at, uD_at, uR_at, List.take_succ_cons, List.take_zero, List.drop_succ_cons, List.drop_zero, List.reverse_cons, List.reverse_nil, List.nil_append, List.cons_append, List.map_cons, List.map_nil, List.sum_cons, List.sum_nil, List.length_cons, List.length_nil, Option.toList_some, Option.toList_none, true_and, and_true, false_and, and_false, true_implies, false_implies, implies_true, not_true_eq_false, not_false_eq_true, ne_eq, if_true, if_false, Bool.and_true, Bool.true_and, decide_true, decide_false, reduceIte, reduceCtorEq, Bool.and_self, Bool.and_eq_true, decide_eq_true_eq, and_self, true_or, or_true, false_or, or_false, Nat.zero_add, Nat.add_zero, eq_self, Nat.reduceEqDiff, Nat.reduceLeDiff, Nat.reduceLT, Nat.reduceAdd, Nat.reduceSub, Nat.reduceMul, i_dd, em, al_eq nm]
    exact kk D' d1 d2
  | j + 1, i, hi => by
    have hl := lv_len E n
    have hr := rtP_gp h
    have ih := L315_12 hL hX hB h hD kk j (i + 1) (by omega)
    have hi2 : i < (lv E n).length := by omega
    have hn := hB.1
    obtain ⟨g1, g2, g3⟩ := hX.2.2.2.1 i hi2
    obtain ⟨-, x2, x3⟩ := lv_x hB hi2
    have hmm := (lv_get hB hi2).2.2
    have ha : jAbsL (gM n ((lv E n).getD i 0)).toInt64 = (jAbs (gM n ((lv E n).getD i 0))).toInt64 := abs_m n (by omega) ((lv E n).getD i 0 % 17) (by omega)
    have e1 : FP.dmul (FP.i2d (gN E n ((lv E n).getD i 0))) (wP (rtP x y) (xi (lv E n) i)) = wt E n (rtP x y) i := rfl
    have e2 : vF w (gE ((lv E n).getD i 0)) (gM n ((lv E n).getD i 0)) = vl E n w i := rfl
    have e3 : FP.dmul (wt E n (rtP x y) i) (FP.l2d (vl E n w i)) = tm E n (rtP x y) w i := rfl
    have e4 : FP.dadd (sS E n (rtP x y) w i) (tm E n (rtP x y) w i) = sS E n (rtP x y) w (i + 1) := rfl
    have n1 : isNaN64 (wt E n (rtP x y) i) = false := fb_n (gp_fb (wt_gp hB hr))
    have n3 : isNaN64 (tm E n (rtP x y) w i) = false := fb_n (tm_fb hB hr hi2)
    have n4 : isNaN64 (sS E n (rtP x y) w (i + 1)) = false := fb_n (sS_fb hB hr (i + 1) (by omega))
    rw [e315_12]
    simp only [B315_12, xSeq, i_push, i_load, i_iload, i_lload, i_dload, i_aload, i_istore, i_astore, i_lstore, i_dstore, i_iinc, i_ii, i_iiz, i_ll, i_llz, i_lli, i_li, i_i, i_l, i_i2l, i_l2i, i_dup, i_dup2, i_dup2w, i_dupx1, i_pop, i_pop2, i_goto, i_ifc, i_icmp, i_getI, i_getL, i_getR, i_putI, i_putZ, i_putL, i_putR, i_aldI, i_aldB, i_aldL, i_aldD, i_astI, i_astL, i_astD, i_alen, i_ret, i_iret, i_zret, i_lret, i_fret, i_dret, i_aret, i_invS0, i_invV0, i_m2, i_m1, i_ml, i_obj, lk, lkp, stf1, stf2, Value.category, rV, xTo, lv_args, xCk, xCat, xRc, xAk, hg_S, hg_I, hg_J, hg_D, hg_R, hs_I, hs_J, hs_D, hs_R, uI_at, uJ_at, uD_at, uR_at, List.take_succ_cons, List.take_zero, List.drop_succ_cons, List.drop_zero, List.reverse_cons, List.reverse_nil, List.nil_append, List.cons_append, List.map_cons, List.map_nil, List.sum_cons, List.sum_nil, List.length_cons, List.length_nil, Option.toList_some, Option.toList_none, true_and, and_true, false_and, and_false, true_implies, false_implies, implies_true, not_true_eq_false, not_false_eq_true, ne_eq, if_true, if_false, Bool.and_true, Bool.true_and, decide_true, decide_false, reduceIte, reduceCtorEq, Bool.and_self, Bool.and_eq_true, decide_eq_true_eq, and_self, true_or, or_true, false_or, or_false, Nat.zero_add, Nat.add_zero, eq_self, Nat.reduceEqDiff, Nat.reduceLeDiff, Nat.reduceLT, Nat.reduceAdd, Nat.reduceSub, Nat.reduceMul, LM_out hL, hX.2.1, hX.2.2.1, nI_leP (show (lv E n).length < 2147483648 by omega) (show i < 2147483648 by omega), show ((lv E n).length ≤ i) = False from eq_false (by omega), nI_inP (show i < 6000 by omega) (by decide), nI_ix (show i < 2147483648 by omega), g1, g2, g3, x3, nI_inP (show xi (lv E n) i < 401 by omega) (by decide), nI_ix (show xi (lv E n) i < 2147483648 by omega), hD _ (show xi (lv E n) i < 401 by omega), i_i2d, i_l2d, i_dd, e1, al_eq n1, R295 ha, e2, e3, al_eq n3, e4, al_eq n4, nI_1]
    exact ih
theorem L315 (hL : LM S R) (hX : XM n E I) (hB : EB E n) (h : AB x y)
    (kk : ∀ D', (∀ o k, o ≠ 352 → D' o k = D o k) → Q (.ok (some (.double (mn E n (rtP x y) w)))) (S, I, J, D', R) b) :
    xRun xT 315 0 [(0, .ref 200), (1, .int w), (2, .int (nI x)), (3, .int (nI y))] [] (S, I, J, D, R) b Q := by
  rw [e315_0]
  simp only [B315_0, xSeq, i_push, i_load, i_iload, i_lload, i_dload, i_aload, i_istore, i_astore, i_lstore, i_dstore, i_iinc, i_ii, i_iiz, i_ll, i_llz, i_lli, i_li, i_i, i_l, i_i2l, i_l2i, i_dup, i_dup2, i_dup2w, i_dupx1, i_pop, i_pop2, i_goto, i_ifc, i_icmp, i_getI, i_getL, i_getR, i_putI, i_putZ, i_putL, i_putR, i_aldI, i_aldB, i_aldL, i_aldD, i_astI, i_astL, i_astD, i_alen, i_ret, i_iret, i_zret, i_lret, i_fret, i_dret, i_aret, i_invS0, i_invV0, i_m2, i_m1, i_ml, i_obj, lk, lkp, stf1, stf2, Value.category, rV, xTo, lv_args, xCk, xCat, xRc, xAk, hg_S, hg_I, hg_J, hg_D, hg_R, hs_I, hs_J, hs_D, hs_R, uI_at, uJ_at, uD_at, uR_at, List.take_succ_cons, List.take_zero, List.drop_succ_cons, List.drop_zero, List.reverse_cons, List.reverse_nil, List.nil_append, List.cons_append, List.map_cons, List.map_nil, List.sum_cons, List.sum_nil, List.length_cons, List.length_nil, Option.toList_some, Option.toList_none, true_and, and_true, false_and, and_false, true_implies, false_implies, implies_true, not_true_eq_false, not_false_eq_true, ne_eq, if_true, if_false, Bool.and_true, Bool.true_and, decide_true, decide_false, reduceIte, reduceCtorEq, Bool.and_self, Bool.and_eq_true, decide_eq_true_eq, and_self, true_or, or_true, false_or, or_false, Nat.zero_add, Nat.add_zero, eq_self, Nat.reduceEqDiff, Nat.reduceLeDiff, Nat.reduceLT, Nat.reduceAdd, Nat.reduceSub, Nat.reduceMul, LM_out hL]
  refine L316 hL h (fun D' d1 d2 => ?_)
  have h12 := L315_12 (J := J) (D := D') (b := b) (Q := Q) (w := w) hL hX hB h d1 (fun D2 k1 k2 => kk D2 (fun o k ho => (k2 o k ho).trans (d2 o k ho))) (lv E n).length 0 (by omega)
  rw [nI_0] at h12
  simp only [xSeq, i_push, i_load, i_iload, i_lload, i_dload, i_aload, i_istore, i_astore, i_lstore, i_dstore, i_iinc, i_ii, i_iiz, i_ll, i_llz, i_lli, i_li, i_i, i_l, i_i2l, i_l2i, i_dup, i_dup2, i_dup2w, i_dupx1, i_pop, i_pop2, i_goto, i_ifc, i_icmp, i_getI, i_getL, i_getR, i_putI, i_putZ, i_putL, i_putR, i_aldI, i_aldB, i_aldL, i_aldD, i_astI, i_astL, i_astD, i_alen, i_ret, i_iret, i_zret, i_lret, i_fret, i_dret, i_aret, i_invS0, i_invV0, i_m2, i_m1, i_ml, i_obj, lk, lkp, stf1, stf2, Value.category, rV, xTo, lv_args, xCk, xCat, xRc, xAk, hg_S, hg_I, hg_J, hg_D, hg_R, hs_I, hs_J, hs_D, hs_R, uI_at, uJ_at, uD_at, uR_at, List.take_succ_cons, List.take_zero, List.drop_succ_cons, List.drop_zero, List.reverse_cons, List.reverse_nil, List.nil_append, List.cons_append, List.map_cons, List.map_nil, List.sum_cons, List.sum_nil, List.length_cons, List.length_nil, Option.toList_some, Option.toList_none, true_and, and_true, false_and, and_false, true_implies, false_implies, implies_true, not_true_eq_false, not_false_eq_true, ne_eq, if_true, if_false, Bool.and_true, Bool.true_and, decide_true, decide_false, reduceIte, reduceCtorEq, Bool.and_self, Bool.and_eq_true, decide_eq_true_eq, and_self, true_or, or_true, false_or, or_false, Nat.zero_add, Nat.add_zero, eq_self, Nat.reduceEqDiff, Nat.reduceLeDiff, Nat.reduceLT, Nat.reduceAdd, Nat.reduceSub, Nat.reduceMul]
  exact h12
end
