/-! ===== the lab lists its levels ===== -/
section
variable {S : xS} {I : xI} {J : xJ} {D : xDb} {R : xR} {b : Nat × Nat} {Q : xQ} {n : Nat} {E : Nat → Int32}
theorem pow16 (hn : n ≤ 16) : 2 ^ n ≤ 65536 := Nat.pow_le_pow_right (by decide) hn
theorem L100_10 (hL : LC S R) (hE : LE S R) (hB : EB E n) (h3 : I 130 3 = nI (2 ^ n)) (hw : ∀ c, c < 2 ^ n → I 151 c = E c)
    (kk : ∀ f, (∀ k, k < 4913 → f k = nI (cL E n k)) → Q (.ok none) (S, rI I 153 f, J, D, R) b) :
    ∀ (j i : Nat) (f : Nat → Int32), i + j = 2 ^ n → (∀ k, k < 4913 → f k = nI (ct (fun c => decide (yL E n c = k)) i)) → xRun xT 100 10 [(0, .ref 130), (1, .int (nI i))] [] (S, rI I 153 f, J, D, R) b Q
  | 0, i, f, hi, hf => by
    have hp := pow16 hB.1
    have e : i = 2 ^ n := by omega
    subst e
    rw [e100_10]
    simp only [B100_10, xSeq, i_push, i_load, i_iload, i_lload, i_dload, i_aload, i_istore, i_astore, i_lstore, i_dstore, i_iinc, i_ii, i_iiz, i_ll, i_llz, i_lli, i_li, i_i, i_l, i_i2l, i_l2i, i_dup, i_dup2, i_dup2w, i_dupx1, i_pop, i_pop2, i_goto, i_ifc, i_icmp, i_getI, i_getL, i_getR, i_putI, i_putZ, i_putL, i_putR, i_aldI, i_aldB, i_aldL, i_aldD, i_astI, i_astL, i_astD, i_alen, i_ret, i_iret, i_zret, i_lret, i_fret, i_dret, i_aret, i_invS0, i_invV0, i_m2, i_m1, i_ml, i_obj, lk, lkp, stf1, stf2, Value.category, rV, xTo, lv_args, xCk, xCat, xRc, xAk, hg_S, hg_I, hg_J, hg_D, hg_R, hs_I, hs_J, hs_D, hs_R, uI_at, uJ_at, uD_at, uR_at, List.take_succ_cons, List.take_zero, List.drop_succ_cons, List.drop_zero, List.reverse_cons, List.reverse_nil, List.nil_append, List.cons_append, List.map_cons, List.map_nil, List.sum_cons, List.sum_nil, List.length_cons, List.length_nil, Option.toList_some, Option.toList_none, true_and, and_true, false_and, and_false, true_implies, false_implies, implies_true, not_true_eq_false, not_false_eq_true, ne_eq, if_true, if_false, Bool.and_true, Bool.true_and, decide_true, decide_false, reduceIte, reduceCtorEq, Bool.and_self, Bool.and_eq_true, decide_eq_true_eq, and_self, true_or, or_true, false_or, or_false, Nat.zero_add, Nat.add_zero, eq_self, Nat.reduceEqDiff, Nat.reduceLeDiff, Nat.reduceLT, Nat.reduceAdd, Nat.reduceSub, Nat.reduceMul, LC_out hL, rI_at, h3, nI_leP (show 2 ^ n < 2147483648 by omega) (show 2 ^ n < 2147483648 by omega), Nat.le_refl, e100_51, B100_51]
    exact kk f hf
  | j + 1, i, f, hi, hf => by
    have hp := pow16 hB.1
    have hc : i < 2 ^ n := by omega
    obtain ⟨h1, -, h2, -⟩ := eN_ok hB hc
    obtain ⟨h4, -, -, -⟩ := yL_ok hB hc
    have e1 : (nI (eN E i) * 17 + nI (pop 32 i) : Int32) = nI (yL E n i) := by
      have e2 : pop 32 i = pop n i := by
        have := pop_up hc (32 - n)
        rw [show n + (32 - n) = 32 by have := hB.1; omega] at this
        exact this
      rw [show (17 : Int32) = nI 17 from rfl, pk_mul, nI_add, e2]
      rfl
    rw [e100_10]
    simp only [B100_10, xSeq, i_push, i_load, i_iload, i_lload, i_dload, i_aload, i_istore, i_astore, i_lstore, i_dstore, i_iinc, i_ii, i_iiz, i_ll, i_llz, i_lli, i_li, i_i, i_l, i_i2l, i_l2i, i_dup, i_dup2, i_dup2w, i_dupx1, i_pop, i_pop2, i_goto, i_ifc, i_icmp, i_getI, i_getL, i_getR, i_putI, i_putZ, i_putL, i_putR, i_aldI, i_aldB, i_aldL, i_aldD, i_astI, i_astL, i_astD, i_alen, i_ret, i_iret, i_zret, i_lret, i_fret, i_dret, i_aret, i_invS0, i_invV0, i_m2, i_m1, i_ml, i_obj, lk, lkp, stf1, stf2, Value.category, rV, xTo, lv_args, xCk, xCat, xRc, xAk, hg_S, hg_I, hg_J, hg_D, hg_R, hs_I, hs_J, hs_D, hs_R, uI_at, uJ_at, uD_at, uR_at, List.take_succ_cons, List.take_zero, List.drop_succ_cons, List.drop_zero, List.reverse_cons, List.reverse_nil, List.nil_append, List.cons_append, List.map_cons, List.map_nil, List.sum_cons, List.sum_nil, List.length_cons, List.length_nil, Option.toList_some, Option.toList_none, true_and, and_true, false_and, and_false, true_implies, false_implies, implies_true, not_true_eq_false, not_false_eq_true, ne_eq, if_true, if_false, Bool.and_true, Bool.true_and, decide_true, decide_false, reduceIte, reduceCtorEq, Bool.and_self, Bool.and_eq_true, decide_eq_true_eq, and_self, true_or, or_true, false_or, or_false, Nat.zero_add, Nat.add_zero, eq_self, Nat.reduceEqDiff, Nat.reduceLeDiff, Nat.reduceLT, Nat.reduceAdd, Nat.reduceSub, Nat.reduceMul, LC_out hL, LE_out hE, rI_at, h3, nI_leP (show 2 ^ n < 2147483648 by omega) (show i < 2147483648 by omega), show (2 ^ n ≤ i) = False from eq_false (by omega), nI_inP (show i < 65536 by omega) (by decide), nI_ix (show i < 2147483648 by omega), hw i hc, h1, Y4 (x := i) (by omega), e1, nI_inP h4 (by decide), nI_ix (show yL E n i < 2147483648 by omega), uI_rI, nI_1]
    refine L100_10 hL hE hB h3 hw kk j (i + 1) _ (by omega) (fun k hk => ?_)
    rw [up_at, ct]
    by_cases e : k = yL E n i
    · rw [if_pos e, e, hf _ h4, if_pos (decide_eq_true rfl), nI_1]
    · rw [if_neg e, hf k hk, if_neg (fun h => e (of_decide_eq_true h).symm), Nat.add_zero]
def lvH (I : xI) (m : Nat) (w4 w5 w6 : Nat → Int32) : xI := fun o k => if o = 154 then w4 k else if o = 155 then w5 k else if o = 156 then w6 k else if o = 130 ∧ k = 5 then nI m else I o k
theorem lvH_at (I : xI) (m : Nat) (w4 w5 w6 : Nat → Int32) (o k : Nat) : lvH I m w4 w5 w6 o k = if o = 154 then w4 k else if o = 155 then w5 k else if o = 156 then w6 k else if o = 130 ∧ k = 5 then nI m else I o k := rfl
theorem lvH_add (I : xI) (m : Nat) (w4 w5 w6 : Nat → Int32) (x y z : Int32) : uI (uI (uI (uI (lvH I m w4 w5 w6) 154 m x) 155 m y) 156 m z) 130 5 (nI (m + 1)) = lvH I (m + 1) (up w4 m x) (up w5 m y) (up w6 m z) := by
  funext o k
  simp only [uI_at, lvH_at, up_at]
  by_cases h1 : o = 154
  · subst h1; simp
  · by_cases h2 : o = 155
    · subst h2; simp
    · by_cases h3 : o = 156
      · subst h3; simp
      · by_cases h4 : o = 130 ∧ k = 5
        · simp [h4]
        · simp [h1, h2, h3, h4]
theorem lvH_0 (I : xI) (m : Nat) (h : I 130 5 = nI m) : lvH I m (I 154) (I 155) (I 156) = I := by
  funext o k
  rw [lvH_at]
  split
  · rename_i e; rw [e]
  · split
    · rename_i e; rw [e]
    · split
      · rename_i e; rw [e]
      · split
        · rename_i e; rw [e.1, e.2, h]
        · rfl
theorem q_144 (e : Nat) : (nI e - 144 + 144 : Int32) = nI e := by grind
theorem q_144s (e : Nat) : (nI e - 144 + 1 : Int32) = nI (e + 1) - 144 := by
  rw [← nI_add, show nI 1 = 1 from rfl]
  grind
theorem q_144l : ∀ e, e < 290 → decide ((144 : Int32) < nI e - 144) = decide (288 < e) := by decide +kernel
theorem q_144P {e : Nat} (h : e < 290) : ((144 : Int32) < nI e - 144) = (288 < e) := propext (decide_eq_decide.mp (q_144l e h))
theorem lv_up {p : Nat → Bool} {k : Nat} (h : p k = true) : fl p (k + 1) = fl p k ++ [k] := by rw [fl, if_pos h]
theorem lv_no {p : Nat → Bool} {k : Nat} (h : ¬ p k = true) : fl p (k + 1) = fl p k := by rw [fl, if_neg h]
theorem L101_18 (hL : LC S R) (hE : LE S R) (hB : EB E n) (h2 : I 130 2 = nI n) (ht : ∀ k, k < 4913 → I 153 k = nI (cL E n k)) {e : Nat} (he : e < 289)
    (kk : ∀ w4 w5 w6, GL (fl (fun k => decide (0 < cL E n k)) ((e + 1) * 17)) gE (gM n) (gN E n) w4 w5 w6 → xRun xT 101 99 [(0, .ref 130), (1, .int (nI e - 144))] [] (S, lvH I (fl (fun k => decide (0 < cL E n k)) ((e + 1) * 17)).length w4 w5 w6, J, D, R) b Q) :
    ∀ (j u : Nat) (w4 w5 w6 : Nat → Int32), u + j = n + 1 → GL (fl (fun k => decide (0 < cL E n k)) (e * 17 + u)) gE (gM n) (gN E n) w4 w5 w6 → xRun xT 101 18 [(0, .ref 130), (1, .int (nI e - 144)), (2, .int (nI u))] [] (S, lvH I (fl (fun k => decide (0 < cL E n k)) (e * 17 + u)).length w4 w5 w6, J, D, R) b Q
  | 0, u, w4, w5, w6, hu, hg => by
    have hn := hB.1
    have e1 : u = n + 1 := by omega
    subst e1
    have e2 : fl (fun k => decide (0 < cL E n k)) ((e + 1) * 17) = fl (fun k => decide (0 < cL E n k)) (e * 17 + (n + 1)) := by
      rw [show (e + 1) * 17 = e * 17 + (n + 1) + (16 - n) by omega]
      refine fl_skip _ _ (fun k h1 h2 => decide_eq_false (fun h => ?_))
      have := (cL_mod hB h).1
      omega
    have h2' : ∀ m, lvH I m w4 w5 w6 130 2 = nI n := fun m => h2
    rw [e101_18]
    simp only [B101_18, xSeq, i_push, i_load, i_iload, i_lload, i_dload, i_aload, i_istore, i_astore, i_lstore, i_dstore, i_iinc, i_ii, i_iiz, i_ll, i_llz, i_lli, i_li, i_i, i_l, i_i2l, i_l2i, i_dup, i_dup2, i_dup2w, i_dupx1, i_pop, i_pop2, i_goto, i_ifc, i_icmp, i_getI, i_getL, i_getR, i_putI, i_putZ, i_putL, i_putR, i_aldI, i_aldB, i_aldL, i_aldD, i_astI, i_astL, i_astD, i_alen, i_ret, i_iret, i_zret, i_lret, i_fret, i_dret, i_aret, i_invS0, i_invV0, i_m2, i_m1, i_ml, i_obj, lk, lkp, stf1, stf2, Value.category, rV, xTo, lv_args, xCk, xCat, xRc, xAk, hg_S, hg_I, hg_J, hg_D, hg_R, hs_I, hs_J, hs_D, hs_R, uI_at, uJ_at, uD_at, uR_at, List.take_succ_cons, List.take_zero, List.drop_succ_cons, List.drop_zero, List.reverse_cons, List.reverse_nil, List.nil_append, List.cons_append, List.map_cons, List.map_nil, List.sum_cons, List.sum_nil, List.length_cons, List.length_nil, Option.toList_some, Option.toList_none, true_and, and_true, false_and, and_false, true_implies, false_implies, implies_true, not_true_eq_false, not_false_eq_true, ne_eq, if_true, if_false, Bool.and_true, Bool.true_and, decide_true, decide_false, reduceIte, reduceCtorEq, Bool.and_self, Bool.and_eq_true, decide_eq_true_eq, and_self, true_or, or_true, false_or, or_false, Nat.zero_add, Nat.add_zero, eq_self, Nat.reduceEqDiff, Nat.reduceLeDiff, Nat.reduceLT, Nat.reduceAdd, Nat.reduceSub, Nat.reduceMul, LC_out hL, h2', nI_ltP (show n < 2147483648 by omega) (show n + 1 < 2147483648 by omega), show (n < n + 1) = True from eq_true (Nat.lt_succ_self n)]
    have := kk w4 w5 w6
    rw [e2] at this
    exact this hg
  | j + 1, u, w4, w5, w6, hu, hg => by
    have hn := hB.1
    obtain ⟨m, hm⟩ : ∃ m, m = (fl (fun k => decide (0 < cL E n k)) (e * 17 + u)).length := ⟨_, rfl⟩
    have hml : m ≤ e * 17 + u := by rw [hm]; exact fl_len _ _
    have h2' : lvH I m w4 w5 w6 130 2 = nI n := h2
    have ht' : ∀ k, lvH I m w4 w5 w6 153 k = I 153 k := fun k => rfl
    have hm' : lvH I m w4 w5 w6 130 5 = nI m := rfl
    have e3 : (nI e * 17 + nI u : Int32) = nI (e * 17 + u) := by rw [show (17 : Int32) = nI 17 from rfl, pk_mul, nI_add]
    have e4 : ∀ k, e * 17 + u = k → gE k = nI e - 144 ∧ gM n k = 2 * nI u - nI n := fun k hk => by
      unfold gE gM
      rw [show k / 17 = e by omega, show k % 17 = u by omega]
      exact ⟨rfl, rfl⟩
    obtain ⟨e5, e6⟩ := e4 _ rfl
    have hk := ht (e * 17 + u) (by omega)
    have ih := L101_18 hL hE hB h2 ht he kk j (u + 1)
    rw [← hm]
    rw [e101_18]
    simp only [B101_18, xSeq, i_push, i_load, i_iload, i_lload, i_dload, i_aload, i_istore, i_astore, i_lstore, i_dstore, i_iinc, i_ii, i_iiz, i_ll, i_llz, i_lli, i_li, i_i, i_l, i_i2l, i_l2i, i_dup, i_dup2, i_dup2w, i_dupx1, i_pop, i_pop2, i_goto, i_ifc, i_icmp, i_getI, i_getL, i_getR, i_putI, i_putZ, i_putL, i_putR, i_aldI, i_aldB, i_aldL, i_aldD, i_astI, i_astL, i_astD, i_alen, i_ret, i_iret, i_zret, i_lret, i_fret, i_dret, i_aret, i_invS0, i_invV0, i_m2, i_m1, i_ml, i_obj, lk, lkp, stf1, stf2, Value.category, rV, xTo, lv_args, xCk, xCat, xRc, xAk, hg_S, hg_I, hg_J, hg_D, hg_R, hs_I, hs_J, hs_D, hs_R, uI_at, uJ_at, uD_at, uR_at, List.take_succ_cons, List.take_zero, List.drop_succ_cons, List.drop_zero, List.reverse_cons, List.reverse_nil, List.nil_append, List.cons_append, List.map_cons, List.map_nil, List.sum_cons, List.sum_nil, List.length_cons, List.length_nil, Option.toList_some, Option.toList_none, true_and, and_true, false_and, and_false, true_implies, false_implies, implies_true, not_true_eq_false, not_false_eq_true, ne_eq, if_true, if_false, Bool.and_true, Bool.true_and, decide_true, decide_false, reduceIte, reduceCtorEq, Bool.and_self, Bool.and_eq_true, decide_eq_true_eq, and_self, true_or, or_true, false_or, or_false, Nat.zero_add, Nat.add_zero, eq_self, Nat.reduceEqDiff, Nat.reduceLeDiff, Nat.reduceLT, Nat.reduceAdd, Nat.reduceSub, Nat.reduceMul, LC_out hL, LE_out hE, h2', nI_ltP (show n < 2147483648 by omega) (show u < 2147483648 by omega), show (n < u) = False from eq_false (by omega), q_144, e3, nI_inP (show e * 17 + u < 4913 by omega) (by decide), nI_ix (show e * 17 + u < 2147483648 by omega), ht', hk, e101_93, B101_93, nI_1]
    by_cases hc : 0 < cL E n (e * 17 + u)
    · have hcc : cL E n (e * 17 + u) ≤ 2 ^ n := ct_le _ _
      have hp := pow16 hB.1
      have e7 : (nI (cL E n (e * 17 + u)) ≤ 0) = False := eq_false (nI_nle hc (by omega))
      simp only [e7, xSeq, i_push, i_load, i_iload, i_lload, i_dload, i_aload, i_istore, i_astore, i_lstore, i_dstore, i_iinc, i_ii, i_iiz, i_ll, i_llz, i_lli, i_li, i_i, i_l, i_i2l, i_l2i, i_dup, i_dup2, i_dup2w, i_dupx1, i_pop, i_pop2, i_goto, i_ifc, i_icmp, i_getI, i_getL, i_getR, i_putI, i_putZ, i_putL, i_putR, i_aldI, i_aldB, i_aldL, i_aldD, i_astI, i_astL, i_astD, i_alen, i_ret, i_iret, i_zret, i_lret, i_fret, i_dret, i_aret, i_invS0, i_invV0, i_m2, i_m1, i_ml, i_obj, lk, lkp, stf1, stf2, Value.category, rV, xTo, lv_args, xCk, xCat, xRc, xAk, hg_S, hg_I, hg_J, hg_D, hg_R, hs_I, hs_J, hs_D, hs_R, uI_at, uJ_at, uD_at, uR_at, List.take_succ_cons, List.take_zero, List.drop_succ_cons, List.drop_zero, List.reverse_cons, List.reverse_nil, List.nil_append, List.cons_append, List.map_cons, List.map_nil, List.sum_cons, List.sum_nil, List.length_cons, List.length_nil, Option.toList_some, Option.toList_none, true_and, and_true, false_and, and_false, true_implies, false_implies, implies_true, not_true_eq_false, not_false_eq_true, ne_eq, if_true, if_false, Bool.and_true, Bool.true_and, decide_true, decide_false, reduceIte, reduceCtorEq, Bool.and_self, Bool.and_eq_true, decide_eq_true_eq, and_self, true_or, or_true, false_or, or_false, Nat.zero_add, Nat.add_zero, eq_self, Nat.reduceEqDiff, Nat.reduceLeDiff, Nat.reduceLT, Nat.reduceAdd, Nat.reduceSub, Nat.reduceMul, LC_out hL, LE_out hE, uI_at, hm', h2', nI_inP (show m < 4913 by omega) (by decide), nI_ix (show m < 2147483648 by omega), nI_1, lvH_add]
      have e8 := lv_up (p := fun k => decide (0 < cL E n k)) (k := e * 17 + u) (decide_eq_true hc)
      have hg2 := GL_add hg (e * 17 + u)
      rw [← e8, ← hm, e5, e6] at hg2
      have ih2 := ih _ _ _ (by omega) hg2
      have e9 : (fl (fun k => decide (0 < cL E n k)) (e * 17 + (u + 1))).length = m + 1 := by
        rw [← Nat.add_assoc, e8, List.length_append, ← hm]
        rfl
      rw [e9] at ih2
      exact ih2
    · have e7 : (nI (cL E n (e * 17 + u)) ≤ 0) = True := eq_true (by rw [show cL E n (e * 17 + u) = 0 by omega, nI_0]; decide)
      have e8 := lv_no (p := fun k => decide (0 < cL E n k)) (k := e * 17 + u) (fun h => hc (of_decide_eq_true h))
      simp only [e7, xSeq, i_push, i_load, i_iload, i_lload, i_dload, i_aload, i_istore, i_astore, i_lstore, i_dstore, i_iinc, i_ii, i_iiz, i_ll, i_llz, i_lli, i_li, i_i, i_l, i_i2l, i_l2i, i_dup, i_dup2, i_dup2w, i_dupx1, i_pop, i_pop2, i_goto, i_ifc, i_icmp, i_getI, i_getL, i_getR, i_putI, i_putZ, i_putL, i_putR, i_aldI, i_aldB, i_aldL, i_aldD, i_astI, i_astL, i_astD, i_alen, i_ret, i_iret, i_zret, i_lret, i_fret, i_dret, i_aret, i_invS0, i_invV0, i_m2, i_m1, i_ml, i_obj, lk, lkp, stf1, stf2, Value.category, rV, xTo, lv_args, xCk, xCat, xRc, xAk, hg_S, hg_I, hg_J, hg_D, hg_R, hs_I, hs_J, hs_D, hs_R, uI_at, uJ_at, uD_at, uR_at, List.take_succ_cons, List.take_zero, List.drop_succ_cons, List.drop_zero, List.reverse_cons, List.reverse_nil, List.nil_append, List.cons_append, List.map_cons, List.map_nil, List.sum_cons, List.sum_nil, List.length_cons, List.length_nil, Option.toList_some, Option.toList_none, true_and, and_true, false_and, and_false, true_implies, false_implies, implies_true, not_true_eq_false, not_false_eq_true, ne_eq, if_true, if_false, Bool.and_true, Bool.true_and, decide_true, decide_false, reduceIte, reduceCtorEq, Bool.and_self, Bool.and_eq_true, decide_eq_true_eq, and_self, true_or, or_true, false_or, or_false, Nat.zero_add, Nat.add_zero, eq_self, Nat.reduceEqDiff, Nat.reduceLeDiff, Nat.reduceLT, Nat.reduceAdd, Nat.reduceSub, Nat.reduceMul]
      have ih2 := ih w4 w5 w6 (by omega) (by rw [← Nat.add_assoc, e8]; exact hg)
      rw [← Nat.add_assoc, e8, ← hm] at ih2
      exact ih2
theorem L101_9 (hL : LC S R) (hE : LE S R) (hB : EB E n) (h2 : I 130 2 = nI n) (ht : ∀ k, k < 4913 → I 153 k = nI (cL E n k))
    (kk : ∀ w4 w5 w6, GL (lv E n) gE (gM n) (gN E n) w4 w5 w6 → Q (.ok none) (S, uI (lvH I (lv E n).length w4 w5 w6) 130 4 (w4 0), J, D, R) b) :
    ∀ (j e : Nat) (w4 w5 w6 : Nat → Int32), e + j = 289 → GL (fl (fun k => decide (0 < cL E n k)) (e * 17)) gE (gM n) (gN E n) w4 w5 w6 → xRun xT 101 9 [(0, .ref 130), (1, .int (nI e - 144))] [] (S, lvH I (fl (fun k => decide (0 < cL E n k)) (e * 17)).length w4 w5 w6, J, D, R) b Q
  | 0, e, w4, w5, w6, he, hg => by
    have e1 : e = 289 := by omega
    subst e1
    have e4 : lvH I (fl (fun k => decide (0 < cL E n k)) (289 * 17)).length w4 w5 w6 154 0 = w4 0 := rfl
    rw [e101_9]
    simp only [B101_9, xSeq, i_push, i_load, i_iload, i_lload, i_dload, i_aload, i_istore, i_astore, i_lstore, i_dstore, i_iinc, i_ii, i_iiz, i_ll, i_llz, i_lli, i_li, i_i, i_l, i_i2l, i_l2i, i_dup, i_dup2, i_dup2w, i_dupx1, i_pop, i_pop2, i_goto, i_ifc, i_icmp, i_getI, i_getL, i_getR, i_putI, i_putZ, i_putL, i_putR, i_aldI, i_aldB, i_aldL, i_aldD, i_astI, i_astL, i_astD, i_alen, i_ret, i_iret, i_zret, i_lret, i_fret, i_dret, i_aret, i_invS0, i_invV0, i_m2, i_m1, i_ml, i_obj, lk, lkp, stf1, stf2, Value.category, rV, xTo, lv_args, xCk, xCat, xRc, xAk, hg_S, hg_I, hg_J, hg_D, hg_R, hs_I, hs_J, hs_D, hs_R, uI_at, uJ_at, uD_at, uR_at, List.take_succ_cons, List.take_zero, List.drop_succ_cons, List.drop_zero, List.reverse_cons, List.reverse_nil, List.nil_append, List.cons_append, List.map_cons, List.map_nil, List.sum_cons, List.sum_nil, List.length_cons, List.length_nil, Option.toList_some, Option.toList_none, true_and, and_true, false_and, and_false, true_implies, false_implies, implies_true, not_true_eq_false, not_false_eq_true, ne_eq, if_true, if_false, Bool.and_true, Bool.true_and, decide_true, decide_false, reduceIte, reduceCtorEq, Bool.and_self, Bool.and_eq_true, decide_eq_true_eq, and_self, true_or, or_true, false_or, or_false, Nat.zero_add, Nat.add_zero, eq_self, Nat.reduceEqDiff, Nat.reduceLeDiff, Nat.reduceLT, Nat.reduceAdd, Nat.reduceSub, Nat.reduceMul, q_144P (show 289 < 290 by decide), show (288 < 289) = True from eq_true (by decide), e101_105, B101_105, LC_out hL, LE_out hE, xi0 (show 0 < 4913 by decide) (by decide), ix_0, e4]
    exact kk w4 w5 w6 hg
  | j + 1, e, w4, w5, w6, he, hg => by
    have h18 := L101_18 (I := I) (J := J) (D := D) (b := b) (Q := Q) hL hE hB h2 ht (e := e) (by omega) (fun w4 w5 w6 hg => by
      rw [e101_99]
      simp only [B101_99, xSeq, i_push, i_load, i_iload, i_lload, i_dload, i_aload, i_istore, i_astore, i_lstore, i_dstore, i_iinc, i_ii, i_iiz, i_ll, i_llz, i_lli, i_li, i_i, i_l, i_i2l, i_l2i, i_dup, i_dup2, i_dup2w, i_dupx1, i_pop, i_pop2, i_goto, i_ifc, i_icmp, i_getI, i_getL, i_getR, i_putI, i_putZ, i_putL, i_putR, i_aldI, i_aldB, i_aldL, i_aldD, i_astI, i_astL, i_astD, i_alen, i_ret, i_iret, i_zret, i_lret, i_fret, i_dret, i_aret, i_invS0, i_invV0, i_m2, i_m1, i_ml, i_obj, lk, lkp, stf1, stf2, Value.category, rV, xTo, lv_args, xCk, xCat, xRc, xAk, hg_S, hg_I, hg_J, hg_D, hg_R, hs_I, hs_J, hs_D, hs_R, uI_at, uJ_at, uD_at, uR_at, List.take_succ_cons, List.take_zero, List.drop_succ_cons, List.drop_zero, List.reverse_cons, List.reverse_nil, List.nil_append, List.cons_append, List.map_cons, List.map_nil, List.sum_cons, List.sum_nil, List.length_cons, List.length_nil, Option.toList_some, Option.toList_none, true_and, and_true, false_and, and_false, true_implies, false_implies, implies_true, not_true_eq_false, not_false_eq_true, ne_eq, if_true, if_false, Bool.and_true, Bool.true_and, decide_true, decide_false, reduceIte, reduceCtorEq, Bool.and_self, Bool.and_eq_true, decide_eq_true_eq, and_self, true_or, or_true, false_or, or_false, Nat.zero_add, Nat.add_zero, eq_self, Nat.reduceEqDiff, Nat.reduceLeDiff, Nat.reduceLT, Nat.reduceAdd, Nat.reduceSub, Nat.reduceMul, q_144s]
      exact L101_9 hL hE hB h2 ht kk j (e + 1) w4 w5 w6 (by omega) hg) (n + 1) 0 w4 w5 w6 (by omega) hg
    rw [nI_0] at h18
    rw [e101_9]
    simp only [B101_9, xSeq, i_push, i_load, i_iload, i_lload, i_dload, i_aload, i_istore, i_astore, i_lstore, i_dstore, i_iinc, i_ii, i_iiz, i_ll, i_llz, i_lli, i_li, i_i, i_l, i_i2l, i_l2i, i_dup, i_dup2, i_dup2w, i_dupx1, i_pop, i_pop2, i_goto, i_ifc, i_icmp, i_getI, i_getL, i_getR, i_putI, i_putZ, i_putL, i_putR, i_aldI, i_aldB, i_aldL, i_aldD, i_astI, i_astL, i_astD, i_alen, i_ret, i_iret, i_zret, i_lret, i_fret, i_dret, i_aret, i_invS0, i_invV0, i_m2, i_m1, i_ml, i_obj, lk, lkp, stf1, stf2, Value.category, rV, xTo, lv_args, xCk, xCat, xRc, xAk, hg_S, hg_I, hg_J, hg_D, hg_R, hs_I, hs_J, hs_D, hs_R, uI_at, uJ_at, uD_at, uR_at, List.take_succ_cons, List.take_zero, List.drop_succ_cons, List.drop_zero, List.reverse_cons, List.reverse_nil, List.nil_append, List.cons_append, List.map_cons, List.map_nil, List.sum_cons, List.sum_nil, List.length_cons, List.length_nil, Option.toList_some, Option.toList_none, true_and, and_true, false_and, and_false, true_implies, false_implies, implies_true, not_true_eq_false, not_false_eq_true, ne_eq, if_true, if_false, Bool.and_true, Bool.true_and, decide_true, decide_false, reduceIte, reduceCtorEq, Bool.and_self, Bool.and_eq_true, decide_eq_true_eq, and_self, true_or, or_true, false_or, or_false, Nat.zero_add, Nat.add_zero, eq_self, Nat.reduceEqDiff, Nat.reduceLeDiff, Nat.reduceLT, Nat.reduceAdd, Nat.reduceSub, Nat.reduceMul, q_144P (show e < 290 by omega), show (288 < e) = False from eq_false (by omega)]
    exact h18
theorem L101 (hL : LC S R) (hE : LE S R) (hB : EB E n) (h2 : I 130 2 = nI n) (ht : ∀ k, k < 4913 → I 153 k = nI (cL E n k))
    (kk : ∀ w4 w5 w6, GL (lv E n) gE (gM n) (gN E n) w4 w5 w6 → Q (.ok none) (S, uI (lvH (uI I 130 5 0) (lv E n).length w4 w5 w6) 130 4 (w4 0), J, D, R) b) :
    xRun xT 101 0 [(0, .ref 130)] [] (S, I, J, D, R) b Q := by
  have h9 := L101_9 (I := uI I 130 5 0) (J := J) (D := D) (b := b) (Q := Q) hL hE hB h2 ht kk 289 0 (I 154) (I 155) (I 156) (by decide) GL_0
  have e0 : lvH (uI I 130 5 0) (fl (fun k => decide (0 < cL E n k)) (0 * 17)).length (I 154) (I 155) (I 156) = uI I 130 5 0 := lvH_0 (uI I 130 5 0) 0 rfl
  rw [e0, show (nI 0 - 144 : Int32) = -144 from by decide] at h9
  rw [e101_0]
  simp only [B101_0, xSeq, i_push, i_load, i_iload, i_lload, i_dload, i_aload, i_istore, i_astore, i_lstore, i_dstore, i_iinc, i_ii, i_iiz, i_ll, i_llz, i_lli, i_li, i_i, i_l, i_i2l, i_l2i, i_dup, i_dup2, i_dup2w, i_dupx1, i_pop, i_pop2, i_goto, i_ifc, i_icmp, i_getI, i_getL, i_getR, i_putI, i_putZ, i_putL, i_putR, i_aldI, i_aldB, i_aldL, i_aldD, i_astI, i_astL, i_astD, i_alen, i_ret, i_iret, i_zret, i_lret, i_fret, i_dret, i_aret, i_invS0, i_invV0, i_m2, i_m1, i_ml, i_obj, lk, lkp, stf1, stf2, Value.category, rV, xTo, lv_args, xCk, xCat, xRc, xAk, hg_S, hg_I, hg_J, hg_D, hg_R, hs_I, hs_J, hs_D, hs_R, uI_at, uJ_at, uD_at, uR_at, List.take_succ_cons, List.take_zero, List.drop_succ_cons, List.drop_zero, List.reverse_cons, List.reverse_nil, List.nil_append, List.cons_append, List.map_cons, List.map_nil, List.sum_cons, List.sum_nil, List.length_cons, List.length_nil, Option.toList_some, Option.toList_none, true_and, and_true, false_and, and_false, true_implies, false_implies, implies_true, not_true_eq_false, not_false_eq_true, ne_eq, if_true, if_false, Bool.and_true, Bool.true_and, decide_true, decide_false, reduceIte, reduceCtorEq, Bool.and_self, Bool.and_eq_true, decide_eq_true_eq, and_self, true_or, or_true, false_or, or_false, Nat.zero_add, Nat.add_zero, eq_self, Nat.reduceEqDiff, Nat.reduceLeDiff, Nat.reduceLT, Nat.reduceAdd, Nat.reduceSub, Nat.reduceMul, LC_out hL]
  exact h9
theorem L100 (hL : LC S R) (hE : LE S R) (hB : EB E n) (h3 : I 130 3 = nI (2 ^ n)) (hw : ∀ c, c < 2 ^ n → I 151 c = E c)
    (kk : ∀ f, (∀ k, k < 4913 → f k = nI (cL E n k)) → Q (.ok none) (S, rI I 153 f, J, D, R) b) :
    xRun xT 100 0 [(0, .ref 130)] [] (S, I, J, D, R) b Q := by
  have S153 : S 153 = (100, 4913) := (LE_out hE).2.2.2.2.2.2.2.2.1
  have h10 := L100_10 (I := I) (J := J) (D := D) (b := b) (Q := Q) hL hE hB h3 hw kk (2 ^ n) 0 (fill (I 153) 0 4913) (by omega) (fun k hk => by
    rw [fill_at, if_pos hk]
    rfl)
  rw [nI_0] at h10
  rw [e100_0]
  simp only [B100_0, xSeq, i_push, i_load, i_iload, i_lload, i_dload, i_aload, i_istore, i_astore, i_lstore, i_dstore, i_iinc, i_ii, i_iiz, i_ll, i_llz, i_lli, i_li, i_i, i_l, i_i2l, i_l2i, i_dup, i_dup2, i_dup2w, i_dupx1, i_pop, i_pop2, i_goto, i_ifc, i_icmp, i_getI, i_getL, i_getR, i_putI, i_putZ, i_putL, i_putR, i_aldI, i_aldB, i_aldL, i_aldD, i_astI, i_astL, i_astD, i_alen, i_ret, i_iret, i_zret, i_lret, i_fret, i_dret, i_aret, i_invS0, i_invV0, i_m2, i_m1, i_ml, i_obj, lk, lkp, stf1, stf2, Value.category, rV, xTo, lv_args, xCk, xCat, xRc, xAk, hg_S, hg_I, hg_J, hg_D, hg_R, hs_I, hs_J, hs_D, hs_R, uI_at, uJ_at, uD_at, uR_at, List.take_succ_cons, List.take_zero, List.drop_succ_cons, List.drop_zero, List.reverse_cons, List.reverse_nil, List.nil_append, List.cons_append, List.map_cons, List.map_nil, List.sum_cons, List.sum_nil, List.length_cons, List.length_nil, Option.toList_some, Option.toList_none, true_and, and_true, false_and, and_false, true_implies, false_implies, implies_true, not_true_eq_false, not_false_eq_true, ne_eq, if_true, if_false, Bool.and_true, Bool.true_and, decide_true, decide_false, reduceIte, reduceCtorEq, Bool.and_self, Bool.and_eq_true, decide_eq_true_eq, and_self, true_or, or_true, false_or, or_false, Nat.zero_add, Nat.add_zero, eq_self, Nat.reduceEqDiff, Nat.reduceLeDiff, Nat.reduceLT, Nat.reduceAdd, Nat.reduceSub, Nat.reduceMul, LC_out hL, LE_out hE, Y6 (o := 153) (L := 4913) S153 (by decide)]
  exact h10
end
