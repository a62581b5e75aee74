/-! ===== the lowest bit ===== -/
section
def tzf : Nat → Nat → Nat
  | 0, _ => 0
  | f + 1, x => if x % 2 = 1 then 0 else tzf f (x / 2) + 1
theorem tz_u : ∀ (t f q : Nat), t < f → tzf f (2 ^ t * (2 * q + 1)) = t
  | 0, f, q, h => by
    obtain ⟨f', rfl⟩ : ∃ f', f = f' + 1 := ⟨f - 1, by omega⟩
    rw [tzf, if_pos (by omega)]
  | t + 1, f, q, h => by
    obtain ⟨f', rfl⟩ : ∃ f', f = f' + 1 := ⟨f - 1, by omega⟩
    have e : 2 ^ (t + 1) * (2 * q + 1) = 2 * (2 ^ t * (2 * q + 1)) := by rw [Nat.pow_succ, Nat.mul_comm (2 ^ t) 2, Nat.mul_assoc]
    rw [tzf, if_neg (by omega), e, Nat.mul_div_cancel_left _ (by decide), tz_u t f' q (by omega)]
theorem tz_ex : ∀ (f x : Nat), 0 < x → x < 2 ^ f → ∃ t q, t < f ∧ x = 2 ^ t * (2 * q + 1)
  | 0, x, h, h2 => by
    rw [Nat.pow_zero] at h2
    omega
  | f + 1, x, h, h2 => by
    by_cases e : x % 2 = 1
    · exact ⟨0, x / 2, by omega, by omega⟩
    · obtain ⟨t, q, h3, h4⟩ := tz_ex f (x / 2) (by omega) (by rw [Nat.pow_succ] at h2; omega)
      refine ⟨t + 1, q, by omega, ?_⟩
      rw [Nat.pow_succ, Nat.mul_comm (2 ^ t) 2, Nat.mul_assoc, ← h4]
      omega
theorem low_mask {x t q : Nat} (hx : x < 2 ^ 32) (e : x = 2 ^ t * (2 * q + 1)) : (x ^^^ 4294967295) &&& (x - 1) = 2 ^ t - 1 := by
  have hp := Nat.two_pow_pos t
  have e1 : x - 1 = 2 ^ t * (2 * q) + (2 ^ t - 1) := by
    rw [e, Nat.mul_add, Nat.mul_one]
    omega
  have e2 : x = 2 ^ t * (2 * q + 1) + 0 := e
  apply Nat.eq_of_testBit_eq
  intro i
  rw [Nat.testBit_and, Nat.testBit_xor, Nat.testBit_two_pow_sub_one, show (4294967295 : Nat) = 2 ^ 32 - 1 from rfl, Nat.testBit_two_pow_sub_one, e1, Nat.testBit_two_pow_mul_add _ (by omega), Nat.testBit_two_pow_sub_one]
  by_cases h : i < t
  · have h32 : i < 32 := by
      refine Nat.lt_of_not_le (fun h3 => ?_)
      have : 2 ^ 32 ≤ 2 ^ t := Nat.pow_le_pow_right (by decide) (by omega)
      have h4 : 2 ^ t ≤ x := by rw [e]; exact Nat.le_mul_of_pos_right _ (by omega)
      omega
    have hb : x.testBit i = false := by
      rw [e2, Nat.testBit_two_pow_mul_add _ hp, if_pos h, Nat.zero_testBit]
    rw [if_pos h, hb, decide_eq_true h, decide_eq_true h32]
    rfl
  · rw [if_neg h, decide_eq_false h]
    have hb : x.testBit i = (2 * q + 1).testBit (i - t) := by
      rw [e2, Nat.testBit_two_pow_mul_add _ hp, if_neg h]
    by_cases h5 : i - t = 0
    · rw [h5, Nat.testBit_zero]
      have : 2 * q % 2 = 0 := by omega
      rw [this]
      simp
    · obtain ⟨k, hk⟩ : ∃ k, i - t = k + 1 := ⟨i - t - 1, by omega⟩
      have e3 : (2 * q).testBit (k + 1) = q.testBit k := by rw [Nat.testBit_succ]; congr 1; omega
      have e4 : (2 * q + 1).testBit (k + 1) = q.testBit k := by rw [Nat.testBit_succ]; congr 1; omega
      rw [hb, hk, e3, e4]
      by_cases h32 : i < 32
      · rw [decide_eq_true h32]
        cases q.testBit k <;> rfl
      · have h6 : x.testBit i = false := Nat.testBit_lt_two_pow (Nat.lt_of_lt_of_le hx (Nat.pow_le_pow_right (by decide) (by omega)))
        rw [hb, hk, e4] at h6
        rw [h6]
        simp
variable {S : xS} {I : xI} {J : xJ} {D : xDb} {R : xR} {b : Nat × Nat} {Q : xQ}
theorem pm_lt {t : Nat} (h : t ≤ 31) : 2 ^ t - 1 < 2147483648 ∧ 2 ^ t ≤ 2147483648 := by
  have := Nat.pow_le_pow_right (show 0 < 2 by decide) h
  omega
theorem pm_le {t k : Nat} (hk : 1 ≤ k) : (2 ^ t - 1 ≤ 2 ^ k) = (t ≤ k) := by
  have := Nat.two_pow_pos k
  have := Nat.two_pow_pos t
  apply propext
  constructor
  · intro h
    refine Nat.le_of_not_lt (fun h2 => ?_)
    have h3 := Nat.pow_le_pow_right (show 0 < 2 by decide) (show k + 1 ≤ t from h2)
    rw [Nat.pow_succ] at h3
    have h4 : 2 ^ 1 ≤ 2 ^ k := Nat.pow_le_pow_right (by decide) hk
    omega
  · intro h
    have := Nat.pow_le_pow_right (show 0 < 2 by decide) h
    omega
theorem pm_sh {t k : Nat} (h : k < t) : (2 ^ t - 1) / 2 ^ k = 2 ^ (t - k) - 1 := by
  have hp := Nat.two_pow_pos k
  have e : 2 ^ t = 2 ^ k * 2 ^ (t - k) := by rw [← Nat.pow_add]; congr 1; omega
  have hq := Nat.two_pow_pos (t - k)
  have e2 : 2 ^ t - 1 = 2 ^ k * (2 ^ (t - k) - 1) + (2 ^ k - 1) := by
    rw [e, Nat.mul_sub, Nat.mul_one]
    have : 2 ^ k * 1 ≤ 2 ^ k * 2 ^ (t - k) := Nat.mul_le_mul_left _ hq
    omega
  rw [e2, Nat.mul_add_div hp, Nat.div_eq_of_lt (by omega), Nat.add_zero]
theorem t_17 {t : Nat} (h : t ≤ 31) : xRun xT 5 17 [(0, .int (nI (2 ^ t - 1)))] [] (S, I, J, D, R) b Q = xRun xT 5 34 [(0, .int (nI (2 ^ (if t ≤ 16 then t else t - 16) - 1))), (1, .int (nI (if t ≤ 16 then 1 else 17)))] [] (S, I, J, D, R) b Q := by
  have hb := pm_lt h
  have e1 : (nI (2 ^ t - 1) ≤ 65536) = (t ≤ 16) := by rw [show (65536 : Int32) = nI (2 ^ 16) from rfl, nI_leP hb.1 (by decide), pm_le (by decide)]
  rw [e5_17]
  by_cases h1 : t ≤ 16
  · simp only [B5_17, xSeq, i_push, i_load, i_iload, i_lload, i_dload, i_aload, i_istore, i_astore, i_lstore, i_dstore, i_iinc, i_ii, i_iiz, i_ll, i_llz, i_lli, i_li, i_i, i_l, i_i2l, i_l2i, i_dup, i_dup2, i_dup2w, i_dupx1, i_pop, i_pop2, i_goto, i_ifc, i_icmp, i_getI, i_getL, i_getR, i_putI, i_putZ, i_putL, i_putR, i_aldI, i_aldB, i_aldL, i_aldD, i_astI, i_astL, i_astD, i_alen, i_ret, i_iret, i_zret, i_lret, i_fret, i_dret, i_aret, i_invS0, i_invV0, i_m2, i_m1, i_ml, i_obj, lk, lkp, stf1, stf2, Value.category, rV, xTo, lv_args, xCk, xCat, xRc, xAk, hg_S, hg_I, hg_J, hg_D, hg_R, hs_I, hs_J, hs_D, hs_R, uI_at, uJ_at, uD_at, uR_at, List.take_succ_cons, List.take_zero, List.drop_succ_cons, List.drop_zero, List.reverse_cons, List.reverse_nil, List.nil_append, List.cons_append, List.map_cons, List.map_nil, List.sum_cons, List.sum_nil, List.length_cons, List.length_nil, Option.toList_some, Option.toList_none, true_and, and_true, false_and, and_false, true_implies, false_implies, implies_true, not_true_eq_false, not_false_eq_true, ne_eq, if_true, if_false, Bool.and_true, Bool.true_and, decide_true, decide_false, reduceIte, reduceCtorEq, Bool.and_self, Bool.and_eq_true, decide_eq_true_eq, and_self, true_or, or_true, false_or, or_false, Nat.zero_add, Nat.add_zero, eq_self, Nat.reduceEqDiff, Nat.reduceLeDiff, Nat.reduceLT, Nat.reduceAdd, Nat.reduceSub, Nat.reduceMul, e1, h1, if_true]
    rfl
  · simp only [B5_17, xSeq, i_push, i_load, i_iload, i_lload, i_dload, i_aload, i_istore, i_astore, i_lstore, i_dstore, i_iinc, i_ii, i_iiz, i_ll, i_llz, i_lli, i_li, i_i, i_l, i_i2l, i_l2i, i_dup, i_dup2, i_dup2w, i_dupx1, i_pop, i_pop2, i_goto, i_ifc, i_icmp, i_getI, i_getL, i_getR, i_putI, i_putZ, i_putL, i_putR, i_aldI, i_aldB, i_aldL, i_aldD, i_astI, i_astL, i_astD, i_alen, i_ret, i_iret, i_zret, i_lret, i_fret, i_dret, i_aret, i_invS0, i_invV0, i_m2, i_m1, i_ml, i_obj, lk, lkp, stf1, stf2, Value.category, rV, xTo, lv_args, xCk, xCat, xRc, xAk, hg_S, hg_I, hg_J, hg_D, hg_R, hs_I, hs_J, hs_D, hs_R, uI_at, uJ_at, uD_at, uR_at, List.take_succ_cons, List.take_zero, List.drop_succ_cons, List.drop_zero, List.reverse_cons, List.reverse_nil, List.nil_append, List.cons_append, List.map_cons, List.map_nil, List.sum_cons, List.sum_nil, List.length_cons, List.length_nil, Option.toList_some, Option.toList_none, true_and, and_true, false_and, and_false, true_implies, false_implies, implies_true, not_true_eq_false, not_false_eq_true, ne_eq, if_true, if_false, Bool.and_true, Bool.true_and, decide_true, decide_false, reduceIte, reduceCtorEq, Bool.and_self, Bool.and_eq_true, decide_eq_true_eq, and_self, true_or, or_true, false_or, or_false, Nat.zero_add, Nat.add_zero, eq_self, Nat.reduceEqDiff, Nat.reduceLeDiff, Nat.reduceLT, Nat.reduceAdd, Nat.reduceSub, Nat.reduceMul, e1, h1, if_false, i_ushr (show 2 ^ t - 1 < 2 ^ 32 by omega) 16 16 (by decide), pm_sh (show 16 < t by omega)]
    rfl
theorem t_34 {t m : Nat} (h : t ≤ 16) : xRun xT 5 34 [(0, .int (nI (2 ^ t - 1))), (1, .int (nI m))] [] (S, I, J, D, R) b Q = xRun xT 5 49 [(0, .int (nI (2 ^ (if t ≤ 8 then t else t - 8) - 1))), (1, .int (nI (if t ≤ 8 then m else m + 8)))] [] (S, I, J, D, R) b Q := by
  have hb := pm_lt (show t ≤ 31 by omega)
  have e1 : (nI (2 ^ t - 1) ≤ 256) = (t ≤ 8) := by rw [show (256 : Int32) = nI (2 ^ 8) from rfl, nI_leP hb.1 (by decide), pm_le (by decide)]
  have e8 : nI m + 8 = nI (m + 8) := by rw [show (8 : Int32) = nI 8 from rfl, nI_add]
  rw [e5_34]
  by_cases h1 : t ≤ 8
  · simp only [B5_34, xSeq, i_push, i_load, i_iload, i_lload, i_dload, i_aload, i_istore, i_astore, i_lstore, i_dstore, i_iinc, i_ii, i_iiz, i_ll, i_llz, i_lli, i_li, i_i, i_l, i_i2l, i_l2i, i_dup, i_dup2, i_dup2w, i_dupx1, i_pop, i_pop2, i_goto, i_ifc, i_icmp, i_getI, i_getL, i_getR, i_putI, i_putZ, i_putL, i_putR, i_aldI, i_aldB, i_aldL, i_aldD, i_astI, i_astL, i_astD, i_alen, i_ret, i_iret, i_zret, i_lret, i_fret, i_dret, i_aret, i_invS0, i_invV0, i_m2, i_m1, i_ml, i_obj, lk, lkp, stf1, stf2, Value.category, rV, xTo, lv_args, xCk, xCat, xRc, xAk, hg_S, hg_I, hg_J, hg_D, hg_R, hs_I, hs_J, hs_D, hs_R, uI_at, uJ_at, uD_at, uR_at, List.take_succ_cons, List.take_zero, List.drop_succ_cons, List.drop_zero, List.reverse_cons, List.reverse_nil, List.nil_append, List.cons_append, List.map_cons, List.map_nil, List.sum_cons, List.sum_nil, List.length_cons, List.length_nil, Option.toList_some, Option.toList_none, true_and, and_true, false_and, and_false, true_implies, false_implies, implies_true, not_true_eq_false, not_false_eq_true, ne_eq, if_true, if_false, Bool.and_true, Bool.true_and, decide_true, decide_false, reduceIte, reduceCtorEq, Bool.and_self, Bool.and_eq_true, decide_eq_true_eq, and_self, true_or, or_true, false_or, or_false, Nat.zero_add, Nat.add_zero, eq_self, Nat.reduceEqDiff, Nat.reduceLeDiff, Nat.reduceLT, Nat.reduceAdd, Nat.reduceSub, Nat.reduceMul, e1, h1, if_true]
  · simp only [B5_34, xSeq, i_push, i_load, i_iload, i_lload, i_dload, i_aload, i_istore, i_astore, i_lstore, i_dstore, i_iinc, i_ii, i_iiz, i_ll, i_llz, i_lli, i_li, i_i, i_l, i_i2l, i_l2i, i_dup, i_dup2, i_dup2w, i_dupx1, i_pop, i_pop2, i_goto, i_ifc, i_icmp, i_getI, i_getL, i_getR, i_putI, i_putZ, i_putL, i_putR, i_aldI, i_aldB, i_aldL, i_aldD, i_astI, i_astL, i_astD, i_alen, i_ret, i_iret, i_zret, i_lret, i_fret, i_dret, i_aret, i_invS0, i_invV0, i_m2, i_m1, i_ml, i_obj, lk, lkp, stf1, stf2, Value.category, rV, xTo, lv_args, xCk, xCat, xRc, xAk, hg_S, hg_I, hg_J, hg_D, hg_R, hs_I, hs_J, hs_D, hs_R, uI_at, uJ_at, uD_at, uR_at, List.take_succ_cons, List.take_zero, List.drop_succ_cons, List.drop_zero, List.reverse_cons, List.reverse_nil, List.nil_append, List.cons_append, List.map_cons, List.map_nil, List.sum_cons, List.sum_nil, List.length_cons, List.length_nil, Option.toList_some, Option.toList_none, true_and, and_true, false_and, and_false, true_implies, false_implies, implies_true, not_true_eq_false, not_false_eq_true, ne_eq, if_true, if_false, Bool.and_true, Bool.true_and, decide_true, decide_false, reduceIte, reduceCtorEq, Bool.and_self, Bool.and_eq_true, decide_eq_true_eq, and_self, true_or, or_true, false_or, or_false, Nat.zero_add, Nat.add_zero, eq_self, Nat.reduceEqDiff, Nat.reduceLeDiff, Nat.reduceLT, Nat.reduceAdd, Nat.reduceSub, Nat.reduceMul, e1, h1, if_false, e8, i_ushr (show 2 ^ t - 1 < 2 ^ 32 by omega) 8 8 (by decide), pm_sh (show 8 < t by omega)]
theorem t_49 {t m : Nat} (h : t ≤ 8) : xRun xT 5 49 [(0, .int (nI (2 ^ t - 1))), (1, .int (nI m))] [] (S, I, J, D, R) b Q = xRun xT 5 62 [(0, .int (nI (2 ^ (if t ≤ 4 then t else t - 4) - 1))), (1, .int (nI (if t ≤ 4 then m else m + 4)))] [] (S, I, J, D, R) b Q := by
  have hb := pm_lt (show t ≤ 31 by omega)
  have e1 : (nI (2 ^ t - 1) ≤ 16) = (t ≤ 4) := by rw [show (16 : Int32) = nI (2 ^ 4) from rfl, nI_leP hb.1 (by decide), pm_le (by decide)]
  have e8 : nI m + 4 = nI (m + 4) := by rw [show (4 : Int32) = nI 4 from rfl, nI_add]
  rw [e5_49]
  by_cases h1 : t ≤ 4
  · simp only [B5_49, xSeq, i_push, i_load, i_iload, i_lload, i_dload, i_aload, i_istore, i_astore, i_lstore, i_dstore, i_iinc, i_ii, i_iiz, i_ll, i_llz, i_lli, i_li, i_i, i_l, i_i2l, i_l2i, i_dup, i_dup2, i_dup2w, i_dupx1, i_pop, i_pop2, i_goto, i_ifc, i_icmp, i_getI, i_getL, i_getR, i_putI, i_putZ, i_putL, i_putR, i_aldI, i_aldB, i_aldL, i_aldD, i_astI, i_astL, i_astD, i_alen, i_ret, i_iret, i_zret, i_lret, i_fret, i_dret, i_aret, i_invS0, i_invV0, i_m2, i_m1, i_ml, i_obj, lk, lkp, stf1, stf2, Value.category, rV, xTo, lv_args, xCk, xCat, xRc, xAk, hg_S, hg_I, hg_J, hg_D, hg_R, hs_I, hs_J, hs_D, hs_R, uI_at, uJ_at, uD_at, uR_at, List.take_succ_cons, List.take_zero, List.drop_succ_cons, List.drop_zero, List.reverse_cons, List.reverse_nil, List.nil_append, List.cons_append, List.map_cons, List.map_nil, List.sum_cons, List.sum_nil, List.length_cons, List.length_nil, Option.toList_some, Option.toList_none, true_and, and_true, false_and, and_false, true_implies, false_implies, implies_true, not_true_eq_false, not_false_eq_true, ne_eq, if_true, if_false, Bool.and_true, Bool.true_and, decide_true, decide_false, reduceIte, reduceCtorEq, Bool.and_self, Bool.and_eq_true, decide_eq_true_eq, and_self, true_or, or_true, false_or, or_false, Nat.zero_add, Nat.add_zero, eq_self, Nat.reduceEqDiff, Nat.reduceLeDiff, Nat.reduceLT, Nat.reduceAdd, Nat.reduceSub, Nat.reduceMul, e1, h1, if_true]
  · simp only [B5_49, xSeq, i_push, i_load, i_iload, i_lload, i_dload, i_aload, i_istore, i_astore, i_lstore, i_dstore, i_iinc, i_ii, i_iiz, i_ll, i_llz, i_lli, i_li, i_i, i_l, i_i2l, i_l2i, i_dup, i_dup2, i_dup2w, i_dupx1, i_pop, i_pop2, i_goto, i_ifc, i_icmp, i_getI, i_getL, i_getR, i_putI, i_putZ, i_putL, i_putR, i_aldI, i_aldB, i_aldL, i_aldD, i_astI, i_astL, i_astD, i_alen, i_ret, i_iret, i_zret, i_lret, i_fret, i_dret, i_aret, i_invS0, i_invV0, i_m2, i_m1, i_ml, i_obj, lk, lkp, stf1, stf2, Value.category, rV, xTo, lv_args, xCk, xCat, xRc, xAk, hg_S, hg_I, hg_J, hg_D, hg_R, hs_I, hs_J, hs_D, hs_R, uI_at, uJ_at, uD_at, uR_at, List.take_succ_cons, List.take_zero, List.drop_succ_cons, List.drop_zero, List.reverse_cons, List.reverse_nil, List.nil_append, List.cons_append, List.map_cons, List.map_nil, List.sum_cons, List.sum_nil, List.length_cons, List.length_nil, Option.toList_some, Option.toList_none, true_and, and_true, false_and, and_false, true_implies, false_implies, implies_true, not_true_eq_false, not_false_eq_true, ne_eq, if_true, if_false, Bool.and_true, Bool.true_and, decide_true, decide_false, reduceIte, reduceCtorEq, Bool.and_self, Bool.and_eq_true, decide_eq_true_eq, and_self, true_or, or_true, false_or, or_false, Nat.zero_add, Nat.add_zero, eq_self, Nat.reduceEqDiff, Nat.reduceLeDiff, Nat.reduceLT, Nat.reduceAdd, Nat.reduceSub, Nat.reduceMul, e1, h1, if_false, e8, i_ushr (show 2 ^ t - 1 < 2 ^ 32 by omega) 4 4 (by decide), pm_sh (show 4 < t by omega)]
theorem t_62 {t m : Nat} (h : t ≤ 4) : xRun xT 5 62 [(0, .int (nI (2 ^ t - 1))), (1, .int (nI m))] [] (S, I, J, D, R) b Q = xRun xT 5 74 [(0, .int (nI (2 ^ (if t ≤ 2 then t else t - 2) - 1))), (1, .int (nI (if t ≤ 2 then m else m + 2)))] [] (S, I, J, D, R) b Q := by
  have hb := pm_lt (show t ≤ 31 by omega)
  have e1 : (nI (2 ^ t - 1) ≤ 4) = (t ≤ 2) := by rw [show (4 : Int32) = nI (2 ^ 2) from rfl, nI_leP hb.1 (by decide), pm_le (by decide)]
  have e8 : nI m + 2 = nI (m + 2) := by rw [show (2 : Int32) = nI 2 from rfl, nI_add]
  rw [e5_62]
  by_cases h1 : t ≤ 2
  · simp only [B5_62, xSeq, i_push, i_load, i_iload, i_lload, i_dload, i_aload, i_istore, i_astore, i_lstore, i_dstore, i_iinc, i_ii, i_iiz, i_ll, i_llz, i_lli, i_li, i_i, i_l, i_i2l, i_l2i, i_dup, i_dup2, i_dup2w, i_dupx1, i_pop, i_pop2, i_goto, i_ifc, i_icmp, i_getI, i_getL, i_getR, i_putI, i_putZ, i_putL, i_putR, i_aldI, i_aldB, i_aldL, i_aldD, i_astI, i_astL, i_astD, i_alen, i_ret, i_iret, i_zret, i_lret, i_fret, i_dret, i_aret, i_invS0, i_invV0, i_m2, i_m1, i_ml, i_obj, lk, lkp, stf1, stf2, Value.category, rV, xTo, lv_args, xCk, xCat, xRc, xAk, hg_S, hg_I, hg_J, hg_D, hg_R, hs_I, hs_J, hs_D, hs_R, uI_at, uJ_at, uD_at, uR_at, List.take_succ_cons, List.take_zero, List.drop_succ_cons, List.drop_zero, List.reverse_cons, List.reverse_nil, List.nil_append, List.cons_append, List.map_cons, List.map_nil, List.sum_cons, List.sum_nil, List.length_cons, List.length_nil, Option.toList_some, Option.toList_none, true_and, and_true, false_and, and_false, true_implies, false_implies, implies_true, not_true_eq_false, not_false_eq_true, ne_eq, if_true, if_false, Bool.and_true, Bool.true_and, decide_true, decide_false, reduceIte, reduceCtorEq, Bool.and_self, Bool.and_eq_true, decide_eq_true_eq, and_self, true_or, or_true, false_or, or_false, Nat.zero_add, Nat.add_zero, eq_self, Nat.reduceEqDiff, Nat.reduceLeDiff, Nat.reduceLT, Nat.reduceAdd, Nat.reduceSub, Nat.reduceMul, e1, h1, if_true]
  · simp only [B5_62, xSeq, i_push, i_load, i_iload, i_lload, i_dload, i_aload, i_istore, i_astore, i_lstore, i_dstore, i_iinc, i_ii, i_iiz, i_ll, i_llz, i_lli, i_li, i_i, i_l, i_i2l, i_l2i, i_dup, i_dup2, i_dup2w, i_dupx1, i_pop, i_pop2, i_goto, i_ifc, i_icmp, i_getI, i_getL, i_getR, i_putI, i_putZ, i_putL, i_putR, i_aldI, i_aldB, i_aldL, i_aldD, i_astI, i_astL, i_astD, i_alen, i_ret, i_iret, i_zret, i_lret, i_fret, i_dret, i_aret, i_invS0, i_invV0, i_m2, i_m1, i_ml, i_obj, lk, lkp, stf1, stf2, Value.category, rV, xTo, lv_args, xCk, xCat, xRc, xAk, hg_S, hg_I, hg_J, hg_D, hg_R, hs_I, hs_J, hs_D, hs_R, uI_at, uJ_at, uD_at, uR_at, List.take_succ_cons, List.take_zero, List.drop_succ_cons, List.drop_zero, List.reverse_cons, List.reverse_nil, List.nil_append, List.cons_append, List.map_cons, List.map_nil, List.sum_cons, List.sum_nil, List.length_cons, List.length_nil, Option.toList_some, Option.toList_none, true_and, and_true, false_and, and_false, true_implies, false_implies, implies_true, not_true_eq_false, not_false_eq_true, ne_eq, if_true, if_false, Bool.and_true, Bool.true_and, decide_true, decide_false, reduceIte, reduceCtorEq, Bool.and_self, Bool.and_eq_true, decide_eq_true_eq, and_self, true_or, or_true, false_or, or_false, Nat.zero_add, Nat.add_zero, eq_self, Nat.reduceEqDiff, Nat.reduceLeDiff, Nat.reduceLT, Nat.reduceAdd, Nat.reduceSub, Nat.reduceMul, e1, h1, if_false, e8, i_ushr (show 2 ^ t - 1 < 2 ^ 32 by omega) 2 2 (by decide), pm_sh (show 2 < t by omega)]
theorem t_74 {t m : Nat} (h0 : 1 ≤ t) (h : t ≤ 2) : xRun xT 5 74 [(0, .int (nI (2 ^ t - 1))), (1, .int (nI m))] [] (S, I, J, D, R) b Q = Q (.ok (some (.int (nI (m + t - 1))))) (S, I, J, D, R) b := by
  have e : (2 ^ t - 1) / 2 ^ 1 = t - 1 := by
    rcases (show t = 1 ∨ t = 2 by omega) with rfl | rfl <;> rfl
  have hb := pm_lt (show t ≤ 31 by omega)
  rw [e5_74]
  simp only [B5_74, xSeq, i_push, i_load, i_iload, i_lload, i_dload, i_aload, i_istore, i_astore, i_lstore, i_dstore, i_iinc, i_ii, i_iiz, i_ll, i_llz, i_lli, i_li, i_i, i_l, i_i2l, i_l2i, i_dup, i_dup2, i_dup2w, i_dupx1, i_pop, i_pop2, i_goto, i_ifc, i_icmp, i_getI, i_getL, i_getR, i_putI, i_putZ, i_putL, i_putR, i_aldI, i_aldB, i_aldL, i_aldD, i_astI, i_astL, i_astD, i_alen, i_ret, i_iret, i_zret, i_lret, i_fret, i_dret, i_aret, i_invS0, i_invV0, i_m2, i_m1, i_ml, i_obj, lk, lkp, stf1, stf2, Value.category, rV, xTo, lv_args, xCk, xCat, xRc, xAk, hg_S, hg_I, hg_J, hg_D, hg_R, hs_I, hs_J, hs_D, hs_R, uI_at, uJ_at, uD_at, uR_at, List.take_succ_cons, List.take_zero, List.drop_succ_cons, List.drop_zero, List.reverse_cons, List.reverse_nil, List.nil_append, List.cons_append, List.map_cons, List.map_nil, List.sum_cons, List.sum_nil, List.length_cons, List.length_nil, Option.toList_some, Option.toList_none, true_and, and_true, false_and, and_false, true_implies, false_implies, implies_true, not_true_eq_false, not_false_eq_true, ne_eq, if_true, if_false, Bool.and_true, Bool.true_and, decide_true, decide_false, reduceIte, reduceCtorEq, Bool.and_self, Bool.and_eq_true, decide_eq_true_eq, and_self, true_or, or_true, false_or, or_false, Nat.zero_add, Nat.add_zero, eq_self, Nat.reduceEqDiff, Nat.reduceLeDiff, Nat.reduceLT, Nat.reduceAdd, Nat.reduceSub, Nat.reduceMul, i_ushr (show 2 ^ t - 1 < 2 ^ 32 by omega) 1 1 (by decide), e, nI_add]
  rw [show m + (t - 1) = m + t - 1 by omega]
theorem Y5 {x t q : Nat} (hx : x < 2 ^ 32) (e : x = 2 ^ t * (2 * q + 1)) : xRun xT 5 0 [(0, .int (nI x))] [] (S, I, J, D, R) b Q = Q (.ok (some (.int (nI t)))) (S, I, J, D, R) b := by
  have hp := Nat.two_pow_pos t
  have hx0 : 2 ^ t ≤ x := by rw [e]; exact Nat.le_mul_of_pos_right _ (by omega)
  have ht : t ≤ 31 := by
    refine Nat.le_of_not_lt (fun h3 => ?_)
    have : 2 ^ 32 ≤ 2 ^ t := Nat.pow_le_pow_right (by decide) (by omega)
    omega
  have e1 : (nI x ^^^ -1) &&& (nI x - 1) = nI (2 ^ t - 1) := by
    rw [show (-1 : Int32) = nI 4294967295 from by decide, i_xorN, show (1 : Int32) = nI 1 from rfl, nI_subn (show 1 ≤ x by omega), i_andN, low_mask hx e]
  have hb := pm_lt ht
  rw [e5_0]
  simp only [B5_0, xSeq, i_push, i_load, i_iload, i_lload, i_dload, i_aload, i_istore, i_astore, i_lstore, i_dstore, i_iinc, i_ii, i_iiz, i_ll, i_llz, i_lli, i_li, i_i, i_l, i_i2l, i_l2i, i_dup, i_dup2, i_dup2w, i_dupx1, i_pop, i_pop2, i_goto, i_ifc, i_icmp, i_getI, i_getL, i_getR, i_putI, i_putZ, i_putL, i_putR, i_aldI, i_aldB, i_aldL, i_aldD, i_astI, i_astL, i_astD, i_alen, i_ret, i_iret, i_zret, i_lret, i_fret, i_dret, i_aret, i_invS0, i_invV0, i_m2, i_m1, i_ml, i_obj, lk, lkp, stf1, stf2, Value.category, rV, xTo, lv_args, xCk, xCat, xRc, xAk, hg_S, hg_I, hg_J, hg_D, hg_R, hs_I, hs_J, hs_D, hs_R, uI_at, uJ_at, uD_at, uR_at, List.take_succ_cons, List.take_zero, List.drop_succ_cons, List.drop_zero, List.reverse_cons, List.reverse_nil, List.nil_append, List.cons_append, List.map_cons, List.map_nil, List.sum_cons, List.sum_nil, List.length_cons, List.length_nil, Option.toList_some, Option.toList_none, true_and, and_true, false_and, and_false, true_implies, false_implies, implies_true, not_true_eq_false, not_false_eq_true, ne_eq, if_true, if_false, Bool.and_true, Bool.true_and, decide_true, decide_false, reduceIte, reduceCtorEq, Bool.and_self, Bool.and_eq_true, decide_eq_true_eq, and_self, true_or, or_true, false_or, or_false, Nat.zero_add, Nat.add_zero, eq_self, Nat.reduceEqDiff, Nat.reduceLeDiff, Nat.reduceLT, Nat.reduceAdd, Nat.reduceSub, Nat.reduceMul, e1]
  rcases Nat.eq_zero_or_pos t with h0 | h0
  · subst h0
    simp only [show ((0 : Int32) < nI (2 ^ 0 - 1)) = False from eq_false (by decide), xSeq, i_push, i_load, i_iload, i_lload, i_dload, i_aload, i_istore, i_astore, i_lstore, i_dstore, i_iinc, i_ii, i_iiz, i_ll, i_llz, i_lli, i_li, i_i, i_l, i_i2l, i_l2i, i_dup, i_dup2, i_dup2w, i_dupx1, i_pop, i_pop2, i_goto, i_ifc, i_icmp, i_getI, i_getL, i_getR, i_putI, i_putZ, i_putL, i_putR, i_aldI, i_aldB, i_aldL, i_aldD, i_astI, i_astL, i_astD, i_alen, i_ret, i_iret, i_zret, i_lret, i_fret, i_dret, i_aret, i_invS0, i_invV0, i_m2, i_m1, i_ml, i_obj, lk, lkp, stf1, stf2, Value.category, rV, xTo, lv_args, xCk, xCat, xRc, xAk, hg_S, hg_I, hg_J, hg_D, hg_R, hs_I, hs_J, hs_D, hs_R, uI_at, uJ_at, uD_at, uR_at, List.take_succ_cons, List.take_zero, List.drop_succ_cons, List.drop_zero, List.reverse_cons, List.reverse_nil, List.nil_append, List.cons_append, List.map_cons, List.map_nil, List.sum_cons, List.sum_nil, List.length_cons, List.length_nil, Option.toList_some, Option.toList_none, true_and, and_true, false_and, and_false, true_implies, false_implies, implies_true, not_true_eq_false, not_false_eq_true, ne_eq, if_true, if_false, Bool.and_true, Bool.true_and, decide_true, decide_false, reduceIte, reduceCtorEq, Bool.and_self, Bool.and_eq_true, decide_eq_true_eq, and_self, true_or, or_true, false_or, or_false, Nat.zero_add, Nat.add_zero, eq_self, Nat.reduceEqDiff, Nat.reduceLeDiff, Nat.reduceLT, Nat.reduceAdd, Nat.reduceSub, Nat.reduceMul, show (nI (2 ^ 0 - 1) &&& 32 : Int32) = nI 0 from by decide]
  · have h2 : 2 ^ 1 ≤ 2 ^ t := Nat.pow_le_pow_right (by decide) h0
    have e2 : ((0 : Int32) < nI (2 ^ t - 1)) = True := eq_true (by
      rw [show (0 : Int32) = nI 0 from rfl, nI_ltI (by decide) hb.1]
      omega)
    simp only [e2, xSeq, i_push, i_load, i_iload, i_lload, i_dload, i_aload, i_istore, i_astore, i_lstore, i_dstore, i_iinc, i_ii, i_iiz, i_ll, i_llz, i_lli, i_li, i_i, i_l, i_i2l, i_l2i, i_dup, i_dup2, i_dup2w, i_dupx1, i_pop, i_pop2, i_goto, i_ifc, i_icmp, i_getI, i_getL, i_getR, i_putI, i_putZ, i_putL, i_putR, i_aldI, i_aldB, i_aldL, i_aldD, i_astI, i_astL, i_astD, i_alen, i_ret, i_iret, i_zret, i_lret, i_fret, i_dret, i_aret, i_invS0, i_invV0, i_m2, i_m1, i_ml, i_obj, lk, lkp, stf1, stf2, Value.category, rV, xTo, lv_args, xCk, xCat, xRc, xAk, hg_S, hg_I, hg_J, hg_D, hg_R, hs_I, hs_J, hs_D, hs_R, uI_at, uJ_at, uD_at, uR_at, List.take_succ_cons, List.take_zero, List.drop_succ_cons, List.drop_zero, List.reverse_cons, List.reverse_nil, List.nil_append, List.cons_append, List.map_cons, List.map_nil, List.sum_cons, List.sum_nil, List.length_cons, List.length_nil, Option.toList_some, Option.toList_none, true_and, and_true, false_and, and_false, true_implies, false_implies, implies_true, not_true_eq_false, not_false_eq_true, ne_eq, if_true, if_false, Bool.and_true, Bool.true_and, decide_true, decide_false, reduceIte, reduceCtorEq, Bool.and_self, Bool.and_eq_true, decide_eq_true_eq, and_self, true_or, or_true, false_or, or_false, Nat.zero_add, Nat.add_zero, eq_self, Nat.reduceEqDiff, Nat.reduceLeDiff, Nat.reduceLT, Nat.reduceAdd, Nat.reduceSub, Nat.reduceMul]
    rw [t_17 ht, t_34 (by split <;> omega), t_49 (by repeat' split
                                                     all_goals omega), t_62 (by repeat' split
                                                                                all_goals omega), t_74 (by repeat' split
                                                                                                           all_goals omega) (by repeat' split
                                                                                                                                all_goals omega)]
    refine congrArg (fun z => Q (.ok (some (.int (nI z)))) (S, I, J, D, R) b) ?_
    repeat' split
    all_goals omega
theorem lN_i32 {x : Nat} (hx : x < 2 ^ 64) : (lN x).toInt32 = nI (x % 4294967296) := by
  rw [lN_i]
  apply i_inj
  rw [i_tb, i_tb]
  apply BitVec.eq_of_toNat_eq
  rw [BitVec.toNat_ofNat, BitVec.toNat_ofNat]
  omega
theorem nI_ne0' {k : Nat} (h : k < 4294967296) : (nI k = 0) = (k = 0) := by
  apply propext
  constructor
  · intro e
    have h2 : (nI k).toBitVec.toNat = (0 : Int32).toBitVec.toNat := by rw [e]
    rw [pk_tn h] at h2
    exact h2
  · rintro rfl
    rfl
theorem Y3 {x : Nat} (h0 : 0 < x) (hx : x < 2 ^ 64) : xRun xT 3 0 [(0, .long (lN x))] [] (S, I, J, D, R) b Q = Q (.ok (some (.int (nI (tzf 64 x))))) (S, I, J, D, R) b := by
  have hq : x < 18446744073709551616 := hx
  have e1 := lN_i32 hx
  rw [e3_0]
  by_cases h : x % 4294967296 = 0
  · have e2 : (nI (x % 4294967296) = 0) = True := by rw [nI_ne0' (by omega)]; exact eq_true h
    have e3 : (jLushr (lN x) 32).toInt32 = nI (x / 4294967296) := by
      rw [show (32 : Int32) = nI 32 from rfl, q_ushr hx (by decide), lN_i]
    obtain ⟨t, q, h1, h2⟩ := tz_ex 32 (x / 4294967296) (by omega) (by omega)
    have h3 : x = 2 ^ (t + 32) * (2 * q + 1) := by
      have : x = 4294967296 * (x / 4294967296) := by omega
      rw [this, h2, Nat.pow_add, Nat.mul_comm (2 ^ t) (2 ^ 32), Nat.mul_assoc]
    have h4 : tzf 64 x = t + 32 := by rw [h3]; exact tz_u _ _ _ (by omega)
    have hY := fun (b : Nat × Nat) (Q : xQ) => Y5 (S := S) (I := I) (J := J) (D := D) (R := R) (b := b) (Q := Q) (x := x / 4294967296) (by omega) h2
    have e5 : (32 : Int32) + nI t = nI (t + 32) := by rw [show (32 : Int32) = nI 32 from rfl, nI_add, Nat.add_comm]
    simp only [B3_0, xSeq, i_push, i_load, i_iload, i_lload, i_dload, i_aload, i_istore, i_astore, i_lstore, i_dstore, i_iinc, i_ii, i_iiz, i_ll, i_llz, i_lli, i_li, i_i, i_l, i_i2l, i_l2i, i_dup, i_dup2, i_dup2w, i_dupx1, i_pop, i_pop2, i_goto, i_ifc, i_icmp, i_getI, i_getL, i_getR, i_putI, i_putZ, i_putL, i_putR, i_aldI, i_aldB, i_aldL, i_aldD, i_astI, i_astL, i_astD, i_alen, i_ret, i_iret, i_zret, i_lret, i_fret, i_dret, i_aret, i_invS0, i_invV0, i_m2, i_m1, i_ml, i_obj, lk, lkp, stf1, stf2, Value.category, rV, xTo, lv_args, xCk, xCat, xRc, xAk, hg_S, hg_I, hg_J, hg_D, hg_R, hs_I, hs_J, hs_D, hs_R, uI_at, uJ_at, uD_at, uR_at, List.take_succ_cons, List.take_zero, List.drop_succ_cons, List.drop_zero, List.reverse_cons, List.reverse_nil, List.nil_append, List.cons_append, List.map_cons, List.map_nil, List.sum_cons, List.sum_nil, List.length_cons, List.length_nil, Option.toList_some, Option.toList_none, true_and, and_true, false_and, and_false, true_implies, false_implies, implies_true, not_true_eq_false, not_false_eq_true, ne_eq, if_true, if_false, Bool.and_true, Bool.true_and, decide_true, decide_false, reduceIte, reduceCtorEq, Bool.and_self, Bool.and_eq_true, decide_eq_true_eq, and_self, true_or, or_true, false_or, or_false, Nat.zero_add, Nat.add_zero, eq_self, Nat.reduceEqDiff, Nat.reduceLeDiff, Nat.reduceLT, Nat.reduceAdd, Nat.reduceSub, Nat.reduceMul, e1, e2, ne_eq, not_true_eq_false, e3, hY, e5, e3_25, B3_25, h4]
  · have e2 : (nI (x % 4294967296) = 0) = False := by rw [nI_ne0' (by omega)]; exact eq_false h
    obtain ⟨t, q, h1, h2⟩ := tz_ex 32 (x % 4294967296) (by omega) (by omega)
    have h3 : x = 2 ^ t * (2 * (q + 2 ^ (31 - t) * (x / 4294967296)) + 1) := by
      have e6 : 2 ^ t * (2 * 2 ^ (31 - t)) = 4294967296 := by
        rw [← Nat.pow_succ', ← Nat.pow_add, show t + (31 - t + 1) = 32 by omega]
      have e7 : 2 ^ t * (2 * (q + 2 ^ (31 - t) * (x / 4294967296)) + 1) = 2 ^ t * (2 * q + 1) + 2 ^ t * (2 * 2 ^ (31 - t)) * (x / 4294967296) := by
        rw [Nat.mul_assoc (2 ^ t), ← Nat.mul_add]
        congr 1
        rw [Nat.mul_assoc 2]
        omega
      rw [e7, e6, ← h2]
      omega
    have h4 : tzf 64 x = t := by
      have := tz_u t 64 (q + 2 ^ (31 - t) * (x / 4294967296)) (by omega)
      rw [← h3] at this
      exact this
    have hY := fun (b : Nat × Nat) (Q : xQ) => Y5 (S := S) (I := I) (J := J) (D := D) (R := R) (b := b) (Q := Q) (x := x % 4294967296) (by omega) h2
    simp only [B3_0, xSeq, i_push, i_load, i_iload, i_lload, i_dload, i_aload, i_istore, i_astore, i_lstore, i_dstore, i_iinc, i_ii, i_iiz, i_ll, i_llz, i_lli, i_li, i_i, i_l, i_i2l, i_l2i, i_dup, i_dup2, i_dup2w, i_dupx1, i_pop, i_pop2, i_goto, i_ifc, i_icmp, i_getI, i_getL, i_getR, i_putI, i_putZ, i_putL, i_putR, i_aldI, i_aldB, i_aldL, i_aldD, i_astI, i_astL, i_astD, i_alen, i_ret, i_iret, i_zret, i_lret, i_fret, i_dret, i_aret, i_invS0, i_invV0, i_m2, i_m1, i_ml, i_obj, lk, lkp, stf1, stf2, Value.category, rV, xTo, lv_args, xCk, xCat, xRc, xAk, hg_S, hg_I, hg_J, hg_D, hg_R, hs_I, hs_J, hs_D, hs_R, uI_at, uJ_at, uD_at, uR_at, List.take_succ_cons, List.take_zero, List.drop_succ_cons, List.drop_zero, List.reverse_cons, List.reverse_nil, List.nil_append, List.cons_append, List.map_cons, List.map_nil, List.sum_cons, List.sum_nil, List.length_cons, List.length_nil, Option.toList_some, Option.toList_none, true_and, and_true, false_and, and_false, true_implies, false_implies, implies_true, not_true_eq_false, not_false_eq_true, ne_eq, if_true, if_false, Bool.and_true, Bool.true_and, decide_true, decide_false, reduceIte, reduceCtorEq, Bool.and_self, Bool.and_eq_true, decide_eq_true_eq, and_self, true_or, or_true, false_or, or_false, Nat.zero_add, Nat.add_zero, eq_self, Nat.reduceEqDiff, Nat.reduceLeDiff, Nat.reduceLT, Nat.reduceAdd, Nat.reduceSub, Nat.reduceMul, e1, e2, ne_eq, not_false_eq_true, e3_21, B3_21, hY, e3_25, B3_25, h4]
end
