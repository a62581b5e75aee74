/-! ===== digits ===== -/
section
def dg (m : Nat) : Nat := if m < 10 then 1 else if m < 100 then 2 else if m < 1000 then 3 else if m < 10000 then 4 else if m < 100000 then 5 else if m < 1000000 then 6 else if m < 10000000 then 7 else if m < 100000000 then 8 else if m < 1000000000 then 9 else 10
theorem dg_k (m : Nat) : (m < 10 ∧ dg m = 1) ∨ (10 ≤ m ∧ m < 100 ∧ dg m = 2) ∨ (100 ≤ m ∧ m < 1000 ∧ dg m = 3) ∨ (1000 ≤ m ∧ m < 10000 ∧ dg m = 4) ∨ (10000 ≤ m ∧ m < 100000 ∧ dg m = 5) ∨ (100000 ≤ m ∧ m < 1000000 ∧ dg m = 6) ∨ (1000000 ≤ m ∧ m < 10000000 ∧ dg m = 7) ∨ (10000000 ≤ m ∧ m < 100000000 ∧ dg m = 8) ∨ (100000000 ≤ m ∧ m < 1000000000 ∧ dg m = 9) ∨ (1000000000 ≤ m ∧ dg m = 10) := by
  by_cases h1 : m < 10
  · exact Or.inl ⟨h1, by rw [dg, if_pos h1]⟩
  by_cases h2 : m < 100
  · exact Or.inr (Or.inl ⟨Nat.le_of_not_lt h1, h2, by rw [dg, if_neg h1, if_pos h2]⟩)
  by_cases h3 : m < 1000
  · exact Or.inr (Or.inr (Or.inl ⟨Nat.le_of_not_lt h2, h3, by rw [dg, if_neg h1, if_neg h2, if_pos h3]⟩))
  by_cases h4 : m < 10000
  · exact Or.inr (Or.inr (Or.inr (Or.inl ⟨Nat.le_of_not_lt h3, h4, by rw [dg, if_neg h1, if_neg h2, if_neg h3, if_pos h4]⟩)))
  by_cases h5 : m < 100000
  · exact Or.inr (Or.inr (Or.inr (Or.inr (Or.inl ⟨Nat.le_of_not_lt h4, h5, by rw [dg, if_neg h1, if_neg h2, if_neg h3, if_neg h4, if_pos h5]⟩))))
  by_cases h6 : m < 1000000
  · exact Or.inr (Or.inr (Or.inr (Or.inr (Or.inr (Or.inl ⟨Nat.le_of_not_lt h5, h6, by rw [dg, if_neg h1, if_neg h2, if_neg h3, if_neg h4, if_neg h5, if_pos h6]⟩)))))
  by_cases h7 : m < 10000000
  · exact Or.inr (Or.inr (Or.inr (Or.inr (Or.inr (Or.inr (Or.inl ⟨Nat.le_of_not_lt h6, h7, by rw [dg, if_neg h1, if_neg h2, if_neg h3, if_neg h4, if_neg h5, if_neg h6, if_pos h7]⟩))))))
  by_cases h8 : m < 100000000
  · exact Or.inr (Or.inr (Or.inr (Or.inr (Or.inr (Or.inr (Or.inr (Or.inl ⟨Nat.le_of_not_lt h7, h8, by rw [dg, if_neg h1, if_neg h2, if_neg h3, if_neg h4, if_neg h5, if_neg h6, if_neg h7, if_pos h8]⟩)))))))
  by_cases h9 : m < 1000000000
  · exact Or.inr (Or.inr (Or.inr (Or.inr (Or.inr (Or.inr (Or.inr (Or.inr (Or.inl ⟨Nat.le_of_not_lt h8, h9, by rw [dg, if_neg h1, if_neg h2, if_neg h3, if_neg h4, if_neg h5, if_neg h6, if_neg h7, if_neg h8, if_pos h9]⟩))))))))
  exact Or.inr (Or.inr (Or.inr (Or.inr (Or.inr (Or.inr (Or.inr (Or.inr (Or.inr (⟨Nat.le_of_not_lt h9, by rw [dg, if_neg h1, if_neg h2, if_neg h3, if_neg h4, if_neg h5, if_neg h6, if_neg h7, if_neg h8, if_neg h9]⟩)))))))))
theorem dg_bd (m : Nat) : 1 ≤ dg m ∧ dg m ≤ 10 := by
  have := dg_k m
  omega
theorem dg_100 {m : Nat} (h : 100 ≤ m) (h2 : m ≤ 2147483648) : dg m = dg (m / 100) + 2 := by
  have k := dg_k (m / 100)
  rcases dg_k m with h9 | h9 | h9 | h9 | h9 | h9 | h9 | h9 | h9 | h9 <;> omega
theorem dg_10 {m : Nat} : (m < 10 → dg m = 1) ∧ (10 ≤ m → m < 100 → dg m = 2) := by
  unfold dg
  refine ⟨fun h => by rw [if_pos h], fun h h2 => by rw [if_neg (by omega), if_pos h2]⟩
theorem dg_pow {m : Nat} (h : m ≤ 2147483648) {i : Nat} (hi : i ≤ 9) : (10 ^ i ≤ m ∨ i = 0) ↔ i < dg m := by
  have k := dg_k m
  have h10 : i = 0 ∨ i = 1 ∨ i = 2 ∨ i = 3 ∨ i = 4 ∨ i = 5 ∨ i = 6 ∨ i = 7 ∨ i = 8 ∨ i = 9 := by omega
  rcases h10 with rfl | rfl | rfl | rfl | rfl | rfl | rfl | rfl | rfl | rfl <;> simp only [Nat.reducePow, or_true, true_iff] <;> omega
/-- the characters of a number -/
def nch (x : Int32) : Nat := (if x < 0 then 1 else 0) + dg x.toInt.natAbs
theorem nch_bd (x : Int32) : 1 ≤ nch x ∧ nch x ≤ 11 := by
  have := dg_bd x.toInt.natAbs
  unfold nch
  split <;> omega
theorem neg_I {m : Nat} (h : m ≤ 2147483648) : (-(nI m)).toInt = -(m : Int) := by
  have e : -(nI m) = Int32.ofInt (-(m : Int)) := by
    rw [Int32.ofInt_neg]
    rfl
  have hs : (Int32.size : Nat) = 4294967296 := rfl
  rw [e, Int32.toInt_ofInt, hs]
  exact Int.bmod_eq_of_le (by omega) (by omega)
theorem num_cases (x : Int32) : ∃ m, m ≤ 2147483648 ∧ x.toInt.natAbs = m ∧ ((x < 0 ∧ x = -(nI m) ∧ 0 < m) ∨ (¬ x < 0 ∧ x = nI m ∧ m < 2147483648)) := by
  have h1 := Int32.le_toInt x
  have h2 := Int32.toInt_lt x
  refine ⟨x.toInt.natAbs, by omega, rfl, ?_⟩
  have hx : (x < 0) = (x.toInt < 0) := by
    rw [Int32.lt_iff_toInt_lt]
    rfl
  by_cases h : x < 0
  · have h3 : x.toInt < 0 := by rw [← hx]; exact h
    refine Or.inl ⟨h, ?_, by omega⟩
    apply Int32.toInt_inj.mp
    rw [neg_I (by omega)]
    omega
  · have h3 : ¬ x.toInt < 0 := by rw [← hx]; exact h
    refine Or.inr ⟨h, ?_, by omega⟩
    apply Int32.toInt_inj.mp
    rw [nI_toInt (by omega)]
    omega
theorem neg_neg (x : Int32) : -(-x) = x := Int32.neg_neg
/-- comparing with a number below 0 -/
theorem neg_le {m p : Nat} (hm : m ≤ 2147483648) (hp : p ≤ 2147483648) : (-(nI m) ≤ -(nI p)) = (p ≤ m) := by
  rw [Int32.le_iff_toInt_le, neg_I hm, neg_I hp]
  exact propext ⟨fun h => by omega, fun h => by omega⟩
theorem neg_lt {m p : Nat} (hm : m ≤ 2147483648) (hp : p ≤ 2147483648) : (-(nI p) < -(nI m)) = (m < p) := by
  rw [Int32.lt_iff_toInt_lt, neg_I hm, neg_I hp]
  exact propext ⟨fun h => by omega, fun h => by omega⟩
theorem neg_div {m : Nat} (hm : m ≤ 2147483648) : -(nI m) / 100 = -(nI (m / 100)) := by
  apply Int32.toInt_inj.mp
  rw [Int32.toInt_div, neg_I hm, neg_I (by omega), show (100 : Int32).toInt = 100 from rfl, Int.neg_tdiv, Int.tdiv_eq_ediv_of_nonneg (by omega)]
  rw [Int.bmod_eq_of_le (by omega) (by omega)]
  omega
theorem neg_rest {m : Nat} : -(nI (m / 100)) * 100 - -(nI m) = nI (m % 100) := by
  have e : nI m = nI (m / 100) * 100 + nI (m % 100) := by
    rw [show (100 : Int32) = nI 100 from rfl, pk_mul, nI_add]
    congr 1
    omega
  rw [e]
  grind
variable {S : xS} {I : xI} {J : xJ} {D : xDb} {R : xR} {b : Nat × Nat} {Q : xQ}
theorem R30_16 {m d : Nat} (hm : m ≤ 2147483648) : ∀ (j i : Nat) (p : Int32), i + j = 10 → 0 < i → i ≤ dg m → (i ≤ 9 → p = -(nI (10 ^ i))) → xRun xT 30 16 [(0, .int (-(nI m))), (1, .int (nI d)), (2, .int p), (3, .int (nI i))] [] (S, I, J, D, R) b Q = Q (.ok (some (.int (nI (d + dg m))))) (S, I, J, D, R) b
  | 0, i, p, hi, h0, h, hp => by
    have := dg_bd m
    have e2 : dg m = 10 := by omega
    have e3 : i = 10 := by omega
    have e4 : ((10 : Int32) ≤ nI i) = True := by rw [e3]; exact eq_true (by decide)
    have e5 : (10 : Int32) + nI d = nI (d + 10) := by rw [show (10 : Int32) = nI 10 from rfl, nI_add, Nat.add_comm]
    rw [e30_16]
    simp only [B30_16, xSeq, i_push, i_load, i_iload, i_lload, i_dload, i_aload, i_istore, i_astore, i_lstore, i_dstore, i_iinc, i_ii, i_iiz, i_ll, i_llz, i_lli, i_li, i_i, i_l, i_i2l, i_l2i, i_dup, i_dup2, i_dup2w, i_dupx1, i_pop, i_pop2, i_goto, i_ifc, i_icmp, i_getI, i_getL, i_getR, i_putI, i_putZ, i_putL, i_putR, i_aldI, i_aldB, i_aldL, i_aldD, i_astI, i_astL, i_astD, i_alen, i_ret, i_iret, i_zret, i_lret, i_fret, i_dret, i_aret, i_invS0, i_invV0, i_m2, i_m1, i_ml, i_obj, lk, lkp, stf1, stf2, Value.category, rV, xTo, lv_args, xCk, xCat, xRc, xAk, hg_S, hg_I, hg_J, hg_D, hg_R, hs_I, hs_J, hs_D, hs_R, uI_at, uJ_at, uD_at, uR_at, List.take_succ_cons, List.take_zero, List.drop_succ_cons, List.drop_zero, List.reverse_cons, List.reverse_nil, List.nil_append, List.cons_append, List.map_cons, List.map_nil, List.sum_cons, List.sum_nil, List.length_cons, List.length_nil, Option.toList_some, Option.toList_none, true_and, and_true, false_and, and_false, true_implies, false_implies, implies_true, not_true_eq_false, not_false_eq_true, ne_eq, if_true, if_false, Bool.and_true, Bool.true_and, decide_true, decide_false, reduceIte, reduceCtorEq, Bool.and_self, Bool.and_eq_true, decide_eq_true_eq, and_self, true_or, or_true, false_or, or_false, Nat.zero_add, Nat.add_zero, eq_self, Nat.reduceEqDiff, Nat.reduceLeDiff, Nat.reduceLT, Nat.reduceAdd, Nat.reduceSub, Nat.reduceMul, e4, e30_42, B30_42, e5, e2]
  | j + 1, i, p, hi, h0, h, hpp => by
    have hp : 10 ^ i ≤ 10 ^ 9 := Nat.pow_le_pow_right (by decide) (by omega)
    have hp2 : (10 : Nat) ^ 9 = 1000000000 := rfl
    have e0 : ((10 : Int32) ≤ nI i) = False := by rw [show (10 : Int32) = nI 10 from rfl, nI_leP (by decide) (show i < 2147483648 by omega)]; exact eq_false (by omega)
    have h1 := dg_pow hm (i := i) (by omega)
    have ep : 10 * p = -(nI (10 ^ (i + 1))) := by
      rw [hpp (by omega), Nat.pow_succ, ← pk_mul]
      show _ = -(nI (10 ^ i) * 10)
      grind
    have el : (-(nI m) ≤ p) = (10 ^ i ≤ m) := by rw [hpp (by omega), neg_le hm (show 10 ^ i ≤ 2147483648 by omega)]
    obtain ⟨x, hx⟩ : ∃ x, x = -(nI m) := ⟨_, rfl⟩
    rw [e30_16]
    rw [← hx] at el ⊢
    by_cases hc : 10 ^ i ≤ m
    · have h2 := h1.mp (Or.inl hc)
      simp only [B30_16, xSeq, i_push, i_load, i_iload, i_lload, i_dload, i_aload, i_istore, i_astore, i_lstore, i_dstore, i_iinc, i_ii, i_iiz, i_ll, i_llz, i_lli, i_li, i_i, i_l, i_i2l, i_l2i, i_dup, i_dup2, i_dup2w, i_dupx1, i_pop, i_pop2, i_goto, i_ifc, i_icmp, i_getI, i_getL, i_getR, i_putI, i_putZ, i_putL, i_putR, i_aldI, i_aldB, i_aldL, i_aldD, i_astI, i_astL, i_astD, i_alen, i_ret, i_iret, i_zret, i_lret, i_fret, i_dret, i_aret, i_invS0, i_invV0, i_m2, i_m1, i_ml, i_obj, lk, lkp, stf1, stf2, Value.category, rV, xTo, lv_args, xCk, xCat, xRc, xAk, hg_S, hg_I, hg_J, hg_D, hg_R, hs_I, hs_J, hs_D, hs_R, uI_at, uJ_at, uD_at, uR_at, List.take_succ_cons, List.take_zero, List.drop_succ_cons, List.drop_zero, List.reverse_cons, List.reverse_nil, List.nil_append, List.cons_append, List.map_cons, List.map_nil, List.sum_cons, List.sum_nil, List.length_cons, List.length_nil, Option.toList_some, Option.toList_none, true_and, and_true, false_and, and_false, true_implies, false_implies, implies_true, not_true_eq_false, not_false_eq_true, ne_eq, if_true, if_false, Bool.and_true, Bool.true_and, decide_true, decide_false, reduceIte, reduceCtorEq, Bool.and_self, Bool.and_eq_true, decide_eq_true_eq, and_self, true_or, or_true, false_or, or_false, Nat.zero_add, Nat.add_zero, eq_self, Nat.reduceEqDiff, Nat.reduceLeDiff, Nat.reduceLT, Nat.reduceAdd, Nat.reduceSub, Nat.reduceMul, e0, el, hc, e30_31, B30_31, nI_1]
      rw [hx]
      exact R30_16 hm j (i + 1) _ (by omega) (by omega) (by omega) (fun _ => ep)
    · have h2 : ¬ i < dg m := fun e => by
        rcases h1.mpr e with h3 | h3
        · exact hc h3
        · omega
      have e2 : i = dg m := by omega
      have e3 : nI i + nI d = nI (d + dg m) := by rw [nI_add, Nat.add_comm, e2]
      simp only [B30_16, xSeq, i_push, i_load, i_iload, i_lload, i_dload, i_aload, i_istore, i_astore, i_lstore, i_dstore, i_iinc, i_ii, i_iiz, i_ll, i_llz, i_lli, i_li, i_i, i_l, i_i2l, i_l2i, i_dup, i_dup2, i_dup2w, i_dupx1, i_pop, i_pop2, i_goto, i_ifc, i_icmp, i_getI, i_getL, i_getR, i_putI, i_putZ, i_putL, i_putR, i_aldI, i_aldB, i_aldL, i_aldD, i_astI, i_astL, i_astD, i_alen, i_ret, i_iret, i_zret, i_lret, i_fret, i_dret, i_aret, i_invS0, i_invV0, i_m2, i_m1, i_ml, i_obj, lk, lkp, stf1, stf2, Value.category, rV, xTo, lv_args, xCk, xCat, xRc, xAk, hg_S, hg_I, hg_J, hg_D, hg_R, hs_I, hs_J, hs_D, hs_R, uI_at, uJ_at, uD_at, uR_at, List.take_succ_cons, List.take_zero, List.drop_succ_cons, List.drop_zero, List.reverse_cons, List.reverse_nil, List.nil_append, List.cons_append, List.map_cons, List.map_nil, List.sum_cons, List.sum_nil, List.length_cons, List.length_nil, Option.toList_some, Option.toList_none, true_and, and_true, false_and, and_false, true_implies, false_implies, implies_true, not_true_eq_false, not_false_eq_true, ne_eq, if_true, if_false, Bool.and_true, Bool.true_and, decide_true, decide_false, reduceIte, reduceCtorEq, Bool.and_self, Bool.and_eq_true, decide_eq_true_eq, and_self, true_or, or_true, false_or, or_false, Nat.zero_add, Nat.add_zero, eq_self, Nat.reduceEqDiff, Nat.reduceLeDiff, Nat.reduceLT, Nat.reduceAdd, Nat.reduceSub, Nat.reduceMul, e0, el, hc, e3]
theorem R30 {x : Int32} : xRun xT 30 0 [(0, .int x)] [] (S, I, J, D, R) b Q = Q (.ok (some (.int (nI (nch x))))) (S, I, J, D, R) b := by
  obtain ⟨m, hm, e, h⟩ := num_cases x
  have hb := dg_bd m
  have hc : nch x = (if x < 0 then 1 else 0) + dg m := by unfold nch; rw [e]
  rw [hc]
  rcases h with ⟨h1, h2, h3⟩ | ⟨h1, h2, h3⟩
  · have hr := R30_16 (S := S) (I := I) (J := J) (D := D) (R := R) (b := b) (Q := Q) (d := 1) hm 9 1 (-10) rfl (by decide) (by omega) (fun _ => rfl)
    rw [if_pos h1]
    rw [h2] at h1 ⊢
    rw [e30_0]
    simp only [B30_0, xSeq, i_push, i_load, i_iload, i_lload, i_dload, i_aload, i_istore, i_astore, i_lstore, i_dstore, i_iinc, i_ii, i_iiz, i_ll, i_llz, i_lli, i_li, i_i, i_l, i_i2l, i_l2i, i_dup, i_dup2, i_dup2w, i_dupx1, i_pop, i_pop2, i_goto, i_ifc, i_icmp, i_getI, i_getL, i_getR, i_putI, i_putZ, i_putL, i_putR, i_aldI, i_aldB, i_aldL, i_aldD, i_astI, i_astL, i_astD, i_alen, i_ret, i_iret, i_zret, i_lret, i_fret, i_dret, i_aret, i_invS0, i_invV0, i_m2, i_m1, i_ml, i_obj, lk, lkp, stf1, stf2, Value.category, rV, xTo, lv_args, xCk, xCat, xRc, xAk, hg_S, hg_I, hg_J, hg_D, hg_R, hs_I, hs_J, hs_D, hs_R, uI_at, uJ_at, uD_at, uR_at, List.take_succ_cons, List.take_zero, List.drop_succ_cons, List.drop_zero, List.reverse_cons, List.reverse_nil, List.nil_append, List.cons_append, List.map_cons, List.map_nil, List.sum_cons, List.sum_nil, List.length_cons, List.length_nil, Option.toList_some, Option.toList_none, true_and, and_true, false_and, and_false, true_implies, false_implies, implies_true, not_true_eq_false, not_false_eq_true, ne_eq, if_true, if_false, Bool.and_true, Bool.true_and, decide_true, decide_false, reduceIte, reduceCtorEq, Bool.and_self, Bool.and_eq_true, decide_eq_true_eq, and_self, true_or, or_true, false_or, or_false, Nat.zero_add, Nat.add_zero, eq_self, Nat.reduceEqDiff, Nat.reduceLeDiff, Nat.reduceLT, Nat.reduceAdd, Nat.reduceSub, Nat.reduceMul, h1, e30_11, B30_11]
    exact hr
  · have hr := R30_16 (S := S) (I := I) (J := J) (D := D) (R := R) (b := b) (Q := Q) (d := 0) hm 9 1 (-10) rfl (by decide) (by omega) (fun _ => rfl)
    rw [if_neg h1]
    rw [h2] at h1 ⊢
    rw [Nat.zero_add] at hr ⊢
    rw [e30_0]
    simp only [B30_0, xSeq, i_push, i_load, i_iload, i_lload, i_dload, i_aload, i_istore, i_astore, i_lstore, i_dstore, i_iinc, i_ii, i_iiz, i_ll, i_llz, i_lli, i_li, i_i, i_l, i_i2l, i_l2i, i_dup, i_dup2, i_dup2w, i_dupx1, i_pop, i_pop2, i_goto, i_ifc, i_icmp, i_getI, i_getL, i_getR, i_putI, i_putZ, i_putL, i_putR, i_aldI, i_aldB, i_aldL, i_aldD, i_astI, i_astL, i_astD, i_alen, i_ret, i_iret, i_zret, i_lret, i_fret, i_dret, i_aret, i_invS0, i_invV0, i_m2, i_m1, i_ml, i_obj, lk, lkp, stf1, stf2, Value.category, rV, xTo, lv_args, xCk, xCat, xRc, xAk, hg_S, hg_I, hg_J, hg_D, hg_R, hs_I, hs_J, hs_D, hs_R, uI_at, uJ_at, uD_at, uR_at, List.take_succ_cons, List.take_zero, List.drop_succ_cons, List.drop_zero, List.reverse_cons, List.reverse_nil, List.nil_append, List.cons_append, List.map_cons, List.map_nil, List.sum_cons, List.sum_nil, List.length_cons, List.length_nil, Option.toList_some, Option.toList_none, true_and, and_true, false_and, and_false, true_implies, false_implies, implies_true, not_true_eq_false, not_false_eq_true, ne_eq, if_true, if_false, Bool.and_true, Bool.true_and, decide_true, decide_false, reduceIte, reduceCtorEq, Bool.and_self, Bool.and_eq_true, decide_eq_true_eq, and_self, true_or, or_true, false_or, or_false, Nat.zero_add, Nat.add_zero, eq_self, Nat.reduceEqDiff, Nat.reduceLeDiff, Nat.reduceLT, Nat.reduceAdd, Nat.reduceSub, Nat.reduceMul, h1, e30_11, B30_11]
    exact hr
end
