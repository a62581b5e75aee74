/-! ===== samples after sweeps ===== -/
section
variable {S : xS} {I : xI} {J : xJ} {D : xDb} {R : xR} {b : Nat × Nat} {Q : xQ} {n m : Nat} {fi se dg : Nat → Nat} {sb : Nat → Nat → Nat}
theorem R40n (hS : S 112 = (4, 0)) (hR : R 112 1 = some 402) (hu : S 402 = (101, 10000)) : xRun xT 40 0 [(0, .ref 112)] [] (S, I, J, D, R) b Q = Q (.ok none) (S, I, J, D, R) b := by
  have z0 : (nI 10000 = 0) = False := eq_false (by decide)
  rw [e40_0]
  simp only [B40_0, xSeq, i_push, i_load, i_iload, i_lload, i_dload, i_aload, i_istore, i_astore, i_lstore, i_dstore, i_iinc, i_ii, i_iiz, i_ll, i_llz, i_lli, i_li, i_i, i_l, i_i2l, i_l2i, i_dup, i_dup2, i_dup2w, i_dupx1, i_pop, i_pop2, i_goto, i_ifc, i_icmp, i_getI, i_getL, i_getR, i_putI, i_putZ, i_putL, i_putR, i_aldI, i_aldB, i_aldL, i_aldD, i_astI, i_astL, i_astD, i_alen, i_ret, i_iret, i_zret, i_lret, i_fret, i_dret, i_aret, i_invS0, i_invV0, i_m2, i_m1, i_ml, i_obj, lk, lkp, stf1, stf2, Value.category, rV, xTo, lv_args, xCk, xCat, xRc, xAk, hg_S, hg_I, hg_J, hg_D, hg_R, hs_I, hs_J, hs_D, hs_R, uI_at, uJ_at, uD_at, uR_at, List.take_succ_cons, List.take_zero, List.drop_succ_cons, List.drop_zero, List.reverse_cons, List.reverse_nil, List.nil_append, List.cons_append, List.map_cons, List.map_nil, List.sum_cons, List.sum_nil, List.length_cons, List.length_nil, Option.toList_some, Option.toList_none, true_and, and_true, false_and, and_false, true_implies, false_implies, implies_true, not_true_eq_false, not_false_eq_true, ne_eq, if_true, if_false, Bool.and_true, Bool.true_and, decide_true, decide_false, reduceIte, reduceCtorEq, Bool.and_self, Bool.and_eq_true, decide_eq_true_eq, and_self, true_or, or_true, false_or, or_false, Nat.zero_add, Nat.add_zero, eq_self, Nat.reduceEqDiff, Nat.reduceLeDiff, Nat.reduceLT, Nat.reduceAdd, Nat.reduceSub, Nat.reduceMul, hS, hR, hu, z0, ne_eq, not_false_eq_true, e40_26, B40_26]
theorem L41n {v : Int64} {e : Int32} {k : Nat} (hS : S 112 = (4, 0)) (hR : R 112 1 = some 402) (hu : S 402 = (101, 10000)) (hR2 : R 112 2 = some 403) (hu2 : S 403 = (100, 10000)) (hI : I 112 0 = nI k) (hk : k < 10000)
    (kk : ∀ b', Q (.ok none) (S, uI (uI I 403 k e) 112 0 (nI (k + 1)), uJ J 402 k v, D, R) b') :
    xRun xT 41 0 [(0, .ref 112), (1, .long v), (3, .int e)] [] (S, I, J, D, R) b Q := by
  have t3 : (10000 ≤ nI k) = False := eq_false (nI_ge (a := k) (b := 10000) hk (by decide))
  rw [e41_0]
  simp only [B41_0, xSeq, i_push, i_load, i_iload, i_lload, i_dload, i_aload, i_istore, i_astore, i_lstore, i_dstore, i_iinc, i_ii, i_iiz, i_ll, i_llz, i_lli, i_li, i_i, i_l, i_i2l, i_l2i, i_dup, i_dup2, i_dup2w, i_dupx1, i_pop, i_pop2, i_goto, i_ifc, i_icmp, i_getI, i_getL, i_getR, i_putI, i_putZ, i_putL, i_putR, i_aldI, i_aldB, i_aldL, i_aldD, i_astI, i_astL, i_astD, i_alen, i_ret, i_iret, i_zret, i_lret, i_fret, i_dret, i_aret, i_invS0, i_invV0, i_m2, i_m1, i_ml, i_obj, lk, lkp, stf1, stf2, Value.category, rV, xTo, lv_args, xCk, xCat, xRc, xAk, hg_S, hg_I, hg_J, hg_D, hg_R, hs_I, hs_J, hs_D, hs_R, uI_at, uJ_at, uD_at, uR_at, List.take_succ_cons, List.take_zero, List.drop_succ_cons, List.drop_zero, List.reverse_cons, List.reverse_nil, List.nil_append, List.cons_append, List.map_cons, List.map_nil, List.sum_cons, List.sum_nil, List.length_cons, List.length_nil, Option.toList_some, Option.toList_none, true_and, and_true, false_and, and_false, true_implies, false_implies, implies_true, not_true_eq_false, not_false_eq_true, ne_eq, if_true, if_false, Bool.and_true, Bool.true_and, decide_true, decide_false, reduceIte, reduceCtorEq, Bool.and_self, Bool.and_eq_true, decide_eq_true_eq, and_self, true_or, or_true, false_or, or_false, Nat.zero_add, Nat.add_zero, eq_self, Nat.reduceEqDiff, Nat.reduceLeDiff, Nat.reduceLT, Nat.reduceAdd, Nat.reduceSub, Nat.reduceMul]
  refine w_invVA (mc := 0) (ms := 0) (Nat.zero_le _) (Nat.zero_le _) rfl (by simp only [xSeq, i_push, i_load, i_iload, i_lload, i_dload, i_aload, i_istore, i_astore, i_lstore, i_dstore, i_iinc, i_ii, i_iiz, i_ll, i_llz, i_lli, i_li, i_i, i_l, i_i2l, i_l2i, i_dup, i_dup2, i_dup2w, i_dupx1, i_pop, i_pop2, i_goto, i_ifc, i_icmp, i_getI, i_getL, i_getR, i_putI, i_putZ, i_putL, i_putR, i_aldI, i_aldB, i_aldL, i_aldD, i_astI, i_astL, i_astD, i_alen, i_ret, i_iret, i_zret, i_lret, i_fret, i_dret, i_aret, i_invS0, i_invV0, i_m2, i_m1, i_ml, i_obj, lk, lkp, stf1, stf2, Value.category, rV, xTo, lv_args, xCk, xCat, xRc, xAk, hg_S, hg_I, hg_J, hg_D, hg_R, hs_I, hs_J, hs_D, hs_R, uI_at, uJ_at, uD_at, uR_at, List.take_succ_cons, List.take_zero, List.drop_succ_cons, List.drop_zero, List.reverse_cons, List.reverse_nil, List.nil_append, List.cons_append, List.map_cons, List.map_nil, List.sum_cons, List.sum_nil, List.length_cons, List.length_nil, Option.toList_some, Option.toList_none, true_and, and_true, false_and, and_false, true_implies, false_implies, implies_true, not_true_eq_false, not_false_eq_true, ne_eq, if_true, if_false, Bool.and_true, Bool.true_and, decide_true, decide_false, reduceIte, reduceCtorEq, Bool.and_self, Bool.and_eq_true, decide_eq_true_eq, and_self, true_or, or_true, false_or, or_false, Nat.zero_add, Nat.add_zero, eq_self, Nat.reduceEqDiff, Nat.reduceLeDiff, Nat.reduceLT, Nat.reduceAdd, Nat.reduceSub, Nat.reduceMul, hS]) ?_
  simp only [xSeq, i_push, i_load, i_iload, i_lload, i_dload, i_aload, i_istore, i_astore, i_lstore, i_dstore, i_iinc, i_ii, i_iiz, i_ll, i_llz, i_lli, i_li, i_i, i_l, i_i2l, i_l2i, i_dup, i_dup2, i_dup2w, i_dupx1, i_pop, i_pop2, i_goto, i_ifc, i_icmp, i_getI, i_getL, i_getR, i_putI, i_putZ, i_putL, i_putR, i_aldI, i_aldB, i_aldL, i_aldD, i_astI, i_astL, i_astD, i_alen, i_ret, i_iret, i_zret, i_lret, i_fret, i_dret, i_aret, i_invS0, i_invV0, i_m2, i_m1, i_ml, i_obj, lk, lkp, stf1, stf2, Value.category, rV, xTo, lv_args, xCk, xCat, xRc, xAk, hg_S, hg_I, hg_J, hg_D, hg_R, hs_I, hs_J, hs_D, hs_R, uI_at, uJ_at, uD_at, uR_at, List.take_succ_cons, List.take_zero, List.drop_succ_cons, List.drop_zero, List.reverse_cons, List.reverse_nil, List.nil_append, List.cons_append, List.map_cons, List.map_nil, List.sum_cons, List.sum_nil, List.length_cons, List.length_nil, Option.toList_some, Option.toList_none, true_and, and_true, false_and, and_false, true_implies, false_implies, implies_true, not_true_eq_false, not_false_eq_true, ne_eq, if_true, if_false, Bool.and_true, Bool.true_and, decide_true, decide_false, reduceIte, reduceCtorEq, Bool.and_self, Bool.and_eq_true, decide_eq_true_eq, and_self, true_or, or_true, false_or, or_false, Nat.zero_add, Nat.add_zero, eq_self, Nat.reduceEqDiff, Nat.reduceLeDiff, Nat.reduceLT, Nat.reduceAdd, Nat.reduceSub, Nat.reduceMul]
  rw [R40n hS hR hu]
  simp only [xSeq, i_push, i_load, i_iload, i_lload, i_dload, i_aload, i_istore, i_astore, i_lstore, i_dstore, i_iinc, i_ii, i_iiz, i_ll, i_llz, i_lli, i_li, i_i, i_l, i_i2l, i_l2i, i_dup, i_dup2, i_dup2w, i_dupx1, i_pop, i_pop2, i_goto, i_ifc, i_icmp, i_getI, i_getL, i_getR, i_putI, i_putZ, i_putL, i_putR, i_aldI, i_aldB, i_aldL, i_aldD, i_astI, i_astL, i_astD, i_alen, i_ret, i_iret, i_zret, i_lret, i_fret, i_dret, i_aret, i_invS0, i_invV0, i_m2, i_m1, i_ml, i_obj, lk, lkp, stf1, stf2, Value.category, rV, xTo, lv_args, xCk, xCat, xRc, xAk, hg_S, hg_I, hg_J, hg_D, hg_R, hs_I, hs_J, hs_D, hs_R, uI_at, uJ_at, uD_at, uR_at, List.take_succ_cons, List.take_zero, List.drop_succ_cons, List.drop_zero, List.reverse_cons, List.reverse_nil, List.nil_append, List.cons_append, List.map_cons, List.map_nil, List.sum_cons, List.sum_nil, List.length_cons, List.length_nil, Option.toList_some, Option.toList_none, true_and, and_true, false_and, and_false, true_implies, false_implies, implies_true, not_true_eq_false, not_false_eq_true, ne_eq, if_true, if_false, Bool.and_true, Bool.true_and, decide_true, decide_false, reduceIte, reduceCtorEq, Bool.and_self, Bool.and_eq_true, decide_eq_true_eq, and_self, true_or, or_true, false_or, or_false, Nat.zero_add, Nat.add_zero, eq_self, Nat.reduceEqDiff, Nat.reduceLeDiff, Nat.reduceLT, Nat.reduceAdd, Nat.reduceSub, Nat.reduceMul, hS, hI, t3, hR, hR2, hu, hu2, nI_inP hk (by decide), nI_ix (show k < 2147483648 by omega), nI_1]
  rw [e41_44]
  simp only [B41_44, xSeq, i_push, i_load, i_iload, i_lload, i_dload, i_aload, i_istore, i_astore, i_lstore, i_dstore, i_iinc, i_ii, i_iiz, i_ll, i_llz, i_lli, i_li, i_i, i_l, i_i2l, i_l2i, i_dup, i_dup2, i_dup2w, i_dupx1, i_pop, i_pop2, i_goto, i_ifc, i_icmp, i_getI, i_getL, i_getR, i_putI, i_putZ, i_putL, i_putR, i_aldI, i_aldB, i_aldL, i_aldD, i_astI, i_astL, i_astD, i_alen, i_ret, i_iret, i_zret, i_lret, i_fret, i_dret, i_aret, i_invS0, i_invV0, i_m2, i_m1, i_ml, i_obj, lk, lkp, stf1, stf2, Value.category, rV, xTo, lv_args, xCk, xCat, xRc, xAk, hg_S, hg_I, hg_J, hg_D, hg_R, hs_I, hs_J, hs_D, hs_R, uI_at, uJ_at, uD_at, uR_at, List.take_succ_cons, List.take_zero, List.drop_succ_cons, List.drop_zero, List.reverse_cons, List.reverse_nil, List.nil_append, List.cons_append, List.map_cons, List.map_nil, List.sum_cons, List.sum_nil, List.length_cons, List.length_nil, Option.toList_some, Option.toList_none, true_and, and_true, false_and, and_false, true_implies, false_implies, implies_true, not_true_eq_false, not_false_eq_true, ne_eq, if_true, if_false, Bool.and_true, Bool.true_and, decide_true, decide_false, reduceIte, reduceCtorEq, Bool.and_self, Bool.and_eq_true, decide_eq_true_eq, and_self, true_or, or_true, false_or, or_false, Nat.zero_add, Nat.add_zero, eq_self, Nat.reduceEqDiff, Nat.reduceLeDiff, Nat.reduceLT, Nat.reduceAdd, Nat.reduceSub, Nat.reduceMul]
  exact kk _
/-- the lab among samples: what has changed since S0 .. -/
def SL (S0 : xS) (I0 : xI) (J0 : xJ) (R0 : xR) (z : xG) (k : Nat) (S : xS) (I : xI) (J : xJ) (R : xR) : Prop :=
  ((∀ o, o ≠ 402 → o ≠ 403 → S o = S0 o) ∧ (∀ o j, o ≠ 402 → o ≠ 403 → ¬ (o = 112 ∧ (j = 1 ∨ j = 2)) → R o j = R0 o j) ∧ (∀ o j, o ≠ 402 → o ≠ 403 → ¬ (o = 112 ∧ j = 0) → ¬ (o = 110 ∧ (j = 10 ∨ j = 11)) → I o j = I0 o j) ∧ (∀ o j, o ≠ 402 → o ≠ 403 → ¬ (o = 110 ∧ (j = 4 ∨ j = 5)) → J o j = J0 o j)) ∧
  (J 110 4 = lN z.1 ∧ J 110 5 = lN z.2.1 ∧ I 110 10 = z.2.2.1 ∧ I 110 11 = z.2.2.2 ∧ I 112 0 = nI k) ∧ S 402 = (101, 10000) ∧ S 403 = (100, 10000) ∧ R 112 1 = some 402 ∧ R 112 2 = some 403
theorem L168_39 {S0 : xS} {I0 : xI} {J0 : xJ} {R0 : xR} (hL : LC S0 R0) (hG : GR n m fi se dg sb) (hC : CL I0 n m fi se dg sb) {a bb : Nat} (hA : I0 110 7 = nI a) (hB : I0 110 8 = nI bb) (ha : a < 2147483648) (h0 : 0 < bb) (hb : bb < 2147483648) {K k0 : Nat} (hK : K < 10000) (hk0 : k0 + K ≤ 10000)
    (kk : ∀ S I J R z b', SL S0 I0 J0 R0 z (k0 + K) S I J R → Q (.ok (some (.int (nI (k0 + K))))) (S, I, J, D, R) b') :
    ∀ (j i : Nat) (z : xG) (S : xS) (I : xI) (J : xJ) (R : xR) (b : Nat × Nat), i + j = K → SL S0 I0 J0 R0 z (k0 + i) S I J R → z.1 < 2 ^ n → z.2.1 < 2147483648 → xRun xT 168 39 [(0, .ref 100), (1, .int (nI K)), (2, .int (nI i))] [] (S, I, J, D, R) b Q
  | 0, i, z, S, I, J, R, b, hi, hs, hz, hg => by
    have e : i = K := by omega
    subst e
    have hs' := hs
    obtain ⟨⟨f1, f2, f3, f4⟩, ⟨p1, p2, p3, p4, p5⟩, q1, q2, q3, q4⟩ := hs'
    have hL' : LC S R := LC_f hL (fun o h => f1 o (by omega) (by omega)) (fun o k h f => f2 o k (by omega) (by omega) f)
    rw [e168_39]
    simp only [B168_39, xSeq, i_push, i_load, i_iload, i_lload, i_dload, i_aload, i_istore, i_astore, i_lstore, i_dstore, i_iinc, i_ii, i_iiz, i_ll, i_llz, i_lli, i_li, i_i, i_l, i_i2l, i_l2i, i_dup, i_dup2, i_dup2w, i_dupx1, i_pop, i_pop2, i_goto, i_ifc, i_icmp, i_getI, i_getL, i_getR, i_putI, i_putZ, i_putL, i_putR, i_aldI, i_aldB, i_aldL, i_aldD, i_astI, i_astL, i_astD, i_alen, i_ret, i_iret, i_zret, i_lret, i_fret, i_dret, i_aret, i_invS0, i_invV0, i_m2, i_m1, i_ml, i_obj, lk, lkp, stf1, stf2, Value.category, rV, xTo, lv_args, xCk, xCat, xRc, xAk, hg_S, hg_I, hg_J, hg_D, hg_R, hs_I, hs_J, hs_D, hs_R, uI_at, uJ_at, uD_at, uR_at, List.take_succ_cons, List.take_zero, List.drop_succ_cons, List.drop_zero, List.reverse_cons, List.reverse_nil, List.nil_append, List.cons_append, List.map_cons, List.map_nil, List.sum_cons, List.sum_nil, List.length_cons, List.length_nil, Option.toList_some, Option.toList_none, true_and, and_true, false_and, and_false, true_implies, false_implies, implies_true, not_true_eq_false, not_false_eq_true, ne_eq, if_true, if_false, Bool.and_true, Bool.true_and, decide_true, decide_false, reduceIte, reduceCtorEq, Bool.and_self, Bool.and_eq_true, decide_eq_true_eq, and_self, true_or, or_true, false_or, or_false, Nat.zero_add, Nat.add_zero, eq_self, Nat.reduceEqDiff, Nat.reduceLeDiff, Nat.reduceLT, Nat.reduceAdd, Nat.reduceSub, Nat.reduceMul, nI_leP (show i < 2147483648 by omega) (show i < 2147483648 by omega), Nat.le_refl, e168_64, B168_64, LC_out hL', p5]
    exact kk S I J R z b hs
  | j + 1, i, z, S, I, J, R, b, hi, hs, hz, hg => by
    obtain ⟨⟨f1, f2, f3, f4⟩, ⟨p1, p2, p3, p4, p5⟩, q1, q2, q3, q4⟩ := hs
    have hL' : LC S R := LC_f hL (fun o h => f1 o (by omega) (by omega)) (fun o k h f => f2 o k (by omega) (by omega) f)
    have hC' : CL I n m fi se dg sb := CL_k hC (fun o k h1 h2 => f3 o k (by omega) (by omega) (by omega) (by omega))
    have h64 : z.1 < 2 ^ 64 := Nat.lt_of_lt_of_le hz (Nat.pow_le_pow_right (by decide) hG.2.1)
    have a1 : cI I z = I := cI_self p3 p4
    have a2 : cJ J z = J := cJ_self p1 p2
    have h85 := fun (b : Nat × Nat) (Q : xQ) => R85 (I := I) (J := J) (D := D) (b := b) (Q := Q) hL' hG hC' ((f3 110 7 (by decide) (by decide) (by decide) (by decide)).trans hA) ((f3 110 8 (by decide) (by decide) (by decide) (by decide)).trans hB) ha h0 hb (z := z) h64 hg
    rw [a1, a2] at h85
    obtain ⟨k1, k2⟩ := tW_ok (F := I 110 6) (st := I 111) (fi := fi) (se := se) (dg := dg) (sb := sb) (rule := I 110 9) (a := a) (bb := bb) (N := n) n 0 z (by omega) hz hg
    obtain ⟨z', hz'⟩ : ∃ z' : xG, z' = tW (I 110 6) (I 111) fi se dg sb (I 110 9) a bb n 0 z := ⟨_, rfl⟩
    rw [← hz'] at k1 k2 h85
    have k64 : z'.1 < 2 ^ 64 := Nat.lt_of_lt_of_le k1 (Nat.pow_le_pow_right (by decide) hG.2.1)
    have eJ : cJ J z' 110 4 = lN z'.1 := rfl
    have p5' : cI I z' 112 0 = nI (k0 + i) := p5
    rw [e168_39]
    simp only [B168_39, xSeq, i_push, i_load, i_iload, i_lload, i_dload, i_aload, i_istore, i_astore, i_lstore, i_dstore, i_iinc, i_ii, i_iiz, i_ll, i_llz, i_lli, i_li, i_i, i_l, i_i2l, i_l2i, i_dup, i_dup2, i_dup2w, i_dupx1, i_pop, i_pop2, i_goto, i_ifc, i_icmp, i_getI, i_getL, i_getR, i_putI, i_putZ, i_putL, i_putR, i_aldI, i_aldB, i_aldL, i_aldD, i_astI, i_astL, i_astD, i_alen, i_ret, i_iret, i_zret, i_lret, i_fret, i_dret, i_aret, i_invS0, i_invV0, i_m2, i_m1, i_ml, i_obj, lk, lkp, stf1, stf2, Value.category, rV, xTo, lv_args, xCk, xCat, xRc, xAk, hg_S, hg_I, hg_J, hg_D, hg_R, hs_I, hs_J, hs_D, hs_R, uI_at, uJ_at, uD_at, uR_at, List.take_succ_cons, List.take_zero, List.drop_succ_cons, List.drop_zero, List.reverse_cons, List.reverse_nil, List.nil_append, List.cons_append, List.map_cons, List.map_nil, List.sum_cons, List.sum_nil, List.length_cons, List.length_nil, Option.toList_some, Option.toList_none, true_and, and_true, false_and, and_false, true_implies, false_implies, implies_true, not_true_eq_false, not_false_eq_true, ne_eq, if_true, if_false, Bool.and_true, Bool.true_and, decide_true, decide_false, reduceIte, reduceCtorEq, Bool.and_self, Bool.and_eq_true, decide_eq_true_eq, and_self, true_or, or_true, false_or, or_false, Nat.zero_add, Nat.add_zero, eq_self, Nat.reduceEqDiff, Nat.reduceLeDiff, Nat.reduceLT, Nat.reduceAdd, Nat.reduceSub, Nat.reduceMul, nI_leP (show K < 2147483648 by omega) (show i < 2147483648 by omega), show (K ≤ i) = False from eq_false (by omega), LC_out hL', h85]
    refine w_invVA (mc := 0) (ms := 0) (Nat.zero_le _) (Nat.zero_le _) rfl (by simp only [xSeq, i_push, i_load, i_iload, i_lload, i_dload, i_aload, i_istore, i_astore, i_lstore, i_dstore, i_iinc, i_ii, i_iiz, i_ll, i_llz, i_lli, i_li, i_i, i_l, i_i2l, i_l2i, i_dup, i_dup2, i_dup2w, i_dupx1, i_pop, i_pop2, i_goto, i_ifc, i_icmp, i_getI, i_getL, i_getR, i_putI, i_putZ, i_putL, i_putR, i_aldI, i_aldB, i_aldL, i_aldD, i_astI, i_astL, i_astD, i_alen, i_ret, i_iret, i_zret, i_lret, i_fret, i_dret, i_aret, i_invS0, i_invV0, i_m2, i_m1, i_ml, i_obj, lk, lkp, stf1, stf2, Value.category, rV, xTo, lv_args, xCk, xCat, xRc, xAk, hg_S, hg_I, hg_J, hg_D, hg_R, hs_I, hs_J, hs_D, hs_R, uI_at, uJ_at, uD_at, uR_at, List.take_succ_cons, List.take_zero, List.drop_succ_cons, List.drop_zero, List.reverse_cons, List.reverse_nil, List.nil_append, List.cons_append, List.map_cons, List.map_nil, List.sum_cons, List.sum_nil, List.length_cons, List.length_nil, Option.toList_some, Option.toList_none, true_and, and_true, false_and, and_false, true_implies, false_implies, implies_true, not_true_eq_false, not_false_eq_true, ne_eq, if_true, if_false, Bool.and_true, Bool.true_and, decide_true, decide_false, reduceIte, reduceCtorEq, Bool.and_self, Bool.and_eq_true, decide_eq_true_eq, and_self, true_or, or_true, false_or, or_false, Nat.zero_add, Nat.add_zero, eq_self, Nat.reduceEqDiff, Nat.reduceLeDiff, Nat.reduceLT, Nat.reduceAdd, Nat.reduceSub, Nat.reduceMul, LC_out hL']) ?_
    simp only [xSeq, i_push, i_load, i_iload, i_lload, i_dload, i_aload, i_istore, i_astore, i_lstore, i_dstore, i_iinc, i_ii, i_iiz, i_ll, i_llz, i_lli, i_li, i_i, i_l, i_i2l, i_l2i, i_dup, i_dup2, i_dup2w, i_dupx1, i_pop, i_pop2, i_goto, i_ifc, i_icmp, i_getI, i_getL, i_getR, i_putI, i_putZ, i_putL, i_putR, i_aldI, i_aldB, i_aldL, i_aldD, i_astI, i_astL, i_astD, i_alen, i_ret, i_iret, i_zret, i_lret, i_fret, i_dret, i_aret, i_invS0, i_invV0, i_m2, i_m1, i_ml, i_obj, lk, lkp, stf1, stf2, Value.category, rV, xTo, lv_args, xCk, xCat, xRc, xAk, hg_S, hg_I, hg_J, hg_D, hg_R, hs_I, hs_J, hs_D, hs_R, uI_at, uJ_at, uD_at, uR_at, List.take_succ_cons, List.take_zero, List.drop_succ_cons, List.drop_zero, List.reverse_cons, List.reverse_nil, List.nil_append, List.cons_append, List.map_cons, List.map_nil, List.sum_cons, List.sum_nil, List.length_cons, List.length_nil, Option.toList_some, Option.toList_none, true_and, and_true, false_and, and_false, true_implies, false_implies, implies_true, not_true_eq_false, not_false_eq_true, ne_eq, if_true, if_false, Bool.and_true, Bool.true_and, decide_true, decide_false, reduceIte, reduceCtorEq, Bool.and_self, Bool.and_eq_true, decide_eq_true_eq, and_self, true_or, or_true, false_or, or_false, Nat.zero_add, Nat.add_zero, eq_self, Nat.reduceEqDiff, Nat.reduceLeDiff, Nat.reduceLT, Nat.reduceAdd, Nat.reduceSub, Nat.reduceMul, LC_out hL']
    rw [e91_0]
    simp only [B91_0, xSeq, i_push, i_load, i_iload, i_lload, i_dload, i_aload, i_istore, i_astore, i_lstore, i_dstore, i_iinc, i_ii, i_iiz, i_ll, i_llz, i_lli, i_li, i_i, i_l, i_i2l, i_l2i, i_dup, i_dup2, i_dup2w, i_dupx1, i_pop, i_pop2, i_goto, i_ifc, i_icmp, i_getI, i_getL, i_getR, i_putI, i_putZ, i_putL, i_putR, i_aldI, i_aldB, i_aldL, i_aldD, i_astI, i_astL, i_astD, i_alen, i_ret, i_iret, i_zret, i_lret, i_fret, i_dret, i_aret, i_invS0, i_invV0, i_m2, i_m1, i_ml, i_obj, lk, lkp, stf1, stf2, Value.category, rV, xTo, lv_args, xCk, xCat, xRc, xAk, hg_S, hg_I, hg_J, hg_D, hg_R, hs_I, hs_J, hs_D, hs_R, uI_at, uJ_at, uD_at, uR_at, List.take_succ_cons, List.take_zero, List.drop_succ_cons, List.drop_zero, List.reverse_cons, List.reverse_nil, List.nil_append, List.cons_append, List.map_cons, List.map_nil, List.sum_cons, List.sum_nil, List.length_cons, List.length_nil, Option.toList_some, Option.toList_none, true_and, and_true, false_and, and_false, true_implies, false_implies, implies_true, not_true_eq_false, not_false_eq_true, ne_eq, if_true, if_false, Bool.and_true, Bool.true_and, decide_true, decide_false, reduceIte, reduceCtorEq, Bool.and_self, Bool.and_eq_true, decide_eq_true_eq, and_self, true_or, or_true, false_or, or_false, Nat.zero_add, Nat.add_zero, eq_self, Nat.reduceEqDiff, Nat.reduceLeDiff, Nat.reduceLT, Nat.reduceAdd, Nat.reduceSub, Nat.reduceMul, LC_out hL', eJ, R74 (I := cI I z') hL' hG (cI_CL hC') k64 k1]
    refine w_invVA (mc := 0) (ms := 0) (Nat.zero_le _) (Nat.zero_le _) rfl (by simp only [xSeq, i_push, i_load, i_iload, i_lload, i_dload, i_aload, i_istore, i_astore, i_lstore, i_dstore, i_iinc, i_ii, i_iiz, i_ll, i_llz, i_lli, i_li, i_i, i_l, i_i2l, i_l2i, i_dup, i_dup2, i_dup2w, i_dupx1, i_pop, i_pop2, i_goto, i_ifc, i_icmp, i_getI, i_getL, i_getR, i_putI, i_putZ, i_putL, i_putR, i_aldI, i_aldB, i_aldL, i_aldD, i_astI, i_astL, i_astD, i_alen, i_ret, i_iret, i_zret, i_lret, i_fret, i_dret, i_aret, i_invS0, i_invV0, i_m2, i_m1, i_ml, i_obj, lk, lkp, stf1, stf2, Value.category, rV, xTo, lv_args, xCk, xCat, xRc, xAk, hg_S, hg_I, hg_J, hg_D, hg_R, hs_I, hs_J, hs_D, hs_R, uI_at, uJ_at, uD_at, uR_at, List.take_succ_cons, List.take_zero, List.drop_succ_cons, List.drop_zero, List.reverse_cons, List.reverse_nil, List.nil_append, List.cons_append, List.map_cons, List.map_nil, List.sum_cons, List.sum_nil, List.length_cons, List.length_nil, Option.toList_some, Option.toList_none, true_and, and_true, false_and, and_false, true_implies, false_implies, implies_true, not_true_eq_false, not_false_eq_true, ne_eq, if_true, if_false, Bool.and_true, Bool.true_and, decide_true, decide_false, reduceIte, reduceCtorEq, Bool.and_self, Bool.and_eq_true, decide_eq_true_eq, and_self, true_or, or_true, false_or, or_false, Nat.zero_add, Nat.add_zero, eq_self, Nat.reduceEqDiff, Nat.reduceLeDiff, Nat.reduceLT, Nat.reduceAdd, Nat.reduceSub, Nat.reduceMul, LC_out hL']) ?_
    simp only [xSeq, i_push, i_load, i_iload, i_lload, i_dload, i_aload, i_istore, i_astore, i_lstore, i_dstore, i_iinc, i_ii, i_iiz, i_ll, i_llz, i_lli, i_li, i_i, i_l, i_i2l, i_l2i, i_dup, i_dup2, i_dup2w, i_dupx1, i_pop, i_pop2, i_goto, i_ifc, i_icmp, i_getI, i_getL, i_getR, i_putI, i_putZ, i_putL, i_putR, i_aldI, i_aldB, i_aldL, i_aldD, i_astI, i_astL, i_astD, i_alen, i_ret, i_iret, i_zret, i_lret, i_fret, i_dret, i_aret, i_invS0, i_invV0, i_m2, i_m1, i_ml, i_obj, lk, lkp, stf1, stf2, Value.category, rV, xTo, lv_args, xCk, xCat, xRc, xAk, hg_S, hg_I, hg_J, hg_D, hg_R, hs_I, hs_J, hs_D, hs_R, uI_at, uJ_at, uD_at, uR_at, List.take_succ_cons, List.take_zero, List.drop_succ_cons, List.drop_zero, List.reverse_cons, List.reverse_nil, List.nil_append, List.cons_append, List.map_cons, List.map_nil, List.sum_cons, List.sum_nil, List.length_cons, List.length_nil, Option.toList_some, Option.toList_none, true_and, and_true, false_and, and_false, true_implies, false_implies, implies_true, not_true_eq_false, not_false_eq_true, ne_eq, if_true, if_false, Bool.and_true, Bool.true_and, decide_true, decide_false, reduceIte, reduceCtorEq, Bool.and_self, Bool.and_eq_true, decide_eq_true_eq, and_self, true_or, or_true, false_or, or_false, Nat.zero_add, Nat.add_zero, eq_self, Nat.reduceEqDiff, Nat.reduceLeDiff, Nat.reduceLT, Nat.reduceAdd, Nat.reduceSub, Nat.reduceMul, LC_out hL']
    refine L41n (by simp only [LC_out hL']) q3 q1 q4 q2 p5' (by omega) (fun b' => ?_)
    simp only [xSeq, i_push, i_load, i_iload, i_lload, i_dload, i_aload, i_istore, i_astore, i_lstore, i_dstore, i_iinc, i_ii, i_iiz, i_ll, i_llz, i_lli, i_li, i_i, i_l, i_i2l, i_l2i, i_dup, i_dup2, i_dup2w, i_dupx1, i_pop, i_pop2, i_goto, i_ifc, i_icmp, i_getI, i_getL, i_getR, i_putI, i_putZ, i_putL, i_putR, i_aldI, i_aldB, i_aldL, i_aldD, i_astI, i_astL, i_astD, i_alen, i_ret, i_iret, i_zret, i_lret, i_fret, i_dret, i_aret, i_invS0, i_invV0, i_m2, i_m1, i_ml, i_obj, lk, lkp, stf1, stf2, Value.category, rV, xTo, lv_args, xCk, xCat, xRc, xAk, hg_S, hg_I, hg_J, hg_D, hg_R, hs_I, hs_J, hs_D, hs_R, uI_at, uJ_at, uD_at, uR_at, List.take_succ_cons, List.take_zero, List.drop_succ_cons, List.drop_zero, List.reverse_cons, List.reverse_nil, List.nil_append, List.cons_append, List.map_cons, List.map_nil, List.sum_cons, List.sum_nil, List.length_cons, List.length_nil, Option.toList_some, Option.toList_none, true_and, and_true, false_and, and_false, true_implies, false_implies, implies_true, not_true_eq_false, not_false_eq_true, ne_eq, if_true, if_false, Bool.and_true, Bool.true_and, decide_true, decide_false, reduceIte, reduceCtorEq, Bool.and_self, Bool.and_eq_true, decide_eq_true_eq, and_self, true_or, or_true, false_or, or_false, Nat.zero_add, Nat.add_zero, eq_self, Nat.reduceEqDiff, Nat.reduceLeDiff, Nat.reduceLT, Nat.reduceAdd, Nat.reduceSub, Nat.reduceMul, nI_1]
    refine L168_39 hL hG hC hA hB ha h0 hb hK hk0 kk j (i + 1) z' S _ _ R _ (by omega) ⟨⟨f1, f2, fun o j h1 h2 h3 h4 => ?_, fun o j h1 h2 h3 => ?_⟩, ⟨?_, ?_, ?_, ?_, ?_⟩, q1, q2, q3, q4⟩ k1 k2
    · rw [← f3 o j h1 h2 h3 h4]
      rw [uI_at, if_neg h3, uI_at, if_neg (fun h => h2 h.1), cI_at, if_neg (fun h => h4 ⟨h.1, Or.inr h.2⟩), if_neg (fun h => h4 ⟨h.1, Or.inl h.2⟩)]
    · rw [← f4 o j h1 h2 h3]
      rw [uJ_at, if_neg (fun h => h1 h.1), cJ_at, if_neg (fun h => h3 ⟨h.1, Or.inr h.2⟩), if_neg (fun h => h3 ⟨h.1, Or.inl h.2⟩)]
    · rfl
    · rfl
    · rfl
    · rfl
    · rfl
theorem CM_k2 {I I' : xI} (hC : CM I n m fi se dg sb) (h1 : I' 300 10 = I 300 10) (h2 : I' 300 8 = I 300 8) (h : ∀ o k, 314 ≤ o → o ≤ 317 → I' o k = I o k) : CM I' n m fi se dg sb := by
  obtain ⟨c1, c2, c3, c4, c5, c6⟩ := hC
  refine ⟨h1.trans c1, h2.trans c2, fun k hk => ?_, fun k hk => ?_, fun s hs => ?_, fun s i hs hi => ?_⟩
  · rw [h _ _ (by decide) (by decide)]; exact c3 k hk
  · rw [h _ _ (by decide) (by decide)]; exact c4 k hk
  · rw [h _ _ (by decide) (by decide)]; exact c5 s hs
  · rw [h _ _ (by decide) (by decide)]; exact c6 s i hs hi
/-- the model among samples -/
def SM (I0 : xI) (J0 : xJ) (z : xG) (k : Nat) (I : xI) (J : xJ) : Prop :=
  ((∀ o j, o ≠ 308 → o ≠ 309 → ¬ (o = 300 ∧ (j = 6 ∨ j = 7 ∨ j = 9)) → I o j = I0 o j) ∧ (∀ o j, o ≠ 310 → ¬ (o = 200 ∧ (j = 3 ∨ j = 4)) → J o j = J0 o j)) ∧ J 200 3 = lN z.1 ∧ J 200 4 = lN z.2.1 ∧ I 300 6 = z.2.2.1 ∧ I 300 7 = z.2.2.2 ∧ I 300 9 = nI k
theorem L292_62 {I0 : xI} {J0 : xJ} (hL : LM S R) (hG : GR n m fi se dg sb) (hC : CM I0 n m fi se dg sb) {a bb : Nat} (hA : I0 300 2 = nI a) (hB : I0 300 3 = nI bb) (ha : a < 2147483648) (h0 : 0 < bb) (hb : bb < 2147483648) (hr : I0 300 5 = 0 ∨ I0 300 5 = 1 ∨ I0 300 5 = 2) {K k0 : Nat} (hK : K < 10000) (hk0 : k0 + K ≤ 10000)
    (kk : ∀ I J z, SM I0 J0 z (k0 + K) I J → Q (.ok (some (.int (nI (k0 + K))))) (S, I, J, D, R) b) :
    ∀ (j i : Nat) (z : xG) (I : xI) (J : xJ), i + j = K → SM I0 J0 z (k0 + i) I J → z.1 < 2 ^ n → z.2.1 < 2147483648 → xRun xT 292 62 [(0, .ref 200), (1, .int (nI K)), (2, .int (nI i))] [] (S, I, J, D, R) b Q
  | 0, i, z, I, J, hi, hs, hz, hg => by
    have e : i = K := by omega
    subst e
    have p5 := hs.2.2.2.2.2
    rw [e292_62]
    simp only [B292_62, xSeq, i_push, i_load, i_iload, i_lload, i_dload, i_aload, i_istore, i_astore, i_lstore, i_dstore, i_iinc, i_ii, i_iiz, i_ll, i_llz, i_lli, i_li, i_i, i_l, i_i2l, i_l2i, i_dup, i_dup2, i_dup2w, i_dupx1, i_pop, i_pop2, i_goto, i_ifc, i_icmp, i_getI, i_getL, i_getR, i_putI, i_putZ, i_putL, i_putR, i_aldI, i_aldB, i_aldL, i_aldD, i_astI, i_astL, i_astD, i_alen, i_ret, i_iret, i_zret, i_lret, i_fret, i_dret, i_aret, i_invS0, i_invV0, i_m2, i_m1, i_ml, i_obj, lk, lkp, stf1, stf2, Value.category, rV, xTo, lv_args, xCk, xCat, xRc, xAk, hg_S, hg_I, hg_J, hg_D, hg_R, hs_I, hs_J, hs_D, hs_R, uI_at, uJ_at, uD_at, uR_at, List.take_succ_cons, List.take_zero, List.drop_succ_cons, List.drop_zero, List.reverse_cons, List.reverse_nil, List.nil_append, List.cons_append, List.map_cons, List.map_nil, List.sum_cons, List.sum_nil, List.length_cons, List.length_nil, Option.toList_some, Option.toList_none, true_and, and_true, false_and, and_false, true_implies, false_implies, implies_true, not_true_eq_false, not_false_eq_true, ne_eq, if_true, if_false, Bool.and_true, Bool.true_and, decide_true, decide_false, reduceIte, reduceCtorEq, Bool.and_self, Bool.and_eq_true, decide_eq_true_eq, and_self, true_or, or_true, false_or, or_false, Nat.zero_add, Nat.add_zero, eq_self, Nat.reduceEqDiff, Nat.reduceLeDiff, Nat.reduceLT, Nat.reduceAdd, Nat.reduceSub, Nat.reduceMul, nI_leP (show i < 2147483648 by omega) (show i < 2147483648 by omega), Nat.le_refl, e292_82, B292_82, LM_out hL, xi144_0, ix_0, xi144_1, ix_1, xi144_2, ix_2, xi144_3, ix_3, xi144_4, ix_4, xi144_5, ix_5, xi144_6, ix_6, xi144_7, ix_7, xi144_8, ix_8, xi144_9, ix_9, xi144_10, ix_10, p5]
    exact kk I J z hs
  | j + 1, i, z, I, J, hi, hs, hz, hg => by
    obtain ⟨⟨f3, f4⟩, p1, p2, p3, p4, p5⟩ := hs
    have hC' : CM I n m fi se dg sb := CM_k2 hC (f3 _ _ (by decide) (by decide) (by decide)) (f3 _ _ (by decide) (by decide) (by decide)) (fun o k h1 h2 => f3 o k (by omega) (by omega) (by omega))
    have h64 : z.1 < 2 ^ 64 := Nat.lt_of_lt_of_le hz (Nat.pow_le_pow_right (by decide) hG.2.1)
    have a1 : mI I z = I := mI_self p3 p4
    have a2 : mJ J z = J := mJ_self p1 p2
    have h276 := fun (b : Nat × Nat) (Q : xQ) => R276 (I := I) (J := J) (D := D) (b := b) (Q := Q) hL hG hC' ((f3 300 2 (by decide) (by decide) (by decide)).trans hA) ((f3 300 3 (by decide) (by decide) (by decide)).trans hB) ha h0 hb (by rw [f3 300 5 (by decide) (by decide) (by decide)]; exact hr) (z := z) h64 hg
    rw [a1, a2] at h276
    obtain ⟨k1, k2⟩ := tW_ok (F := I 300 4) (st := fun k => I 300 (16 + k)) (fi := fi) (se := se) (dg := dg) (sb := sb) (rule := I 300 5) (a := a) (bb := bb) (N := n) n 0 z (by omega) hz hg
    obtain ⟨z', hz'⟩ : ∃ z' : xG, z' = tW (I 300 4) (fun k => I 300 (16 + k)) fi se dg sb (I 300 5) a bb n 0 z := ⟨_, rfl⟩
    rw [← hz'] at k1 k2 h276
    have k64 : z'.1 < 2 ^ 64 := Nat.lt_of_lt_of_le k1 (Nat.pow_le_pow_right (by decide) hG.2.1)
    have p5' : mI I z' 300 9 = nI (k0 + i) := p5
    have h291 := fun (b : Nat × Nat) (Q : xQ) => R291 (I := mI I z') (J := mJ J z') (D := D) (b := b) (Q := Q) hL hG (mI_CM hC') (s := z'.1) (k := k0 + i) rfl k64 p5' (by omega)
    rw [e292_62]
    simp only [B292_62, xSeq, i_push, i_load, i_iload, i_lload, i_dload, i_aload, i_istore, i_astore, i_lstore, i_dstore, i_iinc, i_ii, i_iiz, i_ll, i_llz, i_lli, i_li, i_i, i_l, i_i2l, i_l2i, i_dup, i_dup2, i_dup2w, i_dupx1, i_pop, i_pop2, i_goto, i_ifc, i_icmp, i_getI, i_getL, i_getR, i_putI, i_putZ, i_putL, i_putR, i_aldI, i_aldB, i_aldL, i_aldD, i_astI, i_astL, i_astD, i_alen, i_ret, i_iret, i_zret, i_lret, i_fret, i_dret, i_aret, i_invS0, i_invV0, i_m2, i_m1, i_ml, i_obj, lk, lkp, stf1, stf2, Value.category, rV, xTo, lv_args, xCk, xCat, xRc, xAk, hg_S, hg_I, hg_J, hg_D, hg_R, hs_I, hs_J, hs_D, hs_R, uI_at, uJ_at, uD_at, uR_at, List.take_succ_cons, List.take_zero, List.drop_succ_cons, List.drop_zero, List.reverse_cons, List.reverse_nil, List.nil_append, List.cons_append, List.map_cons, List.map_nil, List.sum_cons, List.sum_nil, List.length_cons, List.length_nil, Option.toList_some, Option.toList_none, true_and, and_true, false_and, and_false, true_implies, false_implies, implies_true, not_true_eq_false, not_false_eq_true, ne_eq, if_true, if_false, Bool.and_true, Bool.true_and, decide_true, decide_false, reduceIte, reduceCtorEq, Bool.and_self, Bool.and_eq_true, decide_eq_true_eq, and_self, true_or, or_true, false_or, or_false, Nat.zero_add, Nat.add_zero, eq_self, Nat.reduceEqDiff, Nat.reduceLeDiff, Nat.reduceLT, Nat.reduceAdd, Nat.reduceSub, Nat.reduceMul, nI_leP (show K < 2147483648 by omega) (show i < 2147483648 by omega), show (K ≤ i) = False from eq_false (by omega), LM_out hL, h276, h291, nI_1]
    refine L292_62 hL hG hC hA hB ha h0 hb hr hK hk0 kk j (i + 1) z' _ _ (by omega) ⟨⟨fun o j h1 h2 h3 => ?_, fun o j h1 h2 => ?_⟩, ?_, ?_, ?_, ?_, ?_⟩ k1 k2
    · rw [← f3 o j h1 h2 h3]
      rw [uI_at, if_neg (by omega), uI_at, if_neg (by omega), uI_at, if_neg (by omega), mI_at, if_neg (by omega), if_neg (by omega)]
    · rw [← f4 o j h1 h2]
      show uJ (uJ (uJ J 200 3 (lN z'.1)) 200 4 (lN z'.2.1)) 310 (k0 + i) (lN z'.1) o j = J o j
      rw [uJ_at, if_neg (by omega), uJ_at, if_neg (by omega), uJ_at, if_neg (by omega)]
    · rfl
    · rfl
    · rfl
    · rfl
    · rfl
end
/-! ===== the output grows ===== -/
section
/-- a byte's number -/
def bF (x : Int32) : Prop := fits .byte (.int x) = true
theorem bF_0 : bF 0 := by
  unfold bF
  decide
theorem bF_n (x : Int32) : bF (vp_nar .byte x) := by
  unfold bF
  rw [vp_nar_byte]
  show (decide ((-128 : Int32) ≤ x.toInt8.toInt32) && decide (x.toInt8.toInt32 ≤ 127)) = true
  have h1 := Int8.le_toInt x.toInt8
  have h2 := Int8.toInt_lt x.toInt8
  rw [Bool.and_eq_true, decide_eq_true_eq, decide_eq_true_eq, Int32.le_iff_toInt_le, Int32.le_iff_toInt_le, Int8.toInt_toInt32]
  exact ⟨h1, by have : (127 : Int32).toInt = 127 := rfl; omega⟩
variable {S0 : xS} {I0 : xI} {J0 : xJ} {R0 : xR}
/-- the output: its bytes at v, room for cap, cnt of them written; what else has changed since S0 .. -/
def OS (S0 : xS) (I0 : xI) (J0 : xJ) (R0 : xR) (f v cap cnt : Nat) (S : xS) (I : xI) (J : xJ) (R : xR) : Prop :=
  (R 140 0 = some v ∧ S v = (103, cap) ∧ I 140 1 = 0 ∧ I 140 3 = nI cnt ∧ (v = 160 ∨ 402 ≤ v ∧ v < f) ∧ cnt ≤ cap ∧ 16 ≤ cap ∧ cap ≤ 2002 ∧ ∀ k, k < cap → bF (I v k)) ∧
  402 ≤ f ∧ (∀ o, f ≤ o → o < 900000 → S o = (0, 0)) ∧
  ((∀ o, (o < 402 ∨ 900000 ≤ o) → S o = S0 o) ∧ (∀ o j, (o < 402 ∨ 900000 ≤ o) → ¬ (o = 140 ∧ j = 0) → R o j = R0 o j) ∧ (∀ o j, (o < 402 ∨ 900000 ≤ o) → o ≠ 160 → ¬ (o = 140 ∧ (j = 2 ∨ j = 3)) → I o j = I0 o j) ∧ (∀ o j, (o < 402 ∨ 900000 ≤ o) → J o j = J0 o j))
theorem LC_g {S S' : xS} {R R' : xR} (hL : LC S R) (hs : ∀ o, (o < 402 ∨ 900000 ≤ o) → S' o = S o) (hr : ∀ o k, (o < 402 ∨ 900000 ≤ o) → ¬ (o = 140 ∧ k = 0) → R' o k = R o k) : LC S' R' := by
  unfold LC
  repeat' apply And.intro
  all_goals first
    | (rw [hs _ (by decide)]; simp only [LC_out hL])
    | (rw [hr _ _ (by decide) (by decide)]; simp only [LC_out hL])
theorem LM_g {S S' : xS} {R R' : xR} (hL : LM S R) (hs : ∀ o, (o < 402 ∨ 900000 ≤ o) → S' o = S o) (hr : ∀ o k, (o < 402 ∨ 900000 ≤ o) → ¬ (o = 140 ∧ k = 0) → R' o k = R o k) : LM S' R' := by
  unfold LM
  repeat' apply And.intro
  all_goals first
    | (rw [hs _ (by decide)]; simp only [LM_out hL])
    | (rw [hr _ _ (by decide) (by decide)]; simp only [LM_out hL])
variable {S : xS} {I : xI} {J : xJ} {D : xDb} {R : xR} {b : Nat × Nat} {Q : xQ}
theorem w_copyB {P : xP} {K : xK} {l : xL} {st : List Value} {z a n k j : Nat} (h1 : xCat st ≤ 8) (h2 : S z = (103, k)) (h3 : S a = (103, j)) (hk : n ≤ k) (hj : n ≤ j) (hn : n < 2147483648) (hf : ∀ i, i < n → bF (I z i)) (hK : K l st (S, cpr I z a n, J, D, R) b) : i_copy 103 P Q K l (.int (nI n) :: .int 0 :: .ref a :: .int 0 :: .ref z :: st) (S, I, J, D, R) b := by
  refine ⟨h1, ?_, ?_, by decide, by decide, nI_pos hn, ?_, ?_, fun i hi => ?_, ?_⟩
  · rw [hg_S, h2]
  · rw [hg_S, h3]
  · rw [hg_S, h2, nI_ix hn, ix_0, Nat.zero_add]; exact hk
  · rw [hg_S, h3, nI_ix hn, ix_0, Nat.zero_add]; exact hj
  · rw [nI_ix hn] at hi
    rw [ix_0, Nat.zero_add]
    exact hf i hi
  · rw [if_neg (by decide), nI_ix hn, ix_0, hs_cpI]; exact hK
theorem shl0 (x : Int32) : jShl x 0 = x := by
  unfold jShl
  rw [show ((0 : Int32) &&& 31) = 0 from by decide]
  exact Int32.shiftLeft_zero
theorem nI_subn {a c : Nat} (h : c ≤ a) : nI a - nI c = nI (a - c) := by
  obtain ⟨d, rfl⟩ : ∃ d, a = c + d := ⟨a - c, by omega⟩
  rw [← nI_add, Nat.add_sub_cancel_left]
  grind
theorem R20 {a g m : Nat} (ha : a + (if g < m then m else g) < 2147483639) (h0 : 0 < a) (hg : g < 2147483648) (hm : m < 2147483648) : xRun xT 20 0 [(0, .int (nI a)), (1, .int (nI g)), (2, .int (nI m))] [] (S, I, J, D, R) b Q = Q (.ok (some (.int (nI (a + if g < m then m else g))))) (S, I, J, D, R) b := by
  have e1 : jMax (nI g) (nI m) = nI (if g < m then m else g) := by
    unfold jMax
    simp only [nI_ltP hg hm]
    split <;> rfl
  rw [e20_0]
  simp only [B20_0, xSeq, i_push, i_load, i_iload, i_lload, i_dload, i_aload, i_istore, i_astore, i_lstore, i_dstore, i_iinc, i_ii, i_iiz, i_ll, i_llz, i_lli, i_li, i_i, i_l, i_i2l, i_l2i, i_dup, i_dup2, i_dup2w, i_dupx1, i_pop, i_pop2, i_goto, i_ifc, i_icmp, i_getI, i_getL, i_getR, i_putI, i_putZ, i_putL, i_putR, i_aldI, i_aldB, i_aldL, i_aldD, i_astI, i_astL, i_astD, i_alen, i_ret, i_iret, i_zret, i_lret, i_fret, i_dret, i_aret, i_invS0, i_invV0, i_m2, i_m1, i_ml, i_obj, lk, lkp, stf1, stf2, Value.category, rV, xTo, lv_args, xCk, xCat, xRc, xAk, hg_S, hg_I, hg_J, hg_D, hg_R, hs_I, hs_J, hs_D, hs_R, uI_at, uJ_at, uD_at, uR_at, List.take_succ_cons, List.take_zero, List.drop_succ_cons, List.drop_zero, List.reverse_cons, List.reverse_nil, List.nil_append, List.cons_append, List.map_cons, List.map_nil, List.sum_cons, List.sum_nil, List.length_cons, List.length_nil, Option.toList_some, Option.toList_none, true_and, and_true, false_and, and_false, true_implies, false_implies, implies_true, not_true_eq_false, not_false_eq_true, ne_eq, if_true, if_false, Bool.and_true, Bool.true_and, decide_true, decide_false, reduceIte, reduceCtorEq, Bool.and_self, Bool.and_eq_true, decide_eq_true_eq, and_self, true_or, or_true, false_or, or_false, Nat.zero_add, Nat.add_zero, eq_self, Nat.reduceEqDiff, Nat.reduceLeDiff, Nat.reduceLT, Nat.reduceAdd, Nat.reduceSub, Nat.reduceMul, e1, nI_add, show (nI (a + if g < m then m else g) ≤ 0) = False from eq_false (nI_nle (by omega) (by omega)), show ((2147483639 : Int32) < nI (a + if g < m then m else g)) = False from eq_false (fun h => by
    rw [show (2147483639 : Int32) = nI 2147483639 from rfl, nI_ltI (by decide) (by omega)] at h
    omega)]
theorem L18 (hL : LC S R) {f v cap cnt need : Nat} (h : OS S0 I0 J0 R0 f v cap cnt S I J R) (hn : need ≤ 1000) (hn2 : need ≤ 2 * cap + 2) (hf : f < 900000) (b1 : 1 ≤ b.1) (b2 : 5000 ≤ b.2)
    (kk : ∀ S' I' J' D' R' f' v' cap' b', OS S0 I0 J0 R0 f' v' cap' cnt S' I' J' R' → f' ≤ f + 1 → need ≤ cap' → Q (.ok none) (S', I', J', D', R') b') :
    xRun xT 18 0 [(0, .ref 140), (1, .int (nI need))] [] (S, I, J, D, R) b Q := by
  have h' := h
  obtain ⟨⟨o1, o2, o3, o4, o5, o6, o7, o8, o9⟩, o10, o11, f1, f2, f3, f4⟩ := h'
  have S140 : S 140 = (9, 0) := by simp only [LC_out hL]
  have ak : ((100 ≤ 103 ∧ 103 < 106) ∨ 103 = 107 ∨ 103 = 108) = True := eq_true (by decide)
  rw [e18_0]
  simp only [B18_0, xSeq, i_push, i_load, i_iload, i_lload, i_dload, i_aload, i_istore, i_astore, i_lstore, i_dstore, i_iinc, i_ii, i_iiz, i_ll, i_llz, i_lli, i_li, i_i, i_l, i_i2l, i_l2i, i_dup, i_dup2, i_dup2w, i_dupx1, i_pop, i_pop2, i_goto, i_ifc, i_icmp, i_getI, i_getL, i_getR, i_putI, i_putZ, i_putL, i_putR, i_aldI, i_aldB, i_aldL, i_aldD, i_astI, i_astL, i_astD, i_alen, i_ret, i_iret, i_zret, i_lret, i_fret, i_dret, i_aret, i_invS0, i_invV0, i_m2, i_m1, i_ml, i_obj, lk, lkp, stf1, stf2, Value.category, rV, xTo, lv_args, xCk, xCat, xRc, xAk, hg_S, hg_I, hg_J, hg_D, hg_R, hs_I, hs_J, hs_D, hs_R, uI_at, uJ_at, uD_at, uR_at, List.take_succ_cons, List.take_zero, List.drop_succ_cons, List.drop_zero, List.reverse_cons, List.reverse_nil, List.nil_append, List.cons_append, List.map_cons, List.map_nil, List.sum_cons, List.sum_nil, List.length_cons, List.length_nil, Option.toList_some, Option.toList_none, true_and, and_true, false_and, and_false, true_implies, false_implies, implies_true, not_true_eq_false, not_false_eq_true, ne_eq, if_true, if_false, Bool.and_true, Bool.true_and, decide_true, decide_false, reduceIte, reduceCtorEq, Bool.and_self, Bool.and_eq_true, decide_eq_true_eq, and_self, true_or, or_true, false_or, or_false, Nat.zero_add, Nat.add_zero, eq_self, Nat.reduceEqDiff, Nat.reduceLeDiff, Nat.reduceLT, Nat.reduceAdd, Nat.reduceSub, Nat.reduceMul, LC_out hL, o1, o2, o3, shr0, shl0, ak]
  by_cases hc : need ≤ cap
  · have e : (nI need - nI cap ≤ 0) = True := eq_true (by
      have h2 := Int32.sub_eq_add_neg (nI need) (nI cap)
      rw [Int32.le_iff_toInt_le, Int32.toInt_sub, nI_toInt (by omega), nI_toInt (by omega)]
      rw [show (0 : Int32).toInt = 0 from rfl, Int.bmod_eq_of_le (by omega) (by omega)]
      omega)
    simp only [e, xSeq, i_push, i_load, i_iload, i_lload, i_dload, i_aload, i_istore, i_astore, i_lstore, i_dstore, i_iinc, i_ii, i_iiz, i_ll, i_llz, i_lli, i_li, i_i, i_l, i_i2l, i_l2i, i_dup, i_dup2, i_dup2w, i_dupx1, i_pop, i_pop2, i_goto, i_ifc, i_icmp, i_getI, i_getL, i_getR, i_putI, i_putZ, i_putL, i_putR, i_aldI, i_aldB, i_aldL, i_aldD, i_astI, i_astL, i_astD, i_alen, i_ret, i_iret, i_zret, i_lret, i_fret, i_dret, i_aret, i_invS0, i_invV0, i_m2, i_m1, i_ml, i_obj, lk, lkp, stf1, stf2, Value.category, rV, xTo, lv_args, xCk, xCat, xRc, xAk, hg_S, hg_I, hg_J, hg_D, hg_R, hs_I, hs_J, hs_D, hs_R, uI_at, uJ_at, uD_at, uR_at, List.take_succ_cons, List.take_zero, List.drop_succ_cons, List.drop_zero, List.reverse_cons, List.reverse_nil, List.nil_append, List.cons_append, List.map_cons, List.map_nil, List.sum_cons, List.sum_nil, List.length_cons, List.length_nil, Option.toList_some, Option.toList_none, true_and, and_true, false_and, and_false, true_implies, false_implies, implies_true, not_true_eq_false, not_false_eq_true, ne_eq, if_true, if_false, Bool.and_true, Bool.true_and, decide_true, decide_false, reduceIte, reduceCtorEq, Bool.and_self, Bool.and_eq_true, decide_eq_true_eq, and_self, true_or, or_true, false_or, or_false, Nat.zero_add, Nat.add_zero, eq_self, Nat.reduceEqDiff, Nat.reduceLeDiff, Nat.reduceLT, Nat.reduceAdd, Nat.reduceSub, Nat.reduceMul, e18_38, B18_38]
    exact kk S I J D R f v cap b h (by omega) hc
  · have e : (nI need - nI cap ≤ 0) = False := eq_false (by
      rw [nI_subn (by omega)]
      exact nI_nle (by omega) (by omega))
    have e2 : nI cap + 2 = nI (cap + 2) := by rw [show (2 : Int32) = nI 2 from rfl, nI_add]
    have e3 : (if need - cap < cap + 2 then cap + 2 else need - cap) = cap + 2 := by split <;> omega
    have h20 := fun (b : Nat × Nat) (Q : xQ) => R20 (S := S) (I := I) (J := J) (D := D) (R := R) (b := b) (Q := Q) (a := cap) (g := need - cap) (m := cap + 2) (by rw [e3]; omega) (by omega) (by omega) (by omega)
    rw [e3] at h20
    simp only [e, xSeq, i_push, i_load, i_iload, i_lload, i_dload, i_aload, i_istore, i_astore, i_lstore, i_dstore, i_iinc, i_ii, i_iiz, i_ll, i_llz, i_lli, i_li, i_i, i_l, i_i2l, i_l2i, i_dup, i_dup2, i_dup2w, i_dupx1, i_pop, i_pop2, i_goto, i_ifc, i_icmp, i_getI, i_getL, i_getR, i_putI, i_putZ, i_putL, i_putR, i_aldI, i_aldB, i_aldL, i_aldD, i_astI, i_astL, i_astD, i_alen, i_ret, i_iret, i_zret, i_lret, i_fret, i_dret, i_aret, i_invS0, i_invV0, i_m2, i_m1, i_ml, i_obj, lk, lkp, stf1, stf2, Value.category, rV, xTo, lv_args, xCk, xCat, xRc, xAk, hg_S, hg_I, hg_J, hg_D, hg_R, hs_I, hs_J, hs_D, hs_R, uI_at, uJ_at, uD_at, uR_at, List.take_succ_cons, List.take_zero, List.drop_succ_cons, List.drop_zero, List.reverse_cons, List.reverse_nil, List.nil_append, List.cons_append, List.map_cons, List.map_nil, List.sum_cons, List.sum_nil, List.length_cons, List.length_nil, Option.toList_some, Option.toList_none, true_and, and_true, false_and, and_false, true_implies, false_implies, implies_true, not_true_eq_false, not_false_eq_true, ne_eq, if_true, if_false, Bool.and_true, Bool.true_and, decide_true, decide_false, reduceIte, reduceCtorEq, Bool.and_self, Bool.and_eq_true, decide_eq_true_eq, and_self, true_or, or_true, false_or, or_false, Nat.zero_add, Nat.add_zero, eq_self, Nat.reduceEqDiff, Nat.reduceLeDiff, Nat.reduceLT, Nat.reduceAdd, Nat.reduceSub, Nat.reduceMul]
    refine w_invVA (mc := 0) (ms := 0) (Nat.zero_le _) (Nat.zero_le _) rfl (by simp only [xSeq, i_push, i_load, i_iload, i_lload, i_dload, i_aload, i_istore, i_astore, i_lstore, i_dstore, i_iinc, i_ii, i_iiz, i_ll, i_llz, i_lli, i_li, i_i, i_l, i_i2l, i_l2i, i_dup, i_dup2, i_dup2w, i_dupx1, i_pop, i_pop2, i_goto, i_ifc, i_icmp, i_getI, i_getL, i_getR, i_putI, i_putZ, i_putL, i_putR, i_aldI, i_aldB, i_aldL, i_aldD, i_astI, i_astL, i_astD, i_alen, i_ret, i_iret, i_zret, i_lret, i_fret, i_dret, i_aret, i_invS0, i_invV0, i_m2, i_m1, i_ml, i_obj, lk, lkp, stf1, stf2, Value.category, rV, xTo, lv_args, xCk, xCat, xRc, xAk, hg_S, hg_I, hg_J, hg_D, hg_R, hs_I, hs_J, hs_D, hs_R, uI_at, uJ_at, uD_at, uR_at, List.take_succ_cons, List.take_zero, List.drop_succ_cons, List.drop_zero, List.reverse_cons, List.reverse_nil, List.nil_append, List.cons_append, List.map_cons, List.map_nil, List.sum_cons, List.sum_nil, List.length_cons, List.length_nil, Option.toList_some, Option.toList_none, true_and, and_true, false_and, and_false, true_implies, false_implies, implies_true, not_true_eq_false, not_false_eq_true, ne_eq, if_true, if_false, Bool.and_true, Bool.true_and, decide_true, decide_false, reduceIte, reduceCtorEq, Bool.and_self, Bool.and_eq_true, decide_eq_true_eq, and_self, true_or, or_true, false_or, or_false, Nat.zero_add, Nat.add_zero, eq_self, Nat.reduceEqDiff, Nat.reduceLeDiff, Nat.reduceLT, Nat.reduceAdd, Nat.reduceSub, Nat.reduceMul, S140]) ?_
    simp only [xSeq, i_push, i_load, i_iload, i_lload, i_dload, i_aload, i_istore, i_astore, i_lstore, i_dstore, i_iinc, i_ii, i_iiz, i_ll, i_llz, i_lli, i_li, i_i, i_l, i_i2l, i_l2i, i_dup, i_dup2, i_dup2w, i_dupx1, i_pop, i_pop2, i_goto, i_ifc, i_icmp, i_getI, i_getL, i_getR, i_putI, i_putZ, i_putL, i_putR, i_aldI, i_aldB, i_aldL, i_aldD, i_astI, i_astL, i_astD, i_alen, i_ret, i_iret, i_zret, i_lret, i_fret, i_dret, i_aret, i_invS0, i_invV0, i_m2, i_m1, i_ml, i_obj, lk, lkp, stf1, stf2, Value.category, rV, xTo, lv_args, xCk, xCat, xRc, xAk, hg_S, hg_I, hg_J, hg_D, hg_R, hs_I, hs_J, hs_D, hs_R, uI_at, uJ_at, uD_at, uR_at, List.take_succ_cons, List.take_zero, List.drop_succ_cons, List.drop_zero, List.reverse_cons, List.reverse_nil, List.nil_append, List.cons_append, List.map_cons, List.map_nil, List.sum_cons, List.sum_nil, List.length_cons, List.length_nil, Option.toList_some, Option.toList_none, true_and, and_true, false_and, and_false, true_implies, false_implies, implies_true, not_true_eq_false, not_false_eq_true, ne_eq, if_true, if_false, Bool.and_true, Bool.true_and, decide_true, decide_false, reduceIte, reduceCtorEq, Bool.and_self, Bool.and_eq_true, decide_eq_true_eq, and_self, true_or, or_true, false_or, or_false, Nat.zero_add, Nat.add_zero, eq_self, Nat.reduceEqDiff, Nat.reduceLeDiff, Nat.reduceLT, Nat.reduceAdd, Nat.reduceSub, Nat.reduceMul]
    rw [e19_0]
    simp only [B19_0, xSeq, i_push, i_load, i_iload, i_lload, i_dload, i_aload, i_istore, i_astore, i_lstore, i_dstore, i_iinc, i_ii, i_iiz, i_ll, i_llz, i_lli, i_li, i_i, i_l, i_i2l, i_l2i, i_dup, i_dup2, i_dup2w, i_dupx1, i_pop, i_pop2, i_goto, i_ifc, i_icmp, i_getI, i_getL, i_getR, i_putI, i_putZ, i_putL, i_putR, i_aldI, i_aldB, i_aldL, i_aldD, i_astI, i_astL, i_astD, i_alen, i_ret, i_iret, i_zret, i_lret, i_fret, i_dret, i_aret, i_invS0, i_invV0, i_m2, i_m1, i_ml, i_obj, lk, lkp, stf1, stf2, Value.category, rV, xTo, lv_args, xCk, xCat, xRc, xAk, hg_S, hg_I, hg_J, hg_D, hg_R, hs_I, hs_J, hs_D, hs_R, uI_at, uJ_at, uD_at, uR_at, List.take_succ_cons, List.take_zero, List.drop_succ_cons, List.drop_zero, List.reverse_cons, List.reverse_nil, List.nil_append, List.cons_append, List.map_cons, List.map_nil, List.sum_cons, List.sum_nil, List.length_cons, List.length_nil, Option.toList_some, Option.toList_none, true_and, and_true, false_and, and_false, true_implies, false_implies, implies_true, not_true_eq_false, not_false_eq_true, ne_eq, if_true, if_false, Bool.and_true, Bool.true_and, decide_true, decide_false, reduceIte, reduceCtorEq, Bool.and_self, Bool.and_eq_true, decide_eq_true_eq, and_self, true_or, or_true, false_or, or_false, Nat.zero_add, Nat.add_zero, eq_self, Nat.reduceEqDiff, Nat.reduceLeDiff, Nat.reduceLT, Nat.reduceAdd, Nat.reduceSub, Nat.reduceMul, S140, o1, o2, o3, shl0, nI_subn (show cap ≤ need by omega), e2, h20, ak, show ((nI (cap + (cap + 2)) : Int32) = 2147483647) = False from eq_false (by rw [show (2147483647 : Int32) = nI 2147483647 from rfl, nI_iff (by omega) (by decide)]; omega), e19_51, B19_51, shr0]
    refine w_invSA (mc := 1) (ms := 5000) (by omega) (by omega) rfl ?_
    simp only [xSeq, i_push, i_load, i_iload, i_lload, i_dload, i_aload, i_istore, i_astore, i_lstore, i_dstore, i_iinc, i_ii, i_iiz, i_ll, i_llz, i_lli, i_li, i_i, i_l, i_i2l, i_l2i, i_dup, i_dup2, i_dup2w, i_dupx1, i_pop, i_pop2, i_goto, i_ifc, i_icmp, i_getI, i_getL, i_getR, i_putI, i_putZ, i_putL, i_putR, i_aldI, i_aldB, i_aldL, i_aldD, i_astI, i_astL, i_astD, i_alen, i_ret, i_iret, i_zret, i_lret, i_fret, i_dret, i_aret, i_invS0, i_invV0, i_m2, i_m1, i_ml, i_obj, lk, lkp, stf1, stf2, Value.category, rV, xTo, lv_args, xCk, xCat, xRc, xAk, hg_S, hg_I, hg_J, hg_D, hg_R, hs_I, hs_J, hs_D, hs_R, uI_at, uJ_at, uD_at, uR_at, List.take_succ_cons, List.take_zero, List.drop_succ_cons, List.drop_zero, List.reverse_cons, List.reverse_nil, List.nil_append, List.cons_append, List.map_cons, List.map_nil, List.sum_cons, List.sum_nil, List.length_cons, List.length_nil, Option.toList_some, Option.toList_none, true_and, and_true, false_and, and_false, true_implies, false_implies, implies_true, not_true_eq_false, not_false_eq_true, ne_eq, if_true, if_false, Bool.and_true, Bool.true_and, decide_true, decide_false, reduceIte, reduceCtorEq, Bool.and_self, Bool.and_eq_true, decide_eq_true_eq, and_self, true_or, or_true, false_or, or_false, Nat.zero_add, Nat.add_zero, eq_self, Nat.reduceEqDiff, Nat.reduceLeDiff, Nat.reduceLT, Nat.reduceAdd, Nat.reduceSub, Nat.reduceMul]
    rw [e21_0]
    simp only [B21_0, xSeq, i_push, i_load, i_iload, i_lload, i_dload, i_aload, i_istore, i_astore, i_lstore, i_dstore, i_iinc, i_ii, i_iiz, i_ll, i_llz, i_lli, i_li, i_i, i_l, i_i2l, i_l2i, i_dup, i_dup2, i_dup2w, i_dupx1, i_pop, i_pop2, i_goto, i_ifc, i_icmp, i_getI, i_getL, i_getR, i_putI, i_putZ, i_putL, i_putR, i_aldI, i_aldB, i_aldL, i_aldD, i_astI, i_astL, i_astD, i_alen, i_ret, i_iret, i_zret, i_lret, i_fret, i_dret, i_aret, i_invS0, i_invV0, i_m2, i_m1, i_ml, i_obj, lk, lkp, stf1, stf2, Value.category, rV, xTo, lv_args, xCk, xCat, xRc, xAk, hg_S, hg_I, hg_J, hg_D, hg_R, hs_I, hs_J, hs_D, hs_R, uI_at, uJ_at, uD_at, uR_at, List.take_succ_cons, List.take_zero, List.drop_succ_cons, List.drop_zero, List.reverse_cons, List.reverse_nil, List.nil_append, List.cons_append, List.map_cons, List.map_nil, List.sum_cons, List.sum_nil, List.length_cons, List.length_nil, Option.toList_some, Option.toList_none, true_and, and_true, false_and, and_false, true_implies, false_implies, implies_true, not_true_eq_false, not_false_eq_true, ne_eq, if_true, if_false, Bool.and_true, Bool.true_and, decide_true, decide_false, reduceIte, reduceCtorEq, Bool.and_self, Bool.and_eq_true, decide_eq_true_eq, and_self, true_or, or_true, false_or, or_false, Nat.zero_add, Nat.add_zero, eq_self, Nat.reduceEqDiff, Nat.reduceLeDiff, Nat.reduceLT, Nat.reduceAdd, Nat.reduceSub, Nat.reduceMul, o2, ak, show ((nI (cap + (cap + 2)) : Int32) = nI cap) = False from eq_false (by rw [nI_iff (by omega) (by omega)]; omega)]
    rw [e21_14]
    simp only [B21_14, xSeq, i_push, i_load, i_iload, i_lload, i_dload, i_aload, i_istore, i_astore, i_lstore, i_dstore, i_iinc, i_ii, i_iiz, i_ll, i_llz, i_lli, i_li, i_i, i_l, i_i2l, i_l2i, i_dup, i_dup2, i_dup2w, i_dupx1, i_pop, i_pop2, i_goto, i_ifc, i_icmp, i_getI, i_getL, i_getR, i_putI, i_putZ, i_putL, i_putR, i_aldI, i_aldB, i_aldL, i_aldD, i_astI, i_astL, i_astD, i_alen, i_ret, i_iret, i_zret, i_lret, i_fret, i_dret, i_aret, i_invS0, i_invV0, i_m2, i_m1, i_ml, i_obj, lk, lkp, stf1, stf2, Value.category, rV, xTo, lv_args, xCk, xCat, xRc, xAk, hg_S, hg_I, hg_J, hg_D, hg_R, hs_I, hs_J, hs_D, hs_R, uI_at, uJ_at, uD_at, uR_at, List.take_succ_cons, List.take_zero, List.drop_succ_cons, List.drop_zero, List.reverse_cons, List.reverse_nil, List.nil_append, List.cons_append, List.map_cons, List.map_nil, List.sum_cons, List.sum_nil, List.length_cons, List.length_nil, Option.toList_some, Option.toList_none, true_and, and_true, false_and, and_false, true_implies, false_implies, implies_true, not_true_eq_false, not_false_eq_true, ne_eq, if_true, if_false, Bool.and_true, Bool.true_and, decide_true, decide_false, reduceIte, reduceCtorEq, Bool.and_self, Bool.and_eq_true, decide_eq_true_eq, and_self, true_or, or_true, false_or, or_false, Nat.zero_add, Nat.add_zero, eq_self, Nat.reduceEqDiff, Nat.reduceLeDiff, Nat.reduceLT, Nat.reduceAdd, Nat.reduceSub, Nat.reduceMul]
    refine w_newa f (cap + (cap + 2)) (nI_pos (by omega)) (nI_ix (by omega)) (by omega) (by omega) (by omega) (by rw [o11 f (Nat.le_refl f) hf]) hf ?_
    have vf : v ≠ f := by omega
    have c1 : (v = f) = False := eq_false vf
    have c2 : (140 = f) = False := eq_false (by omega)
    have e5 : jMin (nI cap) (nI (cap + (cap + 2))) = nI cap := by
      unfold jMin
      rw [if_neg (nI_nlt (by omega) (by omega))]
    simp only [xSeq, i_push, i_load, i_iload, i_lload, i_dload, i_aload, i_istore, i_astore, i_lstore, i_dstore, i_iinc, i_ii, i_iiz, i_ll, i_llz, i_lli, i_li, i_i, i_l, i_i2l, i_l2i, i_dup, i_dup2, i_dup2w, i_dupx1, i_pop, i_pop2, i_goto, i_ifc, i_icmp, i_getI, i_getL, i_getR, i_putI, i_putZ, i_putL, i_putR, i_aldI, i_aldB, i_aldL, i_aldD, i_astI, i_astL, i_astD, i_alen, i_ret, i_iret, i_zret, i_lret, i_fret, i_dret, i_aret, i_invS0, i_invV0, i_m2, i_m1, i_ml, i_obj, lk, lkp, stf1, stf2, Value.category, rV, xTo, lv_args, xCk, xCat, xRc, xAk, hg_S, hg_I, hg_J, hg_D, hg_R, hs_I, hs_J, hs_D, hs_R, uI_at, uJ_at, uD_at, uR_at, List.take_succ_cons, List.take_zero, List.drop_succ_cons, List.drop_zero, List.reverse_cons, List.reverse_nil, List.nil_append, List.cons_append, List.map_cons, List.map_nil, List.sum_cons, List.sum_nil, List.length_cons, List.length_nil, Option.toList_some, Option.toList_none, true_and, and_true, false_and, and_false, true_implies, false_implies, implies_true, not_true_eq_false, not_false_eq_true, ne_eq, if_true, if_false, Bool.and_true, Bool.true_and, decide_true, decide_false, reduceIte, reduceCtorEq, Bool.and_self, Bool.and_eq_true, decide_eq_true_eq, and_self, true_or, or_true, false_or, or_false, Nat.zero_add, Nat.add_zero, eq_self, Nat.reduceEqDiff, Nat.reduceLeDiff, Nat.reduceLT, Nat.reduceAdd, Nat.reduceSub, Nat.reduceMul, nF_at, zI_at, zJ_at, zD_at, zR_at, o2, ak, c1, e5]
    refine w_copyB (k := cap) (j := cap + (cap + 2)) (by decide) (by rw [nF_at, if_neg vf]; exact o2) (by rw [nF_at, if_pos rfl]) (Nat.le_refl _) (by omega) (by omega) (fun i hi => by rw [zI_at, if_neg vf]; exact o9 i hi) ?_
    simp only [xSeq, i_push, i_load, i_iload, i_lload, i_dload, i_aload, i_istore, i_astore, i_lstore, i_dstore, i_iinc, i_ii, i_iiz, i_ll, i_llz, i_lli, i_li, i_i, i_l, i_i2l, i_l2i, i_dup, i_dup2, i_dup2w, i_dupx1, i_pop, i_pop2, i_goto, i_ifc, i_icmp, i_getI, i_getL, i_getR, i_putI, i_putZ, i_putL, i_putR, i_aldI, i_aldB, i_aldL, i_aldD, i_astI, i_astL, i_astD, i_alen, i_ret, i_iret, i_zret, i_lret, i_fret, i_dret, i_aret, i_invS0, i_invV0, i_m2, i_m1, i_ml, i_obj, lk, lkp, stf1, stf2, Value.category, rV, xTo, lv_args, xCk, xCat, xRc, xAk, hg_S, hg_I, hg_J, hg_D, hg_R, hs_I, hs_J, hs_D, hs_R, uI_at, uJ_at, uD_at, uR_at, List.take_succ_cons, List.take_zero, List.drop_succ_cons, List.drop_zero, List.reverse_cons, List.reverse_nil, List.nil_append, List.cons_append, List.map_cons, List.map_nil, List.sum_cons, List.sum_nil, List.length_cons, List.length_nil, Option.toList_some, Option.toList_none, true_and, and_true, false_and, and_false, true_implies, false_implies, implies_true, not_true_eq_false, not_false_eq_true, ne_eq, if_true, if_false, Bool.and_true, Bool.true_and, decide_true, decide_false, reduceIte, reduceCtorEq, Bool.and_self, Bool.and_eq_true, decide_eq_true_eq, and_self, true_or, or_true, false_or, or_false, Nat.zero_add, Nat.add_zero, eq_self, Nat.reduceEqDiff, Nat.reduceLeDiff, Nat.reduceLT, Nat.reduceAdd, Nat.reduceSub, Nat.reduceMul, nF_at, c2, S140]
    rw [e18_38]
    simp only [B18_38, xSeq, i_push, i_load, i_iload, i_lload, i_dload, i_aload, i_istore, i_astore, i_lstore, i_dstore, i_iinc, i_ii, i_iiz, i_ll, i_llz, i_lli, i_li, i_i, i_l, i_i2l, i_l2i, i_dup, i_dup2, i_dup2w, i_dupx1, i_pop, i_pop2, i_goto, i_ifc, i_icmp, i_getI, i_getL, i_getR, i_putI, i_putZ, i_putL, i_putR, i_aldI, i_aldB, i_aldL, i_aldD, i_astI, i_astL, i_astD, i_alen, i_ret, i_iret, i_zret, i_lret, i_fret, i_dret, i_aret, i_invS0, i_invV0, i_m2, i_m1, i_ml, i_obj, lk, lkp, stf1, stf2, Value.category, rV, xTo, lv_args, xCk, xCat, xRc, xAk, hg_S, hg_I, hg_J, hg_D, hg_R, hs_I, hs_J, hs_D, hs_R, uI_at, uJ_at, uD_at, uR_at, List.take_succ_cons, List.take_zero, List.drop_succ_cons, List.drop_zero, List.reverse_cons, List.reverse_nil, List.nil_append, List.cons_append, List.map_cons, List.map_nil, List.sum_cons, List.sum_nil, List.length_cons, List.length_nil, Option.toList_some, Option.toList_none, true_and, and_true, false_and, and_false, true_implies, false_implies, implies_true, not_true_eq_false, not_false_eq_true, ne_eq, if_true, if_false, Bool.and_true, Bool.true_and, decide_true, decide_false, reduceIte, reduceCtorEq, Bool.and_self, Bool.and_eq_true, decide_eq_true_eq, and_self, true_or, or_true, false_or, or_false, Nat.zero_add, Nat.add_zero, eq_self, Nat.reduceEqDiff, Nat.reduceLeDiff, Nat.reduceLT, Nat.reduceAdd, Nat.reduceSub, Nat.reduceMul]
    refine kk _ _ _ _ _ (f + 1) f (cap + (cap + 2)) _ ⟨⟨?_, ?_, ?_, ?_, Or.inr ⟨o10, by omega⟩, by omega, by omega, by omega, fun k hk => ?_⟩, by omega, fun o g1 g2 => ?_, fun o g => ?_, fun o j g g2 => ?_, fun o j g g2 g3 => ?_, fun o j g => ?_⟩ (Nat.le_refl _) (by omega)
    · simp only [uR_at, true_and, and_true, false_and, and_false, true_implies, false_implies, implies_true, not_true_eq_false, not_false_eq_true, ne_eq, if_true, if_false, Bool.and_true, Bool.true_and, decide_true, decide_false, reduceIte, reduceCtorEq, Bool.and_self, Bool.and_eq_true, decide_eq_true_eq, and_self, true_or, or_true, false_or, or_false, Nat.zero_add, Nat.add_zero, eq_self, Nat.reduceEqDiff, Nat.reduceLeDiff, Nat.reduceLT, Nat.reduceAdd, Nat.reduceSub, Nat.reduceMul]
    · simp only [nF_at, true_and, and_true, false_and, and_false, true_implies, false_implies, implies_true, not_true_eq_false, not_false_eq_true, ne_eq, if_true, if_false, Bool.and_true, Bool.true_and, decide_true, decide_false, reduceIte, reduceCtorEq, Bool.and_self, Bool.and_eq_true, decide_eq_true_eq, and_self, true_or, or_true, false_or, or_false, Nat.zero_add, Nat.add_zero, eq_self, Nat.reduceEqDiff, Nat.reduceLeDiff, Nat.reduceLT, Nat.reduceAdd, Nat.reduceSub, Nat.reduceMul]
    · rw [cpr_at, if_neg (by omega), zI_at, if_neg (by omega)]; exact o3
    · rw [cpr_at, if_neg (by omega), zI_at, if_neg (by omega)]; exact o4
    · rw [cpr_at, if_pos rfl]
      split
      · rename_i hi
        rw [zI_at, if_neg vf]
        exact o9 k hi
      · rw [zI_at, if_pos rfl]
        exact bF_0
    · rw [nF_at, if_neg (by omega)]
      exact o11 o (by omega) g2
    · rw [nF_at, if_neg (by omega)]
      exact f1 o g
    · rw [uR_at, if_neg g2, zR_at, if_neg (by omega)]
      exact f2 o j g g2
    · rw [cpr_at, if_neg (by omega), zI_at, if_neg (by omega)]
      exact f3 o j g g2 g3
    · rw [zJ_at, if_neg (by omega)]
      exact f4 o j g
theorem R22 (hL : LC S R) (h : I 140 1 = 0) : xRun xT 22 0 [(0, .ref 140)] [] (S, I, J, D, R) b Q = Q (.ok (some (.int 1))) (S, I, J, D, R) b := by
  rw [e22_0]
  simp only [B22_0, xSeq, i_push, i_load, i_iload, i_lload, i_dload, i_aload, i_istore, i_astore, i_lstore, i_dstore, i_iinc, i_ii, i_iiz, i_ll, i_llz, i_lli, i_li, i_i, i_l, i_i2l, i_l2i, i_dup, i_dup2, i_dup2w, i_dupx1, i_pop, i_pop2, i_goto, i_ifc, i_icmp, i_getI, i_getL, i_getR, i_putI, i_putZ, i_putL, i_putR, i_aldI, i_aldB, i_aldL, i_aldD, i_astI, i_astL, i_astD, i_alen, i_ret, i_iret, i_zret, i_lret, i_fret, i_dret, i_aret, i_invS0, i_invV0, i_m2, i_m1, i_ml, i_obj, lk, lkp, stf1, stf2, Value.category, rV, xTo, lv_args, xCk, xCat, xRc, xAk, hg_S, hg_I, hg_J, hg_D, hg_R, hs_I, hs_J, hs_D, hs_R, uI_at, uJ_at, uD_at, uR_at, List.take_succ_cons, List.take_zero, List.drop_succ_cons, List.drop_zero, List.reverse_cons, List.reverse_nil, List.nil_append, List.cons_append, List.map_cons, List.map_nil, List.sum_cons, List.sum_nil, List.length_cons, List.length_nil, Option.toList_some, Option.toList_none, true_and, and_true, false_and, and_false, true_implies, false_implies, implies_true, not_true_eq_false, not_false_eq_true, ne_eq, if_true, if_false, Bool.and_true, Bool.true_and, decide_true, decide_false, reduceIte, reduceCtorEq, Bool.and_self, Bool.and_eq_true, decide_eq_true_eq, and_self, true_or, or_true, false_or, or_false, Nat.zero_add, Nat.add_zero, eq_self, Nat.reduceEqDiff, Nat.reduceLeDiff, Nat.reduceLT, Nat.reduceAdd, Nat.reduceSub, Nat.reduceMul, LC_out hL, h, i1_0, e22_18, B22_18]
theorem L26 (hL0 : LC S0 R0) {f v cap cnt : Nat} {x : Nat} (h : OS S0 I0 J0 R0 f v cap cnt S I J R) (hx : x < 256) (hn : cnt < 1000) (hf : f < 900000) (b1 : 1 ≤ b.1) (b2 : 5000 ≤ b.2)
    (kk : ∀ S' I' J' D' R' f' v' cap' b', OS S0 I0 J0 R0 f' v' cap' (cnt + 1) S' I' J' R' → f' ≤ f + 1 → Q (.ok (some (.ref 140))) (S', I', J', D', R') b') :
    xRun xT 26 0 [(0, .ref 140), (1, .int (nI x))] [] (S, I, J, D, R) b Q := by
  have hL : LC S R := LC_g hL0 h.2.2.2.1 h.2.2.2.2.1
  have hcap := h.1.2.2.2.2.2.1
  rw [e26_0]
  simp only [B26_0, xSeq, i_push, i_load, i_iload, i_lload, i_dload, i_aload, i_istore, i_astore, i_lstore, i_dstore, i_iinc, i_ii, i_iiz, i_ll, i_llz, i_lli, i_li, i_i, i_l, i_i2l, i_l2i, i_dup, i_dup2, i_dup2w, i_dupx1, i_pop, i_pop2, i_goto, i_ifc, i_icmp, i_getI, i_getL, i_getR, i_putI, i_putZ, i_putL, i_putR, i_aldI, i_aldB, i_aldL, i_aldD, i_astI, i_astL, i_astD, i_alen, i_ret, i_iret, i_zret, i_lret, i_fret, i_dret, i_aret, i_invS0, i_invV0, i_m2, i_m1, i_ml, i_obj, lk, lkp, stf1, stf2, Value.category, rV, xTo, lv_args, xCk, xCat, xRc, xAk, hg_S, hg_I, hg_J, hg_D, hg_R, hs_I, hs_J, hs_D, hs_R, uI_at, uJ_at, uD_at, uR_at, List.take_succ_cons, List.take_zero, List.drop_succ_cons, List.drop_zero, List.reverse_cons, List.reverse_nil, List.nil_append, List.cons_append, List.map_cons, List.map_nil, List.sum_cons, List.sum_nil, List.length_cons, List.length_nil, Option.toList_some, Option.toList_none, true_and, and_true, false_and, and_false, true_implies, false_implies, implies_true, not_true_eq_false, not_false_eq_true, ne_eq, if_true, if_false, Bool.and_true, Bool.true_and, decide_true, decide_false, reduceIte, reduceCtorEq, Bool.and_self, Bool.and_eq_true, decide_eq_true_eq, and_self, true_or, or_true, false_or, or_false, Nat.zero_add, Nat.add_zero, eq_self, Nat.reduceEqDiff, Nat.reduceLeDiff, Nat.reduceLT, Nat.reduceAdd, Nat.reduceSub, Nat.reduceMul, LC_out hL, h.1.2.2.2.1, nI_1]
  refine w_invVA (mc := 1) (ms := 5000) b1 b2 rfl (by simp only [xSeq, i_push, i_load, i_iload, i_lload, i_dload, i_aload, i_istore, i_astore, i_lstore, i_dstore, i_iinc, i_ii, i_iiz, i_ll, i_llz, i_lli, i_li, i_i, i_l, i_i2l, i_l2i, i_dup, i_dup2, i_dup2w, i_dupx1, i_pop, i_pop2, i_goto, i_ifc, i_icmp, i_getI, i_getL, i_getR, i_putI, i_putZ, i_putL, i_putR, i_aldI, i_aldB, i_aldL, i_aldD, i_astI, i_astL, i_astD, i_alen, i_ret, i_iret, i_zret, i_lret, i_fret, i_dret, i_aret, i_invS0, i_invV0, i_m2, i_m1, i_ml, i_obj, lk, lkp, stf1, stf2, Value.category, rV, xTo, lv_args, xCk, xCat, xRc, xAk, hg_S, hg_I, hg_J, hg_D, hg_R, hs_I, hs_J, hs_D, hs_R, uI_at, uJ_at, uD_at, uR_at, List.take_succ_cons, List.take_zero, List.drop_succ_cons, List.drop_zero, List.reverse_cons, List.reverse_nil, List.nil_append, List.cons_append, List.map_cons, List.map_nil, List.sum_cons, List.sum_nil, List.length_cons, List.length_nil, Option.toList_some, Option.toList_none, true_and, and_true, false_and, and_false, true_implies, false_implies, implies_true, not_true_eq_false, not_false_eq_true, ne_eq, if_true, if_false, Bool.and_true, Bool.true_and, decide_true, decide_false, reduceIte, reduceCtorEq, Bool.and_self, Bool.and_eq_true, decide_eq_true_eq, and_self, true_or, or_true, false_or, or_false, Nat.zero_add, Nat.add_zero, eq_self, Nat.reduceEqDiff, Nat.reduceLeDiff, Nat.reduceLT, Nat.reduceAdd, Nat.reduceSub, Nat.reduceMul, LC_out hL]) ?_
  simp only [xSeq, i_push, i_load, i_iload, i_lload, i_dload, i_aload, i_istore, i_astore, i_lstore, i_dstore, i_iinc, i_ii, i_iiz, i_ll, i_llz, i_lli, i_li, i_i, i_l, i_i2l, i_l2i, i_dup, i_dup2, i_dup2w, i_dupx1, i_pop, i_pop2, i_goto, i_ifc, i_icmp, i_getI, i_getL, i_getR, i_putI, i_putZ, i_putL, i_putR, i_aldI, i_aldB, i_aldL, i_aldD, i_astI, i_astL, i_astD, i_alen, i_ret, i_iret, i_zret, i_lret, i_fret, i_dret, i_aret, i_invS0, i_invV0, i_m2, i_m1, i_ml, i_obj, lk, lkp, stf1, stf2, Value.category, rV, xTo, lv_args, xCk, xCat, xRc, xAk, hg_S, hg_I, hg_J, hg_D, hg_R, hs_I, hs_J, hs_D, hs_R, uI_at, uJ_at, uD_at, uR_at, List.take_succ_cons, List.take_zero, List.drop_succ_cons, List.drop_zero, List.reverse_cons, List.reverse_nil, List.nil_append, List.cons_append, List.map_cons, List.map_nil, List.sum_cons, List.sum_nil, List.length_cons, List.length_nil, Option.toList_some, Option.toList_none, true_and, and_true, false_and, and_false, true_implies, false_implies, implies_true, not_true_eq_false, not_false_eq_true, ne_eq, if_true, if_false, Bool.and_true, Bool.true_and, decide_true, decide_false, reduceIte, reduceCtorEq, Bool.and_self, Bool.and_eq_true, decide_eq_true_eq, and_self, true_or, or_true, false_or, or_false, Nat.zero_add, Nat.add_zero, eq_self, Nat.reduceEqDiff, Nat.reduceLeDiff, Nat.reduceLT, Nat.reduceAdd, Nat.reduceSub, Nat.reduceMul]
  refine L18 hL h (by omega) (by omega) hf (by decide) (by decide) (fun S' I' J' D' R' f' v' cap' b' h' hf' hc' => ?_)
  have hL' : LC S' R' := LC_g hL0 h'.2.2.2.1 h'.2.2.2.2.1
  have h1' := h'
  obtain ⟨⟨o1, o2, o3, o4, o5, o6, o7, o8, o9⟩, o10, o11, f1, f2, f3, f4⟩ := h1'
  simp only [xSeq, i_push, i_load, i_iload, i_lload, i_dload, i_aload, i_istore, i_astore, i_lstore, i_dstore, i_iinc, i_ii, i_iiz, i_ll, i_llz, i_lli, i_li, i_i, i_l, i_i2l, i_l2i, i_dup, i_dup2, i_dup2w, i_dupx1, i_pop, i_pop2, i_goto, i_ifc, i_icmp, i_getI, i_getL, i_getR, i_putI, i_putZ, i_putL, i_putR, i_aldI, i_aldB, i_aldL, i_aldD, i_astI, i_astL, i_astD, i_alen, i_ret, i_iret, i_zret, i_lret, i_fret, i_dret, i_aret, i_invS0, i_invV0, i_m2, i_m1, i_ml, i_obj, lk, lkp, stf1, stf2, Value.category, rV, xTo, lv_args, xCk, xCat, xRc, xAk, hg_S, hg_I, hg_J, hg_D, hg_R, hs_I, hs_J, hs_D, hs_R, uI_at, uJ_at, uD_at, uR_at, List.take_succ_cons, List.take_zero, List.drop_succ_cons, List.drop_zero, List.reverse_cons, List.reverse_nil, List.nil_append, List.cons_append, List.map_cons, List.map_nil, List.sum_cons, List.sum_nil, List.length_cons, List.length_nil, Option.toList_some, Option.toList_none, true_and, and_true, false_and, and_false, true_implies, false_implies, implies_true, not_true_eq_false, not_false_eq_true, ne_eq, if_true, if_false, Bool.and_true, Bool.true_and, decide_true, decide_false, reduceIte, reduceCtorEq, Bool.and_self, Bool.and_eq_true, decide_eq_true_eq, and_self, true_or, or_true, false_or, or_false, Nat.zero_add, Nat.add_zero, eq_self, Nat.reduceEqDiff, Nat.reduceLeDiff, Nat.reduceLT, Nat.reduceAdd, Nat.reduceSub, Nat.reduceMul, R22 hL' o3, i1_0, e27_0, B27_0, show ((255 : Int32) < nI x) = False from eq_false (fun h => by
    rw [show (255 : Int32) = nI 255 from rfl, nI_ltI (by decide) (by omega)] at h
    omega), e27_12, B27_12, LC_out hL', o1, o2, o4, nI_1, nI_inP (show cnt < cap' by omega) (by omega), nI_ix (show cnt < 2147483648 by omega), e26_75, B26_75]
  refine kk _ _ _ _ _ f' v' cap' _ ⟨⟨o1, o2, ?_, ?_, o5, hc', o7, o8, fun k hk => ?_⟩, o10, o11, f1, f2, fun o j g g2 g3 => ?_, f4⟩ hf'
  · have c1 : ¬ (140 = v' ∧ 1 = cnt) := by omega
    rw [uI_at, if_neg c1, uI_at, if_neg (by omega)]
    exact o3
  · have c1 : ¬ (140 = v' ∧ 3 = cnt) := by omega
    rw [uI_at, if_neg c1, uI_at, if_pos ⟨rfl, rfl⟩]
  · rw [uI_at]
    split
    · exact bF_n _
    · rw [uI_at, if_neg (by omega)]
      exact o9 k hk
  · rw [uI_at, if_neg (by omega), uI_at, if_neg (by omega)]
    exact f3 o j g g2 g3
theorem L25 (hL0 : LC S0 R0) {f v cap cnt : Nat} {x : Nat} (h : OS S0 I0 J0 R0 f v cap cnt S I J R) (hx : x < 256) (hn : cnt < 1000) (hf : f < 900000) (b1 : 1 ≤ b.1) (b2 : 5000 ≤ b.2)
    (kk : ∀ S' I' J' D' R' f' v' cap' b', OS S0 I0 J0 R0 f' v' cap' (cnt + 1) S' I' J' R' → f' ≤ f + 1 → Q (.ok (some (.ref 140))) (S', I', J', D', R') b') :
    xRun xT 25 0 [(0, .ref 140), (1, .int (nI x))] [] (S, I, J, D, R) b Q := by
  have hL : LC S R := LC_g hL0 h.2.2.2.1 h.2.2.2.2.1
  rw [e25_0]
  simp only [B25_0, xSeq, i_push, i_load, i_iload, i_lload, i_dload, i_aload, i_istore, i_astore, i_lstore, i_dstore, i_iinc, i_ii, i_iiz, i_ll, i_llz, i_lli, i_li, i_i, i_l, i_i2l, i_l2i, i_dup, i_dup2, i_dup2w, i_dupx1, i_pop, i_pop2, i_goto, i_ifc, i_icmp, i_getI, i_getL, i_getR, i_putI, i_putZ, i_putL, i_putR, i_aldI, i_aldB, i_aldL, i_aldD, i_astI, i_astL, i_astD, i_alen, i_ret, i_iret, i_zret, i_lret, i_fret, i_dret, i_aret, i_invS0, i_invV0, i_m2, i_m1, i_ml, i_obj, lk, lkp, stf1, stf2, Value.category, rV, xTo, lv_args, xCk, xCat, xRc, xAk, hg_S, hg_I, hg_J, hg_D, hg_R, hs_I, hs_J, hs_D, hs_R, uI_at, uJ_at, uD_at, uR_at, List.take_succ_cons, List.take_zero, List.drop_succ_cons, List.drop_zero, List.reverse_cons, List.reverse_nil, List.nil_append, List.cons_append, List.map_cons, List.map_nil, List.sum_cons, List.sum_nil, List.length_cons, List.length_nil, Option.toList_some, Option.toList_none, true_and, and_true, false_and, and_false, true_implies, false_implies, implies_true, not_true_eq_false, not_false_eq_true, ne_eq, if_true, if_false, Bool.and_true, Bool.true_and, decide_true, decide_false, reduceIte, reduceCtorEq, Bool.and_self, Bool.and_eq_true, decide_eq_true_eq, and_self, true_or, or_true, false_or, or_false, Nat.zero_add, Nat.add_zero, eq_self, Nat.reduceEqDiff, Nat.reduceLeDiff, Nat.reduceLT, Nat.reduceAdd, Nat.reduceSub, Nat.reduceMul]
  refine w_invVA (mc := 1) (ms := 5000) b1 b2 rfl (by simp only [xSeq, i_push, i_load, i_iload, i_lload, i_dload, i_aload, i_istore, i_astore, i_lstore, i_dstore, i_iinc, i_ii, i_iiz, i_ll, i_llz, i_lli, i_li, i_i, i_l, i_i2l, i_l2i, i_dup, i_dup2, i_dup2w, i_dupx1, i_pop, i_pop2, i_goto, i_ifc, i_icmp, i_getI, i_getL, i_getR, i_putI, i_putZ, i_putL, i_putR, i_aldI, i_aldB, i_aldL, i_aldD, i_astI, i_astL, i_astD, i_alen, i_ret, i_iret, i_zret, i_lret, i_fret, i_dret, i_aret, i_invS0, i_invV0, i_m2, i_m1, i_ml, i_obj, lk, lkp, stf1, stf2, Value.category, rV, xTo, lv_args, xCk, xCat, xRc, xAk, hg_S, hg_I, hg_J, hg_D, hg_R, hs_I, hs_J, hs_D, hs_R, uI_at, uJ_at, uD_at, uR_at, List.take_succ_cons, List.take_zero, List.drop_succ_cons, List.drop_zero, List.reverse_cons, List.reverse_nil, List.nil_append, List.cons_append, List.map_cons, List.map_nil, List.sum_cons, List.sum_nil, List.length_cons, List.length_nil, Option.toList_some, Option.toList_none, true_and, and_true, false_and, and_false, true_implies, false_implies, implies_true, not_true_eq_false, not_false_eq_true, ne_eq, if_true, if_false, Bool.and_true, Bool.true_and, decide_true, decide_false, reduceIte, reduceCtorEq, Bool.and_self, Bool.and_eq_true, decide_eq_true_eq, and_self, true_or, or_true, false_or, or_false, Nat.zero_add, Nat.add_zero, eq_self, Nat.reduceEqDiff, Nat.reduceLeDiff, Nat.reduceLT, Nat.reduceAdd, Nat.reduceSub, Nat.reduceMul, LC_out hL]) ?_
  simp only [xSeq, i_push, i_load, i_iload, i_lload, i_dload, i_aload, i_istore, i_astore, i_lstore, i_dstore, i_iinc, i_ii, i_iiz, i_ll, i_llz, i_lli, i_li, i_i, i_l, i_i2l, i_l2i, i_dup, i_dup2, i_dup2w, i_dupx1, i_pop, i_pop2, i_goto, i_ifc, i_icmp, i_getI, i_getL, i_getR, i_putI, i_putZ, i_putL, i_putR, i_aldI, i_aldB, i_aldL, i_aldD, i_astI, i_astL, i_astD, i_alen, i_ret, i_iret, i_zret, i_lret, i_fret, i_dret, i_aret, i_invS0, i_invV0, i_m2, i_m1, i_ml, i_obj, lk, lkp, stf1, stf2, Value.category, rV, xTo, lv_args, xCk, xCat, xRc, xAk, hg_S, hg_I, hg_J, hg_D, hg_R, hs_I, hs_J, hs_D, hs_R, uI_at, uJ_at, uD_at, uR_at, List.take_succ_cons, List.take_zero, List.drop_succ_cons, List.drop_zero, List.reverse_cons, List.reverse_nil, List.nil_append, List.cons_append, List.map_cons, List.map_nil, List.sum_cons, List.sum_nil, List.length_cons, List.length_nil, Option.toList_some, Option.toList_none, true_and, and_true, false_and, and_false, true_implies, false_implies, implies_true, not_true_eq_false, not_false_eq_true, ne_eq, if_true, if_false, Bool.and_true, Bool.true_and, decide_true, decide_false, reduceIte, reduceCtorEq, Bool.and_self, Bool.and_eq_true, decide_eq_true_eq, and_self, true_or, or_true, false_or, or_false, Nat.zero_add, Nat.add_zero, eq_self, Nat.reduceEqDiff, Nat.reduceLeDiff, Nat.reduceLT, Nat.reduceAdd, Nat.reduceSub, Nat.reduceMul]
  refine L26 hL0 h hx hn hf (by decide) (by decide) (fun S' I' J' D' R' f' v' cap' b' h' hf' => ?_)
  simp only [xSeq, i_push, i_load, i_iload, i_lload, i_dload, i_aload, i_istore, i_astore, i_lstore, i_dstore, i_iinc, i_ii, i_iiz, i_ll, i_llz, i_lli, i_li, i_i, i_l, i_i2l, i_l2i, i_dup, i_dup2, i_dup2w, i_dupx1, i_pop, i_pop2, i_goto, i_ifc, i_icmp, i_getI, i_getL, i_getR, i_putI, i_putZ, i_putL, i_putR, i_aldI, i_aldB, i_aldL, i_aldD, i_astI, i_astL, i_astD, i_alen, i_ret, i_iret, i_zret, i_lret, i_fret, i_dret, i_aret, i_invS0, i_invV0, i_m2, i_m1, i_ml, i_obj, lk, lkp, stf1, stf2, Value.category, rV, xTo, lv_args, xCk, xCat, xRc, xAk, hg_S, hg_I, hg_J, hg_D, hg_R, hs_I, hs_J, hs_D, hs_R, uI_at, uJ_at, uD_at, uR_at, List.take_succ_cons, List.take_zero, List.drop_succ_cons, List.drop_zero, List.reverse_cons, List.reverse_nil, List.nil_append, List.cons_append, List.map_cons, List.map_nil, List.sum_cons, List.sum_nil, List.length_cons, List.length_nil, Option.toList_some, Option.toList_none, true_and, and_true, false_and, and_false, true_implies, false_implies, implies_true, not_true_eq_false, not_false_eq_true, ne_eq, if_true, if_false, Bool.and_true, Bool.true_and, decide_true, decide_false, reduceIte, reduceCtorEq, Bool.and_self, Bool.and_eq_true, decide_eq_true_eq, and_self, true_or, or_true, false_or, or_false, Nat.zero_add, Nat.add_zero, eq_self, Nat.reduceEqDiff, Nat.reduceLeDiff, Nat.reduceLT, Nat.reduceAdd, Nat.reduceSub, Nat.reduceMul]
  exact kk S' I' J' D' R' f' v' cap' _ h' hf'
end
/-! ===== printGrid ===== -/
section
variable {S0 : xS} {I0 : xI} {J0 : xJ} {R0 : xR} {S : xS} {I : xI} {J : xJ} {D : xDb} {R : xR} {b : Nat × Nat} {Q : xQ}
theorem L143_23 (hL0 : LC S0 R0) {r c : Nat} (hr : r ≤ 8) (hc : c ≤ 8) (h0 : I0 102 0 = nI r) (h1 : I0 102 1 = nI c) {s : Nat} (hs : J0 110 4 = lN s) (hs2 : s < 2 ^ 64) {y F B1 B2 : Nat} (hy : y < r) (hF : F < 900000)
    (kk : ∀ S I J D R f v cap b, OS S0 I0 J0 R0 f v cap (y * (c + 1) + c) S I J R → f ≤ F → B1 ≤ b.1 → B2 ≤ b.2 → xRun xT 143 85 [(0, .ref 100), (1, .int (nI y))] [] (S, I, J, D, R) b Q) :
    ∀ (j i : Nat) (S : xS) (I : xI) (J : xJ) (D : xDb) (R : xR) (f v cap : Nat) (b : Nat × Nat), i + j = c → OS S0 I0 J0 R0 f v cap (y * (c + 1) + i) S I J R → f + j ≤ F → j + B1 ≤ b.1 → 5000 * j + B2 ≤ b.2 → xRun xT 143 23 [(0, .ref 100), (1, .int (nI y)), (2, .int (nI i))] [] (S, I, J, D, R) b Q
  | 0, i, S, I, J, D, R, f, v, cap, b, hi, h, hf, b1, b2 => by
    have hL : LC S R := LC_g hL0 h.2.2.2.1 h.2.2.2.2.1
    have e : i = c := by omega
    have c1 : I 102 1 = nI c := (h.2.2.2.2.2.1 _ _ (by decide) (by decide) (by decide)).trans h1
    subst e
    rw [e143_23]
    simp only [B143_23, xSeq, i_push, i_load, i_iload, i_lload, i_dload, i_aload, i_istore, i_astore, i_lstore, i_dstore, i_iinc, i_ii, i_iiz, i_ll, i_llz, i_lli, i_li, i_i, i_l, i_i2l, i_l2i, i_dup, i_dup2, i_dup2w, i_dupx1, i_pop, i_pop2, i_goto, i_ifc, i_icmp, i_getI, i_getL, i_getR, i_putI, i_putZ, i_putL, i_putR, i_aldI, i_aldB, i_aldL, i_aldD, i_astI, i_astL, i_astD, i_alen, i_ret, i_iret, i_zret, i_lret, i_fret, i_dret, i_aret, i_invS0, i_invV0, i_m2, i_m1, i_ml, i_obj, lk, lkp, stf1, stf2, Value.category, rV, xTo, lv_args, xCk, xCat, xRc, xAk, hg_S, hg_I, hg_J, hg_D, hg_R, hs_I, hs_J, hs_D, hs_R, uI_at, uJ_at, uD_at, uR_at, List.take_succ_cons, List.take_zero, List.drop_succ_cons, List.drop_zero, List.reverse_cons, List.reverse_nil, List.nil_append, List.cons_append, List.map_cons, List.map_nil, List.sum_cons, List.sum_nil, List.length_cons, List.length_nil, Option.toList_some, Option.toList_none, true_and, and_true, false_and, and_false, true_implies, false_implies, implies_true, not_true_eq_false, not_false_eq_true, ne_eq, if_true, if_false, Bool.and_true, Bool.true_and, decide_true, decide_false, reduceIte, reduceCtorEq, Bool.and_self, Bool.and_eq_true, decide_eq_true_eq, and_self, true_or, or_true, false_or, or_false, Nat.zero_add, Nat.add_zero, eq_self, Nat.reduceEqDiff, Nat.reduceLeDiff, Nat.reduceLT, Nat.reduceAdd, Nat.reduceSub, Nat.reduceMul, LC_out hL, c1, nI_leP (show i < 2147483648 by omega) (show i < 2147483648 by omega), Nat.le_refl]
    exact kk S I J D R f v cap b h (by omega) (by omega) (by omega)
  | j + 1, i, S, I, J, D, R, f, v, cap, b, hi, h, hf, b1, b2 => by
    have hL : LC S R := LC_g hL0 h.2.2.2.1 h.2.2.2.2.1
    have c1 : I 102 1 = nI c := (h.2.2.2.2.2.1 _ _ (by decide) (by decide) (by decide)).trans h1
    have s1 : J 110 4 = lN s := (h.2.2.2.2.2.2 _ _ (by decide)).trans hs
    have hyc : y * c ≤ 7 * 8 := Nat.mul_le_mul (by omega) hc
    have hyc2 : y * (c + 1) ≤ 7 * 9 := Nat.mul_le_mul (by omega) (by omega)
    have e1 : nI y * nI c + nI i = nI (y * c + i) := by rw [pk_mul, nI_add]
    have h77 := fun (Q : xQ) => R77 (S := S) (I := I) (J := J) (D := D) (R := R) (b := (0, 0)) (Q := Q) (o := 110) hs2 (show y * c + i < 64 by omega)
    have ap : ∀ x : Nat, x < 256 → xRun xT 143 75 [(0, .ref 100), (1, .int (nI y)), (2, .int (nI i))] [.int (nI x), .ref 140] (S, I, J, D, R) b Q := fun x hx => by
      rw [e143_75]
      simp only [B143_75, xSeq]
      refine w_invVA (mc := 1) (ms := 5000) (by omega) (by omega) rfl (by simp only [xSeq, i_push, i_load, i_iload, i_lload, i_dload, i_aload, i_istore, i_astore, i_lstore, i_dstore, i_iinc, i_ii, i_iiz, i_ll, i_llz, i_lli, i_li, i_i, i_l, i_i2l, i_l2i, i_dup, i_dup2, i_dup2w, i_dupx1, i_pop, i_pop2, i_goto, i_ifc, i_icmp, i_getI, i_getL, i_getR, i_putI, i_putZ, i_putL, i_putR, i_aldI, i_aldB, i_aldL, i_aldD, i_astI, i_astL, i_astD, i_alen, i_ret, i_iret, i_zret, i_lret, i_fret, i_dret, i_aret, i_invS0, i_invV0, i_m2, i_m1, i_ml, i_obj, lk, lkp, stf1, stf2, Value.category, rV, xTo, lv_args, xCk, xCat, xRc, xAk, hg_S, hg_I, hg_J, hg_D, hg_R, hs_I, hs_J, hs_D, hs_R, uI_at, uJ_at, uD_at, uR_at, List.take_succ_cons, List.take_zero, List.drop_succ_cons, List.drop_zero, List.reverse_cons, List.reverse_nil, List.nil_append, List.cons_append, List.map_cons, List.map_nil, List.sum_cons, List.sum_nil, List.length_cons, List.length_nil, Option.toList_some, Option.toList_none, true_and, and_true, false_and, and_false, true_implies, false_implies, implies_true, not_true_eq_false, not_false_eq_true, ne_eq, if_true, if_false, Bool.and_true, Bool.true_and, decide_true, decide_false, reduceIte, reduceCtorEq, Bool.and_self, Bool.and_eq_true, decide_eq_true_eq, and_self, true_or, or_true, false_or, or_false, Nat.zero_add, Nat.add_zero, eq_self, Nat.reduceEqDiff, Nat.reduceLeDiff, Nat.reduceLT, Nat.reduceAdd, Nat.reduceSub, Nat.reduceMul, LC_out hL]) ?_
      simp only [xSeq, i_push, i_load, i_iload, i_lload, i_dload, i_aload, i_istore, i_astore, i_lstore, i_dstore, i_iinc, i_ii, i_iiz, i_ll, i_llz, i_lli, i_li, i_i, i_l, i_i2l, i_l2i, i_dup, i_dup2, i_dup2w, i_dupx1, i_pop, i_pop2, i_goto, i_ifc, i_icmp, i_getI, i_getL, i_getR, i_putI, i_putZ, i_putL, i_putR, i_aldI, i_aldB, i_aldL, i_aldD, i_astI, i_astL, i_astD, i_alen, i_ret, i_iret, i_zret, i_lret, i_fret, i_dret, i_aret, i_invS0, i_invV0, i_m2, i_m1, i_ml, i_obj, lk, lkp, stf1, stf2, Value.category, rV, xTo, lv_args, xCk, xCat, xRc, xAk, hg_S, hg_I, hg_J, hg_D, hg_R, hs_I, hs_J, hs_D, hs_R, uI_at, uJ_at, uD_at, uR_at, List.take_succ_cons, List.take_zero, List.drop_succ_cons, List.drop_zero, List.reverse_cons, List.reverse_nil, List.nil_append, List.cons_append, List.map_cons, List.map_nil, List.sum_cons, List.sum_nil, List.length_cons, List.length_nil, Option.toList_some, Option.toList_none, true_and, and_true, false_and, and_false, true_implies, false_implies, implies_true, not_true_eq_false, not_false_eq_true, ne_eq, if_true, if_false, Bool.and_true, Bool.true_and, decide_true, decide_false, reduceIte, reduceCtorEq, Bool.and_self, Bool.and_eq_true, decide_eq_true_eq, and_self, true_or, or_true, false_or, or_false, Nat.zero_add, Nat.add_zero, eq_self, Nat.reduceEqDiff, Nat.reduceLeDiff, Nat.reduceLT, Nat.reduceAdd, Nat.reduceSub, Nat.reduceMul]
      refine L25 hL0 h hx (by omega) (by omega) (by decide) (by decide) (fun S' I' J' D' R' f' v' cap' b' h' hf' => ?_)
      simp only [xSeq, i_push, i_load, i_iload, i_lload, i_dload, i_aload, i_istore, i_astore, i_lstore, i_dstore, i_iinc, i_ii, i_iiz, i_ll, i_llz, i_lli, i_li, i_i, i_l, i_i2l, i_l2i, i_dup, i_dup2, i_dup2w, i_dupx1, i_pop, i_pop2, i_goto, i_ifc, i_icmp, i_getI, i_getL, i_getR, i_putI, i_putZ, i_putL, i_putR, i_aldI, i_aldB, i_aldL, i_aldD, i_astI, i_astL, i_astD, i_alen, i_ret, i_iret, i_zret, i_lret, i_fret, i_dret, i_aret, i_invS0, i_invV0, i_m2, i_m1, i_ml, i_obj, lk, lkp, stf1, stf2, Value.category, rV, xTo, lv_args, xCk, xCat, xRc, xAk, hg_S, hg_I, hg_J, hg_D, hg_R, hs_I, hs_J, hs_D, hs_R, uI_at, uJ_at, uD_at, uR_at, List.take_succ_cons, List.take_zero, List.drop_succ_cons, List.drop_zero, List.reverse_cons, List.reverse_nil, List.nil_append, List.cons_append, List.map_cons, List.map_nil, List.sum_cons, List.sum_nil, List.length_cons, List.length_nil, Option.toList_some, Option.toList_none, true_and, and_true, false_and, and_false, true_implies, false_implies, implies_true, not_true_eq_false, not_false_eq_true, ne_eq, if_true, if_false, Bool.and_true, Bool.true_and, decide_true, decide_false, reduceIte, reduceCtorEq, Bool.and_self, Bool.and_eq_true, decide_eq_true_eq, and_self, true_or, or_true, false_or, or_false, Nat.zero_add, Nat.add_zero, eq_self, Nat.reduceEqDiff, Nat.reduceLeDiff, Nat.reduceLT, Nat.reduceAdd, Nat.reduceSub, Nat.reduceMul, nI_1]
      exact L143_23 hL0 hr hc h0 h1 hs hs2 hy hF kk j (i + 1) S' I' J' D' R' f' v' cap' _ (by omega) h' (by omega) (by show j + B1 ≤ b.1 - 1; omega) (by show 5000 * j + B2 ≤ b.2 - 5000; omega)
    rw [e143_23]
    simp only [B143_23, xSeq, i_push, i_load, i_iload, i_lload, i_dload, i_aload, i_istore, i_astore, i_lstore, i_dstore, i_iinc, i_ii, i_iiz, i_ll, i_llz, i_lli, i_li, i_i, i_l, i_i2l, i_l2i, i_dup, i_dup2, i_dup2w, i_dupx1, i_pop, i_pop2, i_goto, i_ifc, i_icmp, i_getI, i_getL, i_getR, i_putI, i_putZ, i_putL, i_putR, i_aldI, i_aldB, i_aldL, i_aldD, i_astI, i_astL, i_astD, i_alen, i_ret, i_iret, i_zret, i_lret, i_fret, i_dret, i_aret, i_invS0, i_invV0, i_m2, i_m1, i_ml, i_obj, lk, lkp, stf1, stf2, Value.category, rV, xTo, lv_args, xCk, xCat, xRc, xAk, hg_S, hg_I, hg_J, hg_D, hg_R, hs_I, hs_J, hs_D, hs_R, uI_at, uJ_at, uD_at, uR_at, List.take_succ_cons, List.take_zero, List.drop_succ_cons, List.drop_zero, List.reverse_cons, List.reverse_nil, List.nil_append, List.cons_append, List.map_cons, List.map_nil, List.sum_cons, List.sum_nil, List.length_cons, List.length_nil, Option.toList_some, Option.toList_none, true_and, and_true, false_and, and_false, true_implies, false_implies, implies_true, not_true_eq_false, not_false_eq_true, ne_eq, if_true, if_false, Bool.and_true, Bool.true_and, decide_true, decide_false, reduceIte, reduceCtorEq, Bool.and_self, Bool.and_eq_true, decide_eq_true_eq, and_self, true_or, or_true, false_or, or_false, Nat.zero_add, Nat.add_zero, eq_self, Nat.reduceEqDiff, Nat.reduceLeDiff, Nat.reduceLT, Nat.reduceAdd, Nat.reduceSub, Nat.reduceMul, LC_out hL, c1, s1, nI_leP (show c < 2147483648 by omega) (show i < 2147483648 by omega), show (c ≤ i) = False from eq_false (by omega), e1, h77, e143_73, B143_73]
    cases s.testBit (y * c + i)
    · simp only [show (sg false ≤ 0) = True from eq_true (by decide), true_and, and_true, false_and, and_false, true_implies, false_implies, implies_true, not_true_eq_false, not_false_eq_true, ne_eq, if_true, if_false, Bool.and_true, Bool.true_and, decide_true, decide_false, reduceIte, reduceCtorEq, Bool.and_self, Bool.and_eq_true, decide_eq_true_eq, and_self, true_or, or_true, false_or, or_false, Nat.zero_add, Nat.add_zero, eq_self, Nat.reduceEqDiff, Nat.reduceLeDiff, Nat.reduceLT, Nat.reduceAdd, Nat.reduceSub, Nat.reduceMul]
      exact ap 45 (by decide)
    · simp only [show (sg true ≤ 0) = False from eq_false (by decide), true_and, and_true, false_and, and_false, true_implies, false_implies, implies_true, not_true_eq_false, not_false_eq_true, ne_eq, if_true, if_false, Bool.and_true, Bool.true_and, decide_true, decide_false, reduceIte, reduceCtorEq, Bool.and_self, Bool.and_eq_true, decide_eq_true_eq, and_self, true_or, or_true, false_or, or_false, Nat.zero_add, Nat.add_zero, eq_self, Nat.reduceEqDiff, Nat.reduceLeDiff, Nat.reduceLT, Nat.reduceAdd, Nat.reduceSub, Nat.reduceMul]
      exact ap 43 (by decide)
theorem L143_10 (hL0 : LC S0 R0) {r c : Nat} (hr : r ≤ 8) (hc : c ≤ 8) (h0 : I0 102 0 = nI r) (h1 : I0 102 1 = nI c) {s : Nat} (hs : J0 110 4 = lN s) (hs2 : s < 2 ^ 64) {F : Nat} (hF : F < 900000)
    (kk : ∀ S I J D R f v cap b, OS S0 I0 J0 R0 f v cap (r * (c + 1)) S I J R → f ≤ F → Q (.ok (some (.int (nI (r * (c + 1)))))) (S, I, J, D, R) b) :
    ∀ (j y : Nat) (S : xS) (I : xI) (J : xJ) (D : xDb) (R : xR) (f v cap : Nat) (b : Nat × Nat), y + j = r → OS S0 I0 J0 R0 f v cap (y * (c + 1)) S I J R → f + j * (c + 1) ≤ F → j * (c + 1) ≤ b.1 → 5000 * (j * (c + 1)) ≤ b.2 → xRun xT 143 10 [(0, .ref 100), (1, .int (nI y))] [] (S, I, J, D, R) b Q
  | 0, y, S, I, J, D, R, f, v, cap, b, hi, h, hf, b1, b2 => by
    have hL : LC S R := LC_g hL0 h.2.2.2.1 h.2.2.2.2.1
    have e : y = r := by omega
    have c1 : I 102 0 = nI r := (h.2.2.2.2.2.1 _ _ (by decide) (by decide) (by decide)).trans h0
    have c3 := h.1.2.2.2.1
    subst e
    rw [e143_10]
    simp only [B143_10, xSeq, i_push, i_load, i_iload, i_lload, i_dload, i_aload, i_istore, i_astore, i_lstore, i_dstore, i_iinc, i_ii, i_iiz, i_ll, i_llz, i_lli, i_li, i_i, i_l, i_i2l, i_l2i, i_dup, i_dup2, i_dup2w, i_dupx1, i_pop, i_pop2, i_goto, i_ifc, i_icmp, i_getI, i_getL, i_getR, i_putI, i_putZ, i_putL, i_putR, i_aldI, i_aldB, i_aldL, i_aldD, i_astI, i_astL, i_astD, i_alen, i_ret, i_iret, i_zret, i_lret, i_fret, i_dret, i_aret, i_invS0, i_invV0, i_m2, i_m1, i_ml, i_obj, lk, lkp, stf1, stf2, Value.category, rV, xTo, lv_args, xCk, xCat, xRc, xAk, hg_S, hg_I, hg_J, hg_D, hg_R, hs_I, hs_J, hs_D, hs_R, uI_at, uJ_at, uD_at, uR_at, List.take_succ_cons, List.take_zero, List.drop_succ_cons, List.drop_zero, List.reverse_cons, List.reverse_nil, List.nil_append, List.cons_append, List.map_cons, List.map_nil, List.sum_cons, List.sum_nil, List.length_cons, List.length_nil, Option.toList_some, Option.toList_none, true_and, and_true, false_and, and_false, true_implies, false_implies, implies_true, not_true_eq_false, not_false_eq_true, ne_eq, if_true, if_false, Bool.and_true, Bool.true_and, decide_true, decide_false, reduceIte, reduceCtorEq, Bool.and_self, Bool.and_eq_true, decide_eq_true_eq, and_self, true_or, or_true, false_or, or_false, Nat.zero_add, Nat.add_zero, eq_self, Nat.reduceEqDiff, Nat.reduceLeDiff, Nat.reduceLT, Nat.reduceAdd, Nat.reduceSub, Nat.reduceMul, LC_out hL, c1, nI_leP (show y < 2147483648 by omega) (show y < 2147483648 by omega), Nat.le_refl, e143_101, B143_101, e32_0, B32_0, e33_0, B33_0, c3]
    exact kk S I J D R f v cap b h (by omega)
  | j + 1, y, S, I, J, D, R, f, v, cap, b, hi, h, hf, b1, b2 => by
    have hL : LC S R := LC_g hL0 h.2.2.2.1 h.2.2.2.2.1
    have c1 : I 102 0 = nI r := (h.2.2.2.2.2.1 _ _ (by decide) (by decide) (by decide)).trans h0
    have e5 : (j + 1) * (c + 1) = j * (c + 1) + (c + 1) := Nat.succ_mul _ _
    have e6 : (y + 1) * (c + 1) = y * (c + 1) + (c + 1) := Nat.succ_mul _ _
    have hyc2 : y * (c + 1) ≤ 7 * 9 := Nat.mul_le_mul (by omega) (by omega)
    rw [e5] at hf b1 b2
    obtain ⟨P, hP⟩ : ∃ P, P = j * (c + 1) := ⟨_, rfl⟩
    rw [← hP] at hf b1 b2
    rw [Nat.mul_add] at b2
    have h23 := L143_23 (Q := Q) (y := y) (F := f + c) (B1 := P + 1) (B2 := 5000 * P + 5000) hL0 hr hc h0 h1 hs hs2 (by omega) (by omega) (fun S I J D R f' v cap b h' hf' b1' b2' => by
      have hL' : LC S R := LC_g hL0 h'.2.2.2.1 h'.2.2.2.2.1
      rw [e143_85]
      simp only [B143_85, xSeq, i_push, i_load, i_iload, i_lload, i_dload, i_aload, i_istore, i_astore, i_lstore, i_dstore, i_iinc, i_ii, i_iiz, i_ll, i_llz, i_lli, i_li, i_i, i_l, i_i2l, i_l2i, i_dup, i_dup2, i_dup2w, i_dupx1, i_pop, i_pop2, i_goto, i_ifc, i_icmp, i_getI, i_getL, i_getR, i_putI, i_putZ, i_putL, i_putR, i_aldI, i_aldB, i_aldL, i_aldD, i_astI, i_astL, i_astD, i_alen, i_ret, i_iret, i_zret, i_lret, i_fret, i_dret, i_aret, i_invS0, i_invV0, i_m2, i_m1, i_ml, i_obj, lk, lkp, stf1, stf2, Value.category, rV, xTo, lv_args, xCk, xCat, xRc, xAk, hg_S, hg_I, hg_J, hg_D, hg_R, hs_I, hs_J, hs_D, hs_R, uI_at, uJ_at, uD_at, uR_at, List.take_succ_cons, List.take_zero, List.drop_succ_cons, List.drop_zero, List.reverse_cons, List.reverse_nil, List.nil_append, List.cons_append, List.map_cons, List.map_nil, List.sum_cons, List.sum_nil, List.length_cons, List.length_nil, Option.toList_some, Option.toList_none, true_and, and_true, false_and, and_false, true_implies, false_implies, implies_true, not_true_eq_false, not_false_eq_true, ne_eq, if_true, if_false, Bool.and_true, Bool.true_and, decide_true, decide_false, reduceIte, reduceCtorEq, Bool.and_self, Bool.and_eq_true, decide_eq_true_eq, and_self, true_or, or_true, false_or, or_false, Nat.zero_add, Nat.add_zero, eq_self, Nat.reduceEqDiff, Nat.reduceLeDiff, Nat.reduceLT, Nat.reduceAdd, Nat.reduceSub, Nat.reduceMul, LC_out hL']
      refine w_invVA (mc := 1) (ms := 5000) (Nat.le_trans (Nat.le_add_left 1 _) b1') (Nat.le_trans (Nat.le_add_left 5000 _) b2') rfl (by simp only [xSeq, i_push, i_load, i_iload, i_lload, i_dload, i_aload, i_istore, i_astore, i_lstore, i_dstore, i_iinc, i_ii, i_iiz, i_ll, i_llz, i_lli, i_li, i_i, i_l, i_i2l, i_l2i, i_dup, i_dup2, i_dup2w, i_dupx1, i_pop, i_pop2, i_goto, i_ifc, i_icmp, i_getI, i_getL, i_getR, i_putI, i_putZ, i_putL, i_putR, i_aldI, i_aldB, i_aldL, i_aldD, i_astI, i_astL, i_astD, i_alen, i_ret, i_iret, i_zret, i_lret, i_fret, i_dret, i_aret, i_invS0, i_invV0, i_m2, i_m1, i_ml, i_obj, lk, lkp, stf1, stf2, Value.category, rV, xTo, lv_args, xCk, xCat, xRc, xAk, hg_S, hg_I, hg_J, hg_D, hg_R, hs_I, hs_J, hs_D, hs_R, uI_at, uJ_at, uD_at, uR_at, List.take_succ_cons, List.take_zero, List.drop_succ_cons, List.drop_zero, List.reverse_cons, List.reverse_nil, List.nil_append, List.cons_append, List.map_cons, List.map_nil, List.sum_cons, List.sum_nil, List.length_cons, List.length_nil, Option.toList_some, Option.toList_none, true_and, and_true, false_and, and_false, true_implies, false_implies, implies_true, not_true_eq_false, not_false_eq_true, ne_eq, if_true, if_false, Bool.and_true, Bool.true_and, decide_true, decide_false, reduceIte, reduceCtorEq, Bool.and_self, Bool.and_eq_true, decide_eq_true_eq, and_self, true_or, or_true, false_or, or_false, Nat.zero_add, Nat.add_zero, eq_self, Nat.reduceEqDiff, Nat.reduceLeDiff, Nat.reduceLT, Nat.reduceAdd, Nat.reduceSub, Nat.reduceMul, LC_out hL']) ?_
      simp only [xSeq, i_push, i_load, i_iload, i_lload, i_dload, i_aload, i_istore, i_astore, i_lstore, i_dstore, i_iinc, i_ii, i_iiz, i_ll, i_llz, i_lli, i_li, i_i, i_l, i_i2l, i_l2i, i_dup, i_dup2, i_dup2w, i_dupx1, i_pop, i_pop2, i_goto, i_ifc, i_icmp, i_getI, i_getL, i_getR, i_putI, i_putZ, i_putL, i_putR, i_aldI, i_aldB, i_aldL, i_aldD, i_astI, i_astL, i_astD, i_alen, i_ret, i_iret, i_zret, i_lret, i_fret, i_dret, i_aret, i_invS0, i_invV0, i_m2, i_m1, i_ml, i_obj, lk, lkp, stf1, stf2, Value.category, rV, xTo, lv_args, xCk, xCat, xRc, xAk, hg_S, hg_I, hg_J, hg_D, hg_R, hs_I, hs_J, hs_D, hs_R, uI_at, uJ_at, uD_at, uR_at, List.take_succ_cons, List.take_zero, List.drop_succ_cons, List.drop_zero, List.reverse_cons, List.reverse_nil, List.nil_append, List.cons_append, List.map_cons, List.map_nil, List.sum_cons, List.sum_nil, List.length_cons, List.length_nil, Option.toList_some, Option.toList_none, true_and, and_true, false_and, and_false, true_implies, false_implies, implies_true, not_true_eq_false, not_false_eq_true, ne_eq, if_true, if_false, Bool.and_true, Bool.true_and, decide_true, decide_false, reduceIte, reduceCtorEq, Bool.and_self, Bool.and_eq_true, decide_eq_true_eq, and_self, true_or, or_true, false_or, or_false, Nat.zero_add, Nat.add_zero, eq_self, Nat.reduceEqDiff, Nat.reduceLeDiff, Nat.reduceLT, Nat.reduceAdd, Nat.reduceSub, Nat.reduceMul]
      refine L25 (x := 10) hL0 h' (by decide) (by omega) (by omega) (by decide) (by decide) (fun S' I' J' D' R' f'' v' cap' b' h'' hf'' => ?_)
      simp only [xSeq, i_push, i_load, i_iload, i_lload, i_dload, i_aload, i_istore, i_astore, i_lstore, i_dstore, i_iinc, i_ii, i_iiz, i_ll, i_llz, i_lli, i_li, i_i, i_l, i_i2l, i_l2i, i_dup, i_dup2, i_dup2w, i_dupx1, i_pop, i_pop2, i_goto, i_ifc, i_icmp, i_getI, i_getL, i_getR, i_putI, i_putZ, i_putL, i_putR, i_aldI, i_aldB, i_aldL, i_aldD, i_astI, i_astL, i_astD, i_alen, i_ret, i_iret, i_zret, i_lret, i_fret, i_dret, i_aret, i_invS0, i_invV0, i_m2, i_m1, i_ml, i_obj, lk, lkp, stf1, stf2, Value.category, rV, xTo, lv_args, xCk, xCat, xRc, xAk, hg_S, hg_I, hg_J, hg_D, hg_R, hs_I, hs_J, hs_D, hs_R, uI_at, uJ_at, uD_at, uR_at, List.take_succ_cons, List.take_zero, List.drop_succ_cons, List.drop_zero, List.reverse_cons, List.reverse_nil, List.nil_append, List.cons_append, List.map_cons, List.map_nil, List.sum_cons, List.sum_nil, List.length_cons, List.length_nil, Option.toList_some, Option.toList_none, true_and, and_true, false_and, and_false, true_implies, false_implies, implies_true, not_true_eq_false, not_false_eq_true, ne_eq, if_true, if_false, Bool.and_true, Bool.true_and, decide_true, decide_false, reduceIte, reduceCtorEq, Bool.and_self, Bool.and_eq_true, decide_eq_true_eq, and_self, true_or, or_true, false_or, or_false, Nat.zero_add, Nat.add_zero, eq_self, Nat.reduceEqDiff, Nat.reduceLeDiff, Nat.reduceLT, Nat.reduceAdd, Nat.reduceSub, Nat.reduceMul, nI_1]
      refine L143_10 hL0 hr hc h0 h1 hs hs2 hF kk j (y + 1) S' I' J' D' R' f'' v' cap' _ (by omega) ?_ (by rw [← hP]; clear b2 b2' b1 b1'; omega) (by rw [← hP]; exact Nat.le_sub_of_add_le b1') (by rw [← hP]; exact Nat.le_sub_of_add_le b2')
      rw [e6, ← Nat.add_assoc]
      exact h'') c 0 S I J D R f v cap b (Nat.zero_add c) h (Nat.le_refl _) (by clear b2; omega) (by
        rw [Nat.mul_add, Nat.mul_one] at b2
        rw [Nat.add_left_comm]
        exact b2)
    rw [nI_0] at h23
    rw [e143_10]
    simp only [B143_10, xSeq, i_push, i_load, i_iload, i_lload, i_dload, i_aload, i_istore, i_astore, i_lstore, i_dstore, i_iinc, i_ii, i_iiz, i_ll, i_llz, i_lli, i_li, i_i, i_l, i_i2l, i_l2i, i_dup, i_dup2, i_dup2w, i_dupx1, i_pop, i_pop2, i_goto, i_ifc, i_icmp, i_getI, i_getL, i_getR, i_putI, i_putZ, i_putL, i_putR, i_aldI, i_aldB, i_aldL, i_aldD, i_astI, i_astL, i_astD, i_alen, i_ret, i_iret, i_zret, i_lret, i_fret, i_dret, i_aret, i_invS0, i_invV0, i_m2, i_m1, i_ml, i_obj, lk, lkp, stf1, stf2, Value.category, rV, xTo, lv_args, xCk, xCat, xRc, xAk, hg_S, hg_I, hg_J, hg_D, hg_R, hs_I, hs_J, hs_D, hs_R, uI_at, uJ_at, uD_at, uR_at, List.take_succ_cons, List.take_zero, List.drop_succ_cons, List.drop_zero, List.reverse_cons, List.reverse_nil, List.nil_append, List.cons_append, List.map_cons, List.map_nil, List.sum_cons, List.sum_nil, List.length_cons, List.length_nil, Option.toList_some, Option.toList_none, true_and, and_true, false_and, and_false, true_implies, false_implies, implies_true, not_true_eq_false, not_false_eq_true, ne_eq, if_true, if_false, Bool.and_true, Bool.true_and, decide_true, decide_false, reduceIte, reduceCtorEq, Bool.and_self, Bool.and_eq_true, decide_eq_true_eq, and_self, true_or, or_true, false_or, or_false, Nat.zero_add, Nat.add_zero, eq_self, Nat.reduceEqDiff, Nat.reduceLeDiff, Nat.reduceLT, Nat.reduceAdd, Nat.reduceSub, Nat.reduceMul, LC_out hL, c1, nI_leP (show r < 2147483648 by omega) (show y < 2147483648 by omega), show (r ≤ y) = False from eq_false (by omega)]
    exact h23
/-- the model writes -/
theorem R327 (hL : LM S R) {k : Nat} {x : Int32} (h : I 200 59 = nI k) (hk : k < 800) : xRun xT 327 0 [(0, .ref 200), (1, .int x)] [] (S, I, J, D, R) b Q = Q (.ok none) (S, uI (uI I 358 k x) 200 59 (nI (k + 1)), J, D, R) b := by
  rw [e327_0]
  simp only [B327_0, xSeq, i_push, i_load, i_iload, i_lload, i_dload, i_aload, i_istore, i_astore, i_lstore, i_dstore, i_iinc, i_ii, i_iiz, i_ll, i_llz, i_lli, i_li, i_i, i_l, i_i2l, i_l2i, i_dup, i_dup2, i_dup2w, i_dupx1, i_pop, i_pop2, i_goto, i_ifc, i_icmp, i_getI, i_getL, i_getR, i_putI, i_putZ, i_putL, i_putR, i_aldI, i_aldB, i_aldL, i_aldD, i_astI, i_astL, i_astD, i_alen, i_ret, i_iret, i_zret, i_lret, i_fret, i_dret, i_aret, i_invS0, i_invV0, i_m2, i_m1, i_ml, i_obj, lk, lkp, stf1, stf2, Value.category, rV, xTo, lv_args, xCk, xCat, xRc, xAk, hg_S, hg_I, hg_J, hg_D, hg_R, hs_I, hs_J, hs_D, hs_R, uI_at, uJ_at, uD_at, uR_at, List.take_succ_cons, List.take_zero, List.drop_succ_cons, List.drop_zero, List.reverse_cons, List.reverse_nil, List.nil_append, List.cons_append, List.map_cons, List.map_nil, List.sum_cons, List.sum_nil, List.length_cons, List.length_nil, Option.toList_some, Option.toList_none, true_and, and_true, false_and, and_false, true_implies, false_implies, implies_true, not_true_eq_false, not_false_eq_true, ne_eq, if_true, if_false, Bool.and_true, Bool.true_and, decide_true, decide_false, reduceIte, reduceCtorEq, Bool.and_self, Bool.and_eq_true, decide_eq_true_eq, and_self, true_or, or_true, false_or, or_false, Nat.zero_add, Nat.add_zero, eq_self, Nat.reduceEqDiff, Nat.reduceLeDiff, Nat.reduceLT, Nat.reduceAdd, Nat.reduceSub, Nat.reduceMul, LM_out hL, h, nI_inP hk (by decide), nI_ix (show k < 2147483648 by omega), nI_1]
/-- what writing changes in the model -/
def OM (I0 : xI) (k : Nat) (I : xI) : Prop := I 200 59 = nI k ∧ ∀ o j, o ≠ 358 → ¬ (o = 200 ∧ j = 59) → I o j = I0 o j
theorem OM_w {I0 I : xI} {k : Nat} {x : Int32} (h : OM I0 k I) : OM I0 (k + 1) (uI (uI I 358 k x) 200 59 (nI (k + 1))) := by
  refine ⟨rfl, fun o j h1 h2 => ?_⟩
  rw [uI_at, if_neg h2, uI_at, if_neg (fun e => h1 e.1)]
  exact h.2 o j h1 h2
theorem CM_o {I0 I : xI} {k n m : Nat} {fi se dg : Nat → Nat} {sb : Nat → Nat → Nat} (hC : CM I0 n m fi se dg sb) (h : OM I0 k I) : CM I n m fi se dg sb := CM_k hC (fun o k ho => h.2 o k (by omega) (by omega))
theorem div_up {s c : Nat} (hc : 0 < c) : (s + 1) / c = s / c + if s % c = c - 1 then 1 else 0 := by
  have h1 := Nat.div_add_mod s c
  have h2 := Nat.mod_lt s hc
  by_cases h : s % c = c - 1
  · rw [if_pos h]
    have e : s + 1 = c * (s / c + 1) := by rw [Nat.mul_add, Nat.mul_one]; omega
    rw [e, Nat.mul_div_cancel_left _ hc]
  · rw [if_neg h, Nat.add_zero]
    have e : s + 1 = c * (s / c) + (s % c + 1) := by omega
    rw [e, Nat.mul_add_div hc, Nat.div_eq_of_lt (show s % c + 1 < c by omega), Nat.add_zero]
theorem L326_12 {I0 : xI} (hL : LM S R) {n c : Nat} (hn : n ≤ 64) (hc0 : 0 < c) (hc8 : c ≤ 64) (h10 : I0 300 10 = nI n) (h01 : I0 300 1 = nI c) {s : Nat} (hs : J 200 3 = lN s) (hs2 : s < 2 ^ 64)
    (kk : ∀ I, OM I0 (n + n / c) I → Q (.ok (some (.int (nI (n + n / c))))) (S, I, J, D, R) b) :
    ∀ (j i : Nat) (I : xI), i + j = n → OM I0 (i + i / c) I → xRun xT 326 12 [(0, .ref 200), (1, .int (nI i))] [] (S, I, J, D, R) b Q
  | 0, i, I, hi, h => by
    have e : i = n := by omega
    have c1 : I 300 10 = nI n := (h.2 _ _ (by decide) (by decide)).trans h10
    have c2 := h.1
    subst e
    rw [e326_12]
    simp only [B326_12, xSeq, i_push, i_load, i_iload, i_lload, i_dload, i_aload, i_istore, i_astore, i_lstore, i_dstore, i_iinc, i_ii, i_iiz, i_ll, i_llz, i_lli, i_li, i_i, i_l, i_i2l, i_l2i, i_dup, i_dup2, i_dup2w, i_dupx1, i_pop, i_pop2, i_goto, i_ifc, i_icmp, i_getI, i_getL, i_getR, i_putI, i_putZ, i_putL, i_putR, i_aldI, i_aldB, i_aldL, i_aldD, i_astI, i_astL, i_astD, i_alen, i_ret, i_iret, i_zret, i_lret, i_fret, i_dret, i_aret, i_invS0, i_invV0, i_m2, i_m1, i_ml, i_obj, lk, lkp, stf1, stf2, Value.category, rV, xTo, lv_args, xCk, xCat, xRc, xAk, hg_S, hg_I, hg_J, hg_D, hg_R, hs_I, hs_J, hs_D, hs_R, uI_at, uJ_at, uD_at, uR_at, List.take_succ_cons, List.take_zero, List.drop_succ_cons, List.drop_zero, List.reverse_cons, List.reverse_nil, List.nil_append, List.cons_append, List.map_cons, List.map_nil, List.sum_cons, List.sum_nil, List.length_cons, List.length_nil, Option.toList_some, Option.toList_none, true_and, and_true, false_and, and_false, true_implies, false_implies, implies_true, not_true_eq_false, not_false_eq_true, ne_eq, if_true, if_false, Bool.and_true, Bool.true_and, decide_true, decide_false, reduceIte, reduceCtorEq, Bool.and_self, Bool.and_eq_true, decide_eq_true_eq, and_self, true_or, or_true, false_or, or_false, Nat.zero_add, Nat.add_zero, eq_self, Nat.reduceEqDiff, Nat.reduceLeDiff, Nat.reduceLT, Nat.reduceAdd, Nat.reduceSub, Nat.reduceMul, xi144_0, ix_0, xi144_1, ix_1, xi144_2, ix_2, xi144_3, ix_3, xi144_4, ix_4, xi144_5, ix_5, xi144_6, ix_6, xi144_7, ix_7, xi144_8, ix_8, xi144_9, ix_9, xi144_10, ix_10, LM_out hL, c1, nI_leP (show i < 2147483648 by omega) (show i < 2147483648 by omega), Nat.le_refl, e326_77, B326_77, c2]
    exact kk I h
  | j + 1, i, I, hi, h => by
    have hd := Nat.div_le_self i c
    have c1 : I 300 10 = nI n := (h.2 _ _ (by decide) (by decide)).trans h10
    have c3 : I 300 1 = nI c := (h.2 _ _ (by decide) (by decide)).trans h01
    have e0 : (nI c = 0) = False := eq_false (nI_ne0 hc0 (by omega))
    have hm := Nat.mod_lt i hc0
    have e1 : nI c - 1 = nI (c - 1) := by rw [show (1 : Int32) = nI 1 from rfl, nI_subn hc0]
    have h238 := fun (Q : xQ) => R238 (S := S) (I := I) (J := J) (D := D) (R := R) (b := (0, 0)) (Q := Q) hs2 (show i < 64 by omega)
    have ap : ∀ x : Int32, xRun xT 326 43 [(0, .ref 200), (1, .int (nI i))] [.int x, .ref 200] (S, I, J, D, R) b Q := fun x => by
      have h1 := OM_w (x := x) h
      obtain ⟨I1, hI1⟩ : ∃ I1, I1 = uI (uI I 358 (i + i / c) x) 200 59 (nI (i + i / c + 1)) := ⟨_, rfl⟩
      rw [← hI1] at h1
      have d3 : I1 300 1 = nI c := (h1.2 _ _ (by decide) (by decide)).trans h01
      have h2 := OM_w (x := 10) h1
      have hw := fun (Q : xQ) => R327 (S := S) (I := I1) (J := J) (D := D) (R := R) (b := (0, 0)) (Q := Q) (x := 10) hL h1.1 (by omega)
      rw [e326_43]
      simp only [B326_43, xSeq, i_push, i_load, i_iload, i_lload, i_dload, i_aload, i_istore, i_astore, i_lstore, i_dstore, i_iinc, i_ii, i_iiz, i_ll, i_llz, i_lli, i_li, i_i, i_l, i_i2l, i_l2i, i_dup, i_dup2, i_dup2w, i_dupx1, i_pop, i_pop2, i_goto, i_ifc, i_icmp, i_getI, i_getL, i_getR, i_putI, i_putZ, i_putL, i_putR, i_aldI, i_aldB, i_aldL, i_aldD, i_astI, i_astL, i_astD, i_alen, i_ret, i_iret, i_zret, i_lret, i_fret, i_dret, i_aret, i_invS0, i_invV0, i_m2, i_m1, i_ml, i_obj, lk, lkp, stf1, stf2, Value.category, rV, xTo, lv_args, xCk, xCat, xRc, xAk, hg_S, hg_I, hg_J, hg_D, hg_R, hs_I, hs_J, hs_D, hs_R, uI_at, uJ_at, uD_at, uR_at, List.take_succ_cons, List.take_zero, List.drop_succ_cons, List.drop_zero, List.reverse_cons, List.reverse_nil, List.nil_append, List.cons_append, List.map_cons, List.map_nil, List.sum_cons, List.sum_nil, List.length_cons, List.length_nil, Option.toList_some, Option.toList_none, true_and, and_true, false_and, and_false, true_implies, false_implies, implies_true, not_true_eq_false, not_false_eq_true, ne_eq, if_true, if_false, Bool.and_true, Bool.true_and, decide_true, decide_false, reduceIte, reduceCtorEq, Bool.and_self, Bool.and_eq_true, decide_eq_true_eq, and_self, true_or, or_true, false_or, or_false, Nat.zero_add, Nat.add_zero, eq_self, Nat.reduceEqDiff, Nat.reduceLeDiff, Nat.reduceLT, Nat.reduceAdd, Nat.reduceSub, Nat.reduceMul, LM_out hL, R327 hL h.1 (show i + i / c < 800 by omega), ← hI1, xi144_0, ix_0, xi144_1, ix_1, xi144_2, ix_2, xi144_3, ix_3, xi144_4, ix_4, xi144_5, ix_5, xi144_6, ix_6, xi144_7, ix_7, xi144_8, ix_8, xi144_9, ix_9, xi144_10, ix_10, d3, e0, q_rem (show i < 2 ^ 31 by omega) hc0 (show c < 2 ^ 31 by omega), e1, nI_iff (show i % c < 2147483648 by omega) (show c - 1 < 2147483648 by omega), hw, e326_71, B326_71, nI_1]
      by_cases hx : i % c = c - 1
      · simp only [hx, true_and, and_true, false_and, and_false, true_implies, false_implies, implies_true, not_true_eq_false, not_false_eq_true, ne_eq, if_true, if_false, Bool.and_true, Bool.true_and, decide_true, decide_false, reduceIte, reduceCtorEq, Bool.and_self, Bool.and_eq_true, decide_eq_true_eq, and_self, true_or, or_true, false_or, or_false, Nat.zero_add, Nat.add_zero, eq_self, Nat.reduceEqDiff, Nat.reduceLeDiff, Nat.reduceLT, Nat.reduceAdd, Nat.reduceSub, Nat.reduceMul]
        refine L326_12 hL hn hc0 hc8 h10 h01 hs hs2 kk j (i + 1) _ (by omega) ?_
        rw [div_up hc0, if_pos hx, show i + 1 + (i / c + 1) = i + i / c + 1 + 1 by omega]
        exact h2
      · simp only [hx, true_and, and_true, false_and, and_false, true_implies, false_implies, implies_true, not_true_eq_false, not_false_eq_true, ne_eq, if_true, if_false, Bool.and_true, Bool.true_and, decide_true, decide_false, reduceIte, reduceCtorEq, Bool.and_self, Bool.and_eq_true, decide_eq_true_eq, and_self, true_or, or_true, false_or, or_false, Nat.zero_add, Nat.add_zero, eq_self, Nat.reduceEqDiff, Nat.reduceLeDiff, Nat.reduceLT, Nat.reduceAdd, Nat.reduceSub, Nat.reduceMul]
        refine L326_12 hL hn hc0 hc8 h10 h01 hs hs2 kk j (i + 1) _ (by omega) ?_
        rw [div_up hc0, if_neg hx, show i + 1 + (i / c + 0) = i + i / c + 1 by omega]
        exact h1
    rw [e326_12]
    simp only [B326_12, xSeq, i_push, i_load, i_iload, i_lload, i_dload, i_aload, i_istore, i_astore, i_lstore, i_dstore, i_iinc, i_ii, i_iiz, i_ll, i_llz, i_lli, i_li, i_i, i_l, i_i2l, i_l2i, i_dup, i_dup2, i_dup2w, i_dupx1, i_pop, i_pop2, i_goto, i_ifc, i_icmp, i_getI, i_getL, i_getR, i_putI, i_putZ, i_putL, i_putR, i_aldI, i_aldB, i_aldL, i_aldD, i_astI, i_astL, i_astD, i_alen, i_ret, i_iret, i_zret, i_lret, i_fret, i_dret, i_aret, i_invS0, i_invV0, i_m2, i_m1, i_ml, i_obj, lk, lkp, stf1, stf2, Value.category, rV, xTo, lv_args, xCk, xCat, xRc, xAk, hg_S, hg_I, hg_J, hg_D, hg_R, hs_I, hs_J, hs_D, hs_R, uI_at, uJ_at, uD_at, uR_at, List.take_succ_cons, List.take_zero, List.drop_succ_cons, List.drop_zero, List.reverse_cons, List.reverse_nil, List.nil_append, List.cons_append, List.map_cons, List.map_nil, List.sum_cons, List.sum_nil, List.length_cons, List.length_nil, Option.toList_some, Option.toList_none, true_and, and_true, false_and, and_false, true_implies, false_implies, implies_true, not_true_eq_false, not_false_eq_true, ne_eq, if_true, if_false, Bool.and_true, Bool.true_and, decide_true, decide_false, reduceIte, reduceCtorEq, Bool.and_self, Bool.and_eq_true, decide_eq_true_eq, and_self, true_or, or_true, false_or, or_false, Nat.zero_add, Nat.add_zero, eq_self, Nat.reduceEqDiff, Nat.reduceLeDiff, Nat.reduceLT, Nat.reduceAdd, Nat.reduceSub, Nat.reduceMul, xi144_0, ix_0, xi144_1, ix_1, xi144_2, ix_2, xi144_3, ix_3, xi144_4, ix_4, xi144_5, ix_5, xi144_6, ix_6, xi144_7, ix_7, xi144_8, ix_8, xi144_9, ix_9, xi144_10, ix_10, LM_out hL, c1, nI_leP (show n < 2147483648 by omega) (show i < 2147483648 by omega), show (n ≤ i) = False from eq_false (by omega), hs, h238, e326_41, B326_41]
    cases s.testBit i
    · simp only [show (sg false = 1) = False from eq_false (by decide), true_and, and_true, false_and, and_false, true_implies, false_implies, implies_true, not_true_eq_false, not_false_eq_true, ne_eq, if_true, if_false, Bool.and_true, Bool.true_and, decide_true, decide_false, reduceIte, reduceCtorEq, Bool.and_self, Bool.and_eq_true, decide_eq_true_eq, and_self, true_or, or_true, false_or, or_false, Nat.zero_add, Nat.add_zero, eq_self, Nat.reduceEqDiff, Nat.reduceLeDiff, Nat.reduceLT, Nat.reduceAdd, Nat.reduceSub, Nat.reduceMul]
      exact ap 45
    · simp only [show (sg true = 1) = True from eq_true (by decide), true_and, and_true, false_and, and_false, true_implies, false_implies, implies_true, not_true_eq_false, not_false_eq_true, ne_eq, if_true, if_false, Bool.and_true, Bool.true_and, decide_true, decide_false, reduceIte, reduceCtorEq, Bool.and_self, Bool.and_eq_true, decide_eq_true_eq, and_self, true_or, or_true, false_or, or_false, Nat.zero_add, Nat.add_zero, eq_self, Nat.reduceEqDiff, Nat.reduceLeDiff, Nat.reduceLT, Nat.reduceAdd, Nat.reduceSub, Nat.reduceMul]
      exact ap 43
end
/-! ===== bits of ints; the JDK's counting of an int's bits ===== -/
section
theorem i_tb (n : Nat) : (nI n).toBitVec = BitVec.ofNat 32 n := rfl
theorem i_inj {a b : Int32} (h : a.toBitVec = b.toBitVec) : a = b := Int32.toBitVec_inj.mp h
theorem i_xorN (a b : Nat) : nI a ^^^ nI b = nI (a ^^^ b) := by
  apply i_inj
  rw [Int32.toBitVec_xor, i_tb, i_tb, i_tb]
  apply BitVec.eq_of_getLsbD_eq
  intro i hi
  simp [BitVec.getLsbD_ofNat, Nat.testBit_xor, hi]
theorem i_andN (a b : Nat) : nI a &&& nI b = nI (a &&& b) := by
  apply i_inj
  rw [Int32.toBitVec_and, i_tb, i_tb, i_tb]
  apply BitVec.eq_of_getLsbD_eq
  intro i hi
  simp [BitVec.getLsbD_ofNat, Nat.testBit_and, hi]
theorem i_orN (a b : Nat) : nI a ||| nI b = nI (a ||| b) := by
  apply i_inj
  rw [Int32.toBitVec_or, i_tb, i_tb, i_tb]
  apply BitVec.eq_of_getLsbD_eq
  intro i hi
  simp [BitVec.getLsbD_ofNat, Nat.testBit_or, hi]
theorem i_c31 : ∀ k, k < 31 → ((nI k &&& 31).toBitVec.smod 32).toNat = k := by decide +kernel
theorem i_shr {a k : Nat} (ha : a < 2147483648) (hk : k < 31) : jShr (nI a) (nI k) = nI (a / 2 ^ k) := pk_shrN ha _ k (i_c31 k hk)
theorem i_ushr {a : Nat} (ha : a < 2 ^ 32) (s : Int32) (k : Nat) (hs : ((s.toUInt32 &&& Int32.toUInt32 31).toBitVec % 32).toNat = k) : jUshr (nI a) s = nI (a / 2 ^ k) := pk_ushrN ha s k hs
/-- four eighths, folded together -/
theorem fold4 {r0 r1 r2 r3 R1 R2 R3 w : Nat} (h0 : r0 ≤ 8) (h1 : r1 ≤ 8) (h2 : r2 ≤ 8) (h3 : r3 ≤ 8) (e3 : R3 = r3) (e2 : R2 = r2 + 256 * R3) (e1 : R1 = r1 + 256 * R2) (hw : w = r0 + 256 * R1) :
    w / 256 = R1 ∧ (w + R1) / 65536 = R2 + R3 ∧ (w + R1 + (R2 + R3)) % 64 = r0 + r1 + r2 + r3 ∧ w + R1 + (R2 + R3) < 4294967296 := by
  refine ⟨?_, ?_, ?_, ?_⟩ <;> omega
variable {S : xS} {I : xI} {J : xJ} {D : xDb} {R : xR} {b : Nat × Nat} {Q : xQ}
theorem pop32 (x : Nat) : pop 32 x = pe x 0 + pe x 1 + pe x 2 + pe x 3 := by
  have h0 := pop_8 x 0
  have h1 := pop_8 x 1
  have h2 := pop_8 x 2
  have h3 := pop_8 x 3
  simp only [Nat.mul_zero, Nat.zero_add, Nat.mul_one, Nat.reduceMul, Nat.reduceAdd] at h0 h1 h2 h3
  rw [h3, h2, h1, h0, show pop 0 x = 0 from rfl, Nat.zero_add]
theorem Y4 {x : Nat} (hx : x < 2 ^ 32) : xRun xT 4 0 [(0, .int (nI x))] [] (S, I, J, D, R) b Q = Q (.ok (some (.int (nI (pop 32 x))))) (S, I, J, D, R) b := by
  obtain ⟨y, z, ey, ez, ew, by1, by2, bz, bzz⟩ := swar (K := 3) (x := x) (M5 := 1431655765) (M3 := 858993459) (MF := 252645135) hx (by decide +kernel) (by decide +kernel) (by decide +kernel)
  obtain ⟨w, hw⟩ : ∃ w, w = val 256 4 (pe x) := ⟨_, rfl⟩
  have hv : w = pe x 0 + 256 * (pe x 1 + 256 * (pe x 2 + 256 * (pe x 3))) := hw
  obtain ⟨d1, d2, f0, f4⟩ := fold4 (pe_le x 0) (pe_le x 1) (pe_le x 2) (pe_le x 3) rfl rfl rfl hv
  rw [← d2, ← d1] at f0 f4
  rw [← pop32 x] at f0
  have hq : x < 4294967296 := hx
  have b1 : y < 2 ^ 32 := by omega
  have b2 : z < 2 ^ 32 := bz
  have b3 : w < 2 ^ 32 := by omega
  have b4 : w + w / 256 < 2 ^ 32 := by omega
  have k1 : nI x - (jUshr (nI x) 1 &&& 1431655765) = nI y := by
    rw [i_ushr hx 1 1 (by decide), show (1431655765 : Int32) = nI 1431655765 from rfl, i_andN, nI_subn (by rw [Nat.pow_one]; exact by2), ey]
  have k2 : (nI y &&& 858993459) + (jUshr (nI y) 2 &&& 858993459) = nI z := by
    rw [i_ushr b1 2 2 (by decide), show (858993459 : Int32) = nI 858993459 from rfl, i_andN, i_andN, nI_add, ez]
  have k3 : (nI z + jUshr (nI z) 4) &&& 252645135 = nI w := by
    rw [i_ushr b2 4 4 (by decide), show (252645135 : Int32) = nI 252645135 from rfl, nI_add, i_andN, hw, ← ew]
  have k4 : nI w + jUshr (nI w) 8 = nI (w + w / 256) := by
    rw [i_ushr b3 8 8 (by decide), nI_add]
  have k5 : nI (w + w / 256) + jUshr (nI (w + w / 256)) 16 = nI (w + w / 256 + (w + w / 256) / 65536) := by
    rw [i_ushr b4 16 16 (by decide), nI_add]
  have k6 : nI (w + w / 256 + (w + w / 256) / 65536) &&& 63 = nI (pop 32 x) := by
    rw [pk_andN (by omega) 6 (by decide)]
    rw [show (2 : Nat) ^ 6 = 64 from rfl, f0]
  rw [e4_0]
  simp only [B4_0, xSeq, i_push, i_load, i_iload, i_lload, i_dload, i_aload, i_istore, i_astore, i_lstore, i_dstore, i_iinc, i_ii, i_iiz, i_ll, i_llz, i_lli, i_li, i_i, i_l, i_i2l, i_l2i, i_dup, i_dup2, i_dup2w, i_dupx1, i_pop, i_pop2, i_goto, i_ifc, i_icmp, i_getI, i_getL, i_getR, i_putI, i_putZ, i_putL, i_putR, i_aldI, i_aldB, i_aldL, i_aldD, i_astI, i_astL, i_astD, i_alen, i_ret, i_iret, i_zret, i_lret, i_fret, i_dret, i_aret, i_invS0, i_invV0, i_m2, i_m1, i_ml, i_obj, lk, lkp, stf1, stf2, Value.category, rV, xTo, lv_args, xCk, xCat, xRc, xAk, hg_S, hg_I, hg_J, hg_D, hg_R, hs_I, hs_J, hs_D, hs_R, uI_at, uJ_at, uD_at, uR_at, List.take_succ_cons, List.take_zero, List.drop_succ_cons, List.drop_zero, List.reverse_cons, List.reverse_nil, List.nil_append, List.cons_append, List.map_cons, List.map_nil, List.sum_cons, List.sum_nil, List.length_cons, List.length_nil, Option.toList_some, Option.toList_none, true_and, and_true, false_and, and_false, true_implies, false_implies, implies_true, not_true_eq_false, not_false_eq_true, ne_eq, if_true, if_false, Bool.and_true, Bool.true_and, decide_true, decide_false, reduceIte, reduceCtorEq, Bool.and_self, Bool.and_eq_true, decide_eq_true_eq, and_self, true_or, or_true, false_or, or_false, Nat.zero_add, Nat.add_zero, eq_self, Nat.reduceEqDiff, Nat.reduceLeDiff, Nat.reduceLT, Nat.reduceAdd, Nat.reduceSub, Nat.reduceMul, k1, k2, k3, k4, k5, k6]
end
/-! ===== levels: both ways of listing them ===== -/
section
theorem fl_skip {p : Nat → Bool} : ∀ (d a : Nat), (∀ k, a ≤ k → k < a + d → p k = false) → fl p (a + d) = fl p a
  | 0, _, _ => rfl
  | d + 1, a, h => by
    show fl p (a + d + 1) = fl p a
    rw [fl, h (a + d) (by omega) (by omega)]
    exact fl_skip d a (fun k h1 h2 => h k h1 (by omega))
/-- an energy, from 0 -/
def eN (E : Nat → Int32) (c : Nat) : Nat := ((E c).toInt + 144).toNat
/-- energies as small grids have them -/
def EB (E : Nat → Int32) (n : Nat) : Prop := n ≤ 16 ∧ ∀ c, c < 2 ^ n → -144 ≤ (E c).toInt ∧ (E c).toInt ≤ 144
variable {E : Nat → Int32} {n : Nat}
theorem eN_ok (h : EB E n) {c : Nat} (hc : c < 2 ^ n) : E c + 144 = nI (eN E c) ∧ E c + 200 = nI (eN E c + 56) ∧ eN E c ≤ 288 ∧ E c = nI (eN E c) - 144 := by
  have h1 := h.2 c hc
  have h2 : eN E c ≤ 288 := by unfold eN; omega
  have e : E c + 144 = nI (eN E c) := by
    apply Int32.toInt_inj.mp
    rw [i32_addT (x := 144) (y := 144) h1 (by decide) (by decide), nI_toInt (by omega)]
    unfold eN
    have : (144 : Int32).toInt = 144 := rfl
    omega
  refine ⟨e, ?_, h2, ?_⟩
  · rw [← nI_add, ← e, show nI 56 = 56 from rfl]
    grind
  · rw [← e]
    grind
/-- the lab's place of a configuration among 289 times 17, the model's among 401 times 33 -/
def yL (E : Nat → Int32) (n c : Nat) : Nat := eN E c * 17 + pop n c
def yM (E : Nat → Int32) (n c : Nat) : Nat := 33 * (eN E c + 56) + (2 * pop n c + 16 - n)
def fM (n k : Nat) : Nat := 33 * (k / 17 + 56) + (2 * (k % 17) + 16 - n)
def cL (E : Nat → Int32) (n k : Nat) : Nat := ct (fun c => decide (yL E n c = k)) (2 ^ n)
def cM (E : Nat → Int32) (n k : Nat) : Nat := ct (fun c => decide (yM E n c = k)) (2 ^ n)
/-- the levels -/
def lv (E : Nat → Int32) (n : Nat) : List Nat := fl (fun k => decide (0 < cL E n k)) 4913
theorem yL_ok (h : EB E n) {c : Nat} (hc : c < 2 ^ n) : yL E n c < 4913 ∧ yL E n c / 17 = eN E c ∧ yL E n c % 17 = pop n c ∧ pop n c ≤ n := by
  have h1 := (eN_ok h hc).2.2.1
  have h2 := pop_le n c
  have h3 := h.1
  unfold yL
  omega
theorem yM_ok (h : EB E n) {c : Nat} (hc : c < 2 ^ n) : yM E n c = fM n (yL E n c) ∧ yM E n c < 13233 := by
  obtain ⟨h1, h2, h3, h4⟩ := yL_ok h hc
  have h5 := (eN_ok h hc).2.2.1
  have h6 := h.1
  unfold fM
  rw [h2, h3]
  unfold yM
  refine ⟨rfl, ?_⟩
  omega
theorem cL_pos (h : EB E n) {k : Nat} (hk : 0 < cL E n k) : ∃ c, c < 2 ^ n ∧ yL E n c = k := by
  obtain ⟨c, h1, h2⟩ := ct_pos.mp hk
  exact ⟨c, h1, of_decide_eq_true h2⟩
theorem cL_mod (h : EB E n) {k : Nat} (hk : 0 < cL E n k) : k % 17 ≤ n ∧ k < 4913 := by
  obtain ⟨c, h1, h2⟩ := cL_pos h hk
  obtain ⟨h3, h4, h5, h6⟩ := yL_ok h h1
  rw [← h2, h5]
  exact ⟨h6, h3⟩
theorem fM_inj {i j : Nat} (h : n ≤ 16) (hi : i % 17 ≤ n) (hj : j % 17 ≤ n) (e : fM n i = fM n j) : i = j := by
  unfold fM at e
  omega
theorem cM_eq (h : EB E n) {k : Nat} (hk : k % 17 ≤ n) : cM E n (fM n k) = cL E n k := by
  refine ct_congr (fun c hc => ?_)
  obtain ⟨h1, h2, h3, h4⟩ := yL_ok h hc
  have h5 := (yM_ok h hc).1
  apply decide_eq_decide.mpr
  constructor
  · intro e
    rw [h5] at e
    exact fM_inj h.1 (by omega) hk e
  · intro e
    rw [h5, e]
theorem lv_map (h : EB E n) : fl (fun k => decide (0 < cM E n k)) 13233 = (lv E n).map (fM n) := by
  have hn := h.1
  refine fl_map (fun i hi hp => ?_) (fun k hk hq => ?_) (fun i j hi hj hpi hpj hij => ?_)
  · have hp := of_decide_eq_true hp
    have h1 := cL_mod h hp
    refine ⟨?_, ?_⟩
    · unfold fM
      omega
    · rw [cM_eq h h1.1]
      exact decide_eq_true hp
  · have hq := of_decide_eq_true hq
    obtain ⟨c, h1, h2⟩ := ct_pos.mp hq
    have h2 := of_decide_eq_true h2
    obtain ⟨h3, h4, h5, h6⟩ := yL_ok h h1
    refine ⟨yL E n c, h3, decide_eq_true (ct_pos.mpr ⟨c, h1, decide_eq_true rfl⟩), ?_⟩
    rw [← (yM_ok h h1).1, h2]
  · have h1 := cL_mod h (of_decide_eq_true hpi)
    have h2 := cL_mod h (of_decide_eq_true hpj)
    unfold fM
    omega
/-- a level's energy, magnetization, number -/
def gE (k : Nat) : Int32 := nI (k / 17) - 144
def gM (n k : Nat) : Int32 := 2 * nI (k % 17) - nI n
def gN (E : Nat → Int32) (n k : Nat) : Int32 := nI (cL E n k)
theorem fM_33 {k : Nat} (hn : n ≤ 16) (h : k % 17 ≤ n) : fM n k / 33 = k / 17 + 56 ∧ fM n k % 33 = 2 * (k % 17) + 16 - n := by
  unfold fM
  omega
theorem hE_ok {k : Nat} (hn : n ≤ 16) (h : k % 17 ≤ n) : nI (fM n k / 33) - 200 = gE k := by
  rw [(fM_33 hn h).1, ← nI_add, show nI 56 = 56 from rfl]
  unfold gE
  grind
theorem hM_ok {k : Nat} (hn : n ≤ 16) (h : k % 17 ≤ n) : nI (fM n k % 33) - 16 = gM n k := by
  have e : nI (2 * (k % 17) + 16 - n) + nI n = 2 * nI (k % 17) + 16 := by
    rw [nI_add, show 2 * (k % 17) + 16 - n + n = 2 * (k % 17) + 16 by omega, ← nI_add, ← pk_mul]
    rfl
  rw [(fM_33 hn h).2]
  unfold gM
  grind
/-- rows that hold what a list's things have -/
def GL (l : List Nat) (a b c w4 w5 w6 : Nat → Int32) : Prop := ∀ i, i < l.length → w4 i = a (l.getD i 0) ∧ w5 i = b (l.getD i 0) ∧ w6 i = c (l.getD i 0)
theorem GL_0 {a b c w4 w5 w6 : Nat → Int32} : GL [] a b c w4 w5 w6 := fun i hi => absurd hi (Nat.not_lt_zero i)
theorem GL_add {l : List Nat} {a b c w4 w5 w6 : Nat → Int32} (h : GL l a b c w4 w5 w6) (k : Nat) : GL (l ++ [k]) a b c (up w4 l.length (a k)) (up w5 l.length (b k)) (up w6 l.length (c k)) := by
  intro i hi
  rw [List.length_append, List.length_singleton] at hi
  rw [up_at, up_at, up_at]
  by_cases e : i = l.length
  · rw [if_pos e, if_pos e, if_pos e, e, getD_app2]
    exact ⟨rfl, rfl, rfl⟩
  · rw [if_neg e, if_neg e, if_neg e, getD_app1 _ _ _ (by omega)]
    exact h i (by omega)
theorem getD_lt {l : List Nat} {i : Nat} (h : i < l.length) : l.getD i 0 = l[i] := by
  rw [List.getD_eq_getElem?_getD, List.getElem?_eq_getElem h]
  rfl
theorem getD_map {l : List Nat} {f : Nat → Nat} {i : Nat} (h : i < l.length) : (l.map f).getD i 0 = f (l.getD i 0) := by
  rw [getD_lt (by rw [List.length_map]; exact h), getD_lt h, List.getElem_map]
theorem lv_get (h : EB E n) {i : Nat} (hi : i < (lv E n).length) : (lv E n).getD i 0 < 4913 ∧ 0 < cL E n ((lv E n).getD i 0) ∧ (lv E n).getD i 0 % 17 ≤ n := by
  have h1 : (lv E n).getD i 0 ∈ lv E n := by
    rw [getD_lt hi]
    exact List.getElem_mem hi
  have h2 := (fl_mem _ _ _).mp h1
  have h3 := of_decide_eq_true h2.2
  exact ⟨h2.1, h3, (cL_mod h h3).1⟩
theorem lv_len (E : Nat → Int32) (n : Nat) : (lv E n).length ≤ 4913 := fl_len _ _
theorem ct_all {p : Nat → Bool} : ∀ {n k : Nat}, k < n → p k = true → 0 < ct p n := fun {n k} h1 h2 => ct_pos.mpr ⟨k, h1, h2⟩
theorem lv_pos (h : EB E n) : 0 < (lv E n).length := by
  have h1 := yL_ok h (Nat.two_pow_pos n)
  have h2 : yL E n 0 ∈ lv E n := (fl_mem _ _ _).mpr ⟨h1.1, decide_eq_true (ct_pos.mpr ⟨0, Nat.two_pow_pos n, decide_eq_true rfl⟩)⟩
  exact List.length_pos_of_mem h2
theorem GL_map (h : EB E n) {w4 w5 w6 : Nat → Int32} (hw : GL (fl (fun k => decide (0 < cM E n k)) 13233) (fun k => nI (k / 33) - 200) (fun k => nI (k % 33) - 16) (fun k => nI (cM E n k)) w4 w5 w6) : GL (lv E n) gE (gM n) (gN E n) w4 w5 w6 := by
  intro i hi
  rw [lv_map h] at hw
  obtain ⟨h1, h2, h3⟩ := hw i (by rw [List.length_map]; exact hi)
  obtain ⟨h4, h5, h6⟩ := lv_get h hi
  rw [getD_map hi] at h1 h2 h3
  refine ⟨h1.trans (hE_ok h.1 h6), h2.trans (hM_ok h.1 h6), h3.trans ?_⟩
  show nI (cM E n (fM n _)) = _
  rw [cM_eq h h6]
  rfl
end
/-! ===== the lab lists its levels ===== -/
section
variable {S : xS} {I : xI} {J : xJ} {D : xDb} {R : xR} {b : Nat × Nat} {Q : xQ} {n : Nat} {E : Nat → Int32}
theorem pow16 (hn : n ≤ 16) : 2 ^ n ≤ 65536 := Nat.pow_le_pow_right (by decide) hn
theorem L100_10 (hL : LC S R) (hE : LE S R) (hB : EB E n) (h3 : I 130 3 = nI (2 ^ n)) (hw : ∀ c, c < 2 ^ n → I 151 c = E c)
    (kk : ∀ f, (∀ k, k < 4913 → f k = nI (cL E n k)) → Q (.ok none) (S, rI I 153 f, J, D, R) b) :
    ∀ (j i : Nat) (f : Nat → Int32), i + j = 2 ^ n → (∀ k, k < 4913 → f k = nI (ct (fun c => decide (yL E n c = k)) i)) → xRun xT 100 10 [(0, .ref 130), (1, .int (nI i))] [] (S, rI I 153 f, J, D, R) b Q
  | 0, i, f, hi, hf => by
    have hp := pow16 hB.1
    have e : i = 2 ^ n := by omega
    subst e
    rw [e100_10]
    simp only [B100_10, xSeq, i_push, i_load, i_iload, i_lload, i_dload, i_aload, i_istore, i_astore, i_lstore, i_dstore, i_iinc, i_ii, i_iiz, i_ll, i_llz, i_lli, i_li, i_i, i_l, i_i2l, i_l2i, i_dup, i_dup2, i_dup2w, i_dupx1, i_pop, i_pop2, i_goto, i_ifc, i_icmp, i_getI, i_getL, i_getR, i_putI, i_putZ, i_putL, i_putR, i_aldI, i_aldB, i_aldL, i_aldD, i_astI, i_astL, i_astD, i_alen, i_ret, i_iret, i_zret, i_lret, i_fret, i_dret, i_aret, i_invS0, i_invV0, i_m2, i_m1, i_ml, i_obj, lk, lkp, stf1, stf2, Value.category, rV, xTo, lv_args, xCk, xCat, xRc, xAk, hg_S, hg_I, hg_J, hg_D, hg_R, hs_I, hs_J, hs_D, hs_R, uI_at, uJ_at, uD_at, uR_at, List.take_succ_cons, List.take_zero, List.drop_succ_cons, List.drop_zero, List.reverse_cons, List.reverse_nil, List.nil_append, List.cons_append, List.map_cons, List.map_nil, List.sum_cons, List.sum_nil, List.length_cons, List.length_nil, Option.toList_some, Option.toList_none, true_and, and_true, false_and, and_false, true_implies, false_implies, implies_true, not_true_eq_false, not_false_eq_true, ne_eq, if_true, if_false, Bool.and_true, Bool.true_and, decide_true, decide_false, reduceIte, reduceCtorEq, Bool.and_self, Bool.and_eq_true, decide_eq_true_eq, and_self, true_or, or_true, false_or, or_false, Nat.zero_add, Nat.add_zero, eq_self, Nat.reduceEqDiff, Nat.reduceLeDiff, Nat.reduceLT, Nat.reduceAdd, Nat.reduceSub, Nat.reduceMul, LC_out hL, rI_at, h3, nI_leP (show 2 ^ n < 2147483648 by omega) (show 2 ^ n < 2147483648 by omega), Nat.le_refl, e100_51, B100_51]
    exact kk f hf
  | j + 1, i, f, hi, hf => by
    have hp := pow16 hB.1
    have hc : i < 2 ^ n := by omega
    obtain ⟨h1, -, h2, -⟩ := eN_ok hB hc
    obtain ⟨h4, -, -, -⟩ := yL_ok hB hc
    have e1 : (nI (eN E i) * 17 + nI (pop 32 i) : Int32) = nI (yL E n i) := by
      have e2 : pop 32 i = pop n i := by
        have := pop_up hc (32 - n)
        rw [show n + (32 - n) = 32 by have := hB.1; omega] at this
        exact this
      rw [show (17 : Int32) = nI 17 from rfl, pk_mul, nI_add, e2]
      rfl
    rw [e100_10]
    simp only [B100_10, xSeq, i_push, i_load, i_iload, i_lload, i_dload, i_aload, i_istore, i_astore, i_lstore, i_dstore, i_iinc, i_ii, i_iiz, i_ll, i_llz, i_lli, i_li, i_i, i_l, i_i2l, i_l2i, i_dup, i_dup2, i_dup2w, i_dupx1, i_pop, i_pop2, i_goto, i_ifc, i_icmp, i_getI, i_getL, i_getR, i_putI, i_putZ, i_putL, i_putR, i_aldI, i_aldB, i_aldL, i_aldD, i_astI, i_astL, i_astD, i_alen, i_ret, i_iret, i_zret, i_lret, i_fret, i_dret, i_aret, i_invS0, i_invV0, i_m2, i_m1, i_ml, i_obj, lk, lkp, stf1, stf2, Value.category, rV, xTo, lv_args, xCk, xCat, xRc, xAk, hg_S, hg_I, hg_J, hg_D, hg_R, hs_I, hs_J, hs_D, hs_R, uI_at, uJ_at, uD_at, uR_at, List.take_succ_cons, List.take_zero, List.drop_succ_cons, List.drop_zero, List.reverse_cons, List.reverse_nil, List.nil_append, List.cons_append, List.map_cons, List.map_nil, List.sum_cons, List.sum_nil, List.length_cons, List.length_nil, Option.toList_some, Option.toList_none, true_and, and_true, false_and, and_false, true_implies, false_implies, implies_true, not_true_eq_false, not_false_eq_true, ne_eq, if_true, if_false, Bool.and_true, Bool.true_and, decide_true, decide_false, reduceIte, reduceCtorEq, Bool.and_self, Bool.and_eq_true, decide_eq_true_eq, and_self, true_or, or_true, false_or, or_false, Nat.zero_add, Nat.add_zero, eq_self, Nat.reduceEqDiff, Nat.reduceLeDiff, Nat.reduceLT, Nat.reduceAdd, Nat.reduceSub, Nat.reduceMul, LC_out hL, LE_out hE, rI_at, h3, nI_leP (show 2 ^ n < 2147483648 by omega) (show i < 2147483648 by omega), show (2 ^ n ≤ i) = False from eq_false (by omega), nI_inP (show i < 65536 by omega) (by decide), nI_ix (show i < 2147483648 by omega), hw i hc, h1, Y4 (x := i) (by omega), e1, nI_inP h4 (by decide), nI_ix (show yL E n i < 2147483648 by omega), uI_rI, nI_1]
    refine L100_10 hL hE hB h3 hw kk j (i + 1) _ (by omega) (fun k hk => ?_)
    rw [up_at, ct]
    by_cases e : k = yL E n i
    · rw [if_pos e, e, hf _ h4, if_pos (decide_eq_true rfl), nI_1]
    · rw [if_neg e, hf k hk, if_neg (fun h => e (of_decide_eq_true h).symm), Nat.add_zero]
def lvH (I : xI) (m : Nat) (w4 w5 w6 : Nat → Int32) : xI := fun o k => if o = 154 then w4 k else if o = 155 then w5 k else if o = 156 then w6 k else if o = 130 ∧ k = 5 then nI m else I o k
theorem lvH_at (I : xI) (m : Nat) (w4 w5 w6 : Nat → Int32) (o k : Nat) : lvH I m w4 w5 w6 o k = if o = 154 then w4 k else if o = 155 then w5 k else if o = 156 then w6 k else if o = 130 ∧ k = 5 then nI m else I o k := rfl
theorem lvH_add (I : xI) (m : Nat) (w4 w5 w6 : Nat → Int32) (x y z : Int32) : uI (uI (uI (uI (lvH I m w4 w5 w6) 154 m x) 155 m y) 156 m z) 130 5 (nI (m + 1)) = lvH I (m + 1) (up w4 m x) (up w5 m y) (up w6 m z) := by
  funext o k
  simp only [uI_at, lvH_at, up_at]
  by_cases h1 : o = 154
  · subst h1; simp
  · by_cases h2 : o = 155
    · subst h2; simp
    · by_cases h3 : o = 156
      · subst h3; simp
      · by_cases h4 : o = 130 ∧ k = 5
        · simp [h4]
        · simp [h1, h2, h3, h4]
theorem lvH_0 (I : xI) (m : Nat) (h : I 130 5 = nI m) : lvH I m (I 154) (I 155) (I 156) = I := by
  funext o k
  rw [lvH_at]
  split
  · rename_i e; rw [e]
  · split
    · rename_i e; rw [e]
    · split
      · rename_i e; rw [e]
      · split
        · rename_i e; rw [e.1, e.2, h]
        · rfl
theorem q_144 (e : Nat) : (nI e - 144 + 144 : Int32) = nI e := by grind
theorem q_144s (e : Nat) : (nI e - 144 + 1 : Int32) = nI (e + 1) - 144 := by
  rw [← nI_add, show nI 1 = 1 from rfl]
  grind
theorem q_144l : ∀ e, e < 290 → decide ((144 : Int32) < nI e - 144) = decide (288 < e) := by decide +kernel
theorem q_144P {e : Nat} (h : e < 290) : ((144 : Int32) < nI e - 144) = (288 < e) := propext (decide_eq_decide.mp (q_144l e h))
theorem lv_up {p : Nat → Bool} {k : Nat} (h : p k = true) : fl p (k + 1) = fl p k ++ [k] := by rw [fl, if_pos h]
theorem lv_no {p : Nat → Bool} {k : Nat} (h : ¬ p k = true) : fl p (k + 1) = fl p k := by rw [fl, if_neg h]
theorem L101_18 (hL : LC S R) (hE : LE S R) (hB : EB E n) (h2 : I 130 2 = nI n) (ht : ∀ k, k < 4913 → I 153 k = nI (cL E n k)) {e : Nat} (he : e < 289)
    (kk : ∀ w4 w5 w6, GL (fl (fun k => decide (0 < cL E n k)) ((e + 1) * 17)) gE (gM n) (gN E n) w4 w5 w6 → xRun xT 101 99 [(0, .ref 130), (1, .int (nI e - 144))] [] (S, lvH I (fl (fun k => decide (0 < cL E n k)) ((e + 1) * 17)).length w4 w5 w6, J, D, R) b Q) :
    ∀ (j u : Nat) (w4 w5 w6 : Nat → Int32), u + j = n + 1 → GL (fl (fun k => decide (0 < cL E n k)) (e * 17 + u)) gE (gM n) (gN E n) w4 w5 w6 → xRun xT 101 18 [(0, .ref 130), (1, .int (nI e - 144)), (2, .int (nI u))] [] (S, lvH I (fl (fun k => decide (0 < cL E n k)) (e * 17 + u)).length w4 w5 w6, J, D, R) b Q
  | 0, u, w4, w5, w6, hu, hg => by
    have hn := hB.1
    have e1 : u = n + 1 := by omega
    subst e1
    have e2 : fl (fun k => decide (0 < cL E n k)) ((e + 1) * 17) = fl (fun k => decide (0 < cL E n k)) (e * 17 + (n + 1)) := by
      rw [show (e + 1) * 17 = e * 17 + (n + 1) + (16 - n) by omega]
      refine fl_skip _ _ (fun k h1 h2 => decide_eq_false (fun h => ?_))
      have := (cL_mod hB h).1
      omega
    have h2' : ∀ m, lvH I m w4 w5 w6 130 2 = nI n := fun m => h2
    rw [e101_18]
    simp only [B101_18, xSeq, i_push, i_load, i_iload, i_lload, i_dload, i_aload, i_istore, i_astore, i_lstore, i_dstore, i_iinc, i_ii, i_iiz, i_ll, i_llz, i_lli, i_li, i_i, i_l, i_i2l, i_l2i, i_dup, i_dup2, i_dup2w, i_dupx1, i_pop, i_pop2, i_goto, i_ifc, i_icmp, i_getI, i_getL, i_getR, i_putI, i_putZ, i_putL, i_putR, i_aldI, i_aldB, i_aldL, i_aldD, i_astI, i_astL, i_astD, i_alen, i_ret, i_iret, i_zret, i_lret, i_fret, i_dret, i_aret, i_invS0, i_invV0, i_m2, i_m1, i_ml, i_obj, lk, lkp, stf1, stf2, Value.category, rV, xTo, lv_args, xCk, xCat, xRc, xAk, hg_S, hg_I, hg_J, hg_D, hg_R, hs_I, hs_J, hs_D, hs_R, uI_at, uJ_at, uD_at, uR_at, List.take_succ_cons, List.take_zero, List.drop_succ_cons, List.drop_zero, List.reverse_cons, List.reverse_nil, List.nil_append, List.cons_append, List.map_cons, List.map_nil, List.sum_cons, List.sum_nil, List.length_cons, List.length_nil, Option.toList_some, Option.toList_none, true_and, and_true, false_and, and_false, true_implies, false_implies, implies_true, not_true_eq_false, not_false_eq_true, ne_eq, if_true, if_false, Bool.and_true, Bool.true_and, decide_true, decide_false, reduceIte, reduceCtorEq, Bool.and_self, Bool.and_eq_true, decide_eq_true_eq, and_self, true_or, or_true, false_or, or_false, Nat.zero_add, Nat.add_zero, eq_self, Nat.reduceEqDiff, Nat.reduceLeDiff, Nat.reduceLT, Nat.reduceAdd, Nat.reduceSub, Nat.reduceMul, LC_out hL, h2', nI_ltP (show n < 2147483648 by omega) (show n + 1 < 2147483648 by omega), show (n < n + 1) = True from eq_true (Nat.lt_succ_self n)]
    have := kk w4 w5 w6
    rw [e2] at this
    exact this hg
  | j + 1, u, w4, w5, w6, hu, hg => by
    have hn := hB.1
    obtain ⟨m, hm⟩ : ∃ m, m = (fl (fun k => decide (0 < cL E n k)) (e * 17 + u)).length := ⟨_, rfl⟩
    have hml : m ≤ e * 17 + u := by rw [hm]; exact fl_len _ _
    have h2' : lvH I m w4 w5 w6 130 2 = nI n := h2
    have ht' : ∀ k, lvH I m w4 w5 w6 153 k = I 153 k := fun k => rfl
    have hm' : lvH I m w4 w5 w6 130 5 = nI m := rfl
    have e3 : (nI e * 17 + nI u : Int32) = nI (e * 17 + u) := by rw [show (17 : Int32) = nI 17 from rfl, pk_mul, nI_add]
    have e4 : ∀ k, e * 17 + u = k → gE k = nI e - 144 ∧ gM n k = 2 * nI u - nI n := fun k hk => by
      unfold gE gM
      rw [show k / 17 = e by omega, show k % 17 = u by omega]
      exact ⟨rfl, rfl⟩
    obtain ⟨e5, e6⟩ := e4 _ rfl
    have hk := ht (e * 17 + u) (by omega)
    have ih := L101_18 hL hE hB h2 ht he kk j (u + 1)
    rw [← hm]
    rw [e101_18]
    simp only [B101_18, xSeq, i_push, i_load, i_iload, i_lload, i_dload, i_aload, i_istore, i_astore, i_lstore, i_dstore, i_iinc, i_ii, i_iiz, i_ll, i_llz, i_lli, i_li, i_i, i_l, i_i2l, i_l2i, i_dup, i_dup2, i_dup2w, i_dupx1, i_pop, i_pop2, i_goto, i_ifc, i_icmp, i_getI, i_getL, i_getR, i_putI, i_putZ, i_putL, i_putR, i_aldI, i_aldB, i_aldL, i_aldD, i_astI, i_astL, i_astD, i_alen, i_ret, i_iret, i_zret, i_lret, i_fret, i_dret, i_aret, i_invS0, i_invV0, i_m2, i_m1, i_ml, i_obj, lk, lkp, stf1, stf2, Value.category, rV, xTo, lv_args, xCk, xCat, xRc, xAk, hg_S, hg_I, hg_J, hg_D, hg_R, hs_I, hs_J, hs_D, hs_R, uI_at, uJ_at, uD_at, uR_at, List.take_succ_cons, List.take_zero, List.drop_succ_cons, List.drop_zero, List.reverse_cons, List.reverse_nil, List.nil_append, List.cons_append, List.map_cons, List.map_nil, List.sum_cons, List.sum_nil, List.length_cons, List.length_nil, Option.toList_some, Option.toList_none, true_and, and_true, false_and, and_false, true_implies, false_implies, implies_true, not_true_eq_false, not_false_eq_true, ne_eq, if_true, if_false, Bool.and_true, Bool.true_and, decide_true, decide_false, reduceIte, reduceCtorEq, Bool.and_self, Bool.and_eq_true, decide_eq_true_eq, and_self, true_or, or_true, false_or, or_false, Nat.zero_add, Nat.add_zero, eq_self, Nat.reduceEqDiff, Nat.reduceLeDiff, Nat.reduceLT, Nat.reduceAdd, Nat.reduceSub, Nat.reduceMul, LC_out hL, LE_out hE, h2', nI_ltP (show n < 2147483648 by omega) (show u < 2147483648 by omega), show (n < u) = False from eq_false (by omega), q_144, e3, nI_inP (show e * 17 + u < 4913 by omega) (by decide), nI_ix (show e * 17 + u < 2147483648 by omega), ht', hk, e101_93, B101_93, nI_1]
    by_cases hc : 0 < cL E n (e * 17 + u)
    · have hcc : cL E n (e * 17 + u) ≤ 2 ^ n := ct_le _ _
      have hp := pow16 hB.1
      have e7 : (nI (cL E n (e * 17 + u)) ≤ 0) = False := eq_false (nI_nle hc (by omega))
      simp only [e7, xSeq, i_push, i_load, i_iload, i_lload, i_dload, i_aload, i_istore, i_astore, i_lstore, i_dstore, i_iinc, i_ii, i_iiz, i_ll, i_llz, i_lli, i_li, i_i, i_l, i_i2l, i_l2i, i_dup, i_dup2, i_dup2w, i_dupx1, i_pop, i_pop2, i_goto, i_ifc, i_icmp, i_getI, i_getL, i_getR, i_putI, i_putZ, i_putL, i_putR, i_aldI, i_aldB, i_aldL, i_aldD, i_astI, i_astL, i_astD, i_alen, i_ret, i_iret, i_zret, i_lret, i_fret, i_dret, i_aret, i_invS0, i_invV0, i_m2, i_m1, i_ml, i_obj, lk, lkp, stf1, stf2, Value.category, rV, xTo, lv_args, xCk, xCat, xRc, xAk, hg_S, hg_I, hg_J, hg_D, hg_R, hs_I, hs_J, hs_D, hs_R, uI_at, uJ_at, uD_at, uR_at, List.take_succ_cons, List.take_zero, List.drop_succ_cons, List.drop_zero, List.reverse_cons, List.reverse_nil, List.nil_append, List.cons_append, List.map_cons, List.map_nil, List.sum_cons, List.sum_nil, List.length_cons, List.length_nil, Option.toList_some, Option.toList_none, true_and, and_true, false_and, and_false, true_implies, false_implies, implies_true, not_true_eq_false, not_false_eq_true, ne_eq, if_true, if_false, Bool.and_true, Bool.true_and, decide_true, decide_false, reduceIte, reduceCtorEq, Bool.and_self, Bool.and_eq_true, decide_eq_true_eq, and_self, true_or, or_true, false_or, or_false, Nat.zero_add, Nat.add_zero, eq_self, Nat.reduceEqDiff, Nat.reduceLeDiff, Nat.reduceLT, Nat.reduceAdd, Nat.reduceSub, Nat.reduceMul, LC_out hL, LE_out hE, uI_at, hm', h2', nI_inP (show m < 4913 by omega) (by decide), nI_ix (show m < 2147483648 by omega), nI_1, lvH_add]
      have e8 := lv_up (p := fun k => decide (0 < cL E n k)) (k := e * 17 + u) (decide_eq_true hc)
      have hg2 := GL_add hg (e * 17 + u)
      rw [← e8, ← hm, e5, e6] at hg2
      have ih2 := ih _ _ _ (by omega) hg2
      have e9 : (fl (fun k => decide (0 < cL E n k)) (e * 17 + (u + 1))).length = m + 1 := by
        rw [← Nat.add_assoc, e8, List.length_append, ← hm]
        rfl
      rw [e9] at ih2
      exact ih2
    · have e7 : (nI (cL E n (e * 17 + u)) ≤ 0) = True := eq_true (by rw [show cL E n (e * 17 + u) = 0 by omega, nI_0]; decide)
      have e8 := lv_no (p := fun k => decide (0 < cL E n k)) (k := e * 17 + u) (fun h => hc (of_decide_eq_true h))
      simp only [e7, xSeq, i_push, i_load, i_iload, i_lload, i_dload, i_aload, i_istore, i_astore, i_lstore, i_dstore, i_iinc, i_ii, i_iiz, i_ll, i_llz, i_lli, i_li, i_i, i_l, i_i2l, i_l2i, i_dup, i_dup2, i_dup2w, i_dupx1, i_pop, i_pop2, i_goto, i_ifc, i_icmp, i_getI, i_getL, i_getR, i_putI, i_putZ, i_putL, i_putR, i_aldI, i_aldB, i_aldL, i_aldD, i_astI, i_astL, i_astD, i_alen, i_ret, i_iret, i_zret, i_lret, i_fret, i_dret, i_aret, i_invS0, i_invV0, i_m2, i_m1, i_ml, i_obj, lk, lkp, stf1, stf2, Value.category, rV, xTo, lv_args, xCk, xCat, xRc, xAk, hg_S, hg_I, hg_J, hg_D, hg_R, hs_I, hs_J, hs_D, hs_R, uI_at, uJ_at, uD_at, uR_at, List.take_succ_cons, List.take_zero, List.drop_succ_cons, List.drop_zero, List.reverse_cons, List.reverse_nil, List.nil_append, List.cons_append, List.map_cons, List.map_nil, List.sum_cons, List.sum_nil, List.length_cons, List.length_nil, Option.toList_some, Option.toList_none, true_and, and_true, false_and, and_false, true_implies, false_implies, implies_true, not_true_eq_false, not_false_eq_true, ne_eq, if_true, if_false, Bool.and_true, Bool.true_and, decide_true, decide_false, reduceIte, reduceCtorEq, Bool.and_self, Bool.and_eq_true, decide_eq_true_eq, and_self, true_or, or_true, false_or, or_false, Nat.zero_add, Nat.add_zero, eq_self, Nat.reduceEqDiff, Nat.reduceLeDiff, Nat.reduceLT, Nat.reduceAdd, Nat.reduceSub, Nat.reduceMul]
      have ih2 := ih w4 w5 w6 (by omega) (by rw [← Nat.add_assoc, e8]; exact hg)
      rw [← Nat.add_assoc, e8, ← hm] at ih2
      exact ih2
theorem L101_9 (hL : LC S R) (hE : LE S R) (hB : EB E n) (h2 : I 130 2 = nI n) (ht : ∀ k, k < 4913 → I 153 k = nI (cL E n k))
    (kk : ∀ w4 w5 w6, GL (lv E n) gE (gM n) (gN E n) w4 w5 w6 → Q (.ok none) (S, uI (lvH I (lv E n).length w4 w5 w6) 130 4 (w4 0), J, D, R) b) :
    ∀ (j e : Nat) (w4 w5 w6 : Nat → Int32), e + j = 289 → GL (fl (fun k => decide (0 < cL E n k)) (e * 17)) gE (gM n) (gN E n) w4 w5 w6 → xRun xT 101 9 [(0, .ref 130), (1, .int (nI e - 144))] [] (S, lvH I (fl (fun k => decide (0 < cL E n k)) (e * 17)).length w4 w5 w6, J, D, R) b Q
  | 0, e, w4, w5, w6, he, hg => by
    have e1 : e = 289 := by omega
    subst e1
    have e4 : lvH I (fl (fun k => decide (0 < cL E n k)) (289 * 17)).length w4 w5 w6 154 0 = w4 0 := rfl
    rw [e101_9]
    simp only [B101_9, xSeq, i_push, i_load, i_iload, i_lload, i_dload, i_aload, i_istore, i_astore, i_lstore, i_dstore, i_iinc, i_ii, i_iiz, i_ll, i_llz, i_lli, i_li, i_i, i_l, i_i2l, i_l2i, i_dup, i_dup2, i_dup2w, i_dupx1, i_pop, i_pop2, i_goto, i_ifc, i_icmp, i_getI, i_getL, i_getR, i_putI, i_putZ, i_putL, i_putR, i_aldI, i_aldB, i_aldL, i_aldD, i_astI, i_astL, i_astD, i_alen, i_ret, i_iret, i_zret, i_lret, i_fret, i_dret, i_aret, i_invS0, i_invV0, i_m2, i_m1, i_ml, i_obj, lk, lkp, stf1, stf2, Value.category, rV, xTo, lv_args, xCk, xCat, xRc, xAk, hg_S, hg_I, hg_J, hg_D, hg_R, hs_I, hs_J, hs_D, hs_R, uI_at, uJ_at, uD_at, uR_at, List.take_succ_cons, List.take_zero, List.drop_succ_cons, List.drop_zero, List.reverse_cons, List.reverse_nil, List.nil_append, List.cons_append, List.map_cons, List.map_nil, List.sum_cons, List.sum_nil, List.length_cons, List.length_nil, Option.toList_some, Option.toList_none, true_and, and_true, false_and, and_false, true_implies, false_implies, implies_true, not_true_eq_false, not_false_eq_true, ne_eq, if_true, if_false, Bool.and_true, Bool.true_and, decide_true, decide_false, reduceIte, reduceCtorEq, Bool.and_self, Bool.and_eq_true, decide_eq_true_eq, and_self, true_or, or_true, false_or, or_false, Nat.zero_add, Nat.add_zero, eq_self, Nat.reduceEqDiff, Nat.reduceLeDiff, Nat.reduceLT, Nat.reduceAdd, Nat.reduceSub, Nat.reduceMul, q_144P (show 289 < 290 by decide), show (288 < 289) = True from eq_true (by decide), e101_105, B101_105, LC_out hL, LE_out hE, xi0 (show 0 < 4913 by decide) (by decide), ix_0, e4]
    exact kk w4 w5 w6 hg
  | j + 1, e, w4, w5, w6, he, hg => by
    have h18 := L101_18 (I := I) (J := J) (D := D) (b := b) (Q := Q) hL hE hB h2 ht (e := e) (by omega) (fun w4 w5 w6 hg => by
      rw [e101_99]
      simp only [B101_99, xSeq, i_push, i_load, i_iload, i_lload, i_dload, i_aload, i_istore, i_astore, i_lstore, i_dstore, i_iinc, i_ii, i_iiz, i_ll, i_llz, i_lli, i_li, i_i, i_l, i_i2l, i_l2i, i_dup, i_dup2, i_dup2w, i_dupx1, i_pop, i_pop2, i_goto, i_ifc, i_icmp, i_getI, i_getL, i_getR, i_putI, i_putZ, i_putL, i_putR, i_aldI, i_aldB, i_aldL, i_aldD, i_astI, i_astL, i_astD, i_alen, i_ret, i_iret, i_zret, i_lret, i_fret, i_dret, i_aret, i_invS0, i_invV0, i_m2, i_m1, i_ml, i_obj, lk, lkp, stf1, stf2, Value.category, rV, xTo, lv_args, xCk, xCat, xRc, xAk, hg_S, hg_I, hg_J, hg_D, hg_R, hs_I, hs_J, hs_D, hs_R, uI_at, uJ_at, uD_at, uR_at, List.take_succ_cons, List.take_zero, List.drop_succ_cons, List.drop_zero, List.reverse_cons, List.reverse_nil, List.nil_append, List.cons_append, List.map_cons, List.map_nil, List.sum_cons, List.sum_nil, List.length_cons, List.length_nil, Option.toList_some, Option.toList_none, true_and, and_true, false_and, and_false, true_implies, false_implies, implies_true, not_true_eq_false, not_false_eq_true, ne_eq, if_true, if_false, Bool.and_true, Bool.true_and, decide_true, decide_false, reduceIte, reduceCtorEq, Bool.and_self, Bool.and_eq_true, decide_eq_true_eq, and_self, true_or, or_true, false_or, or_false, Nat.zero_add, Nat.add_zero, eq_self, Nat.reduceEqDiff, Nat.reduceLeDiff, Nat.reduceLT, Nat.reduceAdd, Nat.reduceSub, Nat.reduceMul, q_144s]
      exact L101_9 hL hE hB h2 ht kk j (e + 1) w4 w5 w6 (by omega) hg) (n + 1) 0 w4 w5 w6 (by omega) hg
    rw [nI_0] at h18
    rw [e101_9]
    simp only [B101_9, xSeq, i_push, i_load, i_iload, i_lload, i_dload, i_aload, i_istore, i_astore, i_lstore, i_dstore, i_iinc, i_ii, i_iiz, i_ll, i_llz, i_lli, i_li, i_i, i_l, i_i2l, i_l2i, i_dup, i_dup2, i_dup2w, i_dupx1, i_pop, i_pop2, i_goto, i_ifc, i_icmp, i_getI, i_getL, i_getR, i_putI, i_putZ, i_putL, i_putR, i_aldI, i_aldB, i_aldL, i_aldD, i_astI, i_astL, i_astD, i_alen, i_ret, i_iret, i_zret, i_lret, i_fret, i_dret, i_aret, i_invS0, i_invV0, i_m2, i_m1, i_ml, i_obj, lk, lkp, stf1, stf2, Value.category, rV, xTo, lv_args, xCk, xCat, xRc, xAk, hg_S, hg_I, hg_J, hg_D, hg_R, hs_I, hs_J, hs_D, hs_R, uI_at, uJ_at, uD_at, uR_at, List.take_succ_cons, List.take_zero, List.drop_succ_cons, List.drop_zero, List.reverse_cons, List.reverse_nil, List.nil_append, List.cons_append, List.map_cons, List.map_nil, List.sum_cons, List.sum_nil, List.length_cons, List.length_nil, Option.toList_some, Option.toList_none, true_and, and_true, false_and, and_false, true_implies, false_implies, implies_true, not_true_eq_false, not_false_eq_true, ne_eq, if_true, if_false, Bool.and_true, Bool.true_and, decide_true, decide_false, reduceIte, reduceCtorEq, Bool.and_self, Bool.and_eq_true, decide_eq_true_eq, and_self, true_or, or_true, false_or, or_false, Nat.zero_add, Nat.add_zero, eq_self, Nat.reduceEqDiff, Nat.reduceLeDiff, Nat.reduceLT, Nat.reduceAdd, Nat.reduceSub, Nat.reduceMul, q_144P (show e < 290 by omega), show (288 < e) = False from eq_false (by omega)]
    exact h18
theorem L101 (hL : LC S R) (hE : LE S R) (hB : EB E n) (h2 : I 130 2 = nI n) (ht : ∀ k, k < 4913 → I 153 k = nI (cL E n k))
    (kk : ∀ w4 w5 w6, GL (lv E n) gE (gM n) (gN E n) w4 w5 w6 → Q (.ok none) (S, uI (lvH (uI I 130 5 0) (lv E n).length w4 w5 w6) 130 4 (w4 0), J, D, R) b) :
    xRun xT 101 0 [(0, .ref 130)] [] (S, I, J, D, R) b Q := by
  have h9 := L101_9 (I := uI I 130 5 0) (J := J) (D := D) (b := b) (Q := Q) hL hE hB h2 ht kk 289 0 (I 154) (I 155) (I 156) (by decide) GL_0
  have e0 : lvH (uI I 130 5 0) (fl (fun k => decide (0 < cL E n k)) (0 * 17)).length (I 154) (I 155) (I 156) = uI I 130 5 0 := lvH_0 (uI I 130 5 0) 0 rfl
  rw [e0, show (nI 0 - 144 : Int32) = -144 from by decide] at h9
  rw [e101_0]
  simp only [B101_0, xSeq, i_push, i_load, i_iload, i_lload, i_dload, i_aload, i_istore, i_astore, i_lstore, i_dstore, i_iinc, i_ii, i_iiz, i_ll, i_llz, i_lli, i_li, i_i, i_l, i_i2l, i_l2i, i_dup, i_dup2, i_dup2w, i_dupx1, i_pop, i_pop2, i_goto, i_ifc, i_icmp, i_getI, i_getL, i_getR, i_putI, i_putZ, i_putL, i_putR, i_aldI, i_aldB, i_aldL, i_aldD, i_astI, i_astL, i_astD, i_alen, i_ret, i_iret, i_zret, i_lret, i_fret, i_dret, i_aret, i_invS0, i_invV0, i_m2, i_m1, i_ml, i_obj, lk, lkp, stf1, stf2, Value.category, rV, xTo, lv_args, xCk, xCat, xRc, xAk, hg_S, hg_I, hg_J, hg_D, hg_R, hs_I, hs_J, hs_D, hs_R, uI_at, uJ_at, uD_at, uR_at, List.take_succ_cons, List.take_zero, List.drop_succ_cons, List.drop_zero, List.reverse_cons, List.reverse_nil, List.nil_append, List.cons_append, List.map_cons, List.map_nil, List.sum_cons, List.sum_nil, List.length_cons, List.length_nil, Option.toList_some, Option.toList_none, true_and, and_true, false_and, and_false, true_implies, false_implies, implies_true, not_true_eq_false, not_false_eq_true, ne_eq, if_true, if_false, Bool.and_true, Bool.true_and, decide_true, decide_false, reduceIte, reduceCtorEq, Bool.and_self, Bool.and_eq_true, decide_eq_true_eq, and_self, true_or, or_true, false_or, or_false, Nat.zero_add, Nat.add_zero, eq_self, Nat.reduceEqDiff, Nat.reduceLeDiff, Nat.reduceLT, Nat.reduceAdd, Nat.reduceSub, Nat.reduceMul, LC_out hL]
  exact h9
theorem L100 (hL : LC S R) (hE : LE S R) (hB : EB E n) (h3 : I 130 3 = nI (2 ^ n)) (hw : ∀ c, c < 2 ^ n → I 151 c = E c)
    (kk : ∀ f, (∀ k, k < 4913 → f k = nI (cL E n k)) → Q (.ok none) (S, rI I 153 f, J, D, R) b) :
    xRun xT 100 0 [(0, .ref 130)] [] (S, I, J, D, R) b Q := by
  have S153 : S 153 = (100, 4913) := (LE_out hE).2.2.2.2.2.2.2.2.1
  have h10 := L100_10 (I := I) (J := J) (D := D) (b := b) (Q := Q) hL hE hB h3 hw kk (2 ^ n) 0 (fill (I 153) 0 4913) (by omega) (fun k hk => by
    rw [fill_at, if_pos hk]
    rfl)
  rw [nI_0] at h10
  rw [e100_0]
  simp only [B100_0, xSeq, i_push, i_load, i_iload, i_lload, i_dload, i_aload, i_istore, i_astore, i_lstore, i_dstore, i_iinc, i_ii, i_iiz, i_ll, i_llz, i_lli, i_li, i_i, i_l, i_i2l, i_l2i, i_dup, i_dup2, i_dup2w, i_dupx1, i_pop, i_pop2, i_goto, i_ifc, i_icmp, i_getI, i_getL, i_getR, i_putI, i_putZ, i_putL, i_putR, i_aldI, i_aldB, i_aldL, i_aldD, i_astI, i_astL, i_astD, i_alen, i_ret, i_iret, i_zret, i_lret, i_fret, i_dret, i_aret, i_invS0, i_invV0, i_m2, i_m1, i_ml, i_obj, lk, lkp, stf1, stf2, Value.category, rV, xTo, lv_args, xCk, xCat, xRc, xAk, hg_S, hg_I, hg_J, hg_D, hg_R, hs_I, hs_J, hs_D, hs_R, uI_at, uJ_at, uD_at, uR_at, List.take_succ_cons, List.take_zero, List.drop_succ_cons, List.drop_zero, List.reverse_cons, List.reverse_nil, List.nil_append, List.cons_append, List.map_cons, List.map_nil, List.sum_cons, List.sum_nil, List.length_cons, List.length_nil, Option.toList_some, Option.toList_none, true_and, and_true, false_and, and_false, true_implies, false_implies, implies_true, not_true_eq_false, not_false_eq_true, ne_eq, if_true, if_false, Bool.and_true, Bool.true_and, decide_true, decide_false, reduceIte, reduceCtorEq, Bool.and_self, Bool.and_eq_true, decide_eq_true_eq, and_self, true_or, or_true, false_or, or_false, Nat.zero_add, Nat.add_zero, eq_self, Nat.reduceEqDiff, Nat.reduceLeDiff, Nat.reduceLT, Nat.reduceAdd, Nat.reduceSub, Nat.reduceMul, LC_out hL, LE_out hE, Y6 (o := 153) (L := 4913) S153 (by decide)]
  exact h10
end
