/-! ===== numbers are appended ===== -/
section
/-- bytes in one row, all else as before -/
def AW (v cap : Nat) (I0 I : xI) : Prop := (∀ k, k < cap → bF (I v k)) ∧ ∀ o k, o ≠ v → I o k = I0 o k
theorem AW_w {v cap : Nat} {I0 I : xI} (h : AW v cap I0 I) (p : Nat) (x : Int32) : AW v cap I0 (uI I v p (vp_nar .byte x)) := by
  refine ⟨fun k hk => ?_, fun o k ho => ?_⟩
  · rw [uI_at]
    split
    · exact bF_n _
    · exact h.1 k hk
  · rw [uI_at, if_neg (fun e => ho e.1)]
    exact h.2 o k ho
theorem nI_dn {p : Nat} (h : 1 ≤ p) : nI p + -1 = nI (p - 1) := by
  rw [← nI_subn h]
  show _ = nI p - 1
  grind
variable {S : xS} {I : xI} {J : xJ} {D : xDb} {R : xR} {b : Nat × Nat} {Q : xQ}
theorem L31_104 {v cap p : Nat} {ng : Int32} {nn : Nat} {I0 : xI} (hS : S v = (103, cap)) (hcap : cap < 2147483648) (hn : (ng = 0 ∧ nn = 0) ∨ (ng = 1 ∧ nn = 1)) (hp : nn ≤ p) (hpc : p ≤ cap) (h : AW v cap I0 I)
    (kk : ∀ I' r, AW v cap I0 I' → Q (.ok (some (.int r))) (S, I', J, D, R) b) : xRun xT 31 104 [(2, .ref v), (5, .int (nI p)), (6, .int ng)] [] (S, I, J, D, R) b Q := by
  rw [e31_104]
  rcases hn with ⟨h1, h2⟩ | ⟨h1, h2⟩
  · simp only [B31_104, xSeq, i_push, i_load, i_iload, i_lload, i_dload, i_aload, i_istore, i_astore, i_lstore, i_dstore, i_iinc, i_ii, i_iiz, i_ll, i_llz, i_lli, i_li, i_i, i_l, i_i2l, i_l2i, i_dup, i_dup2, i_dup2w, i_dupx1, i_pop, i_pop2, i_goto, i_ifc, i_icmp, i_getI, i_getL, i_getR, i_putI, i_putZ, i_putL, i_putR, i_aldI, i_aldB, i_aldL, i_aldD, i_astI, i_astL, i_astD, i_alen, i_ret, i_iret, i_zret, i_lret, i_fret, i_dret, i_aret, i_invS0, i_invV0, i_m2, i_m1, i_ml, i_obj, lk, lkp, stf1, stf2, Value.category, rV, xTo, lv_args, xCk, xCat, xRc, xAk, hg_S, hg_I, hg_J, hg_D, hg_R, hs_I, hs_J, hs_D, hs_R, uI_at, uJ_at, uD_at, uR_at, List.take_succ_cons, List.take_zero, List.drop_succ_cons, List.drop_zero, List.reverse_cons, List.reverse_nil, List.nil_append, List.cons_append, List.map_cons, List.map_nil, List.sum_cons, List.sum_nil, List.length_cons, List.length_nil, Option.toList_some, Option.toList_none, true_and, and_true, false_and, and_false, true_implies, false_implies, implies_true, not_true_eq_false, not_false_eq_true, ne_eq, if_true, if_false, Bool.and_true, Bool.true_and, decide_true, decide_false, reduceIte, reduceCtorEq, Bool.and_self, Bool.and_eq_true, decide_eq_true_eq, and_self, true_or, or_true, false_or, or_false, Nat.zero_add, Nat.add_zero, eq_self, Nat.reduceEqDiff, Nat.reduceLeDiff, Nat.reduceLT, Nat.reduceAdd, Nat.reduceSub, Nat.reduceMul, h1, e31_118, B31_118]
    exact kk I _ h
  · have hsh : ((100 ≤ 103 ∧ 103 < 106) ∨ 103 = 107 ∨ 103 = 108) = True := eq_true (by decide)
    simp only [B31_104, xSeq, i_push, i_load, i_iload, i_lload, i_dload, i_aload, i_istore, i_astore, i_lstore, i_dstore, i_iinc, i_ii, i_iiz, i_ll, i_llz, i_lli, i_li, i_i, i_l, i_i2l, i_l2i, i_dup, i_dup2, i_dup2w, i_dupx1, i_pop, i_pop2, i_goto, i_ifc, i_icmp, i_getI, i_getL, i_getR, i_putI, i_putZ, i_putL, i_putR, i_aldI, i_aldB, i_aldL, i_aldD, i_astI, i_astL, i_astD, i_alen, i_ret, i_iret, i_zret, i_lret, i_fret, i_dret, i_aret, i_invS0, i_invV0, i_m2, i_m1, i_ml, i_obj, lk, lkp, stf1, stf2, Value.category, rV, xTo, lv_args, xCk, xCat, xRc, xAk, hg_S, hg_I, hg_J, hg_D, hg_R, hs_I, hs_J, hs_D, hs_R, uI_at, uJ_at, uD_at, uR_at, List.take_succ_cons, List.take_zero, List.drop_succ_cons, List.drop_zero, List.reverse_cons, List.reverse_nil, List.nil_append, List.cons_append, List.map_cons, List.map_nil, List.sum_cons, List.sum_nil, List.length_cons, List.length_nil, Option.toList_some, Option.toList_none, true_and, and_true, false_and, and_false, true_implies, false_implies, implies_true, not_true_eq_false, not_false_eq_true, ne_eq, if_true, if_false, Bool.and_true, Bool.true_and, decide_true, decide_false, reduceIte, reduceCtorEq, Bool.and_self, Bool.and_eq_true, decide_eq_true_eq, and_self, true_or, or_true, false_or, or_false, Nat.zero_add, Nat.add_zero, eq_self, Nat.reduceEqDiff, Nat.reduceLeDiff, Nat.reduceLT, Nat.reduceAdd, Nat.reduceSub, Nat.reduceMul, h1, i1_0, nI_dn (show 1 ≤ p by omega), hS, nI_inP (show p - 1 < cap by omega) hcap, nI_ix (show p - 1 < 2147483648 by omega), e31_118, B31_118]
    exact kk _ _ (AW_w h _ _)
theorem L31_72 {v cap p m : Nat} {ng : Int32} {nn : Nat} {I0 : xI} (hS : S v = (103, cap)) (hcap : cap < 2147483648) (hT : S 900800 = (107, 100)) (hO : S 900801 = (107, 100)) (hn : (ng = 0 ∧ nn = 0) ∨ (ng = 1 ∧ nn = 1)) (hm : m < 100) (hp : dg m + nn ≤ p) (hpc : p ≤ cap) (h : AW v cap I0 I)
    (kk : ∀ I' r, AW v cap I0 I' → Q (.ok (some (.int r))) (S, I', J, D, R) b) : xRun xT 31 72 [(0, .int (-(nI m))), (2, .ref v), (5, .int (nI p)), (6, .int ng)] [] (S, I, J, D, R) b Q := by
  have hd := dg_bd m
  have h9 : (-9 ≤ -(nI m)) = (m < 10) := by
    rw [show (-9 : Int32) = -(nI 9) from rfl, Int32.le_iff_toInt_le, neg_I (by decide), neg_I (by omega)]
    exact propext ⟨fun h => by omega, fun h => by omega⟩
  obtain ⟨d1, d2⟩ := dg_10 (m := m)
  have nn2 := neg_neg (nI m)
  have im : xIn (nI m) 100 = True := nI_inP hm (by decide)
  obtain ⟨x, hx⟩ : ∃ x, x = -(nI m) := ⟨_, rfl⟩
  obtain ⟨w, hw⟩ : ∃ w, w = nI m := ⟨_, rfl⟩
  rw [← hx] at h9 nn2 ⊢
  rw [← hw] at nn2 im
  have q1 := nI_dn (show 1 ≤ p by omega)
  have i1 : xIn (nI (p - 1)) cap = True := nI_inP (show p - 1 < cap by omega) hcap
  have x1 : ix (nI (p - 1)) = p - 1 := nI_ix (show p - 1 < 2147483648 by omega)
  have l1 := fun I => L31_104 (S := S) (I := I) (J := J) (D := D) (R := R) (b := b) (Q := Q) (p := p - 1) (ng := ng) (I0 := I0) hS hcap hn
  by_cases hc : m < 10
  · have e := d1 hc
    have l2 := fun I h => l1 I (by omega) (by omega) h kk
    obtain ⟨y, hy⟩ : ∃ y, y = nI p := ⟨_, rfl⟩
    obtain ⟨y1, hy1⟩ : ∃ y, y = nI (p - 1) := ⟨_, rfl⟩
    rw [← hy] at q1 ⊢
    rw [← hy1] at q1 i1 x1 l2
    rw [e31_72]
    simp only [B31_72]
    generalize (900801 : Nat) = t1 at hO ⊢
    generalize (900800 : Nat) = t0 at hT ⊢
    simp only [xSeq, i_push, i_load, i_iload, i_lload, i_dload, i_aload, i_istore, i_astore, i_lstore, i_dstore, i_iinc, i_ii, i_iiz, i_ll, i_llz, i_lli, i_li, i_i, i_l, i_i2l, i_l2i, i_dup, i_dup2, i_dup2w, i_dupx1, i_pop, i_pop2, i_goto, i_ifc, i_icmp, i_getI, i_getL, i_getR, i_putI, i_putZ, i_putL, i_putR, i_aldI, i_aldB, i_aldL, i_aldD, i_astI, i_astL, i_astD, i_alen, i_ret, i_iret, i_zret, i_lret, i_fret, i_dret, i_aret, i_invS0, i_invV0, i_m2, i_m1, i_ml, i_obj, lk, lkp, stf1, stf2, Value.category, rV, xTo, lv_args, xCk, xCat, xRc, xAk, hg_S, hg_I, hg_J, hg_D, hg_R, hs_I, hs_J, hs_D, hs_R, uI_at, uJ_at, uD_at, uR_at, List.take_succ_cons, List.take_zero, List.drop_succ_cons, List.drop_zero, List.reverse_cons, List.reverse_nil, List.nil_append, List.cons_append, List.map_cons, List.map_nil, List.sum_cons, List.sum_nil, List.length_cons, List.length_nil, Option.toList_some, Option.toList_none, true_and, and_true, false_and, and_false, true_implies, false_implies, implies_true, not_true_eq_false, not_false_eq_true, ne_eq, if_true, if_false, Bool.and_true, Bool.true_and, decide_true, decide_false, reduceIte, reduceCtorEq, Bool.and_self, Bool.and_eq_true, decide_eq_true_eq, and_self, true_or, or_true, false_or, or_false, Nat.zero_add, Nat.add_zero, eq_self, Nat.reduceEqDiff, Nat.reduceLeDiff, Nat.reduceLT, Nat.reduceAdd, Nat.reduceSub, Nat.reduceMul, -i_iinc]
    simp only [q1, hO, nn2, im, hS, i1, x1, h9, hc, true_and, and_true, false_and, and_false, true_implies, false_implies, implies_true, not_true_eq_false, not_false_eq_true, ne_eq, if_true, if_false, Bool.and_true, Bool.true_and, decide_true, decide_false, reduceIte, reduceCtorEq, Bool.and_self, Bool.and_eq_true, decide_eq_true_eq, and_self, true_or, or_true, false_or, or_false, Nat.zero_add, Nat.add_zero, eq_self, Nat.reduceEqDiff, Nat.reduceLeDiff, Nat.reduceLT, Nat.reduceAdd, Nat.reduceSub, Nat.reduceMul]
    exact l2 _ (AW_w h _ _)
  · have e := d2 (by omega) hm
    have q2 := nI_dn (show 1 ≤ p - 1 by omega)
    have i2 : xIn (nI (p - 1 - 1)) cap = True := nI_inP (show p - 1 - 1 < cap by omega) hcap
    have x2 : ix (nI (p - 1 - 1)) = p - 1 - 1 := nI_ix (show p - 1 - 1 < 2147483648 by omega)
    have l2 := fun I h => L31_104 (S := S) (I := I) (J := J) (D := D) (R := R) (b := b) (Q := Q) (p := p - 1 - 1) (ng := ng) (I0 := I0) hS hcap hn (by omega) (by omega) h kk
    obtain ⟨y, hy⟩ : ∃ y, y = nI p := ⟨_, rfl⟩
    obtain ⟨y1, hy1⟩ : ∃ y, y = nI (p - 1) := ⟨_, rfl⟩
    obtain ⟨y2, hy2⟩ : ∃ y, y = nI (p - 1 - 1) := ⟨_, rfl⟩
    rw [← hy] at q1 ⊢
    rw [← hy1] at q1 i1 x1 q2
    rw [← hy2] at q2 i2 x2 l2
    rw [e31_72]
    simp only [B31_72]
    generalize (900801 : Nat) = t1 at hO ⊢
    generalize (900800 : Nat) = t0 at hT ⊢
    simp only [xSeq, i_push, i_load, i_iload, i_lload, i_dload, i_aload, i_istore, i_astore, i_lstore, i_dstore, i_iinc, i_ii, i_iiz, i_ll, i_llz, i_lli, i_li, i_i, i_l, i_i2l, i_l2i, i_dup, i_dup2, i_dup2w, i_dupx1, i_pop, i_pop2, i_goto, i_ifc, i_icmp, i_getI, i_getL, i_getR, i_putI, i_putZ, i_putL, i_putR, i_aldI, i_aldB, i_aldL, i_aldD, i_astI, i_astL, i_astD, i_alen, i_ret, i_iret, i_zret, i_lret, i_fret, i_dret, i_aret, i_invS0, i_invV0, i_m2, i_m1, i_ml, i_obj, lk, lkp, stf1, stf2, Value.category, rV, xTo, lv_args, xCk, xCat, xRc, xAk, hg_S, hg_I, hg_J, hg_D, hg_R, hs_I, hs_J, hs_D, hs_R, uI_at, uJ_at, uD_at, uR_at, List.take_succ_cons, List.take_zero, List.drop_succ_cons, List.drop_zero, List.reverse_cons, List.reverse_nil, List.nil_append, List.cons_append, List.map_cons, List.map_nil, List.sum_cons, List.sum_nil, List.length_cons, List.length_nil, Option.toList_some, Option.toList_none, true_and, and_true, false_and, and_false, true_implies, false_implies, implies_true, not_true_eq_false, not_false_eq_true, ne_eq, if_true, if_false, Bool.and_true, Bool.true_and, decide_true, decide_false, reduceIte, reduceCtorEq, Bool.and_self, Bool.and_eq_true, decide_eq_true_eq, and_self, true_or, or_true, false_or, or_false, Nat.zero_add, Nat.add_zero, eq_self, Nat.reduceEqDiff, Nat.reduceLeDiff, Nat.reduceLT, Nat.reduceAdd, Nat.reduceSub, Nat.reduceMul, -i_iinc]
    simp only [q1, q2, hO, hT, nn2, im, hS, i1, x1, i2, x2, h9, hc, true_and, and_true, false_and, and_false, true_implies, false_implies, implies_true, not_true_eq_false, not_false_eq_true, ne_eq, if_true, if_false, Bool.and_true, Bool.true_and, decide_true, decide_false, reduceIte, reduceCtorEq, Bool.and_self, Bool.and_eq_true, decide_eq_true_eq, and_self, true_or, or_true, false_or, or_false, Nat.zero_add, Nat.add_zero, eq_self, Nat.reduceEqDiff, Nat.reduceLeDiff, Nat.reduceLT, Nat.reduceAdd, Nat.reduceSub, Nat.reduceMul]
    exact l2 _ (AW_w (AW_w h _ _) _ _)
theorem L31_22 {v cap : Nat} {ng : Int32} {nn : Nat} {I0 : xI} (hS : S v = (103, cap)) (hcap : cap < 2147483648) (hT : S 900800 = (107, 100)) (hO : S 900801 = (107, 100)) (hn : (ng = 0 ∧ nn = 0) ∨ (ng = 1 ∧ nn = 1))
    (kk : ∀ I' r, AW v cap I0 I' → Q (.ok (some (.int r))) (S, I', J, D, R) b) : ∀ (j m p : Nat) (I : xI), m ≤ 2147483648 → dg m ≤ 2 * j + 2 → dg m + nn ≤ p → p ≤ cap → AW v cap I0 I → xRun xT 31 22 [(0, .int (-(nI m))), (2, .ref v), (5, .int (nI p)), (6, .int ng)] [] (S, I, J, D, R) b Q := by
  intro j
  induction j with
  | zero =>
    intro m p I hm hd hp hpc h
    have hb := dg_bd m
    have hm2 : m < 100 := by
      refine Nat.lt_of_not_le (fun hle => ?_)
      have h1 := dg_100 hle hm
      have h2 := dg_bd (m / 100)
      omega
    have el : (-100 < -(nI m)) = (m < 100) := by rw [show (-100 : Int32) = -(nI 100) from rfl, neg_lt hm (by decide)]
    have l72 := L31_72 (S := S) (J := J) (D := D) (R := R) (b := b) (Q := Q) hS hcap hT hO hn hm2 hp hpc h kk
    obtain ⟨x, hx⟩ : ∃ x, x = -(nI m) := ⟨_, rfl⟩
    rw [← hx] at el l72 ⊢
    rw [e31_22]
    simp only [B31_22]
    generalize (900801 : Nat) = t1 at hO ⊢
    generalize (900800 : Nat) = t0 at hT ⊢
    simp only [xSeq, i_push, i_load, i_iload, i_lload, i_dload, i_aload, i_istore, i_astore, i_lstore, i_dstore, i_iinc, i_ii, i_iiz, i_ll, i_llz, i_lli, i_li, i_i, i_l, i_i2l, i_l2i, i_dup, i_dup2, i_dup2w, i_dupx1, i_pop, i_pop2, i_goto, i_ifc, i_icmp, i_getI, i_getL, i_getR, i_putI, i_putZ, i_putL, i_putR, i_aldI, i_aldB, i_aldL, i_aldD, i_astI, i_astL, i_astD, i_alen, i_ret, i_iret, i_zret, i_lret, i_fret, i_dret, i_aret, i_invS0, i_invV0, i_m2, i_m1, i_ml, i_obj, lk, lkp, stf1, stf2, Value.category, rV, xTo, lv_args, xCk, xCat, xRc, xAk, hg_S, hg_I, hg_J, hg_D, hg_R, hs_I, hs_J, hs_D, hs_R, uI_at, uJ_at, uD_at, uR_at, List.take_succ_cons, List.take_zero, List.drop_succ_cons, List.drop_zero, List.reverse_cons, List.reverse_nil, List.nil_append, List.cons_append, List.map_cons, List.map_nil, List.sum_cons, List.sum_nil, List.length_cons, List.length_nil, Option.toList_some, Option.toList_none, true_and, and_true, false_and, and_false, true_implies, false_implies, implies_true, not_true_eq_false, not_false_eq_true, ne_eq, if_true, if_false, Bool.and_true, Bool.true_and, decide_true, decide_false, reduceIte, reduceCtorEq, Bool.and_self, Bool.and_eq_true, decide_eq_true_eq, and_self, true_or, or_true, false_or, or_false, Nat.zero_add, Nat.add_zero, eq_self, Nat.reduceEqDiff, Nat.reduceLeDiff, Nat.reduceLT, Nat.reduceAdd, Nat.reduceSub, Nat.reduceMul, -i_iinc]
    simp only [el, hm2, true_and, and_true, false_and, and_false, true_implies, false_implies, implies_true, not_true_eq_false, not_false_eq_true, ne_eq, if_true, if_false, Bool.and_true, Bool.true_and, decide_true, decide_false, reduceIte, reduceCtorEq, Bool.and_self, Bool.and_eq_true, decide_eq_true_eq, and_self, true_or, or_true, false_or, or_false, Nat.zero_add, Nat.add_zero, eq_self, Nat.reduceEqDiff, Nat.reduceLeDiff, Nat.reduceLT, Nat.reduceAdd, Nat.reduceSub, Nat.reduceMul]
    exact l72
  | succ j ih =>
    intro m p I hm hd hp hpc h
    have hb := dg_bd m
    have el : (-100 < -(nI m)) = (m < 100) := by rw [show (-100 : Int32) = -(nI 100) from rfl, neg_lt hm (by decide)]
    by_cases hm2 : m < 100
    · have l72 := L31_72 (S := S) (J := J) (D := D) (R := R) (b := b) (Q := Q) hS hcap hT hO hn hm2 hp hpc h kk
      obtain ⟨x, hx⟩ : ∃ x, x = -(nI m) := ⟨_, rfl⟩
      rw [← hx] at el l72 ⊢
      rw [e31_22]
      simp only [B31_22]
      generalize (900801 : Nat) = t1 at hO ⊢
      generalize (900800 : Nat) = t0 at hT ⊢
      simp only [xSeq, i_push, i_load, i_iload, i_lload, i_dload, i_aload, i_istore, i_astore, i_lstore, i_dstore, i_iinc, i_ii, i_iiz, i_ll, i_llz, i_lli, i_li, i_i, i_l, i_i2l, i_l2i, i_dup, i_dup2, i_dup2w, i_dupx1, i_pop, i_pop2, i_goto, i_ifc, i_icmp, i_getI, i_getL, i_getR, i_putI, i_putZ, i_putL, i_putR, i_aldI, i_aldB, i_aldL, i_aldD, i_astI, i_astL, i_astD, i_alen, i_ret, i_iret, i_zret, i_lret, i_fret, i_dret, i_aret, i_invS0, i_invV0, i_m2, i_m1, i_ml, i_obj, lk, lkp, stf1, stf2, Value.category, rV, xTo, lv_args, xCk, xCat, xRc, xAk, hg_S, hg_I, hg_J, hg_D, hg_R, hs_I, hs_J, hs_D, hs_R, uI_at, uJ_at, uD_at, uR_at, List.take_succ_cons, List.take_zero, List.drop_succ_cons, List.drop_zero, List.reverse_cons, List.reverse_nil, List.nil_append, List.cons_append, List.map_cons, List.map_nil, List.sum_cons, List.sum_nil, List.length_cons, List.length_nil, Option.toList_some, Option.toList_none, true_and, and_true, false_and, and_false, true_implies, false_implies, implies_true, not_true_eq_false, not_false_eq_true, ne_eq, if_true, if_false, Bool.and_true, Bool.true_and, decide_true, decide_false, reduceIte, reduceCtorEq, Bool.and_self, Bool.and_eq_true, decide_eq_true_eq, and_self, true_or, or_true, false_or, or_false, Nat.zero_add, Nat.add_zero, eq_self, Nat.reduceEqDiff, Nat.reduceLeDiff, Nat.reduceLT, Nat.reduceAdd, Nat.reduceSub, Nat.reduceMul, -i_iinc]
      simp only [el, hm2, true_and, and_true, false_and, and_false, true_implies, false_implies, implies_true, not_true_eq_false, not_false_eq_true, ne_eq, if_true, if_false, Bool.and_true, Bool.true_and, decide_true, decide_false, reduceIte, reduceCtorEq, Bool.and_self, Bool.and_eq_true, decide_eq_true_eq, and_self, true_or, or_true, false_or, or_false, Nat.zero_add, Nat.add_zero, eq_self, Nat.reduceEqDiff, Nat.reduceLeDiff, Nat.reduceLT, Nat.reduceAdd, Nat.reduceSub, Nat.reduceMul]
      exact l72
    · have h1 := dg_100 (show 100 ≤ m by omega) hm
      have ed := neg_div hm
      have er := neg_rest (m := m)
      have nx := ih (m / 100) (p - 2)
      obtain ⟨x, hx⟩ : ∃ x, x = -(nI m) := ⟨_, rfl⟩
      obtain ⟨y, hy⟩ : ∃ y, y = -(nI (m / 100)) := ⟨_, rfl⟩
      rw [← hx] at el ed er ⊢
      rw [← hy] at ed er nx
      have hr : m % 100 < 100 := Nat.mod_lt _ (by decide)
      rw [e31_22]
      simp only [B31_22]
      generalize (900801 : Nat) = t1 at hO ⊢
      generalize (900800 : Nat) = t0 at hT ⊢
      simp only [xSeq, i_push, i_load, i_iload, i_lload, i_dload, i_aload, i_istore, i_astore, i_lstore, i_dstore, i_iinc, i_ii, i_iiz, i_ll, i_llz, i_lli, i_li, i_i, i_l, i_i2l, i_l2i, i_dup, i_dup2, i_dup2w, i_dupx1, i_pop, i_pop2, i_goto, i_ifc, i_icmp, i_getI, i_getL, i_getR, i_putI, i_putZ, i_putL, i_putR, i_aldI, i_aldB, i_aldL, i_aldD, i_astI, i_astL, i_astD, i_alen, i_ret, i_iret, i_zret, i_lret, i_fret, i_dret, i_aret, i_invS0, i_invV0, i_m2, i_m1, i_ml, i_obj, lk, lkp, stf1, stf2, Value.category, rV, xTo, lv_args, xCk, xCat, xRc, xAk, hg_S, hg_I, hg_J, hg_D, hg_R, hs_I, hs_J, hs_D, hs_R, uI_at, uJ_at, uD_at, uR_at, List.take_succ_cons, List.take_zero, List.drop_succ_cons, List.drop_zero, List.reverse_cons, List.reverse_nil, List.nil_append, List.cons_append, List.map_cons, List.map_nil, List.sum_cons, List.sum_nil, List.length_cons, List.length_nil, Option.toList_some, Option.toList_none, true_and, and_true, false_and, and_false, true_implies, false_implies, implies_true, not_true_eq_false, not_false_eq_true, ne_eq, if_true, if_false, Bool.and_true, Bool.true_and, decide_true, decide_false, reduceIte, reduceCtorEq, Bool.and_self, Bool.and_eq_true, decide_eq_true_eq, and_self, true_or, or_true, false_or, or_false, Nat.zero_add, Nat.add_zero, eq_self, Nat.reduceEqDiff, Nat.reduceLeDiff, Nat.reduceLT, Nat.reduceAdd, Nat.reduceSub, Nat.reduceMul, -i_iinc]
      simp only [true_and, and_true, false_and, and_false, true_implies, false_implies, implies_true, not_true_eq_false, not_false_eq_true, ne_eq, if_true, if_false, Bool.and_true, Bool.true_and, decide_true, decide_false, reduceIte, reduceCtorEq, Bool.and_self, Bool.and_eq_true, decide_eq_true_eq, and_self, true_or, or_true, false_or, or_false, Nat.zero_add, Nat.add_zero, eq_self, Nat.reduceEqDiff, Nat.reduceLeDiff, Nat.reduceLT, Nat.reduceAdd, Nat.reduceSub, Nat.reduceMul, el, hm2, show ((100 : Int32) = 0) = False from eq_false (by decide), ed, er, nI_dn (show 1 ≤ p by omega), nI_dn (show 1 ≤ p - 1 by omega), hO, hT, hS, nI_inP hr (by decide), nI_inP (show p - 1 < cap by omega) hcap, nI_ix (show p - 1 < 2147483648 by omega), nI_inP (show p - 1 - 1 < cap by omega) hcap, nI_ix (show p - 1 - 1 < 2147483648 by omega)]
      rw [show p - 1 - 1 = p - 2 by omega]
      exact nx _ (by omega) (by omega) (by omega) (by omega) (AW_w (AW_w h _ _) _ _)
theorem L31 {v cap p : Nat} {x : Int32} (hS : S v = (103, cap)) (hcap : cap < 2147483648) (hT : S 900800 = (107, 100)) (hO : S 900801 = (107, 100)) (hp : nch x ≤ p) (hpc : p ≤ cap) (h : ∀ k, k < cap → bF (I v k))
    (kk : ∀ I' r, AW v cap I I' → Q (.ok (some (.int r))) (S, I', J, D, R) b) : xRun xT 31 0 [(0, .int x), (1, .int (nI p)), (2, .ref v)] [] (S, I, J, D, R) b Q := by
  obtain ⟨m, hm, e, hx⟩ := num_cases x
  have hb := dg_bd m
  have hc : nch x = (if x < 0 then 1 else 0) + dg m := by unfold nch; rw [e]
  have h0 : AW v cap I I := ⟨h, fun _ _ _ => rfl⟩
  rcases hx with ⟨h1, h2, h3⟩ | ⟨h1, h2, h3⟩
  · rw [if_pos h1] at hc
    have l22 := L31_22 (S := S) (J := J) (D := D) (R := R) (b := b) (Q := Q) (ng := 1) (nn := 1) hS hcap hT hO (Or.inr ⟨rfl, rfl⟩) kk 4 m p I hm (by omega) (by omega) hpc h0
    have h4 : (0 ≤ x) = False := eq_false (Int32.not_le.mpr h1)
    rw [← h2] at l22
    rw [e31_0]
    simp only [B31_0, xSeq, i_push, i_load, i_iload, i_lload, i_dload, i_aload, i_istore, i_astore, i_lstore, i_dstore, i_iinc, i_ii, i_iiz, i_ll, i_llz, i_lli, i_li, i_i, i_l, i_i2l, i_l2i, i_dup, i_dup2, i_dup2w, i_dupx1, i_pop, i_pop2, i_goto, i_ifc, i_icmp, i_getI, i_getL, i_getR, i_putI, i_putZ, i_putL, i_putR, i_aldI, i_aldB, i_aldL, i_aldD, i_astI, i_astL, i_astD, i_alen, i_ret, i_iret, i_zret, i_lret, i_fret, i_dret, i_aret, i_invS0, i_invV0, i_m2, i_m1, i_ml, i_obj, lk, lkp, stf1, stf2, Value.category, rV, xTo, lv_args, xCk, xCat, xRc, xAk, hg_S, hg_I, hg_J, hg_D, hg_R, hs_I, hs_J, hs_D, hs_R, uI_at, uJ_at, uD_at, uR_at, List.take_succ_cons, List.take_zero, List.drop_succ_cons, List.drop_zero, List.reverse_cons, List.reverse_nil, List.nil_append, List.cons_append, List.map_cons, List.map_nil, List.sum_cons, List.sum_nil, List.length_cons, List.length_nil, Option.toList_some, Option.toList_none, true_and, and_true, false_and, and_false, true_implies, false_implies, implies_true, not_true_eq_false, not_false_eq_true, ne_eq, if_true, if_false, Bool.and_true, Bool.true_and, decide_true, decide_false, reduceIte, reduceCtorEq, Bool.and_self, Bool.and_eq_true, decide_eq_true_eq, and_self, true_or, or_true, false_or, or_false, Nat.zero_add, Nat.add_zero, eq_self, Nat.reduceEqDiff, Nat.reduceLeDiff, Nat.reduceLT, Nat.reduceAdd, Nat.reduceSub, Nat.reduceMul, h4, e31_12, B31_12, i1_0]
    exact l22
  · rw [if_neg h1] at hc
    have l22 := L31_22 (S := S) (J := J) (D := D) (R := R) (b := b) (Q := Q) (ng := 0) (nn := 0) hS hcap hT hO (Or.inl ⟨rfl, rfl⟩) kk 4 m p I hm (by omega) (by omega) hpc h0
    have h4 : (0 ≤ x) = True := eq_true (Int32.not_lt.mp h1)
    rw [← h2] at l22
    rw [e31_0]
    simp only [B31_0, xSeq, i_push, i_load, i_iload, i_lload, i_dload, i_aload, i_istore, i_astore, i_lstore, i_dstore, i_iinc, i_ii, i_iiz, i_ll, i_llz, i_lli, i_li, i_i, i_l, i_i2l, i_l2i, i_dup, i_dup2, i_dup2w, i_dupx1, i_pop, i_pop2, i_goto, i_ifc, i_icmp, i_getI, i_getL, i_getR, i_putI, i_putZ, i_putL, i_putR, i_aldI, i_aldB, i_aldL, i_aldD, i_astI, i_astL, i_astD, i_alen, i_ret, i_iret, i_zret, i_lret, i_fret, i_dret, i_aret, i_invS0, i_invV0, i_m2, i_m1, i_ml, i_obj, lk, lkp, stf1, stf2, Value.category, rV, xTo, lv_args, xCk, xCat, xRc, xAk, hg_S, hg_I, hg_J, hg_D, hg_R, hs_I, hs_J, hs_D, hs_R, uI_at, uJ_at, uD_at, uR_at, List.take_succ_cons, List.take_zero, List.drop_succ_cons, List.drop_zero, List.reverse_cons, List.reverse_nil, List.nil_append, List.cons_append, List.map_cons, List.map_nil, List.sum_cons, List.sum_nil, List.length_cons, List.length_nil, Option.toList_some, Option.toList_none, true_and, and_true, false_and, and_false, true_implies, false_implies, implies_true, not_true_eq_false, not_false_eq_true, ne_eq, if_true, if_false, Bool.and_true, Bool.true_and, decide_true, decide_false, reduceIte, reduceCtorEq, Bool.and_self, Bool.and_eq_true, decide_eq_true_eq, and_self, true_or, or_true, false_or, or_false, Nat.zero_add, Nat.add_zero, eq_self, Nat.reduceEqDiff, Nat.reduceLeDiff, Nat.reduceLT, Nat.reduceAdd, Nat.reduceSub, Nat.reduceMul, h4, e31_11, B31_11, e31_12, B31_12]
    exact l22
end
