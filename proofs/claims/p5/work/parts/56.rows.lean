/-! ===== whole rows ===== -/
section
def rI (I : xI) (o : Nat) (f : Nat → Int32) : xI := fun a b => if a = o then f b else I a b
def up (f : Nat → Int32) (k : Nat) (v : Int32) : Nat → Int32 := fun j => if j = k then v else f j
theorem up_at (f : Nat → Int32) (k : Nat) (v : Int32) (j : Nat) : up f k v j = if j = k then v else f j := rfl
theorem rI_at (I : xI) (o : Nat) (f : Nat → Int32) (a b : Nat) : rI I o f a b = if a = o then f b else I a b := rfl
theorem uI_rI (I : xI) (o : Nat) (f : Nat → Int32) (k : Nat) (v : Int32) : uI (rI I o f) o k v = rI I o (up f k v) := by
  funext a b
  simp only [uI_at, rI_at, up_at]
  by_cases h : a = o
  · simp [h]
  · simp [h]
theorem rI_rI (I : xI) (o : Nat) (f g : Nat → Int32) : rI (rI I o f) o g = rI I o g := by
  funext a b
  simp only [rI_at]
  split <;> rfl
theorem rI_self (I : xI) (o : Nat) : rI I o (I o) = I := by
  funext a b
  simp only [rI_at]
  split
  · rename_i h
    rw [h]
  · rfl
theorem rI_swap (I : xI) {o p : Nat} (h : o ≠ p) (f g : Nat → Int32) : rI (rI I o f) p g = rI (rI I p g) o f := by
  funext a b
  simp only [rI_at]
  by_cases h1 : a = p
  · subst h1
    rw [if_pos rfl, if_neg (fun e => h e.symm), if_pos rfl]
  · rw [if_neg h1, if_neg h1]
theorem uI_swap (I : xI) {o p : Nat} (h : o ≠ p) (k : Nat) (v : Int32) (g : Nat → Int32) : uI (rI I p g) o k v = rI (uI I o k v) p g := by
  funext a b
  simp only [rI_at, uI_at]
  by_cases h1 : a = p
  · subst h1
    rw [if_pos rfl, if_neg (fun e => h e.1.symm), if_pos rfl]
  · rw [if_neg h1, if_neg h1]
theorem CL_r {I : xI} {n m : Nat} {fi se dg : Nat → Nat} {sb : Nat → Nat → Nat} {o : Nat} {f : Nat → Int32} (h : CL I n m fi se dg sb) (ho : o ≠ 102 ∧ o ≠ 103 ∧ o ≠ 104 ∧ o ≠ 107 ∧ o ≠ 108) : CL (rI I o f) n m fi se dg sb := by
  obtain ⟨h1, h2, h3, h4, h5⟩ := ho
  obtain ⟨c1, c2, c3, c4, c5, c6⟩ := h
  refine ⟨?_, ?_, fun i hi => ?_, fun i hi => ?_, fun i hi => ?_, fun i j hi hj => ?_⟩
  · rw [rI_at, if_neg (fun e => h1 e.symm)]; exact c1
  · rw [rI_at, if_neg (fun e => h1 e.symm)]; exact c2
  · rw [rI_at, if_neg (fun e => h2 e.symm)]; exact c3 i hi
  · rw [rI_at, if_neg (fun e => h3 e.symm)]; exact c4 i hi
  · rw [rI_at, if_neg (fun e => h4 e.symm)]; exact c5 i hi
  · rw [rI_at, if_neg (fun e => h5 e.symm)]; exact c6 i j hi hj
theorem CM_r {I : xI} {n m : Nat} {fi se dg : Nat → Nat} {sb : Nat → Nat → Nat} {o : Nat} {f : Nat → Int32} (h : CM I n m fi se dg sb) (ho : o ≠ 300 ∧ o ≠ 314 ∧ o ≠ 315 ∧ o ≠ 316 ∧ o ≠ 317) : CM (rI I o f) n m fi se dg sb := by
  obtain ⟨h1, h2, h3, h4, h5⟩ := ho
  obtain ⟨c1, c2, c3, c4, c5, c6⟩ := h
  refine ⟨?_, ?_, fun i hi => ?_, fun i hi => ?_, fun i hi => ?_, fun i j hi hj => ?_⟩
  · rw [rI_at, if_neg (fun e => h1 e.symm)]; exact c1
  · rw [rI_at, if_neg (fun e => h1 e.symm)]; exact c2
  · rw [rI_at, if_neg (fun e => h2 e.symm)]; exact c3 i hi
  · rw [rI_at, if_neg (fun e => h3 e.symm)]; exact c4 i hi
  · rw [rI_at, if_neg (fun e => h5 e.symm)]; exact c5 i hi
  · rw [rI_at, if_neg (fun e => h4 e.symm)]; exact c6 i j hi hj
/-- the strengths of all bonds of t that lead to o -/
def sp (st : Nat → Int32) (fi se dg : Nat → Nat) (sb : Nat → Nat → Nat) (t o : Nat) : Int32 := sm (fun i => if (if fi (sb t i) = t then se (sb t i) else fi (sb t i)) = o then st (sb t i) else 0) (dg t)
variable {S : xS} {I : xI} {J : xJ} {D : xDb} {R : xR} {b : Nat × Nat} {Q : xQ} {n m : Nat} {fi se dg : Nat → Nat} {sb : Nat → Nat → Nat}
theorem R92_5 (hL : LC S R) (hG : GR n m fi se dg sb) (hC : CL I n m fi se dg sb) {t o : Nat} (ht : t < n) (ho : o < n) : ∀ (j i : Nat), i + j = dg t → xRun xT 92 5 [(0, .ref 110), (1, .int (nI t)), (2, .int (nI o)), (3, .int (sm (fun i => if (if fi (sb t i) = t then se (sb t i) else fi (sb t i)) = o then I 111 (sb t i) else 0) i)), (4, .int (nI i))] [] (S, I, J, D, R) b Q = Q (.ok (some (.int (sp (I 111) fi se dg sb t o)))) (S, I, J, D, R) b
  | 0, i, hi => by
    obtain ⟨g0, g1, g2, g3, g4, g5, g6⟩ := hG
    obtain ⟨c1, c2, c3, c4, c5, c6⟩ := hC
    have h5 := g5 t ht
    have e : i = dg t := by omega
    subst e
    rw [e92_5]
    simp only [B92_5, xSeq, i_push, i_load, i_iload, i_lload, i_dload, i_aload, i_istore, i_astore, i_lstore, i_dstore, i_iinc, i_ii, i_iiz, i_ll, i_llz, i_lli, i_li, i_i, i_l, i_i2l, i_l2i, i_dup, i_dup2, i_dup2w, i_dupx1, i_pop, i_pop2, i_goto, i_ifc, i_icmp, i_getI, i_getL, i_getR, i_putI, i_putZ, i_putL, i_putR, i_aldI, i_aldB, i_aldL, i_aldD, i_astI, i_astL, i_astD, i_alen, i_ret, i_iret, i_zret, i_lret, i_fret, i_dret, i_aret, i_invS0, i_invV0, i_m2, i_m1, i_ml, i_obj, lk, lkp, stf1, stf2, Value.category, rV, xTo, lv_args, xCk, xCat, xRc, xAk, hg_S, hg_I, hg_J, hg_D, hg_R, hs_I, hs_J, hs_D, hs_R, uI_at, uJ_at, uD_at, uR_at, List.take_succ_cons, List.take_zero, List.drop_succ_cons, List.drop_zero, List.reverse_cons, List.reverse_nil, List.nil_append, List.cons_append, List.map_cons, List.map_nil, List.sum_cons, List.sum_nil, List.length_cons, List.length_nil, Option.toList_some, Option.toList_none, true_and, and_true, false_and, and_false, true_implies, false_implies, implies_true, not_true_eq_false, not_false_eq_true, ne_eq, if_true, if_false, Bool.and_true, Bool.true_and, decide_true, decide_false, reduceIte, reduceCtorEq, Bool.and_self, Bool.and_eq_true, decide_eq_true_eq, and_self, true_or, or_true, false_or, or_false, Nat.zero_add, Nat.add_zero, eq_self, Nat.reduceEqDiff, Nat.reduceLeDiff, Nat.reduceLT, Nat.reduceAdd, Nat.reduceSub, Nat.reduceMul, LC_out hL, nI_inP (show t < 64 by omega) (by decide), nI_ix (show t < 2147483648 by omega), c5 t ht, nI_leP (show dg t < 2147483648 by omega) (show dg t < 2147483648 by omega), Nat.le_refl, e92_61, B92_61, sp]
  | j + 1, i, hi => by
    have hG' := hG
    have hC' := hC
    obtain ⟨g0, g1, g2, g3, g4, g5, g6⟩ := hG'
    obtain ⟨c1, c2, c3, c4, c5, c6⟩ := hC'
    have h5 := g5 t ht
    have hk := g6 t i ht (show i < dg t by omega)
    have h3 := g3 _ hk
    have h4 := g4 _ hk
    have ih := R92_5 hL hG hC ht ho j (i + 1) (by omega)
    rw [sm] at ih
    rw [e92_5]
    simp only [B92_5, xSeq, i_push, i_load, i_iload, i_lload, i_dload, i_aload, i_istore, i_astore, i_lstore, i_dstore, i_iinc, i_ii, i_iiz, i_ll, i_llz, i_lli, i_li, i_i, i_l, i_i2l, i_l2i, i_dup, i_dup2, i_dup2w, i_dupx1, i_pop, i_pop2, i_goto, i_ifc, i_icmp, i_getI, i_getL, i_getR, i_putI, i_putZ, i_putL, i_putR, i_aldI, i_aldB, i_aldL, i_aldD, i_astI, i_astL, i_astD, i_alen, i_ret, i_iret, i_zret, i_lret, i_fret, i_dret, i_aret, i_invS0, i_invV0, i_m2, i_m1, i_ml, i_obj, lk, lkp, stf1, stf2, Value.category, rV, xTo, lv_args, xCk, xCat, xRc, xAk, hg_S, hg_I, hg_J, hg_D, hg_R, hs_I, hs_J, hs_D, hs_R, uI_at, uJ_at, uD_at, uR_at, List.take_succ_cons, List.take_zero, List.drop_succ_cons, List.drop_zero, List.reverse_cons, List.reverse_nil, List.nil_append, List.cons_append, List.map_cons, List.map_nil, List.sum_cons, List.sum_nil, List.length_cons, List.length_nil, Option.toList_some, Option.toList_none, true_and, and_true, false_and, and_false, true_implies, false_implies, implies_true, not_true_eq_false, not_false_eq_true, ne_eq, if_true, if_false, Bool.and_true, Bool.true_and, decide_true, decide_false, reduceIte, reduceCtorEq, Bool.and_self, Bool.and_eq_true, decide_eq_true_eq, and_self, true_or, or_true, false_or, or_false, Nat.zero_add, Nat.add_zero, eq_self, Nat.reduceEqDiff, Nat.reduceLeDiff, Nat.reduceLT, Nat.reduceAdd, Nat.reduceSub, Nat.reduceMul, LC_out hL, nI_inP (show t < 64 by omega) (by decide), nI_ix (show t < 2147483648 by omega), c5 t ht, nI_leP (show dg t < 2147483648 by omega) (show i < 2147483648 by omega), show (dg t ≤ i) = False from eq_false (by omega), R52 hL hG hC ht (show i < dg t by omega), R54 hL hG hC ht hk, nI_iff (show (if fi (sb t i) = t then se (sb t i) else fi (sb t i)) < 2147483648 by split <;> omega) (show o < 2147483648 by omega), nI_inP (show sb t i < 128 by omega) (by decide), nI_ix (show sb t i < 2147483648 by omega), e92_55, B92_55, nI_1]
    by_cases h : (if fi (sb t i) = t then se (sb t i) else fi (sb t i)) = o
    · rw [if_pos h] at ih
      simp only [h, true_and, and_true, false_and, and_false, true_implies, false_implies, implies_true, not_true_eq_false, not_false_eq_true, ne_eq, if_true, if_false, Bool.and_true, Bool.true_and, decide_true, decide_false, reduceIte, reduceCtorEq, Bool.and_self, Bool.and_eq_true, decide_eq_true_eq, and_self, true_or, or_true, false_or, or_false, Nat.zero_add, Nat.add_zero, eq_self, Nat.reduceEqDiff, Nat.reduceLeDiff, Nat.reduceLT, Nat.reduceAdd, Nat.reduceSub, Nat.reduceMul]
      exact ih
    · rw [if_neg h, Int32.add_zero] at ih
      simp only [h, true_and, and_true, false_and, and_false, true_implies, false_implies, implies_true, not_true_eq_false, not_false_eq_true, ne_eq, if_true, if_false, Bool.and_true, Bool.true_and, decide_true, decide_false, reduceIte, reduceCtorEq, Bool.and_self, Bool.and_eq_true, decide_eq_true_eq, and_self, true_or, or_true, false_or, or_false, Nat.zero_add, Nat.add_zero, eq_self, Nat.reduceEqDiff, Nat.reduceLeDiff, Nat.reduceLT, Nat.reduceAdd, Nat.reduceSub, Nat.reduceMul]
      exact ih
theorem R92 (hL : LC S R) (hG : GR n m fi se dg sb) (hC : CL I n m fi se dg sb) {t o : Nat} (ht : t < n) (ho : o < n) : xRun xT 92 0 [(0, .ref 110), (1, .int (nI t)), (2, .int (nI o))] [] (S, I, J, D, R) b Q = Q (.ok (some (.int (sp (I 111) fi se dg sb t o)))) (S, I, J, D, R) b := by
  rw [e92_0]
  simp only [B92_0, xSeq, i_push, i_load, i_iload, i_lload, i_dload, i_aload, i_istore, i_astore, i_lstore, i_dstore, i_iinc, i_ii, i_iiz, i_ll, i_llz, i_lli, i_li, i_i, i_l, i_i2l, i_l2i, i_dup, i_dup2, i_dup2w, i_dupx1, i_pop, i_pop2, i_goto, i_ifc, i_icmp, i_getI, i_getL, i_getR, i_putI, i_putZ, i_putL, i_putR, i_aldI, i_aldB, i_aldL, i_aldD, i_astI, i_astL, i_astD, i_alen, i_ret, i_iret, i_zret, i_lret, i_fret, i_dret, i_aret, i_invS0, i_invV0, i_m2, i_m1, i_ml, i_obj, lk, lkp, stf1, stf2, Value.category, rV, xTo, lv_args, xCk, xCat, xRc, xAk, hg_S, hg_I, hg_J, hg_D, hg_R, hs_I, hs_J, hs_D, hs_R, uI_at, uJ_at, uD_at, uR_at, List.take_succ_cons, List.take_zero, List.drop_succ_cons, List.drop_zero, List.reverse_cons, List.reverse_nil, List.nil_append, List.cons_append, List.map_cons, List.map_nil, List.sum_cons, List.sum_nil, List.length_cons, List.length_nil, Option.toList_some, Option.toList_none, true_and, and_true, false_and, and_false, true_implies, false_implies, implies_true, not_true_eq_false, not_false_eq_true, ne_eq, if_true, if_false, Bool.and_true, Bool.true_and, decide_true, decide_false, reduceIte, reduceCtorEq, Bool.and_self, Bool.and_eq_true, decide_eq_true_eq, and_self, true_or, or_true, false_or, or_false, Nat.zero_add, Nat.add_zero, eq_self, Nat.reduceEqDiff, Nat.reduceLeDiff, Nat.reduceLT, Nat.reduceAdd, Nat.reduceSub, Nat.reduceMul]
  exact R92_5 hL hG hC ht ho (dg t) 0 (by omega)
end
