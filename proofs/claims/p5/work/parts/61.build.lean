/-! ===== the lab's lattice is built ===== -/
section
/-- the lattice holds the bonds l of n sites -/
def HB (I : xI) (n : Nat) (l : List (Nat × Nat)) : Prop := I 102 3 = nI l.length ∧ (∀ k, k < l.length → I 103 k = nI (fE l k)) ∧ (∀ k, k < l.length → I 104 k = nI (sE l k)) ∧ (∀ t, t < n → I 107 t = nI (dE l t)) ∧ ∀ t i, t < n → i < dE l t → I 108 (t * 4 + i) = nI (bE l t i)
/-- what building may change -/
abbrev bO (o k : Nat) : Prop := (o = 102 ∧ k = 3) ∨ o = 103 ∨ o = 104 ∨ o = 105 ∨ o = 106 ∨ o = 107 ∨ o = 108
def aB (I : xI) (f s k df ds : Nat) : xI := uI (uI (uI (uI (uI (uI (uI I 103 k (nI f)) 104 k (nI s)) 102 3 (nI (k + 1))) 108 (f * 4 + df) (nI k)) 107 f (nI (df + 1))) 108 (s * 4 + ds) (nI k)) 107 s (nI (ds + 1))
theorem aB_fr {I : xI} {f s k df ds o j : Nat} (h : ¬ bO o j) : aB I f s k df ds o j = I o j := by
  unfold bO at h
  unfold aB
  simp only [uI_at]
  rw [if_neg (by omega), if_neg (by omega), if_neg (by omega), if_neg (by omega), if_neg (by omega), if_neg (by omega), if_neg (by omega)]
theorem dE_app (l : List (Nat × Nat)) (f s t : Nat) : dE (l ++ [(f, s)]) t = if f = t ∨ s = t then dE l t + 1 else dE l t := by
  unfold dE
  rw [ic_app]
  split
  · rw [List.length_append, List.length_singleton]
  · rfl
theorem bE_app1 (l : List (Nat × Nat)) (f s t : Nat) {i : Nat} (h : i < dE l t) : bE (l ++ [(f, s)]) t i = bE l t i := by
  unfold bE
  rw [ic_app]
  split
  · exact getD_app1 _ _ _ h
  · rfl
theorem bE_app2 (l : List (Nat × Nat)) (f s t : Nat) (h : f = t ∨ s = t) : bE (l ++ [(f, s)]) t (dE l t) = l.length := by
  unfold bE
  rw [ic_app, if_pos h]
  exact getD_app2 _ _ _
theorem HB_add {I : xI} {n : Nat} {l : List (Nat × Nat)} {f s : Nat} (h : HB I n l) (hne : f ≠ s) (hf : f < n) (hs : s < n) (h4 : ∀ t, t < n → dE (l ++ [(f, s)]) t ≤ 4) : HB (aB I f s l.length (dE l f) (dE l s)) n (l ++ [(f, s)]) := by
  obtain ⟨h1, h2, h3, h5, h6⟩ := h
  have hdf := dE_app l f s f
  have hds := dE_app l f s s
  rw [if_pos (Or.inl rfl)] at hdf
  rw [if_pos (Or.inr rfl)] at hds
  have hf4 := h4 f hf
  have hs4 := h4 s hs
  unfold aB
  refine ⟨?_, fun k hk => ?_, fun k hk => ?_, fun t ht => ?_, fun t i ht hi => ?_⟩
  · simp only [uI_at, true_and, and_true, false_and, and_false, true_implies, false_implies, implies_true, not_true_eq_false, not_false_eq_true, ne_eq, if_true, if_false, Bool.and_true, Bool.true_and, decide_true, decide_false, reduceIte, reduceCtorEq, Bool.and_self, Bool.and_eq_true, decide_eq_true_eq, and_self, true_or, or_true, false_or, or_false, Nat.zero_add, Nat.add_zero, eq_self, Nat.reduceEqDiff, Nat.reduceLeDiff, Nat.reduceLT, Nat.reduceAdd, Nat.reduceSub, Nat.reduceMul, List.length_append, List.length_singleton]
  · rw [List.length_append, List.length_singleton] at hk
    simp only [uI_at, true_and, and_true, false_and, and_false, true_implies, false_implies, implies_true, not_true_eq_false, not_false_eq_true, ne_eq, if_true, if_false, Bool.and_true, Bool.true_and, decide_true, decide_false, reduceIte, reduceCtorEq, Bool.and_self, Bool.and_eq_true, decide_eq_true_eq, and_self, true_or, or_true, false_or, or_false, Nat.zero_add, Nat.add_zero, eq_self, Nat.reduceEqDiff, Nat.reduceLeDiff, Nat.reduceLT, Nat.reduceAdd, Nat.reduceSub, Nat.reduceMul]
    unfold fE
    by_cases e : k = l.length
    · rw [if_pos e, e, getD_app2]
    · rw [if_neg e, getD_app1 _ _ _ (by omega)]
      exact h2 k (by omega)
  · rw [List.length_append, List.length_singleton] at hk
    simp only [uI_at, true_and, and_true, false_and, and_false, true_implies, false_implies, implies_true, not_true_eq_false, not_false_eq_true, ne_eq, if_true, if_false, Bool.and_true, Bool.true_and, decide_true, decide_false, reduceIte, reduceCtorEq, Bool.and_self, Bool.and_eq_true, decide_eq_true_eq, and_self, true_or, or_true, false_or, or_false, Nat.zero_add, Nat.add_zero, eq_self, Nat.reduceEqDiff, Nat.reduceLeDiff, Nat.reduceLT, Nat.reduceAdd, Nat.reduceSub, Nat.reduceMul]
    unfold sE
    by_cases e : k = l.length
    · rw [if_pos e, e, getD_app2]
    · rw [if_neg e, getD_app1 _ _ _ (by omega)]
      exact h3 k (by omega)
  · simp only [uI_at, true_and, and_true, false_and, and_false, true_implies, false_implies, implies_true, not_true_eq_false, not_false_eq_true, ne_eq, if_true, if_false, Bool.and_true, Bool.true_and, decide_true, decide_false, reduceIte, reduceCtorEq, Bool.and_self, Bool.and_eq_true, decide_eq_true_eq, and_self, true_or, or_true, false_or, or_false, Nat.zero_add, Nat.add_zero, eq_self, Nat.reduceEqDiff, Nat.reduceLeDiff, Nat.reduceLT, Nat.reduceAdd, Nat.reduceSub, Nat.reduceMul]
    rw [dE_app]
    by_cases e : t = s
    · rw [if_pos e, if_pos (Or.inr e.symm), e]
    · rw [if_neg e]
      by_cases e2 : t = f
      · rw [if_pos e2, if_pos (Or.inl e2.symm), e2]
      · rw [if_neg e2, if_neg (fun h => h.elim (fun h => e2 h.symm) (fun h => e h.symm))]
        exact h5 t ht
  · have ht4 := h4 t ht
    have hd := dE_app l f s t
    simp only [uI_at, true_and, and_true, false_and, and_false, true_implies, false_implies, implies_true, not_true_eq_false, not_false_eq_true, ne_eq, if_true, if_false, Bool.and_true, Bool.true_and, decide_true, decide_false, reduceIte, reduceCtorEq, Bool.and_self, Bool.and_eq_true, decide_eq_true_eq, and_self, true_or, or_true, false_or, or_false, Nat.zero_add, Nat.add_zero, eq_self, Nat.reduceEqDiff, Nat.reduceLeDiff, Nat.reduceLT, Nat.reduceAdd, Nat.reduceSub, Nat.reduceMul]
    by_cases e : t = s
    · subst e
      rw [if_pos (Or.inr rfl)] at hd
      by_cases e2 : i = dE l t
      · subst e2
        rw [if_pos rfl, bE_app2 _ _ _ _ (Or.inr rfl)]
      · rw [if_neg (by omega), if_neg (by omega), bE_app1 _ _ _ _ (by omega)]
        exact h6 t i ht (by omega)
    · by_cases e3 : t = f
      · subst e3
        rw [if_pos (Or.inl rfl)] at hd
        by_cases e2 : i = dE l t
        · subst e2
          rw [if_neg (by omega), if_pos rfl, bE_app2 _ _ _ _ (Or.inl rfl)]
        · rw [if_neg (by omega), if_neg (by omega), bE_app1 _ _ _ _ (by omega)]
          exact h6 t i ht (by omega)
      · rw [if_neg (by omega)] at hd
        rw [if_neg (by omega), if_neg (by omega), bE_app1 _ _ _ _ (by omega)]
        exact h6 t i ht (by omega)
variable {S : xS} {I : xI} {J : xJ} {D : xDb} {R : xR} {b : Nat × Nat} {Q : xQ} {n : Nat}
theorem R50 (hL : LC S R) (h2 : I 102 2 = nI n) (hn : n ≤ 64) {s d : Nat} (hs : s < n) (hd : I 107 s = nI d) (h4 : d < 4) {v : Int32} : xRun xT 50 0 [(0, .ref 102), (1, .int (nI s)), (2, .int v)] [] (S, I, J, D, R) b Q = Q (.ok none) (S, uI (uI I 108 (s * 4 + d) v) 107 s (nI (d + 1)), J, D, R) b := by
  have e4 : (4 : Int32) = nI 4 := rfl
  rw [e50_0]
  simp only [B50_0, xSeq, i_push, i_load, i_iload, i_lload, i_dload, i_aload, i_istore, i_astore, i_lstore, i_dstore, i_iinc, i_ii, i_iiz, i_ll, i_llz, i_lli, i_li, i_i, i_l, i_i2l, i_l2i, i_dup, i_dup2, i_dup2w, i_dupx1, i_pop, i_pop2, i_goto, i_ifc, i_icmp, i_getI, i_getL, i_getR, i_putI, i_putZ, i_putL, i_putR, i_aldI, i_aldB, i_aldL, i_aldD, i_astI, i_astL, i_astD, i_alen, i_ret, i_iret, i_zret, i_lret, i_fret, i_dret, i_aret, i_invS0, i_invV0, i_m2, i_m1, i_ml, i_obj, lk, lkp, stf1, stf2, Value.category, rV, xTo, lv_args, xCk, xCat, xRc, xAk, hg_S, hg_I, hg_J, hg_D, hg_R, hs_I, hs_J, hs_D, hs_R, uI_at, uJ_at, uD_at, uR_at, List.take_succ_cons, List.take_zero, List.drop_succ_cons, List.drop_zero, List.reverse_cons, List.reverse_nil, List.nil_append, List.cons_append, List.map_cons, List.map_nil, List.sum_cons, List.sum_nil, List.length_cons, List.length_nil, Option.toList_some, Option.toList_none, true_and, and_true, false_and, and_false, true_implies, false_implies, implies_true, not_true_eq_false, not_false_eq_true, ne_eq, if_true, if_false, Bool.and_true, Bool.true_and, decide_true, decide_false, reduceIte, reduceCtorEq, Bool.and_self, Bool.and_eq_true, decide_eq_true_eq, and_self, true_or, or_true, false_or, or_false, Nat.zero_add, Nat.add_zero, eq_self, Nat.reduceEqDiff, Nat.reduceLeDiff, Nat.reduceLT, Nat.reduceAdd, Nat.reduceSub, Nat.reduceMul, LC_out hL, nI_0P (show s < 2147483648 by omega), h2, nI_leP (show n < 2147483648 by omega) (show s < 2147483648 by omega), show (n ≤ s) = False from eq_false (by omega), nI_inP (show s < 64 by omega) (by decide), nI_ix (show s < 2147483648 by omega), hd, show ((4 : Int32) ≤ nI d) = False from eq_false (by rw [e4]; exact nI_ge h4 (by decide)), nI_m4, nI_add, nI_inP (show s * 4 + d < 256 by omega) (by decide), nI_ix (show s * 4 + d < 2147483648 by omega), e50_48, B50_48, nI_1]
theorem R49 (hL : LC S R) (h2 : I 102 2 = nI n) (hn : n ≤ 64) {f s k df ds : Nat} (hf : f < n) (hs : s < n) (hne : f ≠ s) (h3 : I 102 3 = nI k) (hk : k < 128) (h7 : I 107 f = nI df) (h8 : I 107 s = nI ds) (h4 : df < 4) (h5 : ds < 4) :
    xRun xT 49 0 [(0, .ref 102), (1, .int (nI f)), (2, .int (nI s))] [] (S, I, J, D, R) b Q = Q (.ok (some (.int (nI k)))) (S, aB I f s k df ds, J, D, R) b := by
  have e128 : (nI k < 128) = True := eq_true (by rw [show (128 : Int32) = nI 128 from rfl]; exact nI_lt hk (by decide))
  rw [e49_0]
  simp only [B49_0, xSeq, i_push, i_load, i_iload, i_lload, i_dload, i_aload, i_istore, i_astore, i_lstore, i_dstore, i_iinc, i_ii, i_iiz, i_ll, i_llz, i_lli, i_li, i_i, i_l, i_i2l, i_l2i, i_dup, i_dup2, i_dup2w, i_dupx1, i_pop, i_pop2, i_goto, i_ifc, i_icmp, i_getI, i_getL, i_getR, i_putI, i_putZ, i_putL, i_putR, i_aldI, i_aldB, i_aldL, i_aldD, i_astI, i_astL, i_astD, i_alen, i_ret, i_iret, i_zret, i_lret, i_fret, i_dret, i_aret, i_invS0, i_invV0, i_m2, i_m1, i_ml, i_obj, lk, lkp, stf1, stf2, Value.category, rV, xTo, lv_args, xCk, xCat, xRc, xAk, hg_S, hg_I, hg_J, hg_D, hg_R, hs_I, hs_J, hs_D, hs_R, uI_at, uJ_at, uD_at, uR_at, List.take_succ_cons, List.take_zero, List.drop_succ_cons, List.drop_zero, List.reverse_cons, List.reverse_nil, List.nil_append, List.cons_append, List.map_cons, List.map_nil, List.sum_cons, List.sum_nil, List.length_cons, List.length_nil, Option.toList_some, Option.toList_none, true_and, and_true, false_and, and_false, true_implies, false_implies, implies_true, not_true_eq_false, not_false_eq_true, ne_eq, if_true, if_false, Bool.and_true, Bool.true_and, decide_true, decide_false, reduceIte, reduceCtorEq, Bool.and_self, Bool.and_eq_true, decide_eq_true_eq, and_self, true_or, or_true, false_or, or_false, Nat.zero_add, Nat.add_zero, eq_self, Nat.reduceEqDiff, Nat.reduceLeDiff, Nat.reduceLT, Nat.reduceAdd, Nat.reduceSub, Nat.reduceMul, LC_out hL, h3, e128, e49_12, B49_12, nI_inP hk (by decide), nI_ix (show k < 2147483648 by omega), nI_1]
  rw [R50 (n := n) (d := df) hL (by simp [uI_at, h2]) hn hf (by simp [uI_at, h7]) h4]
  simp only [xSeq, i_push, i_load, i_iload, i_lload, i_dload, i_aload, i_istore, i_astore, i_lstore, i_dstore, i_iinc, i_ii, i_iiz, i_ll, i_llz, i_lli, i_li, i_i, i_l, i_i2l, i_l2i, i_dup, i_dup2, i_dup2w, i_dupx1, i_pop, i_pop2, i_goto, i_ifc, i_icmp, i_getI, i_getL, i_getR, i_putI, i_putZ, i_putL, i_putR, i_aldI, i_aldB, i_aldL, i_aldD, i_astI, i_astL, i_astD, i_alen, i_ret, i_iret, i_zret, i_lret, i_fret, i_dret, i_aret, i_invS0, i_invV0, i_m2, i_m1, i_ml, i_obj, lk, lkp, stf1, stf2, Value.category, rV, xTo, lv_args, xCk, xCat, xRc, xAk, hg_S, hg_I, hg_J, hg_D, hg_R, hs_I, hs_J, hs_D, hs_R, uI_at, uJ_at, uD_at, uR_at, List.take_succ_cons, List.take_zero, List.drop_succ_cons, List.drop_zero, List.reverse_cons, List.reverse_nil, List.nil_append, List.cons_append, List.map_cons, List.map_nil, List.sum_cons, List.sum_nil, List.length_cons, List.length_nil, Option.toList_some, Option.toList_none, true_and, and_true, false_and, and_false, true_implies, false_implies, implies_true, not_true_eq_false, not_false_eq_true, ne_eq, if_true, if_false, Bool.and_true, Bool.true_and, decide_true, decide_false, reduceIte, reduceCtorEq, Bool.and_self, Bool.and_eq_true, decide_eq_true_eq, and_self, true_or, or_true, false_or, or_false, Nat.zero_add, Nat.add_zero, eq_self, Nat.reduceEqDiff, Nat.reduceLeDiff, Nat.reduceLT, Nat.reduceAdd, Nat.reduceSub, Nat.reduceMul, LC_out hL]
  rw [R50 (n := n) (d := ds) hL (by simp [uI_at, h2]) hn hs (by simp [uI_at, h8, Ne.symm hne]) h5]
  simp only [xSeq, i_push, i_load, i_iload, i_lload, i_dload, i_aload, i_istore, i_astore, i_lstore, i_dstore, i_iinc, i_ii, i_iiz, i_ll, i_llz, i_lli, i_li, i_i, i_l, i_i2l, i_l2i, i_dup, i_dup2, i_dup2w, i_dupx1, i_pop, i_pop2, i_goto, i_ifc, i_icmp, i_getI, i_getL, i_getR, i_putI, i_putZ, i_putL, i_putR, i_aldI, i_aldB, i_aldL, i_aldD, i_astI, i_astL, i_astD, i_alen, i_ret, i_iret, i_zret, i_lret, i_fret, i_dret, i_aret, i_invS0, i_invV0, i_m2, i_m1, i_ml, i_obj, lk, lkp, stf1, stf2, Value.category, rV, xTo, lv_args, xCk, xCat, xRc, xAk, hg_S, hg_I, hg_J, hg_D, hg_R, hs_I, hs_J, hs_D, hs_R, uI_at, uJ_at, uD_at, uR_at, List.take_succ_cons, List.take_zero, List.drop_succ_cons, List.drop_zero, List.reverse_cons, List.reverse_nil, List.nil_append, List.cons_append, List.map_cons, List.map_nil, List.sum_cons, List.sum_nil, List.length_cons, List.length_nil, Option.toList_some, Option.toList_none, true_and, and_true, false_and, and_false, true_implies, false_implies, implies_true, not_true_eq_false, not_false_eq_true, ne_eq, if_true, if_false, Bool.and_true, Bool.true_and, decide_true, decide_false, reduceIte, reduceCtorEq, Bool.and_self, Bool.and_eq_true, decide_eq_true_eq, and_self, true_or, or_true, false_or, or_false, Nat.zero_add, Nat.add_zero, eq_self, Nat.reduceEqDiff, Nat.reduceLeDiff, Nat.reduceLT, Nat.reduceAdd, Nat.reduceSub, Nat.reduceMul, LC_out hL]
  rfl
end
section
variable {S : xS} {I : xI} {J : xJ} {D : xDb} {R : xR} {b : Nat × Nat} {Q : xQ} {n : Nat}
theorem nI_leC {a : Nat} {c : Int32} {d : Nat} (hc : c = nI d) (ha : a < 2147483648) (hd : d < 2147483648) : (nI a ≤ c) = (a ≤ d) := by rw [hc, nI_leP ha hd]
theorem R43 {su c e x : Nat} (hS : S su = (5, 0)) (hc : I su 1 = nI c) (he : I su 2 = nI e) (hx : x < 64) (hc2 : c < 64) (he2 : e < 3) : xRun xT 43 0 [(0, .ref su), (1, .int (nI x))] [] (S, I, J, D, R) b Q = Q (.ok (some (.int (if bR c e x = true then 1 else 0)))) (S, I, J, D, R) b := by
  have e1 : (nI e = 1) = (e = 1) := by rw [show (1 : Int32) = nI 1 from rfl, nI_iff (by omega) (by omega)]
  rw [e43_0]
  simp only [B43_0, xSeq, i_push, i_load, i_iload, i_lload, i_dload, i_aload, i_istore, i_astore, i_lstore, i_dstore, i_iinc, i_ii, i_iiz, i_ll, i_llz, i_lli, i_li, i_i, i_l, i_i2l, i_l2i, i_dup, i_dup2, i_dup2w, i_dupx1, i_pop, i_pop2, i_goto, i_ifc, i_icmp, i_getI, i_getL, i_getR, i_putI, i_putZ, i_putL, i_putR, i_aldI, i_aldB, i_aldL, i_aldD, i_astI, i_astL, i_astD, i_alen, i_ret, i_iret, i_zret, i_lret, i_fret, i_dret, i_aret, i_invS0, i_invV0, i_m2, i_m1, i_ml, i_obj, lk, lkp, stf1, stf2, Value.category, rV, xTo, lv_args, xCk, xCat, xRc, xAk, hg_S, hg_I, hg_J, hg_D, hg_R, hs_I, hs_J, hs_D, hs_R, uI_at, uJ_at, uD_at, uR_at, List.take_succ_cons, List.take_zero, List.drop_succ_cons, List.drop_zero, List.reverse_cons, List.reverse_nil, List.nil_append, List.cons_append, List.map_cons, List.map_nil, List.sum_cons, List.sum_nil, List.length_cons, List.length_nil, Option.toList_some, Option.toList_none, true_and, and_true, false_and, and_false, true_implies, false_implies, implies_true, not_true_eq_false, not_false_eq_true, ne_eq, if_true, if_false, Bool.and_true, Bool.true_and, decide_true, decide_false, reduceIte, reduceCtorEq, Bool.and_self, Bool.and_eq_true, decide_eq_true_eq, and_self, true_or, or_true, false_or, or_false, Nat.zero_add, Nat.add_zero, eq_self, Nat.reduceEqDiff, Nat.reduceLeDiff, Nat.reduceLT, Nat.reduceAdd, Nat.reduceSub, Nat.reduceMul, hS, hc, he, nI_1, nI_ltP (show x + 1 < 2147483648 by omega) (show c < 2147483648 by omega), e1, e43_18, B43_18, e43_22, B43_22, e43_23, B43_23, bR]
  by_cases h1 : x + 1 < c
  · simp [h1]
  · by_cases h2 : e = 1 <;> simp [h1, h2]
theorem R44 {su r e y : Nat} (hS : S su = (5, 0)) (hc : I su 0 = nI r) (he : I su 2 = nI e) (hx : y < 64) (hc2 : r < 64) (he2 : e < 3) : xRun xT 44 0 [(0, .ref su), (1, .int (nI y))] [] (S, I, J, D, R) b Q = Q (.ok (some (.int (if bD r e y = true then 1 else 0)))) (S, I, J, D, R) b := by
  have e1 : (nI e = 0) = (e = 0) := by rw [show (0 : Int32) = nI 0 from rfl, nI_iff (by omega) (by omega)]
  rw [e44_0]
  simp only [B44_0, xSeq, i_push, i_load, i_iload, i_lload, i_dload, i_aload, i_istore, i_astore, i_lstore, i_dstore, i_iinc, i_ii, i_iiz, i_ll, i_llz, i_lli, i_li, i_i, i_l, i_i2l, i_l2i, i_dup, i_dup2, i_dup2w, i_dupx1, i_pop, i_pop2, i_goto, i_ifc, i_icmp, i_getI, i_getL, i_getR, i_putI, i_putZ, i_putL, i_putR, i_aldI, i_aldB, i_aldL, i_aldD, i_astI, i_astL, i_astD, i_alen, i_ret, i_iret, i_zret, i_lret, i_fret, i_dret, i_aret, i_invS0, i_invV0, i_m2, i_m1, i_ml, i_obj, lk, lkp, stf1, stf2, Value.category, rV, xTo, lv_args, xCk, xCat, xRc, xAk, hg_S, hg_I, hg_J, hg_D, hg_R, hs_I, hs_J, hs_D, hs_R, uI_at, uJ_at, uD_at, uR_at, List.take_succ_cons, List.take_zero, List.drop_succ_cons, List.drop_zero, List.reverse_cons, List.reverse_nil, List.nil_append, List.cons_append, List.map_cons, List.map_nil, List.sum_cons, List.sum_nil, List.length_cons, List.length_nil, Option.toList_some, Option.toList_none, true_and, and_true, false_and, and_false, true_implies, false_implies, implies_true, not_true_eq_false, not_false_eq_true, ne_eq, if_true, if_false, Bool.and_true, Bool.true_and, decide_true, decide_false, reduceIte, reduceCtorEq, Bool.and_self, Bool.and_eq_true, decide_eq_true_eq, and_self, true_or, or_true, false_or, or_false, Nat.zero_add, Nat.add_zero, eq_self, Nat.reduceEqDiff, Nat.reduceLeDiff, Nat.reduceLT, Nat.reduceAdd, Nat.reduceSub, Nat.reduceMul, hS, hc, he, nI_1, nI_ltP (show y + 1 < 2147483648 by omega) (show r < 2147483648 by omega), e1, e44_17, B44_17, e44_21, B44_21, e44_22, B44_22, bD]
  by_cases h1 : y + 1 < r
  · simp [h1]
  · by_cases h2 : e = 0 <;> simp [h1, h2]
/-- what setup texts ask for: rows, columns, edge -/
def KS (S : xS) (I : xI) (su r c e : Nat) : Prop := S su = (5, 0) ∧ I su 0 = nI r ∧ I su 1 = nI c ∧ I su 2 = nI e ∧ 2 ≤ r ∧ r ≤ 8 ∧ 2 ≤ c ∧ c ≤ 8 ∧ e < 3 ∧ ∀ k, ¬ bO su k
theorem KS_fr {S : xS} {I I' : xI} {su r c e : Nat} (h : KS S I su r c e) (hf : ∀ o k, ¬ bO o k → I' o k = I o k) : KS S I' su r c e := by
  obtain ⟨h1, h2, h3, h4, h5, h6, h7, h8, h9, h10⟩ := h
  exact ⟨h1, by rw [hf _ _ (h10 _)]; exact h2, by rw [hf _ _ (h10 _)]; exact h3, by rw [hf _ _ (h10 _)]; exact h4, h5, h6, h7, h8, h9, h10⟩
/-- which bond leads right, which down -/
def PB (I : xI) (r c e s : Nat) : Prop := ∀ t, t < s → I 105 t = (if bR c e (t % c) = true then nI (bl r c e t).length else -1) ∧ I 106 t = (if bD r e (t / c) = true then nI (bl r c e t ++ oR c e t).length else -1)
theorem bl_len {r c e : Nat} : ∀ {s n : Nat}, s ≤ n → (bl r c e s).length ≤ (bl r c e n).length := by
  intro s n h
  induction n with
  | zero => rw [Nat.le_zero.mp h]; exact Nat.le_refl _
  | succ n ih =>
    by_cases e2 : s = n + 1
    · rw [e2]; exact Nat.le_refl _
    · have := ih (by omega)
      rw [bl, List.length_append, List.length_append]
      omega
theorem bl_pre {r c e : Nat} : ∀ {s n : Nat}, s ≤ n → ∃ l, bl r c e n = bl r c e s ++ l := by
  intro s n h
  induction n with
  | zero => rw [Nat.le_zero.mp h]; exact ⟨[], by rw [List.append_nil]⟩
  | succ n ih =>
    by_cases e2 : s = n + 1
    · rw [e2]; exact ⟨[], by rw [List.append_nil]⟩
    · obtain ⟨l, hl⟩ := ih (by omega)
      exact ⟨l ++ oR c e n ++ oD r c e n, by rw [bl, hl, List.append_assoc, List.append_assoc, List.append_assoc]⟩
theorem dE_mono (l : List (Nat × Nat)) (t : Nat) : ∀ l' : List (Nat × Nat), dE l t ≤ dE (l ++ l') t := by
  intro l'
  induction l' generalizing l with
  | nil => rw [List.append_nil]; exact Nat.le_refl _
  | cons q r ih =>
    have h1 := ih (l ++ [q])
    have h2 := dE_app l q.1 q.2 t
    rw [List.append_assoc, List.singleton_append] at h1
    have h3 : dE l t ≤ dE (l ++ [q]) t := by
      rw [show q = (q.1, q.2) from rfl, h2]
      split <;> omega
    omega
end
