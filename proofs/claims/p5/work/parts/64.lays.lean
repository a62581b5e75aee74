/-! ===== the model lays its bonds ===== -/
section
/-- the lattice holds the bonds l of n sites -/
def HM (I : xI) (n : Nat) (l : List (Nat × Nat)) : Prop := I 300 8 = nI l.length ∧ (∀ k, k < l.length → I 314 k = nI (fE l k)) ∧ (∀ k, k < l.length → I 315 k = nI (sE l k)) ∧ (∀ t, t < n → I 317 t = nI (dE l t)) ∧ ∀ t i, t < n → i < dE l t → I 316 (t * 4 + i) = nI (bE l t i)
/-- what building may change -/
abbrev bM (o k : Nat) : Prop := (o = 300 ∧ k = 8) ∨ o = 314 ∨ o = 315 ∨ o = 316 ∨ o = 317
def aM (I : xI) (f s k df ds : Nat) : xI := uI (uI (uI (uI (uI (uI (uI I 314 k (nI f)) 315 k (nI s)) 316 (f * 4 + df) (nI k)) 317 f (nI (df + 1))) 316 (s * 4 + ds) (nI k)) 317 s (nI (ds + 1))) 300 8 (nI (k + 1))
theorem aM_fr {I : xI} {f s k df ds o j : Nat} (h : ¬ bM o j) : aM I f s k df ds o j = I o j := by
  unfold bM at h
  unfold aM
  simp only [uI_at]
  rw [if_neg (by omega), if_neg (by omega), if_neg (by omega), if_neg (by omega), if_neg (by omega), if_neg (by omega), if_neg (by omega)]
theorem HM_add {I : xI} {n : Nat} {l : List (Nat × Nat)} {f s : Nat} (h : HM I n l) (hne : f ≠ s) (hf : f < n) (hs : s < n) (h4 : ∀ t, t < n → dE (l ++ [(f, s)]) t ≤ 4) : HM (aM I f s l.length (dE l f) (dE l s)) n (l ++ [(f, s)]) := by
  obtain ⟨h1, h2, h3, h5, h6⟩ := h
  have hdf := dE_app l f s f
  have hds := dE_app l f s s
  rw [if_pos (Or.inl rfl)] at hdf
  rw [if_pos (Or.inr rfl)] at hds
  have hf4 := h4 f hf
  have hs4 := h4 s hs
  unfold aM
  refine ⟨?_, fun k hk => ?_, fun k hk => ?_, fun t ht => ?_, fun t i ht hi => ?_⟩
  · simp only [uI_at, true_and, and_true, false_and, and_false, true_implies, false_implies, implies_true, not_true_eq_false, not_false_eq_true, ne_eq, if_true, if_false, Bool.and_true, Bool.true_and, decide_true, decide_false, reduceIte, reduceCtorEq, Bool.and_self, Bool.and_eq_true, decide_eq_true_eq, and_self, true_or, or_true, false_or, or_false, Nat.zero_add, Nat.add_zero, eq_self, Nat.reduceEqDiff, Nat.reduceLeDiff, Nat.reduceLT, Nat.reduceAdd, Nat.reduceSub, Nat.reduceMul, List.length_append, List.length_singleton]
  · rw [List.length_append, List.length_singleton] at hk
    simp only [uI_at, true_and, and_true, false_and, and_false, true_implies, false_implies, implies_true, not_true_eq_false, not_false_eq_true, ne_eq, if_true, if_false, Bool.and_true, Bool.true_and, decide_true, decide_false, reduceIte, reduceCtorEq, Bool.and_self, Bool.and_eq_true, decide_eq_true_eq, and_self, true_or, or_true, false_or, or_false, Nat.zero_add, Nat.add_zero, eq_self, Nat.reduceEqDiff, Nat.reduceLeDiff, Nat.reduceLT, Nat.reduceAdd, Nat.reduceSub, Nat.reduceMul]
    unfold fE
    by_cases e : k = l.length
    · rw [if_pos e, e, getD_app2]
    · rw [if_neg e, getD_app1 _ _ _ (by omega)]
      exact h2 k (by omega)
  · rw [List.length_append, List.length_singleton] at hk
    simp only [uI_at, true_and, and_true, false_and, and_false, true_implies, false_implies, implies_true, not_true_eq_false, not_false_eq_true, ne_eq, if_true, if_false, Bool.and_true, Bool.true_and, decide_true, decide_false, reduceIte, reduceCtorEq, Bool.and_self, Bool.and_eq_true, decide_eq_true_eq, and_self, true_or, or_true, false_or, or_false, Nat.zero_add, Nat.add_zero, eq_self, Nat.reduceEqDiff, Nat.reduceLeDiff, Nat.reduceLT, Nat.reduceAdd, Nat.reduceSub, Nat.reduceMul]
    unfold sE
    by_cases e : k = l.length
    · rw [if_pos e, e, getD_app2]
    · rw [if_neg e, getD_app1 _ _ _ (by omega)]
      exact h3 k (by omega)
  · simp only [uI_at, true_and, and_true, false_and, and_false, true_implies, false_implies, implies_true, not_true_eq_false, not_false_eq_true, ne_eq, if_true, if_false, Bool.and_true, Bool.true_and, decide_true, decide_false, reduceIte, reduceCtorEq, Bool.and_self, Bool.and_eq_true, decide_eq_true_eq, and_self, true_or, or_true, false_or, or_false, Nat.zero_add, Nat.add_zero, eq_self, Nat.reduceEqDiff, Nat.reduceLeDiff, Nat.reduceLT, Nat.reduceAdd, Nat.reduceSub, Nat.reduceMul]
    rw [dE_app]
    by_cases e : t = s
    · rw [if_pos e, if_pos (Or.inr e.symm), e]
    · rw [if_neg e]
      by_cases e2 : t = f
      · rw [if_pos e2, if_pos (Or.inl e2.symm), e2]
      · rw [if_neg e2, if_neg (fun h => h.elim (fun h => e2 h.symm) (fun h => e h.symm))]
        exact h5 t ht
  · have ht4 := h4 t ht
    have hd := dE_app l f s t
    simp only [uI_at, true_and, and_true, false_and, and_false, true_implies, false_implies, implies_true, not_true_eq_false, not_false_eq_true, ne_eq, if_true, if_false, Bool.and_true, Bool.true_and, decide_true, decide_false, reduceIte, reduceCtorEq, Bool.and_self, Bool.and_eq_true, decide_eq_true_eq, and_self, true_or, or_true, false_or, or_false, Nat.zero_add, Nat.add_zero, eq_self, Nat.reduceEqDiff, Nat.reduceLeDiff, Nat.reduceLT, Nat.reduceAdd, Nat.reduceSub, Nat.reduceMul]
    by_cases e : t = s
    · subst e
      rw [if_pos (Or.inr rfl)] at hd
      by_cases e2 : i = dE l t
      · subst e2
        rw [if_pos rfl, bE_app2 _ _ _ _ (Or.inr rfl)]
      · rw [if_neg (by omega), if_neg (by omega), bE_app1 _ _ _ _ (by omega)]
        exact h6 t i ht (by omega)
    · by_cases e3 : t = f
      · subst e3
        rw [if_pos (Or.inl rfl)] at hd
        by_cases e2 : i = dE l t
        · subst e2
          rw [if_neg (by omega), if_pos rfl, bE_app2 _ _ _ _ (Or.inl rfl)]
        · rw [if_neg (by omega), if_neg (by omega), bE_app1 _ _ _ _ (by omega)]
          exact h6 t i ht (by omega)
      · rw [if_neg (by omega)] at hd
        rw [if_neg (by omega), if_neg (by omega), bE_app1 _ _ _ _ (by omega)]
        exact h6 t i ht (by omega)
variable {S : xS} {I : xI} {J : xJ} {D : xDb} {R : xR} {b : Nat × Nat} {Q : xQ} {n : Nat}
theorem R196 (hL : LM S R) (hn : n ≤ 64) {f s k df ds : Nat} (hf : f < n) (hs : s < n) (hne : f ≠ s) (h3 : I 300 8 = nI k) (hk : k < 128) (h7 : I 317 f = nI df) (h8 : I 317 s = nI ds) (h4 : df < 4) (h5 : ds < 4) :
    xRun xT 196 0 [(0, .ref 200), (1, .int (nI f)), (2, .int (nI s))] [] (S, I, J, D, R) b Q = Q (.ok none) (S, aM I f s k df ds, J, D, R) b := by
  have hne2 : s ≠ f := fun e => hne e.symm
  rw [e196_0]
  simp only [B196_0, xSeq, i_push, i_load, i_iload, i_lload, i_dload, i_aload, i_istore, i_astore, i_lstore, i_dstore, i_iinc, i_ii, i_iiz, i_ll, i_llz, i_lli, i_li, i_i, i_l, i_i2l, i_l2i, i_dup, i_dup2, i_dup2w, i_dupx1, i_pop, i_pop2, i_goto, i_ifc, i_icmp, i_getI, i_getL, i_getR, i_putI, i_putZ, i_putL, i_putR, i_aldI, i_aldB, i_aldL, i_aldD, i_astI, i_astL, i_astD, i_alen, i_ret, i_iret, i_zret, i_lret, i_fret, i_dret, i_aret, i_invS0, i_invV0, i_m2, i_m1, i_ml, i_obj, lk, lkp, stf1, stf2, Value.category, rV, xTo, lv_args, xCk, xCat, xRc, xAk, hg_S, hg_I, hg_J, hg_D, hg_R, hs_I, hs_J, hs_D, hs_R, uI_at, uJ_at, uD_at, uR_at, List.take_succ_cons, List.take_zero, List.drop_succ_cons, List.drop_zero, List.reverse_cons, List.reverse_nil, List.nil_append, List.cons_append, List.map_cons, List.map_nil, List.sum_cons, List.sum_nil, List.length_cons, List.length_nil, Option.toList_some, Option.toList_none, true_and, and_true, false_and, and_false, true_implies, false_implies, implies_true, not_true_eq_false, not_false_eq_true, ne_eq, if_true, if_false, Bool.and_true, Bool.true_and, decide_true, decide_false, reduceIte, reduceCtorEq, Bool.and_self, Bool.and_eq_true, decide_eq_true_eq, and_self, true_or, or_true, false_or, or_false, Nat.zero_add, Nat.add_zero, eq_self, Nat.reduceEqDiff, Nat.reduceLeDiff, Nat.reduceLT, Nat.reduceAdd, Nat.reduceSub, Nat.reduceMul, xi144_0, ix_0, xi144_1, ix_1, xi144_2, ix_2, xi144_3, ix_3, xi144_4, ix_4, xi144_5, ix_5, xi144_6, ix_6, xi144_7, ix_7, xi144_8, ix_8, xi144_9, ix_9, xi144_10, ix_10, LM_out hL, h3, nI_4m, nI_inP hk (by decide), nI_ix (show k < 2147483648 by omega), nI_inP (show f < 64 by omega) (by decide), nI_ix (show f < 2147483648 by omega), nI_inP (show s < 64 by omega) (by decide), nI_ix (show s < 2147483648 by omega), h7, h8, nI_add, nI_inP (show f * 4 + df < 256 by omega) (by decide), nI_ix (show f * 4 + df < 2147483648 by omega), nI_inP (show s * 4 + ds < 256 by omega) (by decide), nI_ix (show s * 4 + ds < 2147483648 by omega), nI_1, hne2]
  rfl
theorem nR_mod {c x : Nat} (h : x < c) : (x + 1) % c = nR c x := by
  unfold nR
  split
  · exact Nat.mod_eq_of_lt (by omega)
  · rw [show x + 1 = c by omega, Nat.mod_self]
theorem R195 (hL : LM S R) {c e s : Nat} (h1 : I 300 1 = nI c) (he : I 200 18 = nI e) (hs : s < 64) (hc0 : 0 < c) (hc : c < 64) (he2 : e < 3) : xRun xT 195 0 [(0, .ref 200), (1, .int (nI s))] [] (S, I, J, D, R) b Q = Q (.ok (some (.int (if bR c e (s % c) = true then 1 else 0)))) (S, I, J, D, R) b := by
  have e1 : (nI e = 1) = (e = 1) := by rw [show (1 : Int32) = nI 1 from rfl, nI_iff (by omega) (by omega)]
  have e0 : (nI c = 0) = False := eq_false (nI_ne0 hc0 (by omega))
  have hm := Nat.mod_lt s hc0
  rw [e195_0]
  simp only [B195_0, xSeq, i_push, i_load, i_iload, i_lload, i_dload, i_aload, i_istore, i_astore, i_lstore, i_dstore, i_iinc, i_ii, i_iiz, i_ll, i_llz, i_lli, i_li, i_i, i_l, i_i2l, i_l2i, i_dup, i_dup2, i_dup2w, i_dupx1, i_pop, i_pop2, i_goto, i_ifc, i_icmp, i_getI, i_getL, i_getR, i_putI, i_putZ, i_putL, i_putR, i_aldI, i_aldB, i_aldL, i_aldD, i_astI, i_astL, i_astD, i_alen, i_ret, i_iret, i_zret, i_lret, i_fret, i_dret, i_aret, i_invS0, i_invV0, i_m2, i_m1, i_ml, i_obj, lk, lkp, stf1, stf2, Value.category, rV, xTo, lv_args, xCk, xCat, xRc, xAk, hg_S, hg_I, hg_J, hg_D, hg_R, hs_I, hs_J, hs_D, hs_R, uI_at, uJ_at, uD_at, uR_at, List.take_succ_cons, List.take_zero, List.drop_succ_cons, List.drop_zero, List.reverse_cons, List.reverse_nil, List.nil_append, List.cons_append, List.map_cons, List.map_nil, List.sum_cons, List.sum_nil, List.length_cons, List.length_nil, Option.toList_some, Option.toList_none, true_and, and_true, false_and, and_false, true_implies, false_implies, implies_true, not_true_eq_false, not_false_eq_true, ne_eq, if_true, if_false, Bool.and_true, Bool.true_and, decide_true, decide_false, reduceIte, reduceCtorEq, Bool.and_self, Bool.and_eq_true, decide_eq_true_eq, and_self, true_or, or_true, false_or, or_false, Nat.zero_add, Nat.add_zero, eq_self, Nat.reduceEqDiff, Nat.reduceLeDiff, Nat.reduceLT, Nat.reduceAdd, Nat.reduceSub, Nat.reduceMul, xi144_0, ix_0, xi144_1, ix_1, xi144_2, ix_2, xi144_3, ix_3, xi144_4, ix_4, xi144_5, ix_5, xi144_6, ix_6, xi144_7, ix_7, xi144_8, ix_8, xi144_9, ix_9, xi144_10, ix_10, LM_out hL, h1, he, e0, q_rem (show s < 2 ^ 31 by omega) hc0 (show c < 2 ^ 31 by omega), nI_1, nI_ltP (show s % c + 1 < 2147483648 by omega) (show c < 2147483648 by omega), e1, e195_27, B195_27, e195_31, B195_31, e195_32, B195_32, bR]
  by_cases h1 : s % c + 1 < c
  · simp [h1]
  · by_cases h2 : e = 1 <;> simp [h1, h2]
theorem R197 (hL : LM S R) {r c e s : Nat} (h0 : I 300 0 = nI r) (h1 : I 300 1 = nI c) (he : I 200 18 = nI e) (hs : s < 64) (hc0 : 0 < c) (hc : c < 64) (hr : r < 64) (he2 : e < 3) : xRun xT 197 0 [(0, .ref 200), (1, .int (nI s))] [] (S, I, J, D, R) b Q = Q (.ok (some (.int (if bD r e (s / c) = true then 1 else 0)))) (S, I, J, D, R) b := by
  have e1 : (nI e = 0) = (e = 0) := by rw [show (0 : Int32) = nI 0 from rfl, nI_iff (by omega) (by omega)]
  have e0 : (nI c = 0) = False := eq_false (nI_ne0 hc0 (by omega))
  have hm := Nat.div_le_self s c
  have eD : nI s / nI c = nI (s / c) := pk_div (by omega) (by omega) (by omega)
  rw [e197_0]
  simp only [B197_0, xSeq, i_push, i_load, i_iload, i_lload, i_dload, i_aload, i_istore, i_astore, i_lstore, i_dstore, i_iinc, i_ii, i_iiz, i_ll, i_llz, i_lli, i_li, i_i, i_l, i_i2l, i_l2i, i_dup, i_dup2, i_dup2w, i_dupx1, i_pop, i_pop2, i_goto, i_ifc, i_icmp, i_getI, i_getL, i_getR, i_putI, i_putZ, i_putL, i_putR, i_aldI, i_aldB, i_aldL, i_aldD, i_astI, i_astL, i_astD, i_alen, i_ret, i_iret, i_zret, i_lret, i_fret, i_dret, i_aret, i_invS0, i_invV0, i_m2, i_m1, i_ml, i_obj, lk, lkp, stf1, stf2, Value.category, rV, xTo, lv_args, xCk, xCat, xRc, xAk, hg_S, hg_I, hg_J, hg_D, hg_R, hs_I, hs_J, hs_D, hs_R, uI_at, uJ_at, uD_at, uR_at, List.take_succ_cons, List.take_zero, List.drop_succ_cons, List.drop_zero, List.reverse_cons, List.reverse_nil, List.nil_append, List.cons_append, List.map_cons, List.map_nil, List.sum_cons, List.sum_nil, List.length_cons, List.length_nil, Option.toList_some, Option.toList_none, true_and, and_true, false_and, and_false, true_implies, false_implies, implies_true, not_true_eq_false, not_false_eq_true, ne_eq, if_true, if_false, Bool.and_true, Bool.true_and, decide_true, decide_false, reduceIte, reduceCtorEq, Bool.and_self, Bool.and_eq_true, decide_eq_true_eq, and_self, true_or, or_true, false_or, or_false, Nat.zero_add, Nat.add_zero, eq_self, Nat.reduceEqDiff, Nat.reduceLeDiff, Nat.reduceLT, Nat.reduceAdd, Nat.reduceSub, Nat.reduceMul, xi144_0, ix_0, xi144_1, ix_1, xi144_2, ix_2, xi144_3, ix_3, xi144_4, ix_4, xi144_5, ix_5, xi144_6, ix_6, xi144_7, ix_7, xi144_8, ix_8, xi144_9, ix_9, xi144_10, ix_10, LM_out hL, h0, h1, he, e0, eD, nI_1, nI_ltP (show s / c + 1 < 2147483648 by omega) (show r < 2147483648 by omega), e1, e197_26, B197_26, e197_30, B197_30, e197_31, B197_31, bD]
  by_cases h1 : s / c + 1 < r
  · simp [h1]
  · by_cases h2 : e = 0 <;> simp [h1, h2]
theorem L194_117 {r c e s : Nat} (hL : LM S R) (h0 : I 300 0 = nI r) (h1 : I 300 1 = nI c) (he : I 200 18 = nI e) (hn : n = r * c) (hc0 : 0 < c) (hc : c < 64) (hr : r < 64) (he2 : e < 3) (hs : s < n) (hg : gk n (bl r c e n) = true)
    (hB : HM I n (bl r c e s ++ oR c e s))
    (kk : ∀ I', HM I' n (bl r c e (s + 1)) → (∀ o k, ¬ bM o k → I' o k = I o k) → xRun xT 194 56 [(0, .ref 200), (1, .int (nI (s + 1)))] [] (S, I', J, D, R) b Q) :
    xRun xT 194 117 [(0, .ref 200), (1, .int (nI s)), (2, .int (nI (s / c))), (3, .int (nI (s % c)))] [] (S, I, J, D, R) b Q := by
  obtain ⟨l0, hl0⟩ := bl_pre (r := r) (c := c) (e := e) (show s + 1 ≤ n by omega)
  have hn64 : n ≤ 64 := (gk_q hg).1.2.1
  have hrow : s / c < r := by
    rw [Nat.div_lt_iff_lt_mul (by omega)]
    rw [hn] at hs
    exact hs
  have hr1 : 0 < r := Nat.lt_of_le_of_lt (Nat.zero_le _) hrow
  have hr0 : (nI r = 0) = False := eq_false (nI_ne0 hr1 (by omega))
  have e5 : s / c + 1 < 2 ^ 31 := Nat.lt_of_le_of_lt hrow (by omega)
  rw [e194_117]
  simp only [B194_117, xSeq, i_push, i_load, i_iload, i_lload, i_dload, i_aload, i_istore, i_astore, i_lstore, i_dstore, i_iinc, i_ii, i_iiz, i_ll, i_llz, i_lli, i_li, i_i, i_l, i_i2l, i_l2i, i_dup, i_dup2, i_dup2w, i_dupx1, i_pop, i_pop2, i_goto, i_ifc, i_icmp, i_getI, i_getL, i_getR, i_putI, i_putZ, i_putL, i_putR, i_aldI, i_aldB, i_aldL, i_aldD, i_astI, i_astL, i_astD, i_alen, i_ret, i_iret, i_zret, i_lret, i_fret, i_dret, i_aret, i_invS0, i_invV0, i_m2, i_m1, i_ml, i_obj, lk, lkp, stf1, stf2, Value.category, rV, xTo, lv_args, xCk, xCat, xRc, xAk, hg_S, hg_I, hg_J, hg_D, hg_R, hs_I, hs_J, hs_D, hs_R, uI_at, uJ_at, uD_at, uR_at, List.take_succ_cons, List.take_zero, List.drop_succ_cons, List.drop_zero, List.reverse_cons, List.reverse_nil, List.nil_append, List.cons_append, List.map_cons, List.map_nil, List.sum_cons, List.sum_nil, List.length_cons, List.length_nil, Option.toList_some, Option.toList_none, true_and, and_true, false_and, and_false, true_implies, false_implies, implies_true, not_true_eq_false, not_false_eq_true, ne_eq, if_true, if_false, Bool.and_true, Bool.true_and, decide_true, decide_false, reduceIte, reduceCtorEq, Bool.and_self, Bool.and_eq_true, decide_eq_true_eq, and_self, true_or, or_true, false_or, or_false, Nat.zero_add, Nat.add_zero, eq_self, Nat.reduceEqDiff, Nat.reduceLeDiff, Nat.reduceLT, Nat.reduceAdd, Nat.reduceSub, Nat.reduceMul, xi144_0, ix_0, xi144_1, ix_1, xi144_2, ix_2, xi144_3, ix_3, xi144_4, ix_4, xi144_5, ix_5, xi144_6, ix_6, xi144_7, ix_7, xi144_8, ix_8, xi144_9, ix_9, xi144_10, ix_10, LM_out hL, R197 (J := J) (D := D) hL h0 h1 he (show s < 64 by omega) hc0 hc hr he2]
  by_cases hD : bD r e (s / c) = true
  · have eD : oD r c e s = [(s, nR r (s / c) * c + s % c)] := by rw [oD, if_pos hD]
    obtain ⟨o1, o2, o3, o4, o5, o6, o7⟩ := gk_one hg (l := bl r c e s ++ oR c e s) (f := s) (s := nR r (s / c) * c + s % c) (l' := l0) (by rw [hl0, bl, eD])
    have h196 := fun (Q : xQ) => R196 (J := J) (D := D) (b := (0, 0)) (Q := Q) hL hn64 o1 o2 o3 hB.1 o4 (hB.2.2.2.1 _ o1) (hB.2.2.2.1 _ o2) o6 o7
    have hB' := HM_add hB o3 o1 o2 o5
    have e3 : jRem (nI (s / c + 1)) (nI r) * nI c + nI (s % c) = nI (nR r (s / c) * c + s % c) := by
      rw [q_rem e5 hr1 (by omega), nR_mod hrow, pk_mul, nI_add]
    simp only [hD, if_true, i1_0, xSeq, i_push, i_load, i_iload, i_lload, i_dload, i_aload, i_istore, i_astore, i_lstore, i_dstore, i_iinc, i_ii, i_iiz, i_ll, i_llz, i_lli, i_li, i_i, i_l, i_i2l, i_l2i, i_dup, i_dup2, i_dup2w, i_dupx1, i_pop, i_pop2, i_goto, i_ifc, i_icmp, i_getI, i_getL, i_getR, i_putI, i_putZ, i_putL, i_putR, i_aldI, i_aldB, i_aldL, i_aldD, i_astI, i_astL, i_astD, i_alen, i_ret, i_iret, i_zret, i_lret, i_fret, i_dret, i_aret, i_invS0, i_invV0, i_m2, i_m1, i_ml, i_obj, lk, lkp, stf1, stf2, Value.category, rV, xTo, lv_args, xCk, xCat, xRc, xAk, hg_S, hg_I, hg_J, hg_D, hg_R, hs_I, hs_J, hs_D, hs_R, uI_at, uJ_at, uD_at, uR_at, List.take_succ_cons, List.take_zero, List.drop_succ_cons, List.drop_zero, List.reverse_cons, List.reverse_nil, List.nil_append, List.cons_append, List.map_cons, List.map_nil, List.sum_cons, List.sum_nil, List.length_cons, List.length_nil, Option.toList_some, Option.toList_none, true_and, and_true, false_and, and_false, true_implies, false_implies, implies_true, not_true_eq_false, not_false_eq_true, ne_eq, if_true, if_false, Bool.and_true, Bool.true_and, decide_true, decide_false, reduceIte, reduceCtorEq, Bool.and_self, Bool.and_eq_true, decide_eq_true_eq, and_self, true_or, or_true, false_or, or_false, Nat.zero_add, Nat.add_zero, eq_self, Nat.reduceEqDiff, Nat.reduceLeDiff, Nat.reduceLT, Nat.reduceAdd, Nat.reduceSub, Nat.reduceMul, xi144_0, ix_0, xi144_1, ix_1, xi144_2, ix_2, xi144_3, ix_3, xi144_4, ix_4, xi144_5, ix_5, xi144_6, ix_6, xi144_7, ix_7, xi144_8, ix_8, xi144_9, ix_9, xi144_10, ix_10, h0, h1, nI_1, LM_out hL, hr0, e3, h196, e194_149, B194_149]
    exact kk _ (by rw [bl, eD]; exact hB') (fun o k hok => aM_fr hok)
  · have eD : oD r c e s = [] := by rw [oD, if_neg hD]
    simp only [hD, if_false, xSeq, i_push, i_load, i_iload, i_lload, i_dload, i_aload, i_istore, i_astore, i_lstore, i_dstore, i_iinc, i_ii, i_iiz, i_ll, i_llz, i_lli, i_li, i_i, i_l, i_i2l, i_l2i, i_dup, i_dup2, i_dup2w, i_dupx1, i_pop, i_pop2, i_goto, i_ifc, i_icmp, i_getI, i_getL, i_getR, i_putI, i_putZ, i_putL, i_putR, i_aldI, i_aldB, i_aldL, i_aldD, i_astI, i_astL, i_astD, i_alen, i_ret, i_iret, i_zret, i_lret, i_fret, i_dret, i_aret, i_invS0, i_invV0, i_m2, i_m1, i_ml, i_obj, lk, lkp, stf1, stf2, Value.category, rV, xTo, lv_args, xCk, xCat, xRc, xAk, hg_S, hg_I, hg_J, hg_D, hg_R, hs_I, hs_J, hs_D, hs_R, uI_at, uJ_at, uD_at, uR_at, List.take_succ_cons, List.take_zero, List.drop_succ_cons, List.drop_zero, List.reverse_cons, List.reverse_nil, List.nil_append, List.cons_append, List.map_cons, List.map_nil, List.sum_cons, List.sum_nil, List.length_cons, List.length_nil, Option.toList_some, Option.toList_none, true_and, and_true, false_and, and_false, true_implies, false_implies, implies_true, not_true_eq_false, not_false_eq_true, ne_eq, if_true, if_false, Bool.and_true, Bool.true_and, decide_true, decide_false, reduceIte, reduceCtorEq, Bool.and_self, Bool.and_eq_true, decide_eq_true_eq, and_self, true_or, or_true, false_or, or_false, Nat.zero_add, Nat.add_zero, eq_self, Nat.reduceEqDiff, Nat.reduceLeDiff, Nat.reduceLT, Nat.reduceAdd, Nat.reduceSub, Nat.reduceMul, Bool.false_eq_true, e194_149, B194_149, nI_1]
    exact kk _ (by rw [bl, eD, List.append_nil]; exact hB) (fun _ _ _ => rfl)
theorem L194_56 {r c e : Nat} (hL : LM S R) (hn : n = r * c) (hc0 : 0 < c) (hc : c < 64) (hr : r < 64) (he2 : e < 3) (hg : gk n (bl r c e n) = true) {I0 : xI} (h00 : I0 300 0 = nI r) (h01 : I0 300 1 = nI c) (h02 : I0 300 10 = nI n) (h0e : I0 200 18 = nI e)
    (kk : ∀ I', HM I' n (bl r c e n) → (∀ o k, ¬ bM o k → I' o k = I0 o k) → Q (.ok none) (S, I', J, D, R) b) :
    ∀ (j s : Nat) (I : xI), s + j = n → HM I n (bl r c e s) → (∀ o k, ¬ bM o k → I o k = I0 o k) → xRun xT 194 56 [(0, .ref 200), (1, .int (nI s))] [] (S, I, J, D, R) b Q
  | 0, s, I, hs, hB, hf => by
    have e2 : s = n := by omega
    have h2 : I 300 10 = nI n := by rw [hf _ _ (by decide)]; exact h02
    have hn64 : n ≤ 64 := (gk_q hg).1.2.1
    subst e2
    rw [e194_56]
    simp only [B194_56, xSeq, i_push, i_load, i_iload, i_lload, i_dload, i_aload, i_istore, i_astore, i_lstore, i_dstore, i_iinc, i_ii, i_iiz, i_ll, i_llz, i_lli, i_li, i_i, i_l, i_i2l, i_l2i, i_dup, i_dup2, i_dup2w, i_dupx1, i_pop, i_pop2, i_goto, i_ifc, i_icmp, i_getI, i_getL, i_getR, i_putI, i_putZ, i_putL, i_putR, i_aldI, i_aldB, i_aldL, i_aldD, i_astI, i_astL, i_astD, i_alen, i_ret, i_iret, i_zret, i_lret, i_fret, i_dret, i_aret, i_invS0, i_invV0, i_m2, i_m1, i_ml, i_obj, lk, lkp, stf1, stf2, Value.category, rV, xTo, lv_args, xCk, xCat, xRc, xAk, hg_S, hg_I, hg_J, hg_D, hg_R, hs_I, hs_J, hs_D, hs_R, uI_at, uJ_at, uD_at, uR_at, List.take_succ_cons, List.take_zero, List.drop_succ_cons, List.drop_zero, List.reverse_cons, List.reverse_nil, List.nil_append, List.cons_append, List.map_cons, List.map_nil, List.sum_cons, List.sum_nil, List.length_cons, List.length_nil, Option.toList_some, Option.toList_none, true_and, and_true, false_and, and_false, true_implies, false_implies, implies_true, not_true_eq_false, not_false_eq_true, ne_eq, if_true, if_false, Bool.and_true, Bool.true_and, decide_true, decide_false, reduceIte, reduceCtorEq, Bool.and_self, Bool.and_eq_true, decide_eq_true_eq, and_self, true_or, or_true, false_or, or_false, Nat.zero_add, Nat.add_zero, eq_self, Nat.reduceEqDiff, Nat.reduceLeDiff, Nat.reduceLT, Nat.reduceAdd, Nat.reduceSub, Nat.reduceMul, xi144_0, ix_0, xi144_1, ix_1, xi144_2, ix_2, xi144_3, ix_3, xi144_4, ix_4, xi144_5, ix_5, xi144_6, ix_6, xi144_7, ix_7, xi144_8, ix_8, xi144_9, ix_9, xi144_10, ix_10, LM_out hL, h2, nI_leP (show s < 2147483648 by omega) (show s < 2147483648 by omega), Nat.le_refl, e194_155, B194_155]
    exact kk I hB hf
  | j + 1, s, I, hs, hB, hf => by
    have h0 : I 300 0 = nI r := by rw [hf _ _ (by decide)]; exact h00
    have h1 : I 300 1 = nI c := by rw [hf _ _ (by decide)]; exact h01
    have h2 : I 300 10 = nI n := by rw [hf _ _ (by decide)]; exact h02
    have h3 : I 200 18 = nI e := by rw [hf _ _ (by decide)]; exact h0e
    have hn64 : n ≤ 64 := (gk_q hg).1.2.1
    have e0 : (nI c = 0) = False := eq_false (nI_ne0 hc0 (by omega))
    have eD : nI s / nI c = nI (s / c) := pk_div (by omega) (by omega) (by omega)
    have hcol := Nat.mod_lt s hc0
    obtain ⟨l0, hl0⟩ := bl_pre (r := r) (c := c) (e := e) (show s + 1 ≤ n by omega)
    rw [e194_56]
    simp only [B194_56, xSeq, i_push, i_load, i_iload, i_lload, i_dload, i_aload, i_istore, i_astore, i_lstore, i_dstore, i_iinc, i_ii, i_iiz, i_ll, i_llz, i_lli, i_li, i_i, i_l, i_i2l, i_l2i, i_dup, i_dup2, i_dup2w, i_dupx1, i_pop, i_pop2, i_goto, i_ifc, i_icmp, i_getI, i_getL, i_getR, i_putI, i_putZ, i_putL, i_putR, i_aldI, i_aldB, i_aldL, i_aldD, i_astI, i_astL, i_astD, i_alen, i_ret, i_iret, i_zret, i_lret, i_fret, i_dret, i_aret, i_invS0, i_invV0, i_m2, i_m1, i_ml, i_obj, lk, lkp, stf1, stf2, Value.category, rV, xTo, lv_args, xCk, xCat, xRc, xAk, hg_S, hg_I, hg_J, hg_D, hg_R, hs_I, hs_J, hs_D, hs_R, uI_at, uJ_at, uD_at, uR_at, List.take_succ_cons, List.take_zero, List.drop_succ_cons, List.drop_zero, List.reverse_cons, List.reverse_nil, List.nil_append, List.cons_append, List.map_cons, List.map_nil, List.sum_cons, List.sum_nil, List.length_cons, List.length_nil, Option.toList_some, Option.toList_none, true_and, and_true, false_and, and_false, true_implies, false_implies, implies_true, not_true_eq_false, not_false_eq_true, ne_eq, if_true, if_false, Bool.and_true, Bool.true_and, decide_true, decide_false, reduceIte, reduceCtorEq, Bool.and_self, Bool.and_eq_true, decide_eq_true_eq, and_self, true_or, or_true, false_or, or_false, Nat.zero_add, Nat.add_zero, eq_self, Nat.reduceEqDiff, Nat.reduceLeDiff, Nat.reduceLT, Nat.reduceAdd, Nat.reduceSub, Nat.reduceMul, xi144_0, ix_0, xi144_1, ix_1, xi144_2, ix_2, xi144_3, ix_3, xi144_4, ix_4, xi144_5, ix_5, xi144_6, ix_6, xi144_7, ix_7, xi144_8, ix_8, xi144_9, ix_9, xi144_10, ix_10, LM_out hL, h1, h2, e0, eD, q_rem (show s < 2 ^ 31 by omega) hc0 (show c < 2 ^ 31 by omega), nI_leP (show n < 2147483648 by omega) (show s < 2147483648 by omega), show (n ≤ s) = False from eq_false (by omega), R195 (J := J) (D := D) hL h1 h3 (show s < 64 by omega) hc0 hc he2]
    by_cases hR : bR c e (s % c) = true
    · have eR : oR c e s = [(s, s / c * c + nR c (s % c))] := by rw [oR, if_pos hR]
      obtain ⟨o1, o2, o3, o4, o5, o6, o7⟩ := gk_one hg (l := bl r c e s) (f := s) (s := s / c * c + nR c (s % c)) (l' := oD r c e s ++ l0) (by rw [hl0, bl, eR, ← List.append_assoc])
      have h196 := fun (Q : xQ) => R196 (J := J) (D := D) (b := (0, 0)) (Q := Q) hL hn64 o1 o2 o3 hB.1 o4 (hB.2.2.2.1 _ o1) (hB.2.2.2.1 _ o2) o6 o7
      have hB' := HM_add hB o3 o1 o2 o5
      have hf' := fun o k (hok : ¬ bM o k) => aM_fr (I := I) (f := s) (s := s / c * c + nR c (s % c)) (k := (bl r c e s).length) (df := dE (bl r c e s) s) (ds := dE (bl r c e s) (s / c * c + nR c (s % c))) hok
      have e3 : nI (s / c) * nI c + nI ((s % c + 1) % c) = nI (s / c * c + nR c (s % c)) := by
        rw [nR_mod hcol, pk_mul, nI_add]
      simp only [hR, if_true, i1_0, xSeq, i_push, i_load, i_iload, i_lload, i_dload, i_aload, i_istore, i_astore, i_lstore, i_dstore, i_iinc, i_ii, i_iiz, i_ll, i_llz, i_lli, i_li, i_i, i_l, i_i2l, i_l2i, i_dup, i_dup2, i_dup2w, i_dupx1, i_pop, i_pop2, i_goto, i_ifc, i_icmp, i_getI, i_getL, i_getR, i_putI, i_putZ, i_putL, i_putR, i_aldI, i_aldB, i_aldL, i_aldD, i_astI, i_astL, i_astD, i_alen, i_ret, i_iret, i_zret, i_lret, i_fret, i_dret, i_aret, i_invS0, i_invV0, i_m2, i_m1, i_ml, i_obj, lk, lkp, stf1, stf2, Value.category, rV, xTo, lv_args, xCk, xCat, xRc, xAk, hg_S, hg_I, hg_J, hg_D, hg_R, hs_I, hs_J, hs_D, hs_R, uI_at, uJ_at, uD_at, uR_at, List.take_succ_cons, List.take_zero, List.drop_succ_cons, List.drop_zero, List.reverse_cons, List.reverse_nil, List.nil_append, List.cons_append, List.map_cons, List.map_nil, List.sum_cons, List.sum_nil, List.length_cons, List.length_nil, Option.toList_some, Option.toList_none, true_and, and_true, false_and, and_false, true_implies, false_implies, implies_true, not_true_eq_false, not_false_eq_true, ne_eq, if_true, if_false, Bool.and_true, Bool.true_and, decide_true, decide_false, reduceIte, reduceCtorEq, Bool.and_self, Bool.and_eq_true, decide_eq_true_eq, and_self, true_or, or_true, false_or, or_false, Nat.zero_add, Nat.add_zero, eq_self, Nat.reduceEqDiff, Nat.reduceLeDiff, Nat.reduceLT, Nat.reduceAdd, Nat.reduceSub, Nat.reduceMul, nI_1, xi144_0, ix_0, xi144_1, ix_1, xi144_2, ix_2, xi144_3, ix_3, xi144_4, ix_4, xi144_5, ix_5, xi144_6, ix_6, xi144_7, ix_7, xi144_8, ix_8, xi144_9, ix_9, xi144_10, ix_10, h1, LM_out hL, e0, q_rem (show s % c + 1 < 2 ^ 31 by omega) hc0 (show c < 2 ^ 31 by omega), e3, h196]
      exact L194_117 hL (by rw [hf' _ _ (by decide)]; exact h0) (by rw [hf' _ _ (by decide)]; exact h1) (by rw [hf' _ _ (by decide)]; exact h3) hn hc0 hc hr he2 (by omega) hg (by rw [eR]; exact hB') (fun I' a1 a2 => L194_56 hL hn hc0 hc hr he2 hg h00 h01 h02 h0e kk j (s + 1) I' (by omega) a1 (fun o k hok => by rw [a2 o k hok, hf' o k hok, hf o k hok]))
    · have eR : oR c e s = [] := by rw [oR, if_neg hR]
      simp only [hR, if_false, xSeq, i_push, i_load, i_iload, i_lload, i_dload, i_aload, i_istore, i_astore, i_lstore, i_dstore, i_iinc, i_ii, i_iiz, i_ll, i_llz, i_lli, i_li, i_i, i_l, i_i2l, i_l2i, i_dup, i_dup2, i_dup2w, i_dupx1, i_pop, i_pop2, i_goto, i_ifc, i_icmp, i_getI, i_getL, i_getR, i_putI, i_putZ, i_putL, i_putR, i_aldI, i_aldB, i_aldL, i_aldD, i_astI, i_astL, i_astD, i_alen, i_ret, i_iret, i_zret, i_lret, i_fret, i_dret, i_aret, i_invS0, i_invV0, i_m2, i_m1, i_ml, i_obj, lk, lkp, stf1, stf2, Value.category, rV, xTo, lv_args, xCk, xCat, xRc, xAk, hg_S, hg_I, hg_J, hg_D, hg_R, hs_I, hs_J, hs_D, hs_R, uI_at, uJ_at, uD_at, uR_at, List.take_succ_cons, List.take_zero, List.drop_succ_cons, List.drop_zero, List.reverse_cons, List.reverse_nil, List.nil_append, List.cons_append, List.map_cons, List.map_nil, List.sum_cons, List.sum_nil, List.length_cons, List.length_nil, Option.toList_some, Option.toList_none, true_and, and_true, false_and, and_false, true_implies, false_implies, implies_true, not_true_eq_false, not_false_eq_true, ne_eq, if_true, if_false, Bool.and_true, Bool.true_and, decide_true, decide_false, reduceIte, reduceCtorEq, Bool.and_self, Bool.and_eq_true, decide_eq_true_eq, and_self, true_or, or_true, false_or, or_false, Nat.zero_add, Nat.add_zero, eq_self, Nat.reduceEqDiff, Nat.reduceLeDiff, Nat.reduceLT, Nat.reduceAdd, Nat.reduceSub, Nat.reduceMul, Bool.false_eq_true]
      exact L194_117 hL h0 h1 h3 hn hc0 hc hr he2 (by omega) hg (by rw [eR, List.append_nil]; exact hB) (fun I' a1 a2 => L194_56 hL hn hc0 hc hr he2 hg h00 h01 h02 h0e kk j (s + 1) I' (by omega) a1 (fun o k hok => by rw [a2 o k hok, hf o k hok]))
end
