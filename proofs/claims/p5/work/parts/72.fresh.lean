/-! ===== a fresh pair, as the questions want it ===== -/
section
def B4 : List (Nat × Nat) := bl 4 4 0 16
theorem B4_len : B4.length = 32 := by decide +kernel
theorem g4 : GR 16 32 (fE B4) (sE B4) (dE B4) (bE B4) ∧ GN 16 32 (fE B4) (sE B4) (dE B4) (bE B4) ∧ GI 16 (fE B4) (sE B4) (dE B4) (bE B4) := by
  have h := gk_ok (n := 16) (l := B4) (by decide +kernel)
  rw [B4_len] at h
  exact h
theorem en_congr {F : Int32} {st st' : Nat → Int32} {n m : Nat} {fi se : Nat → Nat} (s : Nat) (h : ∀ k, k < m → st k = st' k) : en F st n m fi se s = en F st' n m fi se s := by
  unfold en ps
  rw [sm_congr (fun k hk => by rw [h k hk])]
theorem dl_congr {F : Int32} {st st' : Nat → Int32} {n m : Nat} {fi se dg : Nat → Nat} {sb : Nat → Nat → Nat} (hG : GR n m fi se dg sb) (s : Nat) {t : Nat} (ht : t < n) (h : ∀ k, k < m → st k = st' k) : dl F st fi se dg sb s t = dl F st' fi se dg sb s t := by
  unfold dl
  rw [sm_congr (fun i hi => by rw [h _ (hG.2.2.2.2.2.2 t i ht hi)])]
/-- energy and change by a flip on the fresh grid -/
def E4 (s : Nat) : Int32 := en 0 (fun _ => 1) 16 32 (fE B4) (sE B4) s
def d4 (s t : Nat) : Int32 := dl 0 (fun _ => 1) (fE B4) (sE B4) (dE B4) (bE B4) s t
theorem aU16 : aU 16 = 65535 := by decide
theorem FC_n {S : xS} {I : xI} {J : xJ} {R : xR} (h : FC S I J R) : LC S R ∧ CL I 16 32 (fE B4) (sE B4) (dE B4) (bE B4) := by
  obtain ⟨h1, h2, h3, h4, h5, h6, h7, h8, h9⟩ := h
  have hb : HB I 16 B4 := h3
  unfold HB at hb
  rw [B4_len] at hb
  exact ⟨h1, h7, hb.1, hb.2.1, hb.2.2.1, hb.2.2.2.1, hb.2.2.2.2⟩
theorem FM_n {S : xS} {I : xI} {J : xJ} {R : xR} (h : FM S I J R) : LM S R ∧ CM I 16 32 (fE B4) (sE B4) (dE B4) (bE B4) := by
  obtain ⟨h1, h2, h3, h4⟩ := h
  have hb : HM I 16 B4 := h2
  unfold HM at hb
  rw [B4_len] at hb
  exact ⟨h1, h3.2.2.2.2.2.2.2.2.2.2, hb.1, hb.2.1, hb.2.2.1, hb.2.2.2.1, hb.2.2.2.2⟩
variable {S : xS} {I : xI} {J : xJ} {D : xDb} {R : xR} {b : Nat × Nat} {Q : xQ}
theorem FP_out {xs : Nat → Int32} (h : FP S I J R xs) : (LC S R ∧ LM S R) ∧ (CL I 16 32 (fE B4) (sE B4) (dE B4) (bE B4) ∧ CM I 16 32 (fE B4) (sE B4) (dE B4) (bE B4)) ∧ (J 110 4 = lN 65535 ∧ J 200 3 = lN 65535 ∧ J 110 5 = lN 1 ∧ J 200 4 = lN 1 ∧ J 102 4 = lN 65535) ∧
    (I 110 6 = 0 ∧ I 300 4 = 0 ∧ (∀ k, k < 32 → I 111 k = 1) ∧ ∀ k, k < 32 → I 300 (16 + k) = 1) ∧ S 400 = (101, 1) ∧ S 401 = (102, 1) ∧ S 900600 = (108, 6) ∧ ∀ j, I 900600 j = xs j := by
  obtain ⟨hC, hM, s4, s5, s6, x6, hfree⟩ := h
  have c := FC_n hC
  have d := FM_n hM
  obtain ⟨h1, h2, h3, h4, h5, h6, h7, h8, h9, h10, h11⟩ := hC
  obtain ⟨q1, q2, q3, q4, q5, q6, q7⟩ := hM
  exact ⟨⟨c.1, d.1⟩, ⟨c.2, d.2⟩, ⟨h10.2.2.2.2.2.2.1, q5, h10.2.2.2.2.2.2.2, q6, h8⟩, ⟨h10.1, q3.2.2.2.2.1, fun k hk => h9 k (by omega), q4⟩, s4, s5, s6, x6⟩
theorem lg_self (a : Int64) : (lg_cmp a a = 0) = True := eq_true (by
  unfold lg_cmp
  rw [if_neg (Int64.lt_irrefl), if_pos rfl])
theorem xi1 : xIn 0 1 = True := xi0 (by decide) (by decide)
theorem ix6 : ∀ k : Nat, k < 6 → xIn (nI k) 6 = True := fun k hk => nI_inP hk (by decide)
theorem xi6_1 : xIn (0 + 1) 6 = True := ix6 1 (by decide)
theorem xi6_2 : xIn (0 + 2) 6 = True := ix6 2 (by decide)
theorem xi6_3 : xIn (0 + 3) 6 = True := ix6 3 (by decide)
theorem xi6_4 : xIn (0 + 4) 6 = True := ix6 4 (by decide)
theorem xi6_5 : xIn (0 + 5) 6 = True := ix6 5 (by decide)
theorem xk6_1 : ix (0 + 1) = 1 := by decide
theorem xk6_2 : ix (0 + 2) = 2 := by decide
theorem xk6_3 : ix (0 + 3) = 3 := by decide
theorem xk6_4 : ix (0 + 4) = 4 := by decide
theorem xk6_5 : ix (0 + 5) = 5 := by decide
-- questions without arguments
theorem R126 {n m : Nat} {fi se dg : Nat → Nat} {sb : Nat → Nat → Nat} (hL : LC S R) (hG : GR n m fi se dg sb) (hC : CL I n m fi se dg sb) {s : Nat} (hJ : J 110 4 = lN s) (hs : s < 2 ^ 64) (hs2 : s < 2 ^ n) : xRun xT 126 0 [(0, .ref 100)] [] (S, I, J, D, R) b Q = Q (.ok (some (.int (en (I 110 6) (I 111) n m fi se s)))) (S, I, J, D, R) b := by
  rw [e126_0]
  simp only [B126_0, xSeq, i_push, i_load, i_iload, i_lload, i_dload, i_aload, i_istore, i_astore, i_lstore, i_dstore, i_iinc, i_ii, i_iiz, i_ll, i_llz, i_lli, i_li, i_i, i_l, i_i2l, i_l2i, i_dup, i_dup2, i_dup2w, i_dupx1, i_pop, i_pop2, i_goto, i_ifc, i_icmp, i_getI, i_getL, i_getR, i_putI, i_putZ, i_putL, i_putR, i_aldI, i_aldB, i_aldL, i_aldD, i_astI, i_astL, i_astD, i_alen, i_ret, i_iret, i_zret, i_lret, i_fret, i_dret, i_aret, i_invS0, i_invV0, i_m2, i_m1, i_ml, i_obj, lk, lkp, stf1, stf2, Value.category, rV, xTo, lv_args, xCk, xCat, xRc, xAk, hg_S, hg_I, hg_J, hg_D, hg_R, hs_I, hs_J, hs_D, hs_R, uI_at, uJ_at, uD_at, uR_at, List.take_succ_cons, List.take_zero, List.drop_succ_cons, List.drop_zero, List.reverse_cons, List.reverse_nil, List.nil_append, List.cons_append, List.map_cons, List.map_nil, List.sum_cons, List.sum_nil, List.length_cons, List.length_nil, Option.toList_some, Option.toList_none, true_and, and_true, false_and, and_false, true_implies, false_implies, implies_true, not_true_eq_false, not_false_eq_true, ne_eq, if_true, if_false, Bool.and_true, Bool.true_and, decide_true, decide_false, reduceIte, reduceCtorEq, Bool.and_self, Bool.and_eq_true, decide_eq_true_eq, and_self, true_or, or_true, false_or, or_false, Nat.zero_add, Nat.add_zero, eq_self, Nat.reduceEqDiff, Nat.reduceLeDiff, Nat.reduceLT, Nat.reduceAdd, Nat.reduceSub, Nat.reduceMul, LC_out hL, hJ, R74 hL hG hC hs hs2]
theorem R254 {n m : Nat} {fi se dg : Nat → Nat} {sb : Nat → Nat → Nat} (hL : LM S R) (hG : GR n m fi se dg sb) (hC : CM I n m fi se dg sb) {s : Nat} (hJ : J 200 3 = lN s) (hs : s < 2 ^ 64) : xRun xT 254 0 [(0, .ref 200)] [] (S, I, J, D, R) b Q = Q (.ok (some (.int (en (I 300 4) (fun k => I 300 (16 + k)) n m fi se s)))) (S, uI I 200 19 0, J, D, R) b := by
  rw [e254_0]
  simp only [B254_0, xSeq, i_push, i_load, i_iload, i_lload, i_dload, i_aload, i_istore, i_astore, i_lstore, i_dstore, i_iinc, i_ii, i_iiz, i_ll, i_llz, i_lli, i_li, i_i, i_l, i_i2l, i_l2i, i_dup, i_dup2, i_dup2w, i_dupx1, i_pop, i_pop2, i_goto, i_ifc, i_icmp, i_getI, i_getL, i_getR, i_putI, i_putZ, i_putL, i_putR, i_aldI, i_aldB, i_aldL, i_aldD, i_astI, i_astL, i_astD, i_alen, i_ret, i_iret, i_zret, i_lret, i_fret, i_dret, i_aret, i_invS0, i_invV0, i_m2, i_m1, i_ml, i_obj, lk, lkp, stf1, stf2, Value.category, rV, xTo, lv_args, xCk, xCat, xRc, xAk, hg_S, hg_I, hg_J, hg_D, hg_R, hs_I, hs_J, hs_D, hs_R, uI_at, uJ_at, uD_at, uR_at, List.take_succ_cons, List.take_zero, List.drop_succ_cons, List.drop_zero, List.reverse_cons, List.reverse_nil, List.nil_append, List.cons_append, List.map_cons, List.map_nil, List.sum_cons, List.sum_nil, List.length_cons, List.length_nil, Option.toList_some, Option.toList_none, true_and, and_true, false_and, and_false, true_implies, false_implies, implies_true, not_true_eq_false, not_false_eq_true, ne_eq, if_true, if_false, Bool.and_true, Bool.true_and, decide_true, decide_false, reduceIte, reduceCtorEq, Bool.and_self, Bool.and_eq_true, decide_eq_true_eq, and_self, true_or, or_true, false_or, or_false, Nat.zero_add, Nat.add_zero, eq_self, Nat.reduceEqDiff, Nat.reduceLeDiff, Nat.reduceLT, Nat.reduceAdd, Nat.reduceSub, Nat.reduceMul, LM_out hL, hJ, R250 (I := uI I 200 19 0) hL hG (CM_u hC (by decide)) hs]
theorem R127 {n : Nat} (hL : LC S R) (hC : I 102 2 = nI n) (hn : n ≤ 64) {s : Nat} (hJ : J 110 4 = lN s) (hs : s < 2 ^ n) : xRun xT 127 0 [(0, .ref 100)] [] (S, I, J, D, R) b Q = Q (.ok (some (.int (mg n s)))) (S, I, J, D, R) b := by
  rw [e127_0]
  simp only [B127_0, xSeq, i_push, i_load, i_iload, i_lload, i_dload, i_aload, i_istore, i_astore, i_lstore, i_dstore, i_iinc, i_ii, i_iiz, i_ll, i_llz, i_lli, i_li, i_i, i_l, i_i2l, i_l2i, i_dup, i_dup2, i_dup2w, i_dupx1, i_pop, i_pop2, i_goto, i_ifc, i_icmp, i_getI, i_getL, i_getR, i_putI, i_putZ, i_putL, i_putR, i_aldI, i_aldB, i_aldL, i_aldD, i_astI, i_astL, i_astD, i_alen, i_ret, i_iret, i_zret, i_lret, i_fret, i_dret, i_aret, i_invS0, i_invV0, i_m2, i_m1, i_ml, i_obj, lk, lkp, stf1, stf2, Value.category, rV, xTo, lv_args, xCk, xCat, xRc, xAk, hg_S, hg_I, hg_J, hg_D, hg_R, hs_I, hs_J, hs_D, hs_R, uI_at, uJ_at, uD_at, uR_at, List.take_succ_cons, List.take_zero, List.drop_succ_cons, List.drop_zero, List.reverse_cons, List.reverse_nil, List.nil_append, List.cons_append, List.map_cons, List.map_nil, List.sum_cons, List.sum_nil, List.length_cons, List.length_nil, Option.toList_some, Option.toList_none, true_and, and_true, false_and, and_false, true_implies, false_implies, implies_true, not_true_eq_false, not_false_eq_true, ne_eq, if_true, if_false, Bool.and_true, Bool.true_and, decide_true, decide_false, reduceIte, reduceCtorEq, Bool.and_self, Bool.and_eq_true, decide_eq_true_eq, and_self, true_or, or_true, false_or, or_false, Nat.zero_add, Nat.add_zero, eq_self, Nat.reduceEqDiff, Nat.reduceLeDiff, Nat.reduceLT, Nat.reduceAdd, Nat.reduceSub, Nat.reduceMul, LC_out hL, hJ, R51 hL hC hn hs]
theorem R255 {n : Nat} (hL : LM S R) (hC : I 300 10 = nI n) (hn : n ≤ 64) {s : Nat} (hJ : J 200 3 = lN s) (hs : s < 2 ^ 64) : xRun xT 255 0 [(0, .ref 200)] [] (S, I, J, D, R) b Q = Q (.ok (some (.int (mg n s)))) (S, uI I 200 19 0, J, D, R) b := by
  rw [e255_0]
  simp only [B255_0, xSeq, i_push, i_load, i_iload, i_lload, i_dload, i_aload, i_istore, i_astore, i_lstore, i_dstore, i_iinc, i_ii, i_iiz, i_ll, i_llz, i_lli, i_li, i_i, i_l, i_i2l, i_l2i, i_dup, i_dup2, i_dup2w, i_dupx1, i_pop, i_pop2, i_goto, i_ifc, i_icmp, i_getI, i_getL, i_getR, i_putI, i_putZ, i_putL, i_putR, i_aldI, i_aldB, i_aldL, i_aldD, i_astI, i_astL, i_astD, i_alen, i_ret, i_iret, i_zret, i_lret, i_fret, i_dret, i_aret, i_invS0, i_invV0, i_m2, i_m1, i_ml, i_obj, lk, lkp, stf1, stf2, Value.category, rV, xTo, lv_args, xCk, xCat, xRc, xAk, hg_S, hg_I, hg_J, hg_D, hg_R, hs_I, hs_J, hs_D, hs_R, uI_at, uJ_at, uD_at, uR_at, List.take_succ_cons, List.take_zero, List.drop_succ_cons, List.drop_zero, List.reverse_cons, List.reverse_nil, List.nil_append, List.cons_append, List.map_cons, List.map_nil, List.sum_cons, List.sum_nil, List.length_cons, List.length_nil, Option.toList_some, Option.toList_none, true_and, and_true, false_and, and_false, true_implies, false_implies, implies_true, not_true_eq_false, not_false_eq_true, ne_eq, if_true, if_false, Bool.and_true, Bool.true_and, decide_true, decide_false, reduceIte, reduceCtorEq, Bool.and_self, Bool.and_eq_true, decide_eq_true_eq, and_self, true_or, or_true, false_or, or_false, Nat.zero_add, Nat.add_zero, eq_self, Nat.reduceEqDiff, Nat.reduceLeDiff, Nat.reduceLT, Nat.reduceAdd, Nat.reduceSub, Nat.reduceMul, LM_out hL, hJ, R251 (I := uI I 200 19 0) hL (n := n) (by simp only [uI_at, true_and, and_true, false_and, and_false, true_implies, false_implies, implies_true, not_true_eq_false, not_false_eq_true, ne_eq, if_true, if_false, Bool.and_true, Bool.true_and, decide_true, decide_false, reduceIte, reduceCtorEq, Bool.and_self, Bool.and_eq_true, decide_eq_true_eq, and_self, true_or, or_true, false_or, or_false, Nat.zero_add, Nat.add_zero, eq_self, Nat.reduceEqDiff, Nat.reduceLeDiff, Nat.reduceLT, Nat.reduceAdd, Nat.reduceSub, Nat.reduceMul]; exact hC) hn hs]
end
