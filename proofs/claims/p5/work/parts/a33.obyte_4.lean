/-! ===== printTable of the model, outputByte: printed by a33.obyte.py ===== -/
section
variable {S : xS} {I : xI} {J : xJ} {D : xDb} {R : xR} {b : Nat × Nat} {Q : xQ} {z : xA} {N : Nat}
theorem KM60d (w : WA N z) (hn : gn z.1 ≤ 16) {u : Int32} {y : Nat} (hu : rg u 0 2 = true) (hv : rg (nI y) 2 30 = true) (y1 : 2 ≤ y) (y2 : y ≤ 30) : MC 328 [(0, .ref 200), (1, .int u), (2, .int (nI y))] z z (fun r I _ _ => r = some (.int (nI (tl (eG z.1 z.2.1) (gn z.1) y u (y - 1)))) ∧ I 200 19 = 0) := by
  intro S I J D R b Q h kk
  obtain ⟨hM, hD, hG, ⟨i2, i3, i4, i5, i6, i7, j3, j4⟩, i16, ⟨s1, s2, s3⟩, ⟨n0, n1, n2, n3⟩⟩ := AM_o h w
  have h9 := AM_19 h 0
  have e205 := fun (S : xS) (I : xI) (J : xJ) (D : xDb) (R : xR) (Q : xQ) => R205 (S := S) (I := I) (J := J) (D := D) (R := R) (b := (0, 0)) (Q := Q) (x := u) (l := 0) (h := 2) (lo := 0) (hi := 2) rfl rfl
  have e206 := fun (S : xS) (I : xI) (J : xJ) (D : xDb) (R : xR) (Q : xQ) => R205 (S := S) (I := I) (J := J) (D := D) (R := R) (b := (0, 0)) (Q := Q) (x := (nI y)) (l := 2) (h := 30) (lo := 2) (hi := 30) rfl rfl
  rw [e328_0]
  simp only [B328_0, xSeq, i_push, i_load, i_iload, i_lload, i_dload, i_aload, i_istore, i_astore, i_lstore, i_dstore, i_iinc, i_ii, i_iiz, i_ll, i_llz, i_lli, i_li, i_i, i_l, i_i2l, i_l2i, i_dup, i_dup2, i_dup2w, i_dupx1, i_pop, i_pop2, i_goto, i_ifc, i_icmp, i_getI, i_getL, i_getR, i_putI, i_putZ, i_putL, i_putR, i_aldI, i_aldB, i_aldL, i_aldD, i_astI, i_astL, i_astD, i_alen, i_ret, i_iret, i_zret, i_lret, i_fret, i_dret, i_aret, i_invS0, i_invV0, i_m2, i_m1, i_ml, i_obj, lk, lkp, stf1, stf2, Value.category, rV, xTo, lv_args, xCk, xCat, xRc, xAk, hg_S, hg_I, hg_J, hg_D, hg_R, hs_I, hs_J, hs_D, hs_R, uI_at, uJ_at, uD_at, uR_at, List.take_succ_cons, List.take_zero, List.drop_succ_cons, List.drop_zero, List.reverse_cons, List.reverse_nil, List.nil_append, List.cons_append, List.map_cons, List.map_nil, List.sum_cons, List.sum_nil, List.length_cons, List.length_nil, Option.toList_some, Option.toList_none, true_and, and_true, false_and, and_false, true_implies, false_implies, implies_true, not_true_eq_false, not_false_eq_true, ne_eq, if_true, if_false, Bool.and_true, Bool.true_and, decide_true, decide_false, reduceIte, reduceCtorEq, Bool.and_self, Bool.and_eq_true, decide_eq_true_eq, and_self, true_or, or_true, false_or, or_false, Nat.zero_add, Nat.add_zero, eq_self, Nat.reduceEqDiff, Nat.reduceLeDiff, Nat.reduceLT, Nat.reduceAdd, Nat.reduceSub, Nat.reduceMul, LM_out hM, i1_0, i2_0, i3_0, R301 (I := uI I 200 19 0) hM hD.1 hn, e328_54, B328_54, e205, e206, hu, hv, ne_eq, not_false_eq_true, e328_36, B328_36, e328_37, B328_37, R234 hM (v := 0) (Or.inl rfl)]
  refine K302 h9 w hn (fun I2 h3 hK fr t19 => ?_)
  have fr2 := frM_tr (frM_19 (J := J) 0) fr
  obtain ⟨-, y49, y50, yg, yw⟩ := id hK
  have hD2 := h3.2.1.1
  have hB := eG_B w hn
  have hK1 : XM (gn z.1) (eG z.1 z.2.1) (uI I2 200 59 0) := hK
  have hl := tl_15 (E := eG z.1 z.2.1) (n := gn z.1) (w := u) y (y - 1) (by omega)
  simp only [xSeq, i_push, i_load, i_iload, i_lload, i_dload, i_aload, i_istore, i_astore, i_lstore, i_dstore, i_iinc, i_ii, i_iiz, i_ll, i_llz, i_lli, i_li, i_i, i_l, i_i2l, i_l2i, i_dup, i_dup2, i_dup2w, i_dupx1, i_pop, i_pop2, i_goto, i_ifc, i_icmp, i_getI, i_getL, i_getR, i_putI, i_putZ, i_putL, i_putR, i_aldI, i_aldB, i_aldL, i_aldD, i_astI, i_astL, i_astD, i_alen, i_ret, i_iret, i_zret, i_lret, i_fret, i_dret, i_aret, i_invS0, i_invV0, i_m2, i_m1, i_ml, i_obj, lk, lkp, stf1, stf2, Value.category, rV, xTo, lv_args, xCk, xCat, xRc, xAk, hg_S, hg_I, hg_J, hg_D, hg_R, hs_I, hs_J, hs_D, hs_R, uI_at, uJ_at, uD_at, uR_at, List.take_succ_cons, List.take_zero, List.drop_succ_cons, List.drop_zero, List.reverse_cons, List.reverse_nil, List.nil_append, List.cons_append, List.map_cons, List.map_nil, List.sum_cons, List.sum_nil, List.length_cons, List.length_nil, Option.toList_some, Option.toList_none, true_and, and_true, false_and, and_false, true_implies, false_implies, implies_true, not_true_eq_false, not_false_eq_true, ne_eq, if_true, if_false, Bool.and_true, Bool.true_and, decide_true, decide_false, reduceIte, reduceCtorEq, Bool.and_self, Bool.and_eq_true, decide_eq_true_eq, and_self, true_or, or_true, false_or, or_false, Nat.zero_add, Nat.add_zero, eq_self, Nat.reduceEqDiff, Nat.reduceLeDiff, Nat.reduceLT, Nat.reduceAdd, Nat.reduceSub, Nat.reduceMul, LM_out hM]
  refine L328_65 (I0 := uI I2 200 59 0) (y := y) hM hK1 hB (eG_PQ w hn) hu y2 (fun I5 D5 h5 => ?_) (y - 1) 0 _ _ (by omega) ⟨rfl, fun _ _ _ _ => rfl⟩
  obtain ⟨h7, fr7⟩ := AM_om h3 h5 (by omega)
  exact kk _ I5 J _ ⟨rfl, (h5.2 _ _ (by decide) (by decide)).trans t19⟩ h7 (frM_tr fr2 fr7)
theorem i32_of (v : Int32) : ∃ k : Nat, v = nI k := ⟨v.toBitVec.toNat, Int32.toBitVec_inj.mp (by
  show v.toBitVec = BitVec.ofNat 32 v.toBitVec.toNat
  simp)⟩
theorem and255 (v : Int32) : ∃ k : Nat, k < 256 ∧ v &&& 255 = nI k := by
  obtain ⟨k, rfl⟩ := i32_of v
  exact ⟨k &&& 255, Nat.lt_succ_of_le Nat.and_le_right, by rw [show (255 : Int32) = nI 255 from rfl, i_andN]⟩
theorem chr_all : ∀ k, k < 256 → (jI2c (nI k)).toUInt32.toUInt16.toUInt32.toInt32 = jI2c (nI k) := by decide +kernel
theorem chr_ok {k : Nat} (h : k < 256) : narrow .char (.int (jI2c (nI k))) = .int (jI2c (nI k)) := congrArg Value.int (chr_all k h)
theorem W13 {a c : Nat} {v : Value} (h : a < c) (hc : c < 2147483648) : xRun xT 13 0 [(0, .int (nI a)), (1, .int (nI c)), (2, v)] [] (S, I, J, D, R) b Q = Q (.ok (some (.int (nI a)))) (S, I, J, D, R) b := by
  have e1 : (nI a < 0) = False := eq_false (nI_pos (by omega))
  have e2 : (nI a < nI c) = True := by rw [nI_ltP (by omega) hc]; exact eq_true h
  rw [e13_0]
  simp only [B13_0, xSeq, i_push, i_load, i_iload, i_lload, i_dload, i_aload, i_istore, i_astore, i_lstore, i_dstore, i_iinc, i_ii, i_iiz, i_ll, i_llz, i_lli, i_li, i_i, i_l, i_i2l, i_l2i, i_dup, i_dup2, i_dup2w, i_dupx1, i_pop, i_pop2, i_goto, i_ifc, i_icmp, i_getI, i_getL, i_getR, i_putI, i_putZ, i_putL, i_putR, i_aldI, i_aldB, i_aldL, i_aldD, i_astI, i_astL, i_astD, i_alen, i_ret, i_iret, i_zret, i_lret, i_fret, i_dret, i_aret, i_invS0, i_invV0, i_m2, i_m1, i_ml, i_obj, lk, lkp, stf1, stf2, Value.category, rV, xTo, lv_args, xCk, xCat, xRc, xAk, hg_S, hg_I, hg_J, hg_D, hg_R, hs_I, hs_J, hs_D, hs_R, uI_at, uJ_at, uD_at, uR_at, List.take_succ_cons, List.take_zero, List.drop_succ_cons, List.drop_zero, List.reverse_cons, List.reverse_nil, List.nil_append, List.cons_append, List.map_cons, List.map_nil, List.sum_cons, List.sum_nil, List.length_cons, List.length_nil, Option.toList_some, Option.toList_none, true_and, and_true, false_and, and_false, true_implies, false_implies, implies_true, not_true_eq_false, not_false_eq_true, ne_eq, if_true, if_false, Bool.and_true, Bool.true_and, decide_true, decide_false, reduceIte, reduceCtorEq, Bool.and_self, Bool.and_eq_true, decide_eq_true_eq, and_self, true_or, or_true, false_or, or_false, Nat.zero_add, Nat.add_zero, eq_self, Nat.reduceEqDiff, Nat.reduceLeDiff, Nat.reduceLT, Nat.reduceAdd, Nat.reduceSub, Nat.reduceMul, e1, e2, e13_16, B13_16]
theorem W11 {a c : Nat} (h : a < c) (hc : c < 2147483648) (kk : Q (.ok none) (S, I, J, D, R) b) : xRun xT 11 0 [(0, .int (nI a)), (1, .int (nI c))] [] (S, I, J, D, R) b Q := by
  rw [e11_0]
  simp only [B11_0, xSeq, i_push, i_load, i_iload, i_lload, i_dload, i_aload, i_istore, i_astore, i_lstore, i_dstore, i_iinc, i_ii, i_iiz, i_ll, i_llz, i_lli, i_li, i_i, i_l, i_i2l, i_l2i, i_dup, i_dup2, i_dup2w, i_dupx1, i_pop, i_pop2, i_goto, i_ifc, i_icmp, i_getI, i_getL, i_getR, i_putI, i_putZ, i_putL, i_putR, i_aldI, i_aldB, i_aldL, i_aldD, i_astI, i_astL, i_astD, i_alen, i_ret, i_iret, i_zret, i_lret, i_fret, i_dret, i_aret, i_invS0, i_invV0, i_m2, i_m1, i_ml, i_obj, lk, lkp, stf1, stf2, Value.category, rV, xTo, lv_args, xCk, xCat, xRc, xAk, hg_S, hg_I, hg_J, hg_D, hg_R, hs_I, hs_J, hs_D, hs_R, uI_at, uJ_at, uD_at, uR_at, List.take_succ_cons, List.take_zero, List.drop_succ_cons, List.drop_zero, List.reverse_cons, List.reverse_nil, List.nil_append, List.cons_append, List.map_cons, List.map_nil, List.sum_cons, List.sum_nil, List.length_cons, List.length_nil, Option.toList_some, Option.toList_none, true_and, and_true, false_and, and_false, true_implies, false_implies, implies_true, not_true_eq_false, not_false_eq_true, ne_eq, if_true, if_false, Bool.and_true, Bool.true_and, decide_true, decide_false, reduceIte, reduceCtorEq, Bool.and_self, Bool.and_eq_true, decide_eq_true_eq, and_self, true_or, or_true, false_or, or_false, Nat.zero_add, Nat.add_zero, eq_self, Nat.reduceEqDiff, Nat.reduceLeDiff, Nat.reduceLT, Nat.reduceAdd, Nat.reduceSub, Nat.reduceMul, i_gsq]
  intro v hv
  rcases hv with rfl | rfl
  · simp only [xSeq, i_push, i_load, i_iload, i_lload, i_dload, i_aload, i_istore, i_astore, i_lstore, i_dstore, i_iinc, i_ii, i_iiz, i_ll, i_llz, i_lli, i_li, i_i, i_l, i_i2l, i_l2i, i_dup, i_dup2, i_dup2w, i_dupx1, i_pop, i_pop2, i_goto, i_ifc, i_icmp, i_getI, i_getL, i_getR, i_putI, i_putZ, i_putL, i_putR, i_aldI, i_aldB, i_aldL, i_aldD, i_astI, i_astL, i_astD, i_alen, i_ret, i_iret, i_zret, i_lret, i_fret, i_dret, i_aret, i_invS0, i_invV0, i_m2, i_m1, i_ml, i_obj, lk, lkp, stf1, stf2, Value.category, rV, xTo, lv_args, xCk, xCat, xRc, xAk, hg_S, hg_I, hg_J, hg_D, hg_R, hs_I, hs_J, hs_D, hs_R, uI_at, uJ_at, uD_at, uR_at, List.take_succ_cons, List.take_zero, List.drop_succ_cons, List.drop_zero, List.reverse_cons, List.reverse_nil, List.nil_append, List.cons_append, List.map_cons, List.map_nil, List.sum_cons, List.sum_nil, List.length_cons, List.length_nil, Option.toList_some, Option.toList_none, true_and, and_true, false_and, and_false, true_implies, false_implies, implies_true, not_true_eq_false, not_false_eq_true, ne_eq, if_true, if_false, Bool.and_true, Bool.true_and, decide_true, decide_false, reduceIte, reduceCtorEq, Bool.and_self, Bool.and_eq_true, decide_eq_true_eq, and_self, true_or, or_true, false_or, or_false, Nat.zero_add, Nat.add_zero, eq_self, Nat.reduceEqDiff, Nat.reduceLeDiff, Nat.reduceLT, Nat.reduceAdd, Nat.reduceSub, Nat.reduceMul, W13 h hc]
    exact kk
  · simp only [xSeq, i_push, i_load, i_iload, i_lload, i_dload, i_aload, i_istore, i_astore, i_lstore, i_dstore, i_iinc, i_ii, i_iiz, i_ll, i_llz, i_lli, i_li, i_i, i_l, i_i2l, i_l2i, i_dup, i_dup2, i_dup2w, i_dupx1, i_pop, i_pop2, i_goto, i_ifc, i_icmp, i_getI, i_getL, i_getR, i_putI, i_putZ, i_putL, i_putR, i_aldI, i_aldB, i_aldL, i_aldD, i_astI, i_astL, i_astD, i_alen, i_ret, i_iret, i_zret, i_lret, i_fret, i_dret, i_aret, i_invS0, i_invV0, i_m2, i_m1, i_ml, i_obj, lk, lkp, stf1, stf2, Value.category, rV, xTo, lv_args, xCk, xCat, xRc, xAk, hg_S, hg_I, hg_J, hg_D, hg_R, hs_I, hs_J, hs_D, hs_R, uI_at, uJ_at, uD_at, uR_at, List.take_succ_cons, List.take_zero, List.drop_succ_cons, List.drop_zero, List.reverse_cons, List.reverse_nil, List.nil_append, List.cons_append, List.map_cons, List.map_nil, List.sum_cons, List.sum_nil, List.length_cons, List.length_nil, Option.toList_some, Option.toList_none, true_and, and_true, false_and, and_false, true_implies, false_implies, implies_true, not_true_eq_false, not_false_eq_true, ne_eq, if_true, if_false, Bool.and_true, Bool.true_and, decide_true, decide_false, reduceIte, reduceCtorEq, Bool.and_self, Bool.and_eq_true, decide_eq_true_eq, and_self, true_or, or_true, false_or, or_false, Nat.zero_add, Nat.add_zero, eq_self, Nat.reduceEqDiff, Nat.reduceLeDiff, Nat.reduceLT, Nat.reduceAdd, Nat.reduceSub, Nat.reduceMul, W13 h hc]
    exact kk
theorem KC61 {v : Int32} (w : WA N z) : CC 0 144 [(0, .ref 100), (1, .int v)] z z (fun r _ _ => ∃ c, r = some (.int c)) := by
  intro P f S I J D R h hw hf
  obtain ⟨hL, hC, hG, ⟨i6, i7, i8, i9, i10, i11, j4, j5⟩, j102, i111, ⟨s1, s2, s3⟩, ⟨n0, n1, n2, n3⟩⟩ := AC_o h w
  obtain ⟨v0, cap, cnt, t1, t2, t3, t4, t6, t8⟩ : ∃ v cap cnt, R 140 0 = some v ∧ S v = (103, cap) ∧ I 140 1 = 0 ∧ I 140 3 = nI cnt ∧ cnt ≤ cap ∧ cap ≤ 2002 := by
    obtain ⟨a1, ⟨a2, a3, a4, a5⟩, a6, ⟨a7, a8⟩, ⟨a9, a10, a11, a12⟩, a13, p1, p2, p3, p4, p5, q0, q1, q2, q3, q4, ⟨v, cap, cnt, t1, t2, t3, t4, t5, t6, t7, t8, t9, t10⟩, u1, u2, u3⟩ := h
    exact ⟨v, cap, cnt, t1, t2, t3, t4, t6, t8⟩
  refine ⟨P, Nat.le_refl P, fun _ => rfl, fun b Q b1 b2 kk => ?_⟩
  have fin : ∀ c, Q (.ok (some (.int c))) (S, I, J, D, R) b := fun c => kk _ S I J D R f b ⟨c, rfl⟩ h frC_rfl (by omega)
  have ak : ((100 ≤ 103 ∧ 103 < 106) ∨ 103 = 107 ∨ 103 = 108) = True := eq_true (by decide)
  rw [e144_0]
  rcases pk_ix v (n := cnt) (by omega) with hv | hv | ⟨t, ht, rfl⟩
  · simp only [B144_0, xSeq, i_push, i_load, i_iload, i_lload, i_dload, i_aload, i_istore, i_astore, i_lstore, i_dstore, i_iinc, i_ii, i_iiz, i_ll, i_llz, i_lli, i_li, i_i, i_l, i_i2l, i_l2i, i_dup, i_dup2, i_dup2w, i_dupx1, i_pop, i_pop2, i_goto, i_ifc, i_icmp, i_getI, i_getL, i_getR, i_putI, i_putZ, i_putL, i_putR, i_aldI, i_aldB, i_aldL, i_aldD, i_astI, i_astL, i_astD, i_alen, i_ret, i_iret, i_zret, i_lret, i_fret, i_dret, i_aret, i_invS0, i_invV0, i_m2, i_m1, i_ml, i_obj, lk, lkp, stf1, stf2, Value.category, rV, xTo, lv_args, xCk, xCat, xRc, xAk, hg_S, hg_I, hg_J, hg_D, hg_R, hs_I, hs_J, hs_D, hs_R, uI_at, uJ_at, uD_at, uR_at, List.take_succ_cons, List.take_zero, List.drop_succ_cons, List.drop_zero, List.reverse_cons, List.reverse_nil, List.nil_append, List.cons_append, List.map_cons, List.map_nil, List.sum_cons, List.sum_nil, List.length_cons, List.length_nil, Option.toList_some, Option.toList_none, true_and, and_true, false_and, and_false, true_implies, false_implies, implies_true, not_true_eq_false, not_false_eq_true, ne_eq, if_true, if_false, Bool.and_true, Bool.true_and, decide_true, decide_false, reduceIte, reduceCtorEq, Bool.and_self, Bool.and_eq_true, decide_eq_true_eq, and_self, true_or, or_true, false_or, or_false, Nat.zero_add, Nat.add_zero, eq_self, Nat.reduceEqDiff, Nat.reduceLeDiff, Nat.reduceLT, Nat.reduceAdd, Nat.reduceSub, Nat.reduceMul, eq_true hv, e144_15, B144_15]
    exact fin _
  · have h1 : (v < nI cnt) = False := eq_false (Int32.not_lt.mpr hv)
    have h2 : (v < 0) = False := eq_false (fun e => by
      have a := Int32.lt_iff_toInt_lt.mp e
      have c := Int32.le_iff_toInt_le.mp hv
      rw [nI_toInt (by omega)] at c
      have : (0 : Int32).toInt = 0 := rfl
      omega)
    simp only [B144_0, xSeq, i_push, i_load, i_iload, i_lload, i_dload, i_aload, i_istore, i_astore, i_lstore, i_dstore, i_iinc, i_ii, i_iiz, i_ll, i_llz, i_lli, i_li, i_i, i_l, i_i2l, i_l2i, i_dup, i_dup2, i_dup2w, i_dupx1, i_pop, i_pop2, i_goto, i_ifc, i_icmp, i_getI, i_getL, i_getR, i_putI, i_putZ, i_putL, i_putR, i_aldI, i_aldB, i_aldL, i_aldD, i_astI, i_astL, i_astD, i_alen, i_ret, i_iret, i_zret, i_lret, i_fret, i_dret, i_aret, i_invS0, i_invV0, i_m2, i_m1, i_ml, i_obj, lk, lkp, stf1, stf2, Value.category, rV, xTo, lv_args, xCk, xCat, xRc, xAk, hg_S, hg_I, hg_J, hg_D, hg_R, hs_I, hs_J, hs_D, hs_R, uI_at, uJ_at, uD_at, uR_at, List.take_succ_cons, List.take_zero, List.drop_succ_cons, List.drop_zero, List.reverse_cons, List.reverse_nil, List.nil_append, List.cons_append, List.map_cons, List.map_nil, List.sum_cons, List.sum_nil, List.length_cons, List.length_nil, Option.toList_some, Option.toList_none, true_and, and_true, false_and, and_false, true_implies, false_implies, implies_true, not_true_eq_false, not_false_eq_true, ne_eq, if_true, if_false, Bool.and_true, Bool.true_and, decide_true, decide_false, reduceIte, reduceCtorEq, Bool.and_self, Bool.and_eq_true, decide_eq_true_eq, and_self, true_or, or_true, false_or, or_false, Nat.zero_add, Nat.add_zero, eq_self, Nat.reduceEqDiff, Nat.reduceLeDiff, Nat.reduceLT, Nat.reduceAdd, Nat.reduceSub, Nat.reduceMul, LC_out hL, h1, h2, e32_0, B32_0, e33_0, B33_0, t4, e144_15, B144_15]
    exact fin _
  · have h1 : (nI t < nI cnt) = True := by rw [nI_ltP (by omega) (by omega)]; exact eq_true ht
    have h2 : (nI t < 0) = False := eq_false (nI_pos (by omega))
    have e5 : jMin (nI cnt) (nI cap) = nI cnt := by
      unfold jMin
      split
      · rename_i e
        rw [nI_ltP (by omega) (by omega)] at e
        omega
      · rfl
    obtain ⟨j, hj, ej⟩ := and255 (I v0 t)
    simp only [B144_0, xSeq, i_push, i_load, i_iload, i_lload, i_dload, i_aload, i_istore, i_astore, i_lstore, i_dstore, i_iinc, i_ii, i_iiz, i_ll, i_llz, i_lli, i_li, i_i, i_l, i_i2l, i_l2i, i_dup, i_dup2, i_dup2w, i_dupx1, i_pop, i_pop2, i_goto, i_ifc, i_icmp, i_getI, i_getL, i_getR, i_putI, i_putZ, i_putL, i_putR, i_aldI, i_aldB, i_aldL, i_aldD, i_astI, i_astL, i_astD, i_alen, i_ret, i_iret, i_zret, i_lret, i_fret, i_dret, i_aret, i_invS0, i_invV0, i_m2, i_m1, i_ml, i_obj, lk, lkp, stf1, stf2, Value.category, rV, xTo, lv_args, xCk, xCat, xRc, xAk, hg_S, hg_I, hg_J, hg_D, hg_R, hs_I, hs_J, hs_D, hs_R, uI_at, uJ_at, uD_at, uR_at, List.take_succ_cons, List.take_zero, List.drop_succ_cons, List.drop_zero, List.reverse_cons, List.reverse_nil, List.nil_append, List.cons_append, List.map_cons, List.map_nil, List.sum_cons, List.sum_nil, List.length_cons, List.length_nil, Option.toList_some, Option.toList_none, true_and, and_true, false_and, and_false, true_implies, false_implies, implies_true, not_true_eq_false, not_false_eq_true, ne_eq, if_true, if_false, Bool.and_true, Bool.true_and, decide_true, decide_false, reduceIte, reduceCtorEq, Bool.and_self, Bool.and_eq_true, decide_eq_true_eq, and_self, true_or, or_true, false_or, or_false, Nat.zero_add, Nat.add_zero, eq_self, Nat.reduceEqDiff, Nat.reduceLeDiff, Nat.reduceLT, Nat.reduceAdd, Nat.reduceSub, Nat.reduceMul, LC_out hL, h1, h2, e32_0, B32_0, e33_0, B33_0, t4, e144_17, B144_17, e34_0, B34_0]
    rw [e35_0]
    simp only [B35_0, xSeq, i_push, i_load, i_iload, i_lload, i_dload, i_aload, i_istore, i_astore, i_lstore, i_dstore, i_iinc, i_ii, i_iiz, i_ll, i_llz, i_lli, i_li, i_i, i_l, i_i2l, i_l2i, i_dup, i_dup2, i_dup2w, i_dupx1, i_pop, i_pop2, i_goto, i_ifc, i_icmp, i_getI, i_getL, i_getR, i_putI, i_putZ, i_putL, i_putR, i_aldI, i_aldB, i_aldL, i_aldD, i_astI, i_astL, i_astD, i_alen, i_ret, i_iret, i_zret, i_lret, i_fret, i_dret, i_aret, i_invS0, i_invV0, i_m2, i_m1, i_ml, i_obj, lk, lkp, stf1, stf2, Value.category, rV, xTo, lv_args, xCk, xCat, xRc, xAk, hg_S, hg_I, hg_J, hg_D, hg_R, hs_I, hs_J, hs_D, hs_R, uI_at, uJ_at, uD_at, uR_at, List.take_succ_cons, List.take_zero, List.drop_succ_cons, List.drop_zero, List.reverse_cons, List.reverse_nil, List.nil_append, List.cons_append, List.map_cons, List.map_nil, List.sum_cons, List.sum_nil, List.length_cons, List.length_nil, Option.toList_some, Option.toList_none, true_and, and_true, false_and, and_false, true_implies, false_implies, implies_true, not_true_eq_false, not_false_eq_true, ne_eq, if_true, if_false, Bool.and_true, Bool.true_and, decide_true, decide_false, reduceIte, reduceCtorEq, Bool.and_self, Bool.and_eq_true, decide_eq_true_eq, and_self, true_or, or_true, false_or, or_false, Nat.zero_add, Nat.add_zero, eq_self, Nat.reduceEqDiff, Nat.reduceLeDiff, Nat.reduceLT, Nat.reduceAdd, Nat.reduceSub, Nat.reduceMul, LC_out hL, t1, t2, t3, t4, ak, shr0, i_m2, e5]
    refine W11 ht (by omega) ?_
    simp only [xSeq, i_push, i_load, i_iload, i_lload, i_dload, i_aload, i_istore, i_astore, i_lstore, i_dstore, i_iinc, i_ii, i_iiz, i_ll, i_llz, i_lli, i_li, i_i, i_l, i_i2l, i_l2i, i_dup, i_dup2, i_dup2w, i_dupx1, i_pop, i_pop2, i_goto, i_ifc, i_icmp, i_getI, i_getL, i_getR, i_putI, i_putZ, i_putL, i_putR, i_aldI, i_aldB, i_aldL, i_aldD, i_astI, i_astL, i_astD, i_alen, i_ret, i_iret, i_zret, i_lret, i_fret, i_dret, i_aret, i_invS0, i_invV0, i_m2, i_m1, i_ml, i_obj, lk, lkp, stf1, stf2, Value.category, rV, xTo, lv_args, xCk, xCat, xRc, xAk, hg_S, hg_I, hg_J, hg_D, hg_R, hs_I, hs_J, hs_D, hs_R, uI_at, uJ_at, uD_at, uR_at, List.take_succ_cons, List.take_zero, List.drop_succ_cons, List.drop_zero, List.reverse_cons, List.reverse_nil, List.nil_append, List.cons_append, List.map_cons, List.map_nil, List.sum_cons, List.sum_nil, List.length_cons, List.length_nil, Option.toList_some, Option.toList_none, true_and, and_true, false_and, and_false, true_implies, false_implies, implies_true, not_true_eq_false, not_false_eq_true, ne_eq, if_true, if_false, Bool.and_true, Bool.true_and, decide_true, decide_false, reduceIte, reduceCtorEq, Bool.and_self, Bool.and_eq_true, decide_eq_true_eq, and_self, true_or, or_true, false_or, or_false, Nat.zero_add, Nat.add_zero, eq_self, Nat.reduceEqDiff, Nat.reduceLeDiff, Nat.reduceLT, Nat.reduceAdd, Nat.reduceSub, Nat.reduceMul, LC_out hL, t1, t2, t3, t4, ak, nI_inP (show t < cap by omega) (by omega), nI_ix (show t < 2147483648 by omega), ej, i_nret, chr_ok hj]
    exact fin _
theorem KM61 {v : Int32} (w : WA N z) : MC 330 [(0, .ref 200), (1, .int v)] z z (fun r _ _ _ => ∃ c, r = some (.int c)) := by
  intro S I J D R b Q h kk
  obtain ⟨hM, hD, hG, ⟨i2, i3, i4, i5, i6, i7, j3, j4⟩, i16, ⟨s1, s2, s3⟩, ⟨n0, n1, n2, n3⟩⟩ := AM_o h w
  have h9 := AM_19 h 0
  have fin : ∀ c, Q (.ok (some (.int c))) (S, uI I 200 19 0, J, D, R) b := fun c => kk _ _ J D ⟨c, rfl⟩ h9 (frM_19 0)
  obtain ⟨u, u1, u2⟩ := h.2.2.2.2.2.2
  have eh : (nI u - 1).toInt64 = (nI u - 1).toInt64 := rfl
  have e205 := fun (S : xS) (I : xI) (J : xJ) (D : xDb) (R : xR) (Q : xQ) => R205 (S := S) (I := I) (J := J) (D := D) (R := R) (b := (0, 0)) (Q := Q) (x := v) (l := 0) (h := nI u - 1) (lo := 0) (hi := (nI u - 1).toInt64) rfl rfl
  rw [e330_0]
  simp only [B330_0, xSeq, i_push, i_load, i_iload, i_lload, i_dload, i_aload, i_istore, i_astore, i_lstore, i_dstore, i_iinc, i_ii, i_iiz, i_ll, i_llz, i_lli, i_li, i_i, i_l, i_i2l, i_l2i, i_dup, i_dup2, i_dup2w, i_dupx1, i_pop, i_pop2, i_goto, i_ifc, i_icmp, i_getI, i_getL, i_getR, i_putI, i_putZ, i_putL, i_putR, i_aldI, i_aldB, i_aldL, i_aldD, i_astI, i_astL, i_astD, i_alen, i_ret, i_iret, i_zret, i_lret, i_fret, i_dret, i_aret, i_invS0, i_invV0, i_m2, i_m1, i_ml, i_obj, lk, lkp, stf1, stf2, Value.category, rV, xTo, lv_args, xCk, xCat, xRc, xAk, hg_S, hg_I, hg_J, hg_D, hg_R, hs_I, hs_J, hs_D, hs_R, uI_at, uJ_at, uD_at, uR_at, List.take_succ_cons, List.take_zero, List.drop_succ_cons, List.drop_zero, List.reverse_cons, List.reverse_nil, List.nil_append, List.cons_append, List.map_cons, List.map_nil, List.sum_cons, List.sum_nil, List.length_cons, List.length_nil, Option.toList_some, Option.toList_none, true_and, and_true, false_and, and_false, true_implies, false_implies, implies_true, not_true_eq_false, not_false_eq_true, ne_eq, if_true, if_false, Bool.and_true, Bool.true_and, decide_true, decide_false, reduceIte, reduceCtorEq, Bool.and_self, Bool.and_eq_true, decide_eq_true_eq, and_self, true_or, or_true, false_or, or_false, Nat.zero_add, Nat.add_zero, eq_self, Nat.reduceEqDiff, Nat.reduceLeDiff, Nat.reduceLT, Nat.reduceAdd, Nat.reduceSub, Nat.reduceMul, LM_out hM, u1, e205]
  by_cases hr : rg v 0 (nI u - 1) = true
  · obtain ⟨j, hj, rfl⟩ : ∃ j, j < 800 ∧ v = nI j := by
      rcases pk_ix v (n := 800) (by decide) with hv | hv | ⟨t, ht, e⟩
      · exact absurd hr (fun e => by
          unfold rg at e
          simp only [Bool.and_eq_true, Bool.not_eq_true', decide_eq_false_iff_not] at e
          exact e.1 hv)
      · exact absurd hr (fun e => by
          unfold rg at e
          simp only [Bool.and_eq_true, Bool.not_eq_true', decide_eq_false_iff_not] at e
          have a := Int32.le_iff_toInt_le.mp hv
          have c := Int32.not_lt.mp e.2
          have c := Int32.le_iff_toInt_le.mp c
          rw [nI_toInt (by decide)] at a
          have c2 : (nI u - 1).toInt = u - 1 := by
            rw [Int32.toInt_sub, nI_toInt (by omega), show (1 : Int32).toInt = 1 from rfl, Int.bmod_eq_of_le (by omega) (by omega)]
          omega)
      · exact ⟨t, ht, e⟩
    simp only [hr, true_and, and_true, false_and, and_false, true_implies, false_implies, implies_true, not_true_eq_false, not_false_eq_true, ne_eq, if_true, if_false, Bool.and_true, Bool.true_and, decide_true, decide_false, reduceIte, reduceCtorEq, Bool.and_self, Bool.and_eq_true, decide_eq_true_eq, and_self, true_or, or_true, false_or, or_false, Nat.zero_add, Nat.add_zero, eq_self, Nat.reduceEqDiff, Nat.reduceLeDiff, Nat.reduceLT, Nat.reduceAdd, Nat.reduceSub, Nat.reduceMul, i1_0, xSeq, i_push, i_load, i_iload, i_lload, i_dload, i_aload, i_istore, i_astore, i_lstore, i_dstore, i_iinc, i_ii, i_iiz, i_ll, i_llz, i_lli, i_li, i_i, i_l, i_i2l, i_l2i, i_dup, i_dup2, i_dup2w, i_dupx1, i_pop, i_pop2, i_goto, i_ifc, i_icmp, i_getI, i_getL, i_getR, i_putI, i_putZ, i_putL, i_putR, i_aldI, i_aldB, i_aldL, i_aldD, i_astI, i_astL, i_astD, i_alen, i_ret, i_iret, i_zret, i_lret, i_fret, i_dret, i_aret, i_invS0, i_invV0, i_m2, i_m1, i_ml, i_obj, lk, lkp, stf1, stf2, Value.category, rV, xTo, lv_args, xCk, xCat, xRc, xAk, hg_S, hg_I, hg_J, hg_D, hg_R, hs_I, hs_J, hs_D, hs_R, uI_at, uJ_at, uD_at, uR_at, List.take_succ_cons, List.take_zero, List.drop_succ_cons, List.drop_zero, List.reverse_cons, List.reverse_nil, List.nil_append, List.cons_append, List.map_cons, List.map_nil, List.sum_cons, List.sum_nil, List.length_cons, List.length_nil, Option.toList_some, Option.toList_none, true_and, and_true, false_and, and_false, true_implies, false_implies, implies_true, not_true_eq_false, not_false_eq_true, ne_eq, if_true, if_false, Bool.and_true, Bool.true_and, decide_true, decide_false, reduceIte, reduceCtorEq, Bool.and_self, Bool.and_eq_true, decide_eq_true_eq, and_self, true_or, or_true, false_or, or_false, Nat.zero_add, Nat.add_zero, eq_self, Nat.reduceEqDiff, Nat.reduceLeDiff, Nat.reduceLT, Nat.reduceAdd, Nat.reduceSub, Nat.reduceMul, LM_out hM, nI_inP hj (show 800 < 2147483648 by decide), nI_ix (show j < 2147483648 by omega), e330_31, B330_31]
    exact fin _
  · have hr2 : rg v 0 (nI u - 1) = false := by simpa using hr
    simp only [hr2, Bool.false_eq_true, true_and, and_true, false_and, and_false, true_implies, false_implies, implies_true, not_true_eq_false, not_false_eq_true, ne_eq, if_true, if_false, Bool.and_true, Bool.true_and, decide_true, decide_false, reduceIte, reduceCtorEq, Bool.and_self, Bool.and_eq_true, decide_eq_true_eq, and_self, true_or, or_true, false_or, or_false, Nat.zero_add, Nat.add_zero, eq_self, Nat.reduceEqDiff, Nat.reduceLeDiff, Nat.reduceLT, Nat.reduceAdd, Nat.reduceSub, Nat.reduceMul, e330_30, B330_30, e330_31, B330_31, xSeq, i_push, i_load, i_iload, i_lload, i_dload, i_aload, i_istore, i_astore, i_lstore, i_dstore, i_iinc, i_ii, i_iiz, i_ll, i_llz, i_lli, i_li, i_i, i_l, i_i2l, i_l2i, i_dup, i_dup2, i_dup2w, i_dupx1, i_pop, i_pop2, i_goto, i_ifc, i_icmp, i_getI, i_getL, i_getR, i_putI, i_putZ, i_putL, i_putR, i_aldI, i_aldB, i_aldL, i_aldD, i_astI, i_astL, i_astD, i_alen, i_ret, i_iret, i_zret, i_lret, i_fret, i_dret, i_aret, i_invS0, i_invV0, i_m2, i_m1, i_ml, i_obj, lk, lkp, stf1, stf2, Value.category, rV, xTo, lv_args, xCk, xCat, xRc, xAk, hg_S, hg_I, hg_J, hg_D, hg_R, hs_I, hs_J, hs_D, hs_R, uI_at, uJ_at, uD_at, uR_at, List.take_succ_cons, List.take_zero, List.drop_succ_cons, List.drop_zero, List.reverse_cons, List.reverse_nil, List.nil_append, List.cons_append, List.map_cons, List.map_nil, List.sum_cons, List.sum_nil, List.length_cons, List.length_nil, Option.toList_some, Option.toList_none, true_and, and_true, false_and, and_false, true_implies, false_implies, implies_true, not_true_eq_false, not_false_eq_true, ne_eq, if_true, if_false, Bool.and_true, Bool.true_and, decide_true, decide_false, reduceIte, reduceCtorEq, Bool.and_self, Bool.and_eq_true, decide_eq_true_eq, and_self, true_or, or_true, false_or, or_false, Nat.zero_add, Nat.add_zero, eq_self, Nat.reduceEqDiff, Nat.reduceLeDiff, Nat.reduceLT, Nat.reduceAdd, Nat.reduceSub, Nat.reduceMul]
    exact fin _
end
/-! ===== what states stay so: printed by a34.wf.py ===== -/
section
variable {g : xGd} {x x' y : xSt} {sv : Option xSt} {k : Nat} {by' : Nat → Nat} {N : Nat} {z : xA}
theorem G_up (w : WA N z) : WA (N + 12800) z := WF_up w (by omega)
theorem SOK_w {M : Nat} (h : SOK g N x) (hm : N ≤ M) : SOK g M x := ⟨h.1, ⟨h.2.1.1, h.2.1.2.1, by obtain ⟨ta, a1, a2⟩ := h.2.1.2.2; exact ⟨ta, a1, by omega⟩⟩, h.2.2⟩
theorem G_x (w : WA N z) (h : SOK z.1 (N + 12800) x) : WA (N + 12800) (z.1, x, z.2.2) := ⟨w.1, h, fun y hy => SOK_w (w.2.2.1 y hy) (by omega), w.2.2.2⟩
theorem G23 (w : WA N z) {t : Nat} (ht : t < gn z.1) : WA (N + 12800) (z.1, toZ z.2.1 (zS z.1 z.2.1 t (stZ z.2.1)), z.2.2) := WF_up (WF_z (M := 1) w (zS_k ht (WF_zK w))) (by omega)
theorem G25 (w : WA N z) {K : Nat} (hK : K ≤ 200) : WA (N + 12800) (z.1, toZ z.2.1 (zV z.1 z.2.1 K (stZ z.2.1)), z.2.2) := WF_up (WF_z (M := K * gn z.1) w (zV_k (WF_zK w))) (by
  have : K * gn z.1 ≤ 200 * 64 := Nat.mul_le_mul hK (gn_bd w.1).2.1
  omega)
theorem G24 (w : WA N z) {K : Nat} (hK : K ≤ 1000) : WA (N + 12800) (z.1, toZ z.2.1 (zDD z.1 z.2.1 K (stZ z.2.1)), z.2.2) := WF_up (WF_z (M := K) w (zD_k (gn_bd w.1).1 (WF_zK w))) (by omega)
theorem G9 (w : WA N z) {v : Int32} (hv : rg v (-3) 3 = true) : WA (N + 12800) (z.1, mkS (stS z.2.1) v (stA z.2.1) (stB z.2.1) (stR z.2.1) (stZ z.2.1) (stK z.2.1) (stC z.2.1) (stE z.2.1), z.2.2) :=
  G_x w (by
    have h := SOK_w (M := N + 12800) w.2.1 (by omega)
    exact ⟨⟨⟨rg_T hv, h.1.1.2⟩, h.1.2⟩, h.2⟩)
theorem G10 (w : WA N z) {v : Int32} (hv : rg v (0) 2 = true) : WA (N + 12800) (z.1, mkS (stS z.2.1) (stF z.2.1) (stA z.2.1) (stB z.2.1) v (stZ z.2.1) (stK z.2.1) (stC z.2.1) (stE z.2.1), z.2.2) :=
  G_x w (by
    have h := SOK_w (M := N + 12800) w.2.1 (by omega)
    exact ⟨⟨h.1.1, h.1.2.1, h.1.2.2.1, h.1.2.2.2.1, rg_02 hv⟩, h.2⟩)
theorem G8 (w : WA N z) {a c : Nat} (hA : AB a c) : WA (N + 12800) (z.1, mkS (stS z.2.1) (stF z.2.1) a c (stR z.2.1) (stZ z.2.1) (stK z.2.1) (stC z.2.1) (stE z.2.1), z.2.2) :=
  G_x w (by
    have h := SOK_w (M := N + 12800) w.2.1 (by omega)
    exact ⟨⟨h.1.1, hA.1, hA.2.1, hA.2.2, h.1.2.2.2.2⟩, h.2⟩)
theorem G7 (w : WA N z) {t : Nat} {u : Int32} (hu : rg u (-3) 3 = true) : WA (N + 12800) (z.1, mkS (up (stS z.2.1) t u) (stF z.2.1) (stA z.2.1) (stB z.2.1) (stR z.2.1) (stZ z.2.1) (stK z.2.1) (stC z.2.1) (stE z.2.1), z.2.2) :=
  G_x w (by
    have h := SOK_w (M := N + 12800) w.2.1 (by omega)
    refine ⟨⟨⟨h.1.1.1, fun j hj => ?_⟩, h.1.2⟩, h.2⟩
    show -3 ≤ (up (stS z.2.1) t u j).toInt ∧ (up (stS z.2.1) t u j).toInt ≤ 3
    rw [up_at]
    split
    · exact rg_T hu
    · exact h.1.1.2 j hj)
theorem G13 (w : WA N z) {c : Nat} (hc : c < 2 ^ gn z.1) : WA (N + 12800) (z.1, toS z.2.1 c, z.2.2) := WF_up (WF_spin w hc) (by omega)
theorem G14 (w : WA N z) {t : Nat} (ht : t < gn z.1) : WA (N + 12800) (z.1, toS z.2.1 ((stZ z.2.1).1 ^^^ 2 ^ t), z.2.2) := G13 w (Nat.xor_lt_two_pow w.2.1.2.1.1 (Nat.pow_lt_pow_right (by decide) ht))
theorem G48 (w : WA N z) : WA (N + 12800) (z.1, toS z.2.1 ((stZ z.2.1).1 ^^^ aU (gn z.1)), z.2.2) := G13 w (Nat.xor_lt_two_pow w.2.1.2.1.1 (by
  have := Nat.two_pow_pos (gn z.1)
  unfold aU
  omega))
theorem G33 (w : WA N z) : WA (N + 12800) (z.1, toN z.2.1 0, z.2.2) := G_x w (by
  have h := SOK_w (M := N + 12800) w.2.1 (by omega)
  exact ⟨h.1, h.2.1, Nat.zero_le _, fun i hi => absurd hi (Nat.not_lt_zero i)⟩)
theorem G1 (w : WA N z) {t : Nat} (ht : t ≤ z.2.2.2.1) : WA (N + 12800) (z.1, z.2.1, z.2.2.1, t, z.2.2.2.2) := by
  have h := G_up w
  exact ⟨h.1, h.2.1, h.2.2.1, Nat.le_trans ht h.2.2.2.1, fun j hj => h.2.2.2.2 j (Nat.lt_of_lt_of_le hj ht)⟩
theorem G0 (w : WA N z) {v u x y t : Int32} (hk : z.2.2.2.1 ≤ 580) : WA (N + 12800) (z.1, z.2.1, z.2.2.1, z.2.2.2.1 + 20, bNs z.2.2.2.2.1 z.2.2.2.1 v u x y t, z.2.2.2.2.2) := by
  have h := G_up w
  refine ⟨h.1, h.2.1, h.2.2.1, show z.2.2.2.1 + 20 ≤ 600 by omega, ?_⟩
  exact bN_lt (bN_lt (bN_lt (bN_lt (bN_lt h.2.2.2.2 v) u) x) y) t
theorem G28 (w : WA N z) (hk : stK z.2.1 < 10000) : WA (N + 12800) (z.1, smp z.1 z.2.1, z.2.2) := WF_up (WF_smp w hk) (by omega)
theorem G29 (w : WA N z) {K : Nat} (hK : K ≤ 100) (hk : stK z.2.1 + K ≤ 10000) : WA (N + 12800) (z.1, swN z.1 K z.2.1, z.2.2) := WF_up (WF_swN K N z.2.1 w hk) (by
  have : K * gn z.1 ≤ 100 * 64 := Nat.mul_le_mul hK (gn_bd w.1).2.1
  omega)
theorem G26 (w : WA N z) {t : Nat} (ht : t < gn z.1) : WA (N + 12800) (zC z ((stZ z.2.1).1 ^^^ (clg z.1 z.2.1 t).1) (clg z.1 z.2.1 t).2.2) := by
  have h := clg_ok w ht
  exact WF_up (WF_toC w (Nat.xor_lt_two_pow w.2.1.2.1.1 h.1) h.2.2.2) (by omega)
theorem G27 (w : WA N z) : WA (N + 12800) (zC z ((stZ z.2.1).1 ^^^ (acg z.1 z.2.1).1) (acg z.1 z.2.1).2) := by
  have h := acg_ok w
  exact WF_up (WF_toC w (Nat.xor_lt_two_pow w.2.1.2.1.1 h.1) h.2) (by omega)
theorem G62 (w : WA N z) : WA (N + 12800) (zSv z) := by
  have h := G_up w
  exact ⟨h.1, h.2.1, fun y hy => by cases hy; exact h.2.1, h.2.2.2⟩
theorem G63 (w : WA N z) (hy : z.2.2.1 = some y) : WA (N + 12800) (zRs z y) := by
  have h := G_up w
  exact ⟨h.1, h.2.2.1 y hy, h.2.2⟩
end
/-! ===== both sides of a call: printed by a35.pairs.py ===== -/
section
variable {N : Nat} {z : xA} {a y : Nat} {l : xL} {z' : xA} {post : Option Value → xJ → xDb → Prop}
theorem CC_01 (h : CC 0 y l z z' post) : CC 1 y l z z' post := by
  intro P f S I J D R h1 h2 h3
  obtain ⟨P', h4, -, h5⟩ := h P f S I J D R h1 h2 h3
  exact ⟨P', h4, fun e => absurd e (by decide), fun b Q b1 b2 kk => h5 b Q (by omega) (by omega) kk⟩
/-- both sides, through a wrapper with a code: an int; a double -/
def PI (N : Nat) (z : xA) (yc : Nat) (lc : xL) (ym : Nat) (lm : xL) : Prop := ∃ z' c v, WA (N + 12800) z' ∧ CC 1 yc lc z z' (fun r J _ => r = some (.int c) ∧ (c = 0 → J 400 0 = Int32.toInt64 v)) ∧ MC ym lm z z' (fun r I _ _ => r = some (.int v) ∧ I 200 19 = c)
def PDb (N : Nat) (z : xA) (yc : Nat) (lc : xL) (ym : Nat) (lm : xL) : Prop := ∃ z' c v, WA (N + 12800) z' ∧ CC 1 yc lc z z' (fun r _ D => r = some (.int c) ∧ (c = 0 → D 401 0 = v)) ∧ MC ym lm z z' (fun r I _ _ => r = some (.double v) ∧ I 200 19 = c)
def PLg (N : Nat) (z : xA) (yc : Nat) (lc : xL) (ym : Nat) (lm : xL) : Prop := ∃ z' c v, WA (N + 12800) z' ∧ CC 1 yc lc z z' (fun r J _ => r = some (.int c) ∧ (c = 0 → J 400 0 = v)) ∧ MC ym lm z z' (fun r I _ _ => r = some (.long v) ∧ I 200 19 = c)
/-- without a wrapper -/
def PQn (a N : Nat) (z : xA) (yc : Nat) (lc : xL) (ym : Nat) (lm : xL) : Prop := ∃ z' v, WA (N + 12800) z' ∧ CC a yc lc z z' (fun r _ _ => r = some (.int v)) ∧ MC ym lm z z' (fun r I _ _ => r = some (.int v) ∧ I 200 19 = 0)
def PQl (a N : Nat) (z : xA) (yc : Nat) (lc : xL) (ym : Nat) (lm : xL) : Prop := ∃ z' v, WA (N + 12800) z' ∧ CC a yc lc z z' (fun r _ _ => r = some (.long v)) ∧ MC ym lm z z' (fun r I _ _ => r = some (.long v) ∧ I 200 19 = 0)
def PQd (a N : Nat) (z : xA) (yc : Nat) (lc : xL) (ym : Nat) (lm : xL) : Prop := ∃ z' v, WA (N + 12800) z' ∧ CC a yc lc z z' (fun r _ _ => r = some (.double v)) ∧ MC ym lm z z' (fun r I _ _ => r = some (.double v) ∧ I 200 19 = 0)
theorem K_le {K m : Nat} {v : Int32} {lo : Int32} (hm : m < 2147483648) (h : rg v lo (nI m) = true) (h1 : lo = 0 ∨ lo = 1) : ∃ K : Nat, K ≤ m ∧ v = nI K ∧ (lo = 1 → 1 ≤ K) := by
  have h2 := rg_T h
  rw [nI_toInt hm] at h2
  have h0 : lo.toInt = 0 ∨ lo.toInt = 1 := h1.imp (fun e => by rw [e]; rfl) (fun e => by rw [e]; rfl)
  refine ⟨v.toInt.toNat, by omega, Int32.toInt_inj.mp ?_, fun e => by rw [e] at h2; have : (1 : Int32).toInt = 1 := rfl; omega⟩
  rw [nI_toInt (by omega)]
  omega
theorem P11 (w : WA N z) (v : Int32) : PI N z 340 [(0, .ref 100), (1, .int v), (2, .ref 400)] 245 [(0, .ref 200), (1, .int v)] := by
  have bd := gn_bd w.1
  rcases pk_ix v (n := gn z.1) (by omega) with h | h | ⟨t, ht, rfl⟩
  · exact ⟨z, _, _, G_up w, CC_post (KC11a w (Or.inl h)) (fun _ _ _ e => ⟨e, fun h => absurd h (by decide)⟩), KM11a w (Or.inl h)⟩
  · exact ⟨z, _, _, G_up w, CC_post (KC11a w (Or.inr h)) (fun _ _ _ e => ⟨e, fun h => absurd h (by decide)⟩), KM11a w (Or.inr h)⟩
  · exact ⟨z, _, _, G_up w, CC_post (KC11b w ht) (fun _ _ _ e => ⟨e.1, fun _ => e.2⟩), KM11b w ht⟩
theorem P17 (w : WA N z) (v : Int32) : PI N z 343 [(0, .ref 100), (1, .int v), (2, .ref 400)] 256 [(0, .ref 200), (1, .int v)] := by
  have bd := gn_bd w.1
  rcases pk_ix v (n := gn z.1) (by omega) with h | h | ⟨t, ht, rfl⟩
  · exact ⟨z, _, _, G_up w, CC_post (KC17a w (Or.inl h)) (fun _ _ _ e => ⟨e, fun h => absurd h (by decide)⟩), KM17a w (Or.inl h)⟩
  · exact ⟨z, _, _, G_up w, CC_post (KC17a w (Or.inr h)) (fun _ _ _ e => ⟨e, fun h => absurd h (by decide)⟩), KM17a w (Or.inr h)⟩
  · exact ⟨z, _, _, G_up w, CC_post (KC17b w ht) (fun _ _ _ e => ⟨e.1, fun _ => e.2⟩), KM17b w ht⟩
theorem P14 (w : WA N z) (v : Int32) : PI N z 342 [(0, .ref 100), (1, .int v), (2, .ref 400)] 252 [(0, .ref 200), (1, .int v)] := by
  have bd := gn_bd w.1
  rcases pk_ix v (n := gn z.1) (by omega) with h | h | ⟨t, ht, rfl⟩
  · exact ⟨z, _, _, G_up w, CC_post (KC14a w (Or.inl h)) (fun _ _ _ e => ⟨e, fun h => absurd h (by decide)⟩), KM14a w (Or.inl h)⟩
  · exact ⟨z, _, _, G_up w, CC_post (KC14a w (Or.inr h)) (fun _ _ _ e => ⟨e, fun h => absurd h (by decide)⟩), KM14a w (Or.inr h)⟩
  · exact ⟨_, _, _, G14 w ht, CC_post (KC14b w ht) (fun _ _ _ e => ⟨e.1, fun _ => e.2⟩), KM14b w ht⟩
theorem P26 (w : WA N z) (v : Int32) : PI N z 348 [(0, .ref 100), (1, .int v), (2, .ref 400)] 277 [(0, .ref 200), (1, .int v)] := by
  have bd := gn_bd w.1
  rcases pk_ix v (n := gn z.1) (by omega) with h | h | ⟨t, ht, rfl⟩
  · exact ⟨z, _, _, G_up w, CC_post (KC26a w (Or.inl h)) (fun _ _ _ e => ⟨e, fun h => absurd h (by decide)⟩), KM26a w (Or.inl h)⟩
  · exact ⟨z, _, _, G_up w, CC_post (KC26a w (Or.inr h)) (fun _ _ _ e => ⟨e, fun h => absurd h (by decide)⟩), KM26a w (Or.inr h)⟩
  · by_cases hf : FRO z.1 z.2.1
    · exact ⟨_, _, _, G26 w ht, CC_post (KC26c w ht hf) (fun _ _ _ e => ⟨e.1, fun _ => e.2⟩), KM26c w ht hf⟩
    · exact ⟨z, _, _, G_up w, CC_post (KC26b w ht hf) (fun _ _ _ e => ⟨e, fun h => absurd h (by decide)⟩), KM26b w ht hf⟩
theorem P27 (w : WA N z)  : PI N z 349 [(0, .ref 100), (1, .ref 400)] 281 [(0, .ref 200)] := by
  have bd := gn_bd w.1
  by_cases hf : FRO z.1 z.2.1
  · exact ⟨_, _, _, G27 w, CC_post (KC27b w hf) (fun _ _ _ e => ⟨e.1, fun _ => e.2⟩), KM27b w hf⟩
  · exact ⟨z, _, _, G_up w, CC_post (KC27a w hf) (fun _ _ _ e => ⟨e, fun h => absurd h (by decide)⟩), KM27a w hf⟩
theorem P28 (w : WA N z)  : PI N z 350 [(0, .ref 100), (1, .ref 400)] 290 [(0, .ref 200)] := by
  have bd := gn_bd w.1
  by_cases hk : stK z.2.1 < 10000
  · exact ⟨_, _, _, G28 w hk, CC_post (KC28b w hk) (fun _ _ _ e => ⟨e.1, fun _ => e.2⟩), KM28b w hk⟩
  · have hk2 : stK z.2.1 = 10000 := by have := w.2.1.2.2.1; omega
    exact ⟨z, _, _, G_up w, CC_post (KC28a w hk2) (fun _ _ _ e => ⟨e, fun h => absurd h (by decide)⟩), KM28a w hk2⟩
theorem P63 (w : WA N z)  : PI N z 374 [(0, .ref 100), (1, .ref 400)] 333 [(0, .ref 200)] := by
  have bd := gn_bd w.1
  rcases hs : z.2.2.1 with _ | y
  · exact ⟨z, _, _, G_up w, CC_post (KC63a w hs) (fun _ _ _ e => ⟨e, fun h => absurd h (by decide)⟩), KM63a w hs⟩
  · exact ⟨_, _, _, G63 w hs, CC_post (KC63b w hs) (fun _ _ _ e => ⟨e.1, fun _ => e.2⟩), KM63b w hs⟩
theorem P34 (w : WA N z)  : PI N z 353 [(0, .ref 100), (1, .ref 400)] 300 [(0, .ref 200)] := by
  have bd := gn_bd w.1
  by_cases hn : gn z.1 ≤ 16
  · exact ⟨z, _, _, G_up w, CC_post (KC34b w hn) (fun _ _ _ e => ⟨e.1, fun _ => e.2⟩), KM34b w hn⟩
  · exact ⟨z, _, _, G_up w, CC_post (KC34a w hn) (fun _ _ _ e => ⟨e, fun h => absurd h (by decide)⟩), KM34a w hn⟩
theorem P37 (w : WA N z)  : PI N z 356 [(0, .ref 100), (1, .ref 400)] 308 [(0, .ref 200)] := by
  have bd := gn_bd w.1
  by_cases hn : gn z.1 ≤ 16
  · exact ⟨z, _, _, G_up w, CC_post (KC37b w hn) (fun _ _ _ e => ⟨e.1, fun _ => e.2⟩), KM37b w hn⟩
  · exact ⟨z, _, _, G_up w, CC_post (KC37a w hn) (fun _ _ _ e => ⟨e, fun h => absurd h (by decide)⟩), KM37a w hn⟩
theorem P38 (w : WA N z)  : PI N z 357 [(0, .ref 100), (1, .ref 400)] 309 [(0, .ref 200)] := by
  have bd := gn_bd w.1
  by_cases hn : gn z.1 ≤ 16
  · exact ⟨z, _, _, G_up w, CC_post (KC38b w hn) (fun _ _ _ e => ⟨e.1, fun _ => e.2⟩), KM38b w hn⟩
  · exact ⟨z, _, _, G_up w, CC_post (KC38a w hn) (fun _ _ _ e => ⟨e, fun h => absurd h (by decide)⟩), KM38a w hn⟩
theorem P40 (w : WA N z)  : PI N z 359 [(0, .ref 100), (1, .ref 400)] 311 [(0, .ref 200)] := by
  have bd := gn_bd w.1
  by_cases hn : gn z.1 ≤ 16
  · exact ⟨z, _, _, G_up w, CC_post (KC40b w hn) (fun _ _ _ e => ⟨e.1, fun _ => e.2⟩), KM40b w hn⟩
  · exact ⟨z, _, _, G_up w, CC_post (KC40a w hn) (fun _ _ _ e => ⟨e, fun h => absurd h (by decide)⟩), KM40a w hn⟩
theorem P13 (w : WA N z) (v : Int64) : PI N z 341 [(0, .ref 100), (1, .long v), (3, .ref 400)] 248 [(0, .ref 200), (1, .long v)] := by
  have bd := gn_bd w.1
  obtain ⟨c, hc, rfl⟩ := q_of v
  by_cases hx : c < 2 ^ gn z.1
  · exact ⟨_, _, _, G13 w hx, CC_post (KC13b w hc hx) (fun _ _ _ e => ⟨e.1, fun _ => e.2⟩), KM13b w hc hx⟩
  · exact ⟨z, _, _, G_up w, CC_post (KC13a w hc hx) (fun _ _ _ e => ⟨e, fun h => absurd h (by decide)⟩), KM13a w hc hx⟩
theorem P47 (w : WA N z) (v : Int64) : PI N z 366 [(0, .ref 100), (1, .long v), (3, .ref 400)] 267 [(0, .ref 200), (1, .long v)] := by
  have bd := gn_bd w.1
  obtain ⟨c, hc, rfl⟩ := q_of v
  by_cases hx : c < 2 ^ gn z.1
  · exact ⟨z, _, _, G_up w, CC_post (KC47b w hc hx) (fun _ _ _ e => ⟨e.1, fun _ => e.2⟩), KM47b w hc hx⟩
  · exact ⟨z, _, _, G_up w, CC_post (KC47a w hc hx) (fun _ _ _ e => ⟨e, fun h => absurd h (by decide)⟩), KM47a w hc hx⟩
theorem P49 (w : WA N z) (v : Int64) : PI N z 367 [(0, .ref 100), (1, .long v), (3, .ref 400)] 261 [(0, .ref 200), (1, .long v)] := by
  have bd := gn_bd w.1
  obtain ⟨c, hc, rfl⟩ := q_of v
  by_cases hx : c < 2 ^ gn z.1
  · exact ⟨z, _, _, G_up w, CC_post (KC49b w hc hx) (fun _ _ _ e => ⟨e.1, fun _ => e.2⟩), KM49b w hc hx⟩
  · exact ⟨z, _, _, G_up w, CC_post (KC49a w hc hx) (fun _ _ _ e => ⟨e, fun h => absurd h (by decide)⟩), KM49a w hc hx⟩
theorem P9 (w : WA N z) (v : Int32) : PI N z 338 [(0, .ref 100), (1, .int v), (2, .ref 400)] 243 [(0, .ref 200), (1, .int v)] := by
  have bd := gn_bd w.1
  by_cases hv : rg v (-3) 3 = true
  · exact ⟨_, _, _, G9 w hv, CC_post (KC9b w hv) (fun _ _ _ e => ⟨e.1, fun _ => e.2⟩), KM9b w hv⟩
  · exact ⟨z, _, _, G_up w, CC_post (KC9a w hv) (fun _ _ _ e => ⟨e, fun h => absurd h (by decide)⟩), KM9a w hv⟩
theorem P10 (w : WA N z) (v : Int32) : PI N z 339 [(0, .ref 100), (1, .int v), (2, .ref 400)] 244 [(0, .ref 200), (1, .int v)] := by
  have bd := gn_bd w.1
  by_cases hv : rg v (0) 2 = true
  · exact ⟨_, _, _, G10 w hv, CC_post (KC10b w hv) (fun _ _ _ e => ⟨e.1, fun _ => e.2⟩), KM10b w hv⟩
  · exact ⟨z, _, _, G_up w, CC_post (KC10a w hv) (fun _ _ _ e => ⟨e, fun h => absurd h (by decide)⟩), KM10a w hv⟩
theorem P23 (w : WA N z) (v : Int32) : PI N z 345 [(0, .ref 100), (1, .int v), (2, .ref 400)] 270 [(0, .ref 200), (1, .int v)] := by
  have bd := gn_bd w.1
  rcases pk_ix v (n := gn z.1) (by omega) with h | h | ⟨t, ht, rfl⟩
  · exact ⟨z, _, _, G_up w, CC_post (KC23a w (Or.inl h)) (fun _ _ _ e => ⟨e, fun h => absurd h (by decide)⟩), KM23a w (Or.inl h)⟩
  · exact ⟨z, _, _, G_up w, CC_post (KC23a w (Or.inr h)) (fun _ _ _ e => ⟨e, fun h => absurd h (by decide)⟩), KM23a w (Or.inr h)⟩
  · cases hf : fS z.1 z.2.1 t (stZ z.2.1)
    · exact ⟨_, _, _, G23 w ht, CC_post (KC23c w ht hf) (fun _ _ _ e => ⟨e.1, fun _ => e.2.trans rfl⟩), KM23c w ht hf⟩
    · exact ⟨_, _, _, G23 w ht, CC_post (KC23b w ht hf) (fun _ _ _ e => ⟨e.1, fun _ => e.2.trans rfl⟩), KM23b w ht hf⟩
theorem P25 (w : WA N z) (v : Int32) : PI N z 347 [(0, .ref 100), (1, .int v), (2, .ref 400)] 275 [(0, .ref 200), (1, .int v)] := by
  have bd := gn_bd w.1
  by_cases hv : rg v 1 200 = true
  · obtain ⟨K, hK, rfl, -⟩ := K_le (K := 0) (m := 200) (by decide) (show rg v 1 (nI 200) = true from hv) (Or.inr rfl)
    exact ⟨_, _, _, G25 w hK, CC_post (KC25b w (by omega) hv) (fun _ _ _ e => ⟨e.1, fun _ => e.2⟩), KM25b w (by omega) hv⟩
  · exact ⟨z, _, _, G_up w, CC_post (KC25a w hv) (fun _ _ _ e => ⟨e, fun h => absurd h (by decide)⟩), KM25a w hv⟩
theorem P24 (w : WA N z) (v : Int32) : PI N z 346 [(0, .ref 100), (1, .int v), (2, .ref 400)] 274 [(0, .ref 200), (1, .int v)] := by
  have bd := gn_bd w.1
  by_cases hv : rg v 1 1000 = true
  · obtain ⟨K, hK, rfl, -⟩ := K_le (K := 0) (m := 1000) (by decide) (show rg v 1 (nI 1000) = true from hv) (Or.inr rfl)
    exact ⟨_, _, _, G24 w hK, CC_post (KC24b w (by omega) hv) (fun _ _ _ e => ⟨e.1, fun _ => e.2⟩), KM24b w (by omega) hv⟩
  · exact ⟨z, _, _, G_up w, CC_post (KC24a w hv) (fun _ _ _ e => ⟨e, fun h => absurd h (by decide)⟩), KM24a w hv⟩
theorem P29 (w : WA N z) (v : Int32) : PI N z 351 [(0, .ref 100), (1, .int v), (2, .ref 400)] 292 [(0, .ref 200), (1, .int v)] := by
  have bd := gn_bd w.1
  by_cases hv : rg v 1 100 = true
  · obtain ⟨K, hK, rfl, h1⟩ := K_le (K := 0) (m := 100) (by decide) (show rg v 1 (nI 100) = true from hv) (Or.inr rfl)
    by_cases hk : stK z.2.1 + K ≤ 10000
    · exact ⟨_, _, _, G29 w hK hk, CC_post (KC29c w (h1 rfl) hK hv hk) (fun _ _ _ e => ⟨e.1, fun _ => e.2⟩), KM29c w (h1 rfl) hK hv hk⟩
    · exact ⟨z, _, _, G_up w, CC_post (KC29b w hK hv (by omega)) (fun _ _ _ e => ⟨e, fun h => absurd h (by decide)⟩), KM29b w hK hv (by omega)⟩
  · exact ⟨z, _, _, G_up w, CC_post (KC29a w hv) (fun _ _ _ e => ⟨e, fun h => absurd h (by decide)⟩), KM29a w hv⟩
theorem P30 (w : WA N z) (v : Int32) : PDb N z 352 [(0, .ref 100), (1, .int v), (2, .ref 401)] 293 [(0, .ref 200), (1, .int v)] := by
  have bd := gn_bd w.1
  by_cases hv : rg v 0 3 = true
  · obtain ⟨K, hK, rfl, -⟩ := K_le (K := 0) (m := 3) (by decide) (show rg v 0 (nI 3) = true from hv) (Or.inl rfl)
    exact ⟨z, _, _, G_up w, CC_post (KC30b w (by omega)) (fun _ _ _ e => ⟨e.1, fun _ => e.2⟩), KM30b w (by omega)⟩
  · exact ⟨z, _, _, G_up w, CC_post (KC30a w hv) (fun _ _ _ e => ⟨e, fun h => absurd h (by decide)⟩), KM30a w hv⟩
theorem P50 (w : WA N z) (v : Int32) : PDb N z 368 [(0, .ref 100), (1, .int v), (2, .ref 401)] 265 [(0, .ref 200), (1, .int v)] := by
  have bd := gn_bd w.1
  rcases pk_ix v (n := gn z.1) (by omega) with h | h | ⟨t, ht, rfl⟩
  · exact ⟨z, _, _, G_up w, CC_post (KC50a w (Or.inl h)) (fun _ _ _ e => ⟨e, fun h => absurd h (by decide)⟩), KM50a w (Or.inl h)⟩
  · exact ⟨z, _, _, G_up w, CC_post (KC50a w (Or.inr h)) (fun _ _ _ e => ⟨e, fun h => absurd h (by decide)⟩), KM50a w (Or.inr h)⟩
  · exact ⟨z, _, _, G_up w, CC_post (KC50b w ht) (fun _ _ _ e => ⟨e.1, fun _ => e.2⟩), KM50b w ht⟩
theorem P7 (w : WA N z) (v u : Int32) : PI N z 336 [(0, .ref 100), (1, .int v), (2, .int u), (3, .ref 400)] 239 [(0, .ref 200), (1, .int v), (2, .int u)] := by
  have bd := gn_bd w.1
  rcases pk_ix v (n := gm z.1) (by omega) with h | h | ⟨t, ht, rfl⟩
  · exact ⟨z, _, _, G_up w, CC_post (KC7a w (Or.inl h)) (fun _ _ _ e => ⟨e, fun h => absurd h (by decide)⟩), KM7a w (Or.inl h)⟩
  · exact ⟨z, _, _, G_up w, CC_post (KC7a w (Or.inr h)) (fun _ _ _ e => ⟨e, fun h => absurd h (by decide)⟩), KM7a w (Or.inr h)⟩
  · by_cases hu : rg u (-3) 3 = true
    · exact ⟨_, _, _, G7 w hu, CC_post (KC7c w ht hu) (fun _ _ _ e => ⟨e.1, fun _ => e.2⟩), KM7c w ht hu⟩
    · exact ⟨z, _, _, G_up w, CC_post (KC7b w ht hu) (fun _ _ _ e => ⟨e, fun h => absurd h (by decide)⟩), KM7b w ht hu⟩
theorem P8 (w : WA N z) (v u : Int32) : PI N z 337 [(0, .ref 100), (1, .int v), (2, .int u), (3, .ref 400)] 241 [(0, .ref 200), (1, .int v), (2, .int u)] := by
  have bd := gn_bd w.1
  by_cases hv : rt v u = true
  · obtain ⟨a, c, hA, rfl, rfl⟩ := rt_AB hv
    exact ⟨_, _, _, G8 w hA, CC_post (KC8b w hv) (fun _ _ _ e => ⟨e.1, fun _ => e.2⟩), KM8b w hv⟩
  · exact ⟨z, _, _, G_up w, CC_post (KC8a w hv) (fun _ _ _ e => ⟨e, fun h => absurd h (by decide)⟩), KM8a w hv⟩
theorem P36 (w : WA N z) (v u : Int32) : PI N z 355 [(0, .ref 100), (1, .int v), (2, .int u), (3, .ref 400)] 306 [(0, .ref 200), (1, .int v), (2, .int u)] := by
  have bd := gn_bd w.1
  by_cases hn : gn z.1 ≤ 16
  · exact ⟨z, _, _, G_up w, CC_post (KC36b w hn) (fun _ _ _ e => ⟨e.1, fun _ => e.2⟩), KM36b w hn⟩
  · exact ⟨z, _, _, G_up w, CC_post (KC36a w hn) (fun _ _ _ e => ⟨e, fun h => absurd h (by decide)⟩), KM36a w hn⟩
theorem P51 (w : WA N z) (v : Int32) : PI N z 369 [(0, .ref 100), (1, .int v), (2, .ref 400)] 307 [(0, .ref 200), (1, .int v)] := by
  have bd := gn_bd w.1
  by_cases hn : gn z.1 ≤ 16
  · exact ⟨z, _, _, G_up w, CC_post (KC51b w hn) (fun _ _ _ e => ⟨e.1, fun _ => e.2⟩), KM51b w hn⟩
  · exact ⟨z, _, _, G_up w, CC_post (KC51a w hn) (fun _ _ _ e => ⟨e, fun h => absurd h (by decide)⟩), KM51a w hn⟩
theorem P56 (w : WA N z) (v u : Int32) : PI N z 372 [(0, .ref 100), (1, .int v), (2, .int u), (3, .ref 400)] 262 [(0, .ref 200), (1, .int v), (2, .int u)] := by
  have bd := gn_bd w.1
  rcases pk_ix v (n := gn z.1) (by omega) with h | h | ⟨t, ht, rfl⟩
  · exact ⟨z, _, _, G_up w, CC_post (KC56a w (Or.inl h)) (fun _ _ _ e => ⟨e, fun h => absurd h (by decide)⟩), KM56a w (Or.inl h)⟩
  · exact ⟨z, _, _, G_up w, CC_post (KC56a w (Or.inr h)) (fun _ _ _ e => ⟨e, fun h => absurd h (by decide)⟩), KM56a w (Or.inr h)⟩
  · rcases pk_ix u (n := gn z.1) (by omega) with h | h | ⟨q, hq, rfl⟩
    · exact ⟨z, _, _, G_up w, CC_post (KC56b w ht (Or.inl h)) (fun _ _ _ e => ⟨e, fun h => absurd h (by decide)⟩), KM56b w ht (Or.inl h)⟩
    · exact ⟨z, _, _, G_up w, CC_post (KC56b w ht (Or.inr h)) (fun _ _ _ e => ⟨e, fun h => absurd h (by decide)⟩), KM56b w ht (Or.inr h)⟩
    · exact ⟨z, _, _, G_up w, CC_post (KC56c w ht hq) (fun _ _ _ e => ⟨e.1, fun _ => e.2⟩), KM56c w ht hq⟩
theorem P41 (w : WA N z) (u v y : Int32) : PDb N z 360 [(0, .ref 100), (1, .int u), (2, .int v), (3, .int y), (4, .ref 401)] 314 [(0, .ref 200), (1, .int u), (2, .int v), (3, .int y)] := by
  have bd := gn_bd w.1
  by_cases hu : rg u 0 4 = true
  · by_cases hv : rt v y = true
    · obtain ⟨a, c, hA, rfl, rfl⟩ := rt_AB hv
      by_cases hn : gn z.1 ≤ 16
      · exact ⟨z, _, _, G_up w, CC_post (KC41d w hn hu hA hv) (fun _ _ _ e => ⟨e.1, fun _ => e.2⟩), KM41d w hn hu hA hv⟩
      · exact ⟨z, _, _, G_up w, CC_post (KC41c w hn hu hA hv) (fun _ _ _ e => ⟨e, fun h => absurd h (by decide)⟩), KM41c w hn hu hA hv⟩
    · exact ⟨z, _, _, G_up w, CC_post (KC41b w hu hv) (fun _ _ _ e => ⟨e, fun h => absurd h (by decide)⟩), KM41b w hu hv⟩
  · exact ⟨z, _, _, G_up w, CC_post (KC41a w hu) (fun _ _ _ e => ⟨e, fun h => absurd h (by decide)⟩), KM41a w hu⟩
theorem P42 (w : WA N z) (u v y : Int32) : PDb N z 361 [(0, .ref 100), (1, .int u), (2, .int v), (3, .int y), (4, .ref 401)] 318 [(0, .ref 200), (1, .int u), (2, .int v), (3, .int y)] := by
  have bd := gn_bd w.1
  by_cases hu : rg u 0 2 = true
  · by_cases hv : rt v y = true
    · obtain ⟨a, c, hA, rfl, rfl⟩ := rt_AB hv
      by_cases hn : gn z.1 ≤ 16
      · exact ⟨z, _, _, G_up w, CC_post (KC42d w hn hu hA hv) (fun _ _ _ e => ⟨e.1, fun _ => e.2⟩), KM42d w hn hu hA hv⟩
      · exact ⟨z, _, _, G_up w, CC_post (KC42c w hn hu hA hv) (fun _ _ _ e => ⟨e, fun h => absurd h (by decide)⟩), KM42c w hn hu hA hv⟩
    · exact ⟨z, _, _, G_up w, CC_post (KC42b w hu hv) (fun _ _ _ e => ⟨e, fun h => absurd h (by decide)⟩), KM42b w hu hv⟩
  · exact ⟨z, _, _, G_up w, CC_post (KC42a w hu) (fun _ _ _ e => ⟨e, fun h => absurd h (by decide)⟩), KM42a w hu⟩
theorem P45 (w : WA N z) (u v : Int32) : PI N z 364 [(0, .ref 100), (1, .int u), (2, .int v), (3, .ref 400)] 322 [(0, .ref 200), (1, .int u), (2, .int v)] := by
  have bd := gn_bd w.1
  by_cases hu : rg u 0 2 = true
  · by_cases hv : rg v 2 30 = true
    · obtain ⟨y, y1, y2, rfl⟩ := rg_y hv
      by_cases hn : gn z.1 ≤ 16
      · exact ⟨z, _, _, G_up w, CC_post (KC45d w hn hu hv y1 y2) (fun _ _ _ e => ⟨e.1, fun _ => e.2⟩), KM45d w hn hu hv y1 y2⟩
      · exact ⟨z, _, _, G_up w, CC_post (KC45c w hn hu hv y1 y2) (fun _ _ _ e => ⟨e, fun h => absurd h (by decide)⟩), KM45c w hn hu hv y1 y2⟩
    · exact ⟨z, _, _, G_up w, CC_post (KC45b w hu hv) (fun _ _ _ e => ⟨e, fun h => absurd h (by decide)⟩), KM45b w hu hv⟩
  · exact ⟨z, _, _, G_up w, CC_post (KC45a w hu) (fun _ _ _ e => ⟨e, fun h => absurd h (by decide)⟩), KM45a w hu⟩
theorem P60 (w : WA N z) (u v : Int32) : PI N z 373 [(0, .ref 100), (1, .int u), (2, .int v), (3, .ref 400)] 328 [(0, .ref 200), (1, .int u), (2, .int v)] := by
  have bd := gn_bd w.1
  by_cases hu : rg u 0 2 = true
  · by_cases hv : rg v 2 30 = true
    · obtain ⟨y, y1, y2, rfl⟩ := rg_y hv
      by_cases hn : gn z.1 ≤ 16
      · exact ⟨z, _, _, G_up w, CC_post (KC60d w hn hu hv y1 y2) (fun _ _ _ e => ⟨e.1, fun _ => e.2⟩), KM60d w hn hu hv y1 y2⟩
      · exact ⟨z, _, _, G_up w, CC_post (KC60c w hn hu hv y1 y2) (fun _ _ _ e => ⟨e, fun h => absurd h (by decide)⟩), KM60c w hn hu hv y1 y2⟩
    · exact ⟨z, _, _, G_up w, CC_post (KC60b w hu hv) (fun _ _ _ e => ⟨e, fun h => absurd h (by decide)⟩), KM60b w hu hv⟩
  · exact ⟨z, _, _, G_up w, CC_post (KC60a w hu) (fun _ _ _ e => ⟨e, fun h => absurd h (by decide)⟩), KM60a w hu⟩
theorem P3 (w : WA N z)  : PQn 0 N z 122 [(0, .ref 100)] 231 [(0, .ref 200)] := by
  have bd := gn_bd w.1
  exact ⟨z, _, G_up w, KC3 w, KM3 w⟩
theorem P4 (w : WA N z)  : PQn 0 N z 123 [(0, .ref 100)] 232 [(0, .ref 200)] := by
  have bd := gn_bd w.1
  exact ⟨z, _, G_up w, KC4 w, KM4 w⟩
theorem P12 (w : WA N z)  : PQl 0 N z 124 [(0, .ref 100)] 247 [(0, .ref 200)] := by
  have bd := gn_bd w.1
  exact ⟨z, _, G_up w, KC12 w, KM12 w⟩
theorem P15 (w : WA N z)  : PQn 0 N z 126 [(0, .ref 100)] 254 [(0, .ref 200)] := by
  have bd := gn_bd w.1
  exact ⟨z, _, G_up w, KC15 w, KM15 w⟩
theorem P16 (w : WA N z)  : PQn 0 N z 127 [(0, .ref 100)] 255 [(0, .ref 200)] := by
  have bd := gn_bd w.1
  exact ⟨z, _, G_up w, KC16 w, KM16 w⟩
theorem P18 (w : WA N z)  : PQn 0 N z 128 [(0, .ref 100)] 258 [(0, .ref 200)] := by
  have bd := gn_bd w.1
  exact ⟨z, _, G_up w, KC18 w, KM18 w⟩
theorem P19 (w : WA N z)  : PQn 0 N z 129 [(0, .ref 100)] 259 [(0, .ref 200)] := by
  have bd := gn_bd w.1
  exact ⟨z, _, G_up w, KC19 w, KM19 w⟩
theorem P52 (w : WA N z)  : PQn 0 N z 130 [(0, .ref 100)] 260 [(0, .ref 200)] := by
  have bd := gn_bd w.1
  exact ⟨z, _, G_up w, KC52 w, KM52 w⟩
theorem P33 (w : WA N z)  : PQn 0 N z 142 [(0, .ref 100)] 299 [(0, .ref 200)] := by
  have bd := gn_bd w.1
  exact ⟨_, _, G33 w, KC33 w, KM33 w⟩
theorem P48 (w : WA N z)  : PQn 0 N z 125 [(0, .ref 100)] 253 [(0, .ref 200)] := by
  have bd := gn_bd w.1
  exact ⟨_, _, G48 w, KC48 w, KM48 w⟩
theorem P59 (w : WA N z)  : PQn 1 N z 143 [(0, .ref 100)] 326 [(0, .ref 200)] := by
  have bd := gn_bd w.1
  exact ⟨z, _, G_up w, KC59 w, KM59 w⟩
theorem P62 (w : WA N z)  : PQn 1 N z 145 [(0, .ref 100)] 331 [(0, .ref 200)] := by
  have bd := gn_bd w.1
  exact ⟨_, _, G62 w, KC62 w, KM62 w⟩
theorem P31 (w : WA N z) (v : Int32) : PQn 0 N z 140 [(0, .ref 100), (1, .int v)] 297 [(0, .ref 200), (1, .int v)] := by
  have bd := gn_bd w.1
  exact ⟨z, _, G_up w, KC31 w, KM31 w⟩
theorem P32 (w : WA N z)  : PQn 1 N z 141 [(0, .ref 100)] 298 [(0, .ref 200)] := by
  have bd := gn_bd w.1
  by_cases hk : stK z.2.1 = 0
  · exact ⟨z, 0, G_up w, KC32a w hk, MC_post (KM32 w) (fun _ _ _ _ e => ⟨by rw [e.1, hk]; rfl, e.2⟩)⟩
  · exact ⟨z, _, G_up w, KC32b w (by omega), KM32 w⟩
theorem P54 (w : WA N z) (v : Int64) : PLg N z 371 [(0, .ref 100), (1, .long v), (3, .ref 400)] 269 [(0, .ref 200), (1, .long v)] := by
  have bd := gn_bd w.1
  obtain ⟨c, hc, rfl⟩ := q_of v
  by_cases hx : c < 2 ^ gn z.1
  · exact ⟨z, _, _, G_up w, CC_post (KC54b w hc hx) (fun _ _ _ e => ⟨e.1, fun _ => e.2⟩), KM54b w hc hx⟩
  · exact ⟨z, _, _, G_up w, CC_post (KC54a w hc hx) (fun _ _ _ e => ⟨e, fun h => absurd h (by decide)⟩), KM54a w hc hx⟩
theorem P43 (w : WA N z) (l : Int64) (v y : Int32) : PDb N z 362 [(0, .ref 100), (1, .long l), (3, .int v), (4, .int y), (5, .ref 401)] 320 [(0, .ref 200), (1, .long l), (3, .int v), (4, .int y)] := by
  have bd := gn_bd w.1
  obtain ⟨c, hc, rfl⟩ := q_of l
  by_cases hx : c < 2 ^ gn z.1
  · by_cases hv : rt v y = true
    · obtain ⟨a, d, hA, rfl, rfl⟩ := rt_AB hv
      by_cases hn : gn z.1 ≤ 16
      · exact ⟨z, _, _, G_up w, CC_post (KC43d w hn hc hx hA hv) (fun _ _ _ e => ⟨e.1, fun _ => e.2⟩), KM43d w hn hc hx hA hv⟩
      · exact ⟨z, _, _, G_up w, CC_post (KC43c w hn hc hx hA hv) (fun _ _ _ e => ⟨e, fun h => absurd h (by decide)⟩), KM43c w hn hc hx hA hv⟩
    · exact ⟨z, _, _, G_up w, CC_post (KC43b w hc hx hv) (fun _ _ _ e => ⟨e, fun h => absurd h (by decide)⟩), KM43b w hc hx hv⟩
  · exact ⟨z, _, _, G_up w, CC_post (KC43a w hc hx) (fun _ _ _ e => ⟨e, fun h => absurd h (by decide)⟩), KM43a w hc hx⟩
theorem P44 (w : WA N z) (v u p q : Int32) : PDb N z 363 [(0, .ref 100), (1, .int v), (2, .int u), (3, .int p), (4, .int q), (5, .ref 401)] 321 [(0, .ref 200), (1, .int v), (2, .int u), (3, .int p), (4, .int q)] := by
  have bd := gn_bd w.1
  rcases pk_ix v (n := gn z.1) (by omega) with h | h | ⟨s, hs, rfl⟩
  · exact ⟨z, _, _, G_up w, CC_post (KC44a w (Or.inl h)) (fun _ _ _ e => ⟨e, fun h => absurd h (by decide)⟩), KM44a w (Or.inl h)⟩
  · exact ⟨z, _, _, G_up w, CC_post (KC44a w (Or.inr h)) (fun _ _ _ e => ⟨e, fun h => absurd h (by decide)⟩), KM44a w (Or.inr h)⟩
  · rcases pk_ix u (n := gn z.1) (by omega) with h | h | ⟨t, ht, rfl⟩
    · exact ⟨z, _, _, G_up w, CC_post (KC44b w hs (Or.inl h)) (fun _ _ _ e => ⟨e, fun h => absurd h (by decide)⟩), KM44b w hs (Or.inl h)⟩
    · exact ⟨z, _, _, G_up w, CC_post (KC44b w hs (Or.inr h)) (fun _ _ _ e => ⟨e, fun h => absurd h (by decide)⟩), KM44b w hs (Or.inr h)⟩
    · by_cases hr : rt p q = true
      · obtain ⟨a, c, hA, rfl, rfl⟩ := rt_AB hr
        by_cases hn : gn z.1 ≤ 16
        · exact ⟨z, _, _, G_up w, CC_post (KC44e w hn hs ht hA hr) (fun _ _ _ e => ⟨e.1, fun _ => e.2⟩), KM44e w hn hs ht hA hr⟩
        · exact ⟨z, _, _, G_up w, CC_post (KC44d w hn hs ht hA hr) (fun _ _ _ e => ⟨e, fun h => absurd h (by decide)⟩), KM44d w hn hs ht hA hr⟩
      · exact ⟨z, _, _, G_up w, CC_post (KC44c w hs ht hr) (fun _ _ _ e => ⟨e, fun h => absurd h (by decide)⟩), KM44c w hs ht hr⟩
theorem P53 (w : WA N z) (l v : Int64) : PI N z 370 [(0, .ref 100), (1, .long l), (3, .long v), (5, .ref 400)] 323 [(0, .ref 200), (1, .long l), (3, .long v)] := by
  have bd := gn_bd w.1
  obtain ⟨c, hc, rfl⟩ := q_of l
  obtain ⟨d, hd, rfl⟩ := q_of v
  by_cases hx : c < 2 ^ gn z.1
  · by_cases hy : d < 2 ^ gn z.1
    · by_cases hn : gn z.1 ≤ 16
      · by_cases hb : ∃ h, bar (eN (eG z.1 z.2.1)) (gn z.1) c d h
        · obtain ⟨h0, hb⟩ := hb
          exact ⟨z, 0, nI h0 - 144, G_up w, CC_post (KC53d w hn hc hd hx hy) (fun _ _ _ e => ⟨e.1, fun _ => by obtain ⟨h, h1, h2⟩ := e.2; rw [bar_one hb h1]; exact h2⟩), MC_post (KM53d w hn hc hd hx hy) (fun _ _ _ _ e => ⟨by obtain ⟨h, h1, h2⟩ := e.1; rw [bar_one hb h1]; exact h2, e.2⟩)⟩
        · exact ⟨z, 0, 0, G_up w, CC_post (KC53d w hn hc hd hx hy) (fun _ _ _ e => by obtain ⟨h, h1, -⟩ := e.2; exact absurd ⟨h, h1⟩ hb), MC_post (KM53d w hn hc hd hx hy) (fun _ _ _ _ e => by obtain ⟨h, h1, -⟩ := e.1; exact absurd ⟨h, h1⟩ hb)⟩
      · exact ⟨z, _, _, G_up w, CC_post (KC53c w hn hc hd hx hy) (fun _ _ _ e => ⟨e, fun h => absurd h (by decide)⟩), KM53c w hn hc hd hx hy⟩
    · exact ⟨z, _, _, G_up w, CC_post (KC53b w hc hd hx hy) (fun _ _ _ e => ⟨e, fun h => absurd h (by decide)⟩), KM53b w hc hd hx hy⟩
  · exact ⟨z, _, _, G_up w, CC_post (KC53a w hc hd hx) (fun _ _ _ e => ⟨e, fun h => absurd h (by decide)⟩), KM53a w hc hd hx⟩
theorem P0 (w : WA N z) (v u x y t : Int32) : PQn 0 N z 118 [(0, .ref 100), (1, .int v), (2, .int u), (3, .int x), (4, .int y), (5, .int t)] 202 [(0, .ref 200), (1, .int v), (2, .int u), (3, .int x), (4, .int y), (5, .int t)] := by
  have bd := gn_bd w.1
  by_cases hk : z.2.2.2.1 ≤ 580
  · exact ⟨_, _, G0 w hk, KC0b w hk, KM0b w hk⟩
  · exact ⟨z, _, G_up w, KC0a w hk, KM0a w hk⟩
theorem P1 (w : WA N z) (v : Int32) : PQn 0 N z 120 [(0, .ref 100), (1, .int v)] 204 [(0, .ref 200), (1, .int v)] := by
  have bd := gn_bd w.1
  have k6 := w.2.2.2.1
  by_cases hv : v < 0 ∨ nI z.2.2.2.1 < v
  · exact ⟨z, _, G_up w, KC1a w hv, KM1a w hv⟩
  · rcases pk_ix v (n := z.2.2.2.1 + 1) (by omega) with h | h | ⟨t, ht, rfl⟩
    · exact absurd (Or.inl h) hv
    · refine absurd (Or.inr ?_) hv
      have a := Int32.le_iff_toInt_le.mp h
      rw [nI_toInt (by omega)] at a
      exact Int32.lt_iff_toInt_lt.mpr (by rw [nI_toInt (by omega)]; omega)
    · exact ⟨_, _, G1 w (by omega), KC1b w (by omega), KM1b w (by omega)⟩
theorem P5 (w : WA N z) (v : Int32) : PI N z 334 [(0, .ref 100), (1, .int v), (2, .ref 400)] 233 [(0, .ref 200), (1, .int v)] := by
  have bd := gn_bd w.1
  rcases pk_ix v (n := 11) (by omega) with h | h | ⟨t, ht, rfl⟩
  · exact ⟨z, _, _, G_up w, CC_post (KC5_no w (Or.inl h)) (fun _ _ _ e => ⟨e, fun h => absurd h (by decide)⟩), KM5_no w (Or.inl h)⟩
  · exact ⟨z, _, _, G_up w, CC_post (KC5_no w (Or.inr h)) (fun _ _ _ e => ⟨e, fun h => absurd h (by decide)⟩), KM5_no w (Or.inr h)⟩
  · rcases (show t = 0 ∨ t = 1 ∨ t = 2 ∨ t = 3 ∨ t = 4 ∨ t = 5 ∨ t = 6 ∨ t = 7 ∨ t = 8 ∨ t = 9 ∨ t = 10 by omega) with rfl | rfl | rfl | rfl | rfl | rfl | rfl | rfl | rfl | rfl | rfl
    · exact ⟨z, _, _, G_up w, CC_post (KC5_0 w) (fun _ _ _ e => ⟨e.1, fun _ => e.2⟩), KM5_0 w⟩
    · exact ⟨z, _, _, G_up w, CC_post (KC5_1 w) (fun _ _ _ e => ⟨e.1, fun _ => e.2⟩), KM5_1 w⟩
    · exact ⟨z, _, _, G_up w, CC_post (KC5_2 w) (fun _ _ _ e => ⟨e.1, fun _ => e.2⟩), KM5_2 w⟩
    · exact ⟨z, _, _, G_up w, CC_post (KC5_3 w) (fun _ _ _ e => ⟨e.1, fun _ => e.2⟩), KM5_3 w⟩
    · exact ⟨z, _, _, G_up w, CC_post (KC5_4 w) (fun _ _ _ e => ⟨e.1, fun _ => e.2⟩), KM5_4 w⟩
    · exact ⟨z, _, _, G_up w, CC_post (KC5_5 w) (fun _ _ _ e => ⟨e.1, fun _ => e.2⟩), KM5_5 w⟩
    · exact ⟨z, _, _, G_up w, CC_post (KC5_6 w) (fun _ _ _ e => ⟨e.1, fun _ => e.2⟩), KM5_6 w⟩
    · exact ⟨z, _, _, G_up w, CC_post (KC5_7 w) (fun _ _ _ e => ⟨e.1, fun _ => e.2⟩), KM5_7 w⟩
    · exact ⟨z, _, _, G_up w, CC_post (KC5_8 w) (fun _ _ _ e => ⟨e.1, fun _ => e.2⟩), KM5_8 w⟩
    · exact ⟨z, _, _, G_up w, CC_post (KC5_9 w) (fun _ _ _ e => ⟨e.1, fun _ => e.2⟩), KM5_9 w⟩
    · exact ⟨z, _, _, G_up w, CC_post (KC5_10 w) (fun _ _ _ e => ⟨e.1, fun _ => e.2⟩), KM5_10 w⟩
theorem P6 (w : WA N z) (v u : Int32) : PI N z 335 [(0, .ref 100), (1, .int v), (2, .int u), (3, .ref 400)] 235 [(0, .ref 200), (1, .int v), (2, .int u)] := by
  have bd := gn_bd w.1
  rcases pk_ix v (n := gm z.1) (by omega) with h | h | ⟨t, ht, rfl⟩
  · exact ⟨z, _, _, G_up w, CC_post (KC6a w (Or.inl h)) (fun _ _ _ e => ⟨e, fun h => absurd h (by decide)⟩), KM6a w (Or.inl h)⟩
  · exact ⟨z, _, _, G_up w, CC_post (KC6a w (Or.inr h)) (fun _ _ _ e => ⟨e, fun h => absurd h (by decide)⟩), KM6a w (Or.inr h)⟩
  · rcases pk_ix u (n := 4) (by omega) with h | h | ⟨q, hq, rfl⟩
    · exact ⟨z, _, _, G_up w, CC_post (KC6b w ht (Or.inl h)) (fun _ _ _ e => ⟨e, fun h => absurd h (by decide)⟩), KM6b w ht (Or.inl h)⟩
    · exact ⟨z, _, _, G_up w, CC_post (KC6b w ht (Or.inr h)) (fun _ _ _ e => ⟨e, fun h => absurd h (by decide)⟩), KM6b w ht (Or.inr h)⟩
    · rcases (show q = 0 ∨ q = 1 ∨ q = 2 ∨ q = 3 by omega) with rfl | rfl | rfl | rfl
      · exact ⟨z, _, _, G_up w, CC_post (KC6_0 w ht) (fun _ _ _ e => ⟨e.1, fun _ => e.2⟩), KM6_0 w ht⟩
      · exact ⟨z, _, _, G_up w, CC_post (KC6_1 w ht) (fun _ _ _ e => ⟨e.1, fun _ => e.2⟩), KM6_1 w ht⟩
      · exact ⟨z, _, _, G_up w, CC_post (KC6_2 w ht) (fun _ _ _ e => ⟨e.1, fun _ => e.2⟩), KM6_2 w ht⟩
      · exact ⟨z, _, _, G_up w, CC_post (KC6_3 w ht) (fun _ _ _ e => ⟨e.1, fun _ => e.2⟩), KM6_3 w ht⟩
theorem P55 (w : WA N z)  : PQd 1 N z 136 [(0, .ref 100)] 296 [(0, .ref 200)] := by
  have bd := gn_bd w.1
  exact ⟨z, _, G_up w, KC55 w, KM55 w⟩
end
/-! ===== both sides of a call, the rest: printed by a36.pairw.py ===== -/
section
variable {N : Nat} {z : xA}
theorem least_of {p : Nat → Prop} : ∀ n, p n → ∃ c, p c ∧ c ≤ n ∧ ∀ j, j < c → ¬ p j := by
  intro n
  induction n using Nat.strongRecOn with
  | _ n ih =>
    intro h
    by_cases hj : ∃ j, j < n ∧ p j
    · obtain ⟨j, h1, h2⟩ := hj
      obtain ⟨c, c1, c2, c3⟩ := ih j h1 h2
      exact ⟨c, c1, by omega, c3⟩
    · exact ⟨n, h, Nat.le_refl n, fun j h1 h2 => hj ⟨j, h1, h2⟩⟩
theorem ground {E : Nat → Int32} {n : Nat} (hB : EB E n) : ∃ c, c < 2 ^ n ∧ E c = gE ((lv E n).getD 0 0) ∧ ∀ j, j < c → ¬ E j = gE ((lv E n).getD 0 0) := by
  obtain ⟨h1, h2, h3⟩ := lv_get hB (lv_pos hB)
  obtain ⟨c, c1, c2⟩ := ct_pos.mp h2
  have c2 := decide_eq_true_iff.mp c2
  have e : E c = gE ((lv E n).getD 0 0) := by rw [← c2, gE_yL hB c1]
  obtain ⟨d, d1, d2, d3⟩ := least_of (p := fun c => E c = gE ((lv E n).getD 0 0)) c e
  exact ⟨d, by omega, d1, d3⟩
/-- both sides, each with some int; some float -/
def PWi (a N : Nat) (z : xA) (yc : Nat) (lc : xL) (ym : Nat) (lm : xL) : Prop := ∃ z', WA (N + 12800) z' ∧ CC a yc lc z z' (fun r _ _ => ∃ c, r = some (.int c)) ∧ MC ym lm z z' (fun r _ _ _ => ∃ c, r = some (.int c))
def PWf (a N : Nat) (z : xA) (yc : Nat) (lc : xL) (ym : Nat) (lm : xL) : Prop := ∃ z' w, WA (N + 12800) z' ∧ CC a yc lc z z' (fun r _ _ => ∃ c, r = some (.float c) ∧ alike32 c w = true) ∧ MC ym lm z z' (fun r I _ _ => (∃ c, r = some (.float c) ∧ alike32 c w = true) ∧ I 200 19 = 0)
theorem P35 (w : WA N z) (v u : Int32) : PI N z 354 [(0, .ref 100), (1, .int v), (2, .int u), (3, .ref 400)] 305 [(0, .ref 200), (1, .int v), (2, .int u)] := by
  have bd := gn_bd w.1
  by_cases hu : rg u 0 2 = true
  · by_cases hn : gn z.1 ≤ 16
    · have hl : (lvs z.1 z.2.1).length ≤ 4913 := lv_len _ _
      rcases pk_ix v (n := (lvs z.1 z.2.1).length) (by omega) with h | h | ⟨i, hi, rfl⟩
      · exact ⟨z, _, _, G_up w, CC_post (KC35c w hn hu (Or.inl h)) (fun _ _ _ e => ⟨e, fun h => absurd h (by decide)⟩), KM35c w hn hu (Or.inl h)⟩
      · exact ⟨z, _, _, G_up w, CC_post (KC35c w hn hu (Or.inr h)) (fun _ _ _ e => ⟨e, fun h => absurd h (by decide)⟩), KM35c w hn hu (Or.inr h)⟩
      · exact ⟨z, _, _, G_up w, CC_post (KC35d w hn hu hi) (fun _ _ _ e => ⟨e.1, fun _ => e.2⟩), KM35d w hn hu hi⟩
    · exact ⟨z, _, _, G_up w, CC_post (KC35b w hn hu) (fun _ _ _ e => ⟨e, fun h => absurd h (by decide)⟩), KM35b w hn hu⟩
  · exact ⟨z, _, _, G_up w, CC_post (KC35a w hu) (fun _ _ _ e => ⟨e, fun h => absurd h (by decide)⟩), KM35a w hu⟩
theorem P39 (w : WA N z)  : PI N z 358 [(0, .ref 100), (1, .ref 400)] 310 [(0, .ref 200)] := by
  have bd := gn_bd w.1
  by_cases hn : gn z.1 ≤ 16
  · obtain ⟨c, g1, g2, g3⟩ := ground (eG_B w hn)
    exact ⟨z, _, _, G_up w, CC_post (KC39b w hn g1 g2 g3) (fun _ _ _ e => ⟨e.1, fun _ => e.2⟩), KM39b w hn g1 g2 g3⟩
  · exact ⟨z, _, _, G_up w, CC_post (KC39a w hn) (fun _ _ _ e => ⟨e, fun h => absurd h (by decide)⟩), KM39a w hn⟩
theorem P20 (w : WA N z)  : PWi 0 N z 133 [(0, .ref 100)] 285 [(0, .ref 200)] := by
  have bd := gn_bd w.1
  exact ⟨z, G_up w, CC_post (KC20 w) (fun _ _ _ e => ⟨_, e⟩), MC_post (KM20 w) (fun _ _ _ _ e => ⟨_, e.1⟩)⟩
theorem P22 (w : WA N z)  : PWi 0 N z 134 [(0, .ref 100)] 289 [(0, .ref 200)] := by
  have bd := gn_bd w.1
  exact ⟨z, G_up w, CC_post (KC22 w) (fun _ _ _ e => ⟨_, e⟩), MC_post (KM22 w) (fun _ _ _ _ e => ⟨_, e.1⟩)⟩
theorem P61 (w : WA N z) (v : Int32) : PWi 0 N z 144 [(0, .ref 100), (1, .int v)] 330 [(0, .ref 200), (1, .int v)] := by
  have bd := gn_bd w.1
  exact ⟨z, G_up w, KC61 w, KM61 w⟩
theorem P21 (w : WA N z) (v : Int32) : PWi 1 N z 344 [(0, .ref 100), (1, .int v), (2, .ref 400)] 287 [(0, .ref 200), (1, .int v)] := by
  have bd := gn_bd w.1
  rcases pk_ix v (n := gn z.1) (by omega) with h | h | ⟨t, ht, rfl⟩
  · exact ⟨z, G_up w, CC_post (KC21a w (Or.inl h)) (fun _ _ _ e => ⟨_, e⟩), MC_post (KM21a w (Or.inl h)) (fun _ _ _ _ e => ⟨_, e.1⟩)⟩
  · exact ⟨z, G_up w, CC_post (KC21a w (Or.inr h)) (fun _ _ _ e => ⟨_, e⟩), MC_post (KM21a w (Or.inr h)) (fun _ _ _ _ e => ⟨_, e.1⟩)⟩
  · exact ⟨z, G_up w, CC_post (KC21b w ht) (fun _ _ _ e => ⟨_, e.1⟩), MC_post (KM21b w ht) (fun _ _ _ _ e => ⟨_, e.1⟩)⟩
theorem P46 (w : WA N z)  : PWi 1 N z 365 [(0, .ref 100), (1, .ref 400)] 313 [(0, .ref 200)] := by
  have bd := gn_bd w.1
  by_cases hn : gn z.1 ≤ 16
  · exact ⟨z, G_up w, CC_post (KC46b w hn) (fun _ _ _ e => ⟨_, e.1⟩), MC_post (KM46b w hn) (fun _ _ _ _ e => ⟨_, e.1⟩)⟩
  · exact ⟨z, G_up w, CC_post (KC46a w hn) (fun _ _ _ e => ⟨_, e⟩), MC_post (KM46a w hn) (fun _ _ _ _ e => ⟨_, e.1⟩)⟩
theorem P57 (w : WA N z)  : PWf 0 N z 131 [(0, .ref 100)] 263 [(0, .ref 200)] := by
  have bd := gn_bd w.1
  exact ⟨z, _, G_up w, KC57 w, KM57 w⟩
theorem P58 (w : WA N z) (hN : N < 2147483648) : PWf 0 N z 135 [(0, .ref 100)] 264 [(0, .ref 200)] := by
  have bd := gn_bd w.1
  exact ⟨z, _, G_up w, KC58 w hN, KM58 w⟩
end
