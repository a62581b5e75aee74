/-! ===== the law: all calls: printed by a41.loop.py ===== -/
section
variable {xs : Nat → Int32} {L : Nat} {Q : xQ}
def ePcs : List Nat := [316, 389, 414, 427, 440, 453, 481, 521, 561, 601, 629, 657, 685, 698, 758, 786, 799, 812, 840, 853, 866, 879, 907, 920, 948, 1004, 1032, 1060, 1076, 1092, 1120, 1149, 1174, 1187, 1200, 1216, 1256, 1296, 1312, 1328, 1344, 1360, 1413, 1466, 1551, 1616, 1656, 1672, 1732, 1745, 1805, 1834, 1862, 1875, 1979, 2039, 2054, 2094, 2111, 2128, 2141, 2181, 2206, 2219]
theorem sLi {L i : Nat} (hL : L < 2147483648) (hi : i < 2147483648) : (nI L - 6 < nI i) = (L < i + 6) := by
  rw [Int32.lt_iff_toInt_lt, Int32.toInt_sub, nI_toInt hL, nI_toInt hi, show (6 : Int32).toInt = 6 from rfl, Int.bmod_eq_of_le (by omega) (by omega)]
  exact propext ⟨fun h => by omega, fun h => by omega⟩
theorem swE (F : Nat → Prop) (hF : ∀ t ∈ ePcs, F t) (h0 : F 2235) (x : Int32) (ps : List (Int32 × Nat)) (hp : ∀ q ∈ ps, q.2 ∈ ePcs) : xSw F x ps 2235 := by
  induction ps with
  | nil => exact h0
  | cons q r ih => exact ⟨fun _ => hF _ (hp q List.mem_cons_self), fun _ => ih (fun q hq => hp q (List.mem_cons_of_mem _ hq))⟩
set_option maxRecDepth 20000 in
theorem LPl (hC : ∀ t ∈ ePcs, xCa t) (hL : L < 2147480000) (hQ : ∀ S I J D R b, Q (.ok (some (.int 1))) (S, I, J, D, R) b) : ∀ (r N : Nat) (z : xA) (P f i : Nat) (S : xS) (I : xI) (J : xJ) (D : xDb) (R : xR) (b : Nat × Nat), LSt N P f xs L z S I J R → L ≤ i + 6 * r + 5 → i < 2147483000 → N + 12800 * r < 2147483648 → f + 1000 * r ≤ 800000 → 100 * r + P ≤ b.1 → 5000 * r + P ≤ b.2 → xRun xT 375 28 (regs i) [] (S, I, J, D, R) b Q
  | 0, N, z, P, f, i, S, I, J, D, R, b, h, h1, h2, h3, h4, b1, b2 => by
    have s6 := h.2.2.2.2.1
    have e : (L < i + 6) = True := eq_true (by omega)
    rw [e375_28]
    simp only [B375_28, regs, xSeq, i_push, i_load, i_iload, i_lload, i_dload, i_aload, i_istore, i_astore, i_lstore, i_dstore, i_iinc, i_ii, i_iiz, i_ll, i_llz, i_lli, i_li, i_i, i_l, i_i2l, i_l2i, i_dup, i_dup2, i_dup2w, i_dupx1, i_pop, i_pop2, i_goto, i_ifc, i_icmp, i_getI, i_getL, i_getR, i_putI, i_putZ, i_putL, i_putR, i_aldI, i_aldB, i_aldL, i_aldD, i_astI, i_astL, i_astD, i_alen, i_ret, i_iret, i_zret, i_lret, i_fret, i_dret, i_aret, i_invS0, i_invV0, i_m2, i_m1, i_ml, i_obj, lk, lkp, stf1, stf2, Value.category, rV, xTo, lv_args, xCk, xCat, xRc, xAk, hg_S, hg_I, hg_J, hg_D, hg_R, hs_I, hs_J, hs_D, hs_R, uI_at, uJ_at, uD_at, uR_at, List.take_succ_cons, List.take_zero, List.drop_succ_cons, List.drop_zero, List.reverse_cons, List.reverse_nil, List.nil_append, List.cons_append, List.map_cons, List.map_nil, List.sum_cons, List.sum_nil, List.length_cons, List.length_nil, Option.toList_some, Option.toList_none, true_and, and_true, false_and, and_false, true_implies, false_implies, implies_true, not_true_eq_false, not_false_eq_true, ne_eq, if_true, if_false, Bool.and_true, Bool.true_and, decide_true, decide_false, reduceIte, reduceCtorEq, Bool.and_self, Bool.and_eq_true, decide_eq_true_eq, and_self, true_or, or_true, false_or, or_false, Nat.zero_add, Nat.add_zero, eq_self, Nat.reduceEqDiff, Nat.reduceLeDiff, Nat.reduceLT, Nat.reduceAdd, Nat.reduceSub, Nat.reduceMul, s6, sLi (show L < 2147483648 by omega) (show i < 2147483648 by omega), e]
    rw [e375_2241]
    simp only [B375_2241, xSeq, i_push, i_load, i_iload, i_lload, i_dload, i_aload, i_istore, i_astore, i_lstore, i_dstore, i_iinc, i_ii, i_iiz, i_ll, i_llz, i_lli, i_li, i_i, i_l, i_i2l, i_l2i, i_dup, i_dup2, i_dup2w, i_dupx1, i_pop, i_pop2, i_goto, i_ifc, i_icmp, i_getI, i_getL, i_getR, i_putI, i_putZ, i_putL, i_putR, i_aldI, i_aldB, i_aldL, i_aldD, i_astI, i_astL, i_astD, i_alen, i_ret, i_iret, i_zret, i_lret, i_fret, i_dret, i_aret, i_invS0, i_invV0, i_m2, i_m1, i_ml, i_obj, lk, lkp, stf1, stf2, Value.category, rV, xTo, lv_args, xCk, xCat, xRc, xAk, hg_S, hg_I, hg_J, hg_D, hg_R, hs_I, hs_J, hs_D, hs_R, uI_at, uJ_at, uD_at, uR_at, List.take_succ_cons, List.take_zero, List.drop_succ_cons, List.drop_zero, List.reverse_cons, List.reverse_nil, List.nil_append, List.cons_append, List.map_cons, List.map_nil, List.sum_cons, List.sum_nil, List.length_cons, List.length_nil, Option.toList_some, Option.toList_none, true_and, and_true, false_and, and_false, true_implies, false_implies, implies_true, not_true_eq_false, not_false_eq_true, ne_eq, if_true, if_false, Bool.and_true, Bool.true_and, decide_true, decide_false, reduceIte, reduceCtorEq, Bool.and_self, Bool.and_eq_true, decide_eq_true_eq, and_self, true_or, or_true, false_or, or_false, Nat.zero_add, Nat.add_zero, eq_self, Nat.reduceEqDiff, Nat.reduceLeDiff, Nat.reduceLT, Nat.reduceAdd, Nat.reduceSub, Nat.reduceMul]
    exact hQ _ _ _ _ _ _
  | r + 1, N, z, P, f, i, S, I, J, D, R, b, h, h1, h2, h3, h4, b1, b2 => by
    have s6 := h.2.2.2.2.1
    have x6 := h.2.2.2.2.2.1
    by_cases hi : i + 6 ≤ L
    · have e : (L < i + 6) = False := eq_false (by omega)
      have nx : ∀ z' P' f' S' I' J' D' R' b', LSt (N + 12800) P' f' xs L z' S' I' J' R' → f' ≤ f + 1000 → 100 * r + P' ≤ b'.1 → 5000 * r + P' ≤ b'.2 → xRun xT 375 2235 (regs i) [] (S', I', J', D', R') b' Q := fun z' P' f' S' I' J' D' R' b' q1 q2 q3 q4 => by
        have e6 : nI i + 6 = nI (i + 6) := by rw [show (6 : Int32) = nI 6 from rfl, nI_add]
        rw [e375_2235]
        simp only [B375_2235, regs, xSeq, i_push, i_load, i_iload, i_lload, i_dload, i_aload, i_istore, i_astore, i_lstore, i_dstore, i_iinc, i_ii, i_iiz, i_ll, i_llz, i_lli, i_li, i_i, i_l, i_i2l, i_l2i, i_dup, i_dup2, i_dup2w, i_dupx1, i_pop, i_pop2, i_goto, i_ifc, i_icmp, i_getI, i_getL, i_getR, i_putI, i_putZ, i_putL, i_putR, i_aldI, i_aldB, i_aldL, i_aldD, i_astI, i_astL, i_astD, i_alen, i_ret, i_iret, i_zret, i_lret, i_fret, i_dret, i_aret, i_invS0, i_invV0, i_m2, i_m1, i_ml, i_obj, lk, lkp, stf1, stf2, Value.category, rV, xTo, lv_args, xCk, xCat, xRc, xAk, hg_S, hg_I, hg_J, hg_D, hg_R, hs_I, hs_J, hs_D, hs_R, uI_at, uJ_at, uD_at, uR_at, List.take_succ_cons, List.take_zero, List.drop_succ_cons, List.drop_zero, List.reverse_cons, List.reverse_nil, List.nil_append, List.cons_append, List.map_cons, List.map_nil, List.sum_cons, List.sum_nil, List.length_cons, List.length_nil, Option.toList_some, Option.toList_none, true_and, and_true, false_and, and_false, true_implies, false_implies, implies_true, not_true_eq_false, not_false_eq_true, ne_eq, if_true, if_false, Bool.and_true, Bool.true_and, decide_true, decide_false, reduceIte, reduceCtorEq, Bool.and_self, Bool.and_eq_true, decide_eq_true_eq, and_self, true_or, or_true, false_or, or_false, Nat.zero_add, Nat.add_zero, eq_self, Nat.reduceEqDiff, Nat.reduceLeDiff, Nat.reduceLT, Nat.reduceAdd, Nat.reduceSub, Nat.reduceMul, e6]
        exact LPl hC hL hQ r (N + 12800) z' P' f' (i + 6) S' I' J' D' R' b' q1 (by omega) (by omega) (by omega) (by omega) q3 q4
      have go : ∀ t ∈ ePcs, xRun xT 375 t (regs i) [] (S, I, J, D, R) b Q := fun t ht => hC t ht N r P f xs L z i S I J D R b Q h hi (by omega) (by omega) (by omega) b1 b2 nx
      have df : xRun xT 375 2235 (regs i) [] (S, I, J, D, R) b Q := nx z P f S I J D R b ⟨h.1, h.2.1, h.2.2.1, G_up h.2.2.2.1, h.2.2.2.2⟩ (by omega) (by omega) (by omega)
      rw [e375_28]
      simp only [B375_28, regs, xSeq, i_push, i_load, i_iload, i_lload, i_dload, i_aload, i_istore, i_astore, i_lstore, i_dstore, i_iinc, i_ii, i_iiz, i_ll, i_llz, i_lli, i_li, i_i, i_l, i_i2l, i_l2i, i_dup, i_dup2, i_dup2w, i_dupx1, i_pop, i_pop2, i_goto, i_ifc, i_icmp, i_getI, i_getL, i_getR, i_putI, i_putZ, i_putL, i_putR, i_aldI, i_aldB, i_aldL, i_aldD, i_astI, i_astL, i_astD, i_alen, i_ret, i_iret, i_zret, i_lret, i_fret, i_dret, i_aret, i_invS0, i_invV0, i_m2, i_m1, i_ml, i_obj, lk, lkp, stf1, stf2, Value.category, rV, xTo, lv_args, xCk, xCat, xRc, xAk, hg_S, hg_I, hg_J, hg_D, hg_R, hs_I, hs_J, hs_D, hs_R, uI_at, uJ_at, uD_at, uR_at, List.take_succ_cons, List.take_zero, List.drop_succ_cons, List.drop_zero, List.reverse_cons, List.reverse_nil, List.nil_append, List.cons_append, List.map_cons, List.map_nil, List.sum_cons, List.sum_nil, List.length_cons, List.length_nil, Option.toList_some, Option.toList_none, true_and, and_true, false_and, and_false, true_implies, false_implies, implies_true, not_true_eq_false, not_false_eq_true, ne_eq, if_true, if_false, Bool.and_true, Bool.true_and, decide_true, decide_false, reduceIte, reduceCtorEq, Bool.and_self, Bool.and_eq_true, decide_eq_true_eq, and_self, true_or, or_true, false_or, or_false, Nat.zero_add, Nat.add_zero, eq_self, Nat.reduceEqDiff, Nat.reduceLeDiff, Nat.reduceLT, Nat.reduceAdd, Nat.reduceSub, Nat.reduceMul, s6, x6, sLi (show L < 2147483648 by omega) (show i < 2147483648 by omega), e, nI_inP (show i < L by omega) (show L < 2147483648 by omega), nI_ix (show i < 2147483648 by omega), i_sw]
      refine swE _ (fun t ht => go t ht) df _ _ ?_
      decide
    · have e : (L < i + 6) = True := eq_true (by omega)
      rw [e375_28]
      simp only [B375_28, regs, xSeq, i_push, i_load, i_iload, i_lload, i_dload, i_aload, i_istore, i_astore, i_lstore, i_dstore, i_iinc, i_ii, i_iiz, i_ll, i_llz, i_lli, i_li, i_i, i_l, i_i2l, i_l2i, i_dup, i_dup2, i_dup2w, i_dupx1, i_pop, i_pop2, i_goto, i_ifc, i_icmp, i_getI, i_getL, i_getR, i_putI, i_putZ, i_putL, i_putR, i_aldI, i_aldB, i_aldL, i_aldD, i_astI, i_astL, i_astD, i_alen, i_ret, i_iret, i_zret, i_lret, i_fret, i_dret, i_aret, i_invS0, i_invV0, i_m2, i_m1, i_ml, i_obj, lk, lkp, stf1, stf2, Value.category, rV, xTo, lv_args, xCk, xCat, xRc, xAk, hg_S, hg_I, hg_J, hg_D, hg_R, hs_I, hs_J, hs_D, hs_R, uI_at, uJ_at, uD_at, uR_at, List.take_succ_cons, List.take_zero, List.drop_succ_cons, List.drop_zero, List.reverse_cons, List.reverse_nil, List.nil_append, List.cons_append, List.map_cons, List.map_nil, List.sum_cons, List.sum_nil, List.length_cons, List.length_nil, Option.toList_some, Option.toList_none, true_and, and_true, false_and, and_false, true_implies, false_implies, implies_true, not_true_eq_false, not_false_eq_true, ne_eq, if_true, if_false, Bool.and_true, Bool.true_and, decide_true, decide_false, reduceIte, reduceCtorEq, Bool.and_self, Bool.and_eq_true, decide_eq_true_eq, and_self, true_or, or_true, false_or, or_false, Nat.zero_add, Nat.add_zero, eq_self, Nat.reduceEqDiff, Nat.reduceLeDiff, Nat.reduceLT, Nat.reduceAdd, Nat.reduceSub, Nat.reduceMul, s6, sLi (show L < 2147483648 by omega) (show i < 2147483648 by omega), e]
      rw [e375_2241]
      simp only [B375_2241, xSeq, i_push, i_load, i_iload, i_lload, i_dload, i_aload, i_istore, i_astore, i_lstore, i_dstore, i_iinc, i_ii, i_iiz, i_ll, i_llz, i_lli, i_li, i_i, i_l, i_i2l, i_l2i, i_dup, i_dup2, i_dup2w, i_dupx1, i_pop, i_pop2, i_goto, i_ifc, i_icmp, i_getI, i_getL, i_getR, i_putI, i_putZ, i_putL, i_putR, i_aldI, i_aldB, i_aldL, i_aldD, i_astI, i_astL, i_astD, i_alen, i_ret, i_iret, i_zret, i_lret, i_fret, i_dret, i_aret, i_invS0, i_invV0, i_m2, i_m1, i_ml, i_obj, lk, lkp, stf1, stf2, Value.category, rV, xTo, lv_args, xCk, xCat, xRc, xAk, hg_S, hg_I, hg_J, hg_D, hg_R, hs_I, hs_J, hs_D, hs_R, uI_at, uJ_at, uD_at, uR_at, List.take_succ_cons, List.take_zero, List.drop_succ_cons, List.drop_zero, List.reverse_cons, List.reverse_nil, List.nil_append, List.cons_append, List.map_cons, List.map_nil, List.sum_cons, List.sum_nil, List.length_cons, List.length_nil, Option.toList_some, Option.toList_none, true_and, and_true, false_and, and_false, true_implies, false_implies, implies_true, not_true_eq_false, not_false_eq_true, ne_eq, if_true, if_false, Bool.and_true, Bool.true_and, decide_true, decide_false, reduceIte, reduceCtorEq, Bool.and_self, Bool.and_eq_true, decide_eq_true_eq, and_self, true_or, or_true, false_or, or_false, Nat.zero_add, Nat.add_zero, eq_self, Nat.reduceEqDiff, Nat.reduceLeDiff, Nat.reduceLT, Nat.reduceAdd, Nat.reduceSub, Nat.reduceMul]
      exact hQ _ _ _ _ _ _
end
/-! ===== the first state: printed by a42.first.py ===== -/
section
def z00 : xA := ((4, 4, 0), mkS (fun _ => 1) 0 1 2 0 (65535, 1, 0, 0) 0 (fun _ => 0) (fun _ => 0), none, 0, (fun _ => 0), 0, -1)
variable {S : xS} {I : xI} {J : xJ} {R : xR}
theorem gm00 : (bl 4 4 0 16).length = 32 := by decide +kernel
theorem WA_00 : WA 0 z00 := by
  refine ⟨⟨by decide, by decide, by decide, by decide, by decide⟩, ⟨⟨⟨by decide, fun k _ => ?_⟩, by decide, by decide, by decide, Or.inl rfl⟩, ⟨by decide, by decide, 0, rfl, Nat.le_refl 0⟩, Nat.zero_le _, fun i hi => absurd hi (Nat.not_lt_zero i)⟩, fun y hy => ?_, Nat.zero_le _, fun j hj => absurd hj (Nat.not_lt_zero j)⟩
  · show -3 ≤ (1 : Int32).toInt ∧ (1 : Int32).toInt ≤ 3
    decide
  · cases hy
theorem AA_00 (h : FC S I J R) (hf : ∀ o, 402 ≤ o → o < 900000 → S o = (0, 0)) : AA z00 282794 402 S I J R := by
  obtain ⟨a1, ⟨l1, l2, l3, -⟩, a3, -, a5, a6, a7, a8, a9, ⟨b1, b2, b3, b4, b5, b6, b7, b8⟩, ⟨c1, c2, c3, c4, c5, c6, c7⟩, ⟨d1, d2, d3, d4, d5, d6, d7⟩, ⟨e1, e2, e3, e4⟩, ⟨f1, f2, f3⟩, g1, g2, g3⟩ := h
  rw [aU16] at b7
  refine ⟨a1, ⟨⟨a7, a3⟩, a5, a6, a8⟩, ⟨⟨b1, b2, b3, b4, b5, b6, b7, b8⟩, fun k hk => a9 k ?_, ⟨c1, Nat.zero_le _⟩, fun i hi => absurd hi (Nat.not_lt_zero i)⟩, ⟨e4, fun y hy => ?_⟩, ⟨e1, fun j hj => absurd hj (Nat.not_lt_zero j), e2, e3⟩, Or.inl f1, 20002, 20002, 32769, 200006, 10015, by decide, Or.inl ⟨c2, c5, c3, c6, g2 117 (by decide), g2 118 (by decide), c1, Nat.le_refl _⟩, Or.inl ⟨d1, d4, d2, d5, g2 127 (by decide), g2 128 (by decide), d7, Nat.le_refl _⟩, Or.inl ⟨c4, c7, g2 119 (by decide), Nat.le_refl _⟩, Or.inl ⟨f2, f3, fun o h1 h2 => g2 o (by unfold fC; omega), f1, Nat.le_refl _⟩, ⟨160, 16, 0, l1, l2, l3, g1, Or.inl rfl, Nat.zero_le _, Nat.le_refl _, by decide, fun k _ => ?_, by decide⟩, Nat.le_refl _, by decide, hf⟩
  · have hk : k < (bl 4 4 0 16).length := hk
    rw [gm00] at hk
    omega
  · cases hy
  · rw [g3 k]
    exact bF_0
theorem AB_00 (h : FM S I J R) : ABm z00 S I J R := by
  obtain ⟨a1, a2, ⟨b1, b2, b3, b4, b5, b6, b7, b8, b9, b10, b11⟩, a3, a4, a5, ⟨c1, c2, c3, c4, c5, c6, c7, c8⟩⟩ := h
  rw [aU16] at a4
  refine ⟨a1, ⟨⟨b11, a2⟩, b1, b2, c2⟩, ⟨⟨b3, b4, b5, b6, b7, b8, a4, a5⟩, fun k hk => a3 k ?_, ⟨b10, Nat.zero_le _⟩, fun i hi => absurd hi (Nat.not_lt_zero i)⟩, ⟨c1, fun y hy => ?_⟩, ⟨c4, fun j hj => absurd hj (Nat.not_lt_zero j), c5, c6⟩, Or.inl c7, 0, c8, by decide⟩
  · have hk : k < (bl 4 4 0 16).length := hk
    rw [gm00] at hk
    exact hk
  · cases hy
end
/-! ===== the law: its entry: printed by a43.entry.py ===== -/
section
theorem LP0 {xs : Nat → Int32} {L : Nat} {Q : xQ} (hC : ∀ t ∈ ePcs, xCa t) (hL : L ≤ 3072) (hQ : ∀ S I J D R b, Q (.ok (some (.int 1))) (S, I, J, D, R) b) {S : xS} {I : xI} {J : xJ} {D : xDb} {R : xR} {b : Nat × Nat} (h : LSt 0 282794 402 xs L z00 S I J R) (b1 : 333994 ≤ b.1) (b2 : 2842794 ≤ b.2) : xRun xT 375 28 [(0, .ref 900600), (1, .ref 100), (2, .ref 200), (3, .ref 400), (4, .ref 401), (5, .int 0)] [] (S, I, J, D, R) b Q := by
  have hh := LPl hC (show L < 2147480000 by omega) hQ 512 0 z00 282794 402 0 S I J D R b h (by omega) (by decide) (by decide) (by decide) (by omega) (by omega)
  unfold regs at hh
  rw [nI_0] at hh
  exact hh
set_option maxRecDepth 20000 in
set_option maxHeartbeats 4000000 in
theorem LRun (hC : ∀ t ∈ ePcs, xCa t) : xRuns := by
  intro L xs hL
  have hL6 : L ≤ 3072 := hL
  show xRun xT 375 0 [(0, .ref 900600)] [] (xSh L, xSi xs, fun _ _ => 0, fun _ _ => 0, fun o k => if 900000 ≤ o ∧ o < 900000 + xTxs.length ∧ k = 0 then some (o + 100) else none) (601024, 7293034) xYes
  obtain ⟨S0, hS0⟩ : ∃ S0, S0 = xSh L := ⟨_, rfl⟩
  obtain ⟨I0, hI0⟩ : ∃ I0, I0 = xSi xs := ⟨_, rfl⟩
  obtain ⟨J0, hJ0⟩ : ∃ J0 : xJ, J0 = fun _ _ => 0 := ⟨_, rfl⟩
  obtain ⟨D0, hD0⟩ : ∃ D0 : xDb, D0 = fun _ _ => 0 := ⟨_, rfl⟩
  obtain ⟨R0, hR0⟩ : ∃ R0 : xR, R0 = fun o k => if 900000 ≤ o ∧ o < 900000 + xTxs.length ∧ k = 0 then some (o + 100) else none := ⟨_, rfl⟩
  rw [← hS0, ← hI0, ← hJ0, ← hD0, ← hR0]
  have f0 : ∀ o, o < 900000 → S0 o = (0, 0) := fun o ho => by rw [hS0]; exact xSh_lo ho
  have s6 : S0 900600 = (108, L) := by
    rw [hS0]
    unfold xSh
    rw [if_pos rfl]
  have i6 : ∀ j, I0 900600 j = xs j := fun j => by
    rw [hI0]
    unfold xSi
    rw [if_pos rfl]
  rw [e375_0]
  simp only [B375_0, xSeq]
  refine w_new 100 (Nat.le_of_ble_eq_true rfl) (Nat.le_of_ble_eq_true rfl) (by rw [f0 100 (by decide)]) (by decide) ?_
  simp only [xSeq, i_push, i_load, i_iload, i_lload, i_dload, i_aload, i_istore, i_astore, i_lstore, i_dstore, i_iinc, i_ii, i_iiz, i_ll, i_llz, i_lli, i_li, i_i, i_l, i_i2l, i_l2i, i_dup, i_dup2, i_dup2w, i_dupx1, i_pop, i_pop2, i_goto, i_ifc, i_icmp, i_getI, i_getL, i_getR, i_putI, i_putZ, i_putL, i_putR, i_aldI, i_aldB, i_aldL, i_aldD, i_astI, i_astL, i_astD, i_alen, i_ret, i_iret, i_zret, i_lret, i_fret, i_dret, i_aret, i_invS0, i_invV0, i_m2, i_m1, i_ml, i_obj, lk, lkp, stf1, stf2, Value.category, rV, xTo, lv_args, xCk, xCat, xRc, xAk, hg_S, hg_I, hg_J, hg_D, hg_R, hs_I, hs_J, hs_D, hs_R, uI_at, uJ_at, uD_at, uR_at, List.take_succ_cons, List.take_zero, List.drop_succ_cons, List.drop_zero, List.reverse_cons, List.reverse_nil, List.nil_append, List.cons_append, List.map_cons, List.map_nil, List.sum_cons, List.sum_nil, List.length_cons, List.length_nil, Option.toList_some, Option.toList_none, true_and, and_true, false_and, and_false, true_implies, false_implies, implies_true, not_true_eq_false, not_false_eq_true, ne_eq, if_true, if_false, Bool.and_true, Bool.true_and, decide_true, decide_false, reduceIte, reduceCtorEq, Bool.and_self, Bool.and_eq_true, decide_eq_true_eq, and_self, true_or, or_true, false_or, or_false, Nat.zero_add, Nat.add_zero, eq_self, Nat.reduceEqDiff, Nat.reduceLeDiff, Nat.reduceLT, Nat.reduceAdd, Nat.reduceSub, Nat.reduceMul, nF_at, zI_at, zJ_at, zD_at, zR_at, i_putB]
  refine w_invVA (mc := 100) (ms := 20000) (Nat.le_of_ble_eq_true rfl) (Nat.le_of_ble_eq_true rfl) rfl (by simp only [xSeq, i_push, i_load, i_iload, i_lload, i_dload, i_aload, i_istore, i_astore, i_lstore, i_dstore, i_iinc, i_ii, i_iiz, i_ll, i_llz, i_lli, i_li, i_i, i_l, i_i2l, i_l2i, i_dup, i_dup2, i_dup2w, i_dupx1, i_pop, i_pop2, i_goto, i_ifc, i_icmp, i_getI, i_getL, i_getR, i_putI, i_putZ, i_putL, i_putR, i_aldI, i_aldB, i_aldL, i_aldD, i_astI, i_astL, i_astD, i_alen, i_ret, i_iret, i_zret, i_lret, i_fret, i_dret, i_aret, i_invS0, i_invV0, i_m2, i_m1, i_ml, i_obj, lk, lkp, stf1, stf2, Value.category, rV, xTo, lv_args, xCk, xCat, xRc, xAk, hg_S, hg_I, hg_J, hg_D, hg_R, hs_I, hs_J, hs_D, hs_R, uI_at, uJ_at, uD_at, uR_at, List.take_succ_cons, List.take_zero, List.drop_succ_cons, List.drop_zero, List.reverse_cons, List.reverse_nil, List.nil_append, List.cons_append, List.map_cons, List.map_nil, List.sum_cons, List.sum_nil, List.length_cons, List.length_nil, Option.toList_some, Option.toList_none, true_and, and_true, false_and, and_false, true_implies, false_implies, implies_true, not_true_eq_false, not_false_eq_true, ne_eq, if_true, if_false, Bool.and_true, Bool.true_and, decide_true, decide_false, reduceIte, reduceCtorEq, Bool.and_self, Bool.and_eq_true, decide_eq_true_eq, and_self, true_or, or_true, false_or, or_false, Nat.zero_add, Nat.add_zero, eq_self, Nat.reduceEqDiff, Nat.reduceLeDiff, Nat.reduceLT, Nat.reduceAdd, Nat.reduceSub, Nat.reduceMul, nF_at, zI_at, zJ_at, zD_at, zR_at, i_putB]) ?_
  simp only [xSeq, i_push, i_load, i_iload, i_lload, i_dload, i_aload, i_istore, i_astore, i_lstore, i_dstore, i_iinc, i_ii, i_iiz, i_ll, i_llz, i_lli, i_li, i_i, i_l, i_i2l, i_l2i, i_dup, i_dup2, i_dup2w, i_dupx1, i_pop, i_pop2, i_goto, i_ifc, i_icmp, i_getI, i_getL, i_getR, i_putI, i_putZ, i_putL, i_putR, i_aldI, i_aldB, i_aldL, i_aldD, i_astI, i_astL, i_astD, i_alen, i_ret, i_iret, i_zret, i_lret, i_fret, i_dret, i_aret, i_invS0, i_invV0, i_m2, i_m1, i_ml, i_obj, lk, lkp, stf1, stf2, Value.category, rV, xTo, lv_args, xCk, xCat, xRc, xAk, hg_S, hg_I, hg_J, hg_D, hg_R, hs_I, hs_J, hs_D, hs_R, uI_at, uJ_at, uD_at, uR_at, List.take_succ_cons, List.take_zero, List.drop_succ_cons, List.drop_zero, List.reverse_cons, List.reverse_nil, List.nil_append, List.cons_append, List.map_cons, List.map_nil, List.sum_cons, List.sum_nil, List.length_cons, List.length_nil, Option.toList_some, Option.toList_none, true_and, and_true, false_and, and_false, true_implies, false_implies, implies_true, not_true_eq_false, not_false_eq_true, ne_eq, if_true, if_false, Bool.and_true, Bool.true_and, decide_true, decide_false, reduceIte, reduceCtorEq, Bool.and_self, Bool.and_eq_true, decide_eq_true_eq, and_self, true_or, or_true, false_or, or_false, Nat.zero_add, Nat.add_zero, eq_self, Nat.reduceEqDiff, Nat.reduceLeDiff, Nat.reduceLT, Nat.reduceAdd, Nat.reduceSub, Nat.reduceMul, nF_at, zI_at, zJ_at, zD_at, zR_at, i_putB]
  refine A116 (by simp only [nF_at, true_and, and_true, false_and, and_false, true_implies, false_implies, implies_true, not_true_eq_false, not_false_eq_true, ne_eq, if_true, if_false, Bool.and_true, Bool.true_and, decide_true, decide_false, reduceIte, reduceCtorEq, Bool.and_self, Bool.and_eq_true, decide_eq_true_eq, and_self, true_or, or_true, false_or, or_false, Nat.zero_add, Nat.add_zero, eq_self, Nat.reduceEqDiff, Nat.reduceLeDiff, Nat.reduceLT, Nat.reduceAdd, Nat.reduceSub, Nat.reduceMul]) (fun o h1 h2 => by rw [nF_at, if_neg h2]; exact f0 o (by omega)) (fun S1 I1 J1 D1 R1 b1 hFC fr1 => ?_)
  have g1 : ∀ o, 174 ≤ o → o < 900000 → S1 o = (0, 0) := fun o h1 h2 => by
    rw [(fr1 o (Or.inr h1)).1, nF_at, if_neg (by omega)]
    exact f0 o h2
  have s61 : S1 900600 = (108, L) := by
    rw [(fr1 900600 (Or.inr (by decide))).1, nF_at, if_neg (by decide)]
    exact s6
  have i61 : ∀ j, I1 900600 j = xs j := fun j => by
    rw [(fr1 900600 (Or.inr (by decide))).2.1, zI_at, if_neg (by decide)]
    exact i6 j
  simp only [xSeq, i_push, i_load, i_iload, i_lload, i_dload, i_aload, i_istore, i_astore, i_lstore, i_dstore, i_iinc, i_ii, i_iiz, i_ll, i_llz, i_lli, i_li, i_i, i_l, i_i2l, i_l2i, i_dup, i_dup2, i_dup2w, i_dupx1, i_pop, i_pop2, i_goto, i_ifc, i_icmp, i_getI, i_getL, i_getR, i_putI, i_putZ, i_putL, i_putR, i_aldI, i_aldB, i_aldL, i_aldD, i_astI, i_astL, i_astD, i_alen, i_ret, i_iret, i_zret, i_lret, i_fret, i_dret, i_aret, i_invS0, i_invV0, i_m2, i_m1, i_ml, i_obj, lk, lkp, stf1, stf2, Value.category, rV, xTo, lv_args, xCk, xCat, xRc, xAk, hg_S, hg_I, hg_J, hg_D, hg_R, hs_I, hs_J, hs_D, hs_R, uI_at, uJ_at, uD_at, uR_at, List.take_succ_cons, List.take_zero, List.drop_succ_cons, List.drop_zero, List.reverse_cons, List.reverse_nil, List.nil_append, List.cons_append, List.map_cons, List.map_nil, List.sum_cons, List.sum_nil, List.length_cons, List.length_nil, Option.toList_some, Option.toList_none, true_and, and_true, false_and, and_false, true_implies, false_implies, implies_true, not_true_eq_false, not_false_eq_true, ne_eq, if_true, if_false, Bool.and_true, Bool.true_and, decide_true, decide_false, reduceIte, reduceCtorEq, Bool.and_self, Bool.and_eq_true, decide_eq_true_eq, and_self, true_or, or_true, false_or, or_false, Nat.zero_add, Nat.add_zero, eq_self, Nat.reduceEqDiff, Nat.reduceLeDiff, Nat.reduceLT, Nat.reduceAdd, Nat.reduceSub, Nat.reduceMul, nF_at, zI_at, zJ_at, zD_at, zR_at, i_putB]
  refine w_new 200 (Nat.le_of_ble_eq_true rfl) (Nat.le_of_ble_eq_true rfl) (by rw [g1 200 (by decide) (by decide)]) (by decide) ?_
  simp only [xSeq, i_push, i_load, i_iload, i_lload, i_dload, i_aload, i_istore, i_astore, i_lstore, i_dstore, i_iinc, i_ii, i_iiz, i_ll, i_llz, i_lli, i_li, i_i, i_l, i_i2l, i_l2i, i_dup, i_dup2, i_dup2w, i_dupx1, i_pop, i_pop2, i_goto, i_ifc, i_icmp, i_getI, i_getL, i_getR, i_putI, i_putZ, i_putL, i_putR, i_aldI, i_aldB, i_aldL, i_aldD, i_astI, i_astL, i_astD, i_alen, i_ret, i_iret, i_zret, i_lret, i_fret, i_dret, i_aret, i_invS0, i_invV0, i_m2, i_m1, i_ml, i_obj, lk, lkp, stf1, stf2, Value.category, rV, xTo, lv_args, xCk, xCat, xRc, xAk, hg_S, hg_I, hg_J, hg_D, hg_R, hs_I, hs_J, hs_D, hs_R, uI_at, uJ_at, uD_at, uR_at, List.take_succ_cons, List.take_zero, List.drop_succ_cons, List.drop_zero, List.reverse_cons, List.reverse_nil, List.nil_append, List.cons_append, List.map_cons, List.map_nil, List.sum_cons, List.sum_nil, List.length_cons, List.length_nil, Option.toList_some, Option.toList_none, true_and, and_true, false_and, and_false, true_implies, false_implies, implies_true, not_true_eq_false, not_false_eq_true, ne_eq, if_true, if_false, Bool.and_true, Bool.true_and, decide_true, decide_false, reduceIte, reduceCtorEq, Bool.and_self, Bool.and_eq_true, decide_eq_true_eq, and_self, true_or, or_true, false_or, or_false, Nat.zero_add, Nat.add_zero, eq_self, Nat.reduceEqDiff, Nat.reduceLeDiff, Nat.reduceLT, Nat.reduceAdd, Nat.reduceSub, Nat.reduceMul, nF_at, zI_at, zJ_at, zD_at, zR_at, i_putB]
  refine w_invVA (mc := 40) (ms := 600000) (Nat.le_of_ble_eq_true rfl) (Nat.le_of_ble_eq_true rfl) rfl (by simp only [xSeq, i_push, i_load, i_iload, i_lload, i_dload, i_aload, i_istore, i_astore, i_lstore, i_dstore, i_iinc, i_ii, i_iiz, i_ll, i_llz, i_lli, i_li, i_i, i_l, i_i2l, i_l2i, i_dup, i_dup2, i_dup2w, i_dupx1, i_pop, i_pop2, i_goto, i_ifc, i_icmp, i_getI, i_getL, i_getR, i_putI, i_putZ, i_putL, i_putR, i_aldI, i_aldB, i_aldL, i_aldD, i_astI, i_astL, i_astD, i_alen, i_ret, i_iret, i_zret, i_lret, i_fret, i_dret, i_aret, i_invS0, i_invV0, i_m2, i_m1, i_ml, i_obj, lk, lkp, stf1, stf2, Value.category, rV, xTo, lv_args, xCk, xCat, xRc, xAk, hg_S, hg_I, hg_J, hg_D, hg_R, hs_I, hs_J, hs_D, hs_R, uI_at, uJ_at, uD_at, uR_at, List.take_succ_cons, List.take_zero, List.drop_succ_cons, List.drop_zero, List.reverse_cons, List.reverse_nil, List.nil_append, List.cons_append, List.map_cons, List.map_nil, List.sum_cons, List.sum_nil, List.length_cons, List.length_nil, Option.toList_some, Option.toList_none, true_and, and_true, false_and, and_false, true_implies, false_implies, implies_true, not_true_eq_false, not_false_eq_true, ne_eq, if_true, if_false, Bool.and_true, Bool.true_and, decide_true, decide_false, reduceIte, reduceCtorEq, Bool.and_self, Bool.and_eq_true, decide_eq_true_eq, and_self, true_or, or_true, false_or, or_false, Nat.zero_add, Nat.add_zero, eq_self, Nat.reduceEqDiff, Nat.reduceLeDiff, Nat.reduceLT, Nat.reduceAdd, Nat.reduceSub, Nat.reduceMul, nF_at, zI_at, zJ_at, zD_at, zR_at, i_putB]) ?_
  simp only [xSeq, i_push, i_load, i_iload, i_lload, i_dload, i_aload, i_istore, i_astore, i_lstore, i_dstore, i_iinc, i_ii, i_iiz, i_ll, i_llz, i_lli, i_li, i_i, i_l, i_i2l, i_l2i, i_dup, i_dup2, i_dup2w, i_dupx1, i_pop, i_pop2, i_goto, i_ifc, i_icmp, i_getI, i_getL, i_getR, i_putI, i_putZ, i_putL, i_putR, i_aldI, i_aldB, i_aldL, i_aldD, i_astI, i_astL, i_astD, i_alen, i_ret, i_iret, i_zret, i_lret, i_fret, i_dret, i_aret, i_invS0, i_invV0, i_m2, i_m1, i_ml, i_obj, lk, lkp, stf1, stf2, Value.category, rV, xTo, lv_args, xCk, xCat, xRc, xAk, hg_S, hg_I, hg_J, hg_D, hg_R, hs_I, hs_J, hs_D, hs_R, uI_at, uJ_at, uD_at, uR_at, List.take_succ_cons, List.take_zero, List.drop_succ_cons, List.drop_zero, List.reverse_cons, List.reverse_nil, List.nil_append, List.cons_append, List.map_cons, List.map_nil, List.sum_cons, List.sum_nil, List.length_cons, List.length_nil, Option.toList_some, Option.toList_none, true_and, and_true, false_and, and_false, true_implies, false_implies, implies_true, not_true_eq_false, not_false_eq_true, ne_eq, if_true, if_false, Bool.and_true, Bool.true_and, decide_true, decide_false, reduceIte, reduceCtorEq, Bool.and_self, Bool.and_eq_true, decide_eq_true_eq, and_self, true_or, or_true, false_or, or_false, Nat.zero_add, Nat.add_zero, eq_self, Nat.reduceEqDiff, Nat.reduceLeDiff, Nat.reduceLT, Nat.reduceAdd, Nat.reduceSub, Nat.reduceMul, nF_at, zI_at, zJ_at, zD_at, zR_at, i_putB]
  refine A192 (by simp only [nF_at, true_and, and_true, false_and, and_false, true_implies, false_implies, implies_true, not_true_eq_false, not_false_eq_true, ne_eq, if_true, if_false, Bool.and_true, Bool.true_and, decide_true, decide_false, reduceIte, reduceCtorEq, Bool.and_self, Bool.and_eq_true, decide_eq_true_eq, and_self, true_or, or_true, false_or, or_false, Nat.zero_add, Nat.add_zero, eq_self, Nat.reduceEqDiff, Nat.reduceLeDiff, Nat.reduceLT, Nat.reduceAdd, Nat.reduceSub, Nat.reduceMul]) (by funext k; rw [zI_at, if_pos rfl]) (fun o h1 h2 => by rw [nF_at, if_neg (by omega)]; exact g1 o (by omega) (by omega)) (fun S2 I2 J2 D2 R2 b2 hFM fr2 => ?_)
  have low : ∀ o, o < 200 → S2 o = S1 o ∧ I2 o = I1 o ∧ J2 o = J1 o ∧ D2 o = D1 o ∧ R2 o = R1 o := fun o ho => by
    obtain ⟨q1, q2, q3, q4, q5⟩ := fr2 o (Or.inl ho)
    refine ⟨?_, ?_, ?_, ?_, ?_⟩
    · rw [q1, nF_at, if_neg (by omega)]
    · rw [q2]; funext k; rw [zI_at, if_neg (by omega)]
    · rw [q3]; funext k; rw [zJ_at, if_neg (by omega)]
    · rw [q4]; funext k; rw [zD_at, if_neg (by omega)]
    · rw [q5]; funext k; rw [zR_at, if_neg (by omega)]
  have g2 : ∀ o, 359 ≤ o → o < 900000 → S2 o = (0, 0) := fun o h1 h2 => by
    rw [(fr2 o (Or.inr h1)).1, nF_at, if_neg (by omega)]
    exact g1 o (by omega) h2
  have s62 : S2 900600 = (108, L) := by
    rw [(fr2 900600 (Or.inr (by decide))).1, nF_at, if_neg (by decide)]
    exact s61
  have i62 : ∀ j, I2 900600 j = xs j := fun j => by
    rw [(fr2 900600 (Or.inr (by decide))).2.1, zI_at, if_neg (by decide)]
    exact i61 j
  simp only [xSeq, i_push, i_load, i_iload, i_lload, i_dload, i_aload, i_istore, i_astore, i_lstore, i_dstore, i_iinc, i_ii, i_iiz, i_ll, i_llz, i_lli, i_li, i_i, i_l, i_i2l, i_l2i, i_dup, i_dup2, i_dup2w, i_dupx1, i_pop, i_pop2, i_goto, i_ifc, i_icmp, i_getI, i_getL, i_getR, i_putI, i_putZ, i_putL, i_putR, i_aldI, i_aldB, i_aldL, i_aldD, i_astI, i_astL, i_astD, i_alen, i_ret, i_iret, i_zret, i_lret, i_fret, i_dret, i_aret, i_invS0, i_invV0, i_m2, i_m1, i_ml, i_obj, lk, lkp, stf1, stf2, Value.category, rV, xTo, lv_args, xCk, xCat, xRc, xAk, hg_S, hg_I, hg_J, hg_D, hg_R, hs_I, hs_J, hs_D, hs_R, uI_at, uJ_at, uD_at, uR_at, List.take_succ_cons, List.take_zero, List.drop_succ_cons, List.drop_zero, List.reverse_cons, List.reverse_nil, List.nil_append, List.cons_append, List.map_cons, List.map_nil, List.sum_cons, List.sum_nil, List.length_cons, List.length_nil, Option.toList_some, Option.toList_none, true_and, and_true, false_and, and_false, true_implies, false_implies, implies_true, not_true_eq_false, not_false_eq_true, ne_eq, if_true, if_false, Bool.and_true, Bool.true_and, decide_true, decide_false, reduceIte, reduceCtorEq, Bool.and_self, Bool.and_eq_true, decide_eq_true_eq, and_self, true_or, or_true, false_or, or_false, Nat.zero_add, Nat.add_zero, eq_self, Nat.reduceEqDiff, Nat.reduceLeDiff, Nat.reduceLT, Nat.reduceAdd, Nat.reduceSub, Nat.reduceMul, nF_at, zI_at, zJ_at, zD_at, zR_at, i_putB]
  refine w_newa 400 1 (by decide) (by decide) (by decide) (Nat.le_of_ble_eq_true rfl) (Nat.le_of_ble_eq_true rfl) (by rw [g2 400 (by decide) (by decide)]) (by decide) ?_
  simp only [xSeq, i_push, i_load, i_iload, i_lload, i_dload, i_aload, i_istore, i_astore, i_lstore, i_dstore, i_iinc, i_ii, i_iiz, i_ll, i_llz, i_lli, i_li, i_i, i_l, i_i2l, i_l2i, i_dup, i_dup2, i_dup2w, i_dupx1, i_pop, i_pop2, i_goto, i_ifc, i_icmp, i_getI, i_getL, i_getR, i_putI, i_putZ, i_putL, i_putR, i_aldI, i_aldB, i_aldL, i_aldD, i_astI, i_astL, i_astD, i_alen, i_ret, i_iret, i_zret, i_lret, i_fret, i_dret, i_aret, i_invS0, i_invV0, i_m2, i_m1, i_ml, i_obj, lk, lkp, stf1, stf2, Value.category, rV, xTo, lv_args, xCk, xCat, xRc, xAk, hg_S, hg_I, hg_J, hg_D, hg_R, hs_I, hs_J, hs_D, hs_R, uI_at, uJ_at, uD_at, uR_at, List.take_succ_cons, List.take_zero, List.drop_succ_cons, List.drop_zero, List.reverse_cons, List.reverse_nil, List.nil_append, List.cons_append, List.map_cons, List.map_nil, List.sum_cons, List.sum_nil, List.length_cons, List.length_nil, Option.toList_some, Option.toList_none, true_and, and_true, false_and, and_false, true_implies, false_implies, implies_true, not_true_eq_false, not_false_eq_true, ne_eq, if_true, if_false, Bool.and_true, Bool.true_and, decide_true, decide_false, reduceIte, reduceCtorEq, Bool.and_self, Bool.and_eq_true, decide_eq_true_eq, and_self, true_or, or_true, false_or, or_false, Nat.zero_add, Nat.add_zero, eq_self, Nat.reduceEqDiff, Nat.reduceLeDiff, Nat.reduceLT, Nat.reduceAdd, Nat.reduceSub, Nat.reduceMul, nF_at, zI_at, zJ_at, zD_at, zR_at, i_putB]
  refine w_newa 401 1 (by decide) (by decide) (by decide) (Nat.le_of_ble_eq_true rfl) (Nat.le_of_ble_eq_true rfl) (by rw [nF_at, if_neg (by decide), g2 401 (by decide) (by decide)]) (by decide) ?_
  simp only [xSeq, i_push, i_load, i_iload, i_lload, i_dload, i_aload, i_istore, i_astore, i_lstore, i_dstore, i_iinc, i_ii, i_iiz, i_ll, i_llz, i_lli, i_li, i_i, i_l, i_i2l, i_l2i, i_dup, i_dup2, i_dup2w, i_dupx1, i_pop, i_pop2, i_goto, i_ifc, i_icmp, i_getI, i_getL, i_getR, i_putI, i_putZ, i_putL, i_putR, i_aldI, i_aldB, i_aldL, i_aldD, i_astI, i_astL, i_astD, i_alen, i_ret, i_iret, i_zret, i_lret, i_fret, i_dret, i_aret, i_invS0, i_invV0, i_m2, i_m1, i_ml, i_obj, lk, lkp, stf1, stf2, Value.category, rV, xTo, lv_args, xCk, xCat, xRc, xAk, hg_S, hg_I, hg_J, hg_D, hg_R, hs_I, hs_J, hs_D, hs_R, uI_at, uJ_at, uD_at, uR_at, List.take_succ_cons, List.take_zero, List.drop_succ_cons, List.drop_zero, List.reverse_cons, List.reverse_nil, List.nil_append, List.cons_append, List.map_cons, List.map_nil, List.sum_cons, List.sum_nil, List.length_cons, List.length_nil, Option.toList_some, Option.toList_none, true_and, and_true, false_and, and_false, true_implies, false_implies, implies_true, not_true_eq_false, not_false_eq_true, ne_eq, if_true, if_false, Bool.and_true, Bool.true_and, decide_true, decide_false, reduceIte, reduceCtorEq, Bool.and_self, Bool.and_eq_true, decide_eq_true_eq, and_self, true_or, or_true, false_or, or_false, Nat.zero_add, Nat.add_zero, eq_self, Nat.reduceEqDiff, Nat.reduceLeDiff, Nat.reduceLT, Nat.reduceAdd, Nat.reduceSub, Nat.reduceMul, nF_at, zI_at, zJ_at, zD_at, zR_at, i_putB]
  obtain ⟨S3, hS3⟩ : ∃ S3, S3 = nF (nF S2 400 (101, 1)) 401 (102, 1) := ⟨_, rfl⟩
  obtain ⟨I3, hI3⟩ : ∃ I3, I3 = zI (zI I2 400) 401 := ⟨_, rfl⟩
  obtain ⟨J3, hJ3⟩ : ∃ J3, J3 = zJ (zJ J2 400) 401 := ⟨_, rfl⟩
  obtain ⟨R3, hR3⟩ : ∃ R3, R3 = zR (zR R2 400) 401 := ⟨_, rfl⟩
  rw [← hS3, ← hI3, ← hJ3, ← hR3]
  have lS : ∀ o, o ≠ 400 → o ≠ 401 → S3 o = S2 o := fun o h1 h2 => by rw [hS3, nF_at, if_neg h2, nF_at, if_neg h1]
  have lI : ∀ o, o ≠ 400 → o ≠ 401 → I3 o = I2 o := fun o h1 h2 => by funext k; rw [hI3, zI_at, if_neg h2, zI_at, if_neg h1]
  have lJ : ∀ o, o ≠ 400 → o ≠ 401 → J3 o = J2 o := fun o h1 h2 => by funext k; rw [hJ3, zJ_at, if_neg h2, zJ_at, if_neg h1]
  have lR : ∀ o, o ≠ 400 → o ≠ 401 → R3 o = R2 o := fun o h1 h2 => by funext k; rw [hR3, zR_at, if_neg h2, zR_at, if_neg h1]
  have s63 : S3 900600 = (108, L) := by rw [lS _ (by decide) (by decide)]; exact s62
  have hi : ∀ o, 900000 ≤ o → S3 o = S0 o := fun o ho => by
    rw [lS o (by omega) (by omega), (fr2 o (Or.inr (by omega))).1, nF_at, if_neg (by omega), (fr1 o (Or.inr (by omega))).1, nF_at, if_neg (by omega)]
  have hFC3 : FC S3 I3 J3 R3 := FC_ext (fun o ho => ⟨by rw [lS o (by omega) (by omega), (low o ho).1], by rw [lI o (by omega) (by omega), (low o ho).2.1], by rw [lJ o (by omega) (by omega), (low o ho).2.2.1], by rw [lR o (by omega) (by omega), (low o ho).2.2.2.2]⟩) hFC
  have hFM3 : FM S3 I3 J3 R3 := FM_ext (fun o h1 h2 => ⟨lS o (by omega) (by omega), lI o (by omega) (by omega), lJ o (by omega) (by omega), lR o (by omega) (by omega)⟩) hFM
  have hWT0 : WT S0 I0 R0 := fun k hk => by
    have hl := xTx_lt
    rw [hS0, hI0, hR0]
    unfold xSh xSi
    refine ⟨?_, ?_, ?_, ?_, fun j hj => ?_⟩
    · rw [if_neg (by omega), if_neg (by omega), if_neg (by omega), if_neg (by omega), if_pos (by omega)]
    · show (if 900000 ≤ 900000 + k ∧ 900000 + k < 900000 + xTxs.length ∧ (0 : Nat) = 0 then some (900000 + k + 100) else none) = some (900100 + k)
      rw [if_pos ⟨by omega, by omega, rfl⟩]; congr 1; omega
    · rw [if_neg (by omega), if_neg (by omega), if_neg (by omega), if_neg (by omega)]
    · rw [if_neg (by omega), if_neg (by omega), if_neg (by omega), if_pos (by omega), show 900100 + k - 900100 = k by omega]
    · rw [if_neg (by omega), if_neg (by omega), if_neg (by omega), if_pos (by omega), show 900100 + k - 900100 = k by omega]
  have hWT : WT S3 I3 R3 := WT_e hWT0 hi (fun o ho => by
      funext j
      rw [lI o (by omega) (by omega), (fr2 o (Or.inr (by omega))).2.1, zI_at, if_neg (by omega), (fr1 o (Or.inr (by omega))).2.1, zI_at, if_neg (by omega)]) (fun o ho => by
      funext j
      rw [lR o (by omega) (by omega), (fr2 o (Or.inr (by omega))).2.2.2.2, zR_at, if_neg (by omega), (fr1 o (Or.inr (by omega))).2.2.2.2, zR_at, if_neg (by omega)])
  refine LP0 (xs := xs) hC hL6 (fun S I J D R b => by simp only [xYes]) ⟨AA_00 hFC3 (fun o h1 h2 => by rw [lS o (by omega) (by omega)]; exact g2 o (by omega) h2), AB_00 hFM3, ⟨?_, ?_, ?_, ?_⟩, WA_00, s63, fun j => by rw [lI _ (by decide) (by decide)]; exact i62 j, hWT⟩ (by first | decide | (simp; done)) (by first | decide | (simp; done))
  · rw [hS3]; simp only [nF_at, true_and, and_true, false_and, and_false, true_implies, false_implies, implies_true, not_true_eq_false, not_false_eq_true, ne_eq, if_true, if_false, Bool.and_true, Bool.true_and, decide_true, decide_false, reduceIte, reduceCtorEq, Bool.and_self, Bool.and_eq_true, decide_eq_true_eq, and_self, true_or, or_true, false_or, or_false, Nat.zero_add, Nat.add_zero, eq_self, Nat.reduceEqDiff, Nat.reduceLeDiff, Nat.reduceLT, Nat.reduceAdd, Nat.reduceSub, Nat.reduceMul]
  · rw [hS3]; simp only [nF_at, true_and, and_true, false_and, and_false, true_implies, false_implies, implies_true, not_true_eq_false, not_false_eq_true, ne_eq, if_true, if_false, Bool.and_true, Bool.true_and, decide_true, decide_false, reduceIte, reduceCtorEq, Bool.and_self, Bool.and_eq_true, decide_eq_true_eq, and_self, true_or, or_true, false_or, or_false, Nat.zero_add, Nat.add_zero, eq_self, Nat.reduceEqDiff, Nat.reduceLeDiff, Nat.reduceLT, Nat.reduceAdd, Nat.reduceSub, Nat.reduceMul]
  · rw [hi _ (by decide), hS0]; unfold xSh; rw [if_neg (by decide), if_pos rfl]
  · rw [hi _ (by decide), hS0]; unfold xSh; rw [if_neg (by decide), if_neg (by decide), if_pos rfl]
end
/-! ===== setup texts, as both sides read them ===== -/
section
/-- bytes: blanks, letters, digits, kinds -/
def pB (v : Nat) : Bool := decide (v = 32) || decide (v = 10)
def pL (v : Nat) : Bool := decide (97 ≤ v) && decide (v ≤ 122)
def pD (v : Nat) : Bool := decide (48 ≤ v) && decide (v ≤ 57)
def pK (v : Nat) : Nat := if pL v = true then 1 else if pD v = true then 2 else if pB v = true then 5 else if v = 45 then 3 else if v = 59 then 4 else 6
/-- from p on, over at most j bytes, as long as they are such -/
def pR (P : Nat → Bool) (f : Nat → Nat) : Nat → Nat → Nat
  | 0, p => p
  | j + 1, p => if P (f p) = true then pR P f j (p + 1) else p
theorem pR_le (P : Nat → Bool) (f : Nat → Nat) : ∀ j p, p ≤ pR P f j p ∧ pR P f j p ≤ p + j
  | 0, p => ⟨Nat.le_refl _, Nat.le_refl _⟩
  | j + 1, p => by
    have h := pR_le P f j (p + 1)
    rw [pR]
    split <;> omega
theorem pR_all (P : Nat → Bool) (f : Nat → Nat) : ∀ j p i, p ≤ i → i < pR P f j p → P (f i) = true
  | 0, p, i, h1, h2 => absurd h2 (by rw [pR]; omega)
  | j + 1, p, i, h1, h2 => by
    rw [pR] at h2
    by_cases h : P (f p) = true
    · rw [if_pos h] at h2
      by_cases e : i = p
      · rw [e]; exact h
      · exact pR_all P f j (p + 1) i (by omega) h2
    · rw [if_neg h] at h2
      omega
theorem pR_end (P : Nat → Bool) (f : Nat → Nat) : ∀ j p, pR P f j p < p + j → ¬ P (f (pR P f j p)) = true
  | 0, p, h => absurd h (by rw [pR]; omega)
  | j + 1, p, h => by
    by_cases e : P (f p) = true
    · rw [pR, if_pos e] at h ⊢
      exact pR_end P f j (p + 1) (by omega)
    · rw [pR, if_neg e]
      exact e
theorem pR_up {P : Nat → Bool} {f : Nat → Nat} {p k : Nat} (hp : p < k) (h : P (f p) = true) : pR P f (k - p) p = pR P f (k - (p + 1)) (p + 1) := by
  rw [show k - p = (k - (p + 1)) + 1 by omega, pR, if_pos h]
theorem pR_no {P : Nat → Bool} {f : Nat → Nat} {p k : Nat} (h : ¬ P (f p) = true) : pR P f (k - p) p = p := by
  cases k - p with
  | zero => rfl
  | succ j => rw [pR, if_neg h]
theorem pR_k {P : Nat → Bool} {f : Nat → Nat} {p k : Nat} (h : k ≤ p) : pR P f (k - p) p = p := by
  rw [show k - p = 0 by omega, pR]
/-- where the next token begins, where it ends, its kind -/
def pBg (f : Nat → Nat) (k p : Nat) : Nat := pR pB f (k - p) p
def pE (f : Nat → Nat) (k s : Nat) : Nat := if pK (f s) = 1 then pR pL f (k - s) s else if pK (f s) = 2 then pR pD f (k - s) s else s + 1
def pX (f : Nat → Nat) (k s : Nat) : Nat := if pK (f s) = 2 ∧ s + 4 < pE f k s then 6 else pK (f s)
def pTk (f : Nat → Nat) (k p : Nat) : Nat × Nat × Nat := if pBg f k p < k then (pE f k (pBg f k p), pBg f k p, pX f k (pBg f k p)) else (pBg f k p, pBg f k p, 0)
theorem pK_1 {v : Nat} : pK v = 1 ↔ pL v = true := by
  unfold pK
  by_cases h : pL v = true
  · rw [if_pos h]; exact ⟨fun _ => h, fun _ => rfl⟩
  · rw [if_neg h]
    refine ⟨fun e => ?_, fun e => absurd e h⟩
    repeat (split at e; · cases e)
    cases e
theorem pLD {v : Nat} (h : pD v = true) : ¬ pL v = true := by
  unfold pD at h
  unfold pL
  simp only [Bool.and_eq_true, decide_eq_true_eq] at h ⊢
  omega
theorem pLB {v : Nat} (h : pB v = true) : ¬ pL v = true ∧ ¬ pD v = true := by
  unfold pB at h
  unfold pL pD
  simp only [Bool.and_eq_true, Bool.or_eq_true, decide_eq_true_eq] at h ⊢
  omega
theorem pK_2 {v : Nat} : pK v = 2 ↔ pD v = true := by
  unfold pK
  by_cases h : pD v = true
  · rw [if_neg (pLD h), if_pos h]; exact ⟨fun _ => h, fun _ => rfl⟩
  · rw [if_neg h]
    refine ⟨fun e => ?_, fun e => absurd e h⟩
    repeat (split at e; · cases e)
    cases e
theorem pK_5 {v : Nat} : pK v = 5 ↔ pB v = true := by
  unfold pK
  by_cases h : pB v = true
  · rw [if_neg (pLB h).1, if_neg (pLB h).2, if_pos h]; exact ⟨fun _ => h, fun _ => rfl⟩
  · rw [if_neg h]
    refine ⟨fun e => ?_, fun e => absurd e h⟩
    repeat (split at e; · cases e)
    cases e
theorem pK_le (v : Nat) : 1 ≤ pK v ∧ pK v ≤ 6 := by
  unfold pK
  repeat (split; · decide)
  decide
theorem pBg_le {f : Nat → Nat} {k p : Nat} (h : p ≤ k) : p ≤ pBg f k p ∧ pBg f k p ≤ k := by
  have := pR_le pB f (k - p) p
  unfold pBg
  omega
theorem pBg_no {f : Nat → Nat} {k p : Nat} (h : p ≤ k) (h2 : pBg f k p < k) : pK (f (pBg f k p)) ≠ 5 := fun e => pR_end pB f (k - p) p (by unfold pBg at h2; omega) (pK_5.mp e)
theorem pE_le {f : Nat → Nat} {k s : Nat} (h : s < k) : s < pE f k s ∧ pE f k s ≤ k := by
  unfold pE
  have h1 := pR_le pL f (k - (s + 1)) (s + 1)
  have h2 := pR_le pD f (k - (s + 1)) (s + 1)
  split
  · rw [pR_up h (pK_1.mp (by assumption))]; omega
  · split
    · rw [pR_up h (pK_2.mp (by assumption))]; omega
    · omega
/-- a reader's state: where it is, where its token begins, what kind; what it has seen; rows, columns, edge, A, B, rule, seed, start by their numbers; strength, field; bonds -/
abbrev pSt : Type := (Nat × Nat × Nat) × Nat × (Nat → Nat) × Int32 × Int32 × Nat × (Nat → Nat) × (Nat → Bool) × (Nat → Int32)
def qP (T : pSt) : Nat := T.1.1
def qS (T : pSt) : Nat := T.1.2.1
def qK (T : pSt) : Nat := T.1.2.2
def qN (T : pSt) : Nat := T.2.1
def qU (T : pSt) : Nat → Nat := T.2.2.1
def qF (T : pSt) : Int32 := T.2.2.2.1
def qG (T : pSt) : Int32 := T.2.2.2.2.1
def qB (T : pSt) : Nat := T.2.2.2.2.2.1
def qA (T : pSt) : Nat → Nat := T.2.2.2.2.2.2.1
def qD (T : pSt) : Nat → Bool := T.2.2.2.2.2.2.2.1
def qV (T : pSt) : Nat → Int32 := T.2.2.2.2.2.2.2.2
def pAdv (f : Nat → Nat) (k : Nat) (T : pSt) : pSt := (pTk f k (qP T), T.2)
def pU (T : pSt) (i v : Nat) : pSt := (T.1, T.2.1, upn (qU T) i v, T.2.2.2)
def pF (T : pSt) (v : Int32) : pSt := (T.1, T.2.1, T.2.2.1, v, T.2.2.2.2)
def pG (T : pSt) (v : Int32) : pSt := (T.1, T.2.1, T.2.2.1, T.2.2.2.1, v, T.2.2.2.2.2)
def pN (T : pSt) (n : Nat) : pSt := (T.1, n, T.2.2)
def pAb (T : pSt) (a : Nat) (d : Bool) (v : Int32) : pSt := (T.1, T.2.1, T.2.2.1, T.2.2.2.1, T.2.2.2.2.1, qB T + 1, upn (qA T) (qB T) a, (fun j => if j = qB T then d else qD T j), fun j => if j = qB T then v else qV T j)
/-- a number's value -/
def pV (f : Nat → Nat) (s : Nat) : Nat → Nat
  | 0 => 0
  | j + 1 => 10 * pV f s j + (f (s + j) - 48)
theorem pV_lt {f : Nat → Nat} {s : Nat} : ∀ {j : Nat}, (∀ i, i < j → pD (f (s + i)) = true) → pV f s j < 10 ^ j
  | 0, _ => show (0 : Nat) < 1 from by decide
  | j + 1, h => by
    have h1 := pV_lt (f := f) (s := s) (j := j) (fun i hi => h i (by omega))
    have h2 := h j (by omega)
    unfold pD at h2
    simp only [Bool.and_eq_true, decide_eq_true_eq] at h2
    rw [pV, Nat.pow_succ]
    omega
/-- the value of the token -/
def qVl (f : Nat → Nat) (T : pSt) : Nat := pV f (qS T) (qP T - qS T)
/-- the token is this word -/
def wqP (f : Nat → Nat) (l : List Int32) (T : pSt) : Prop := qK T = 1 ∧ qP T - qS T = l.length ∧ ∀ j, j < l.length → nI (f (qS T + j)) = l.getD j 0
def wQ (f : Nat → Nat) (l : List Int32) (T : pSt) : Bool := decide (qK T = 1) && decide (qP T - qS T = l.length) && (List.range l.length).all (fun j => decide (nI (f (qS T + j)) = l.getD j 0))
theorem wQ_iff {f : Nat → Nat} {l : List Int32} {T : pSt} : wQ f l T = true ↔ wqP f l T := by
  unfold wQ wqP
  simp only [Bool.and_eq_true, decide_eq_true_eq, List.all_eq_true, List.mem_range]
  exact ⟨fun h => ⟨h.1.1, h.1.2, h.2⟩, fun h => ⟨⟨h.1, h.2.1⟩, h.2.2⟩⟩
/-- what is read: an error (0: none) and the state where it stands -/
abbrev pO (α : Type) : Type := Nat × α × pSt
def pNum (f : Nat → Nat) (k lo hi : Nat) (T : pSt) : pO Nat := if ¬ qK T = 2 then (1, 0, T) else if qVl f T < lo ∨ hi < qVl f T then (2, 0, T) else (0, qVl f T, pAdv f k T)
def pM (f : Nat → Nat) (k : Nat) (T : pSt) : pSt := if qK T = 3 then pAdv f k T else T
def pSig (f : Nat → Nat) (k : Nat) (T : pSt) : pO Int32 := ((pNum f k 0 3 (pM f k T)).1, (if qK T = 3 then - nI (pNum f k 0 3 (pM f k T)).2.1 else nI (pNum f k 0 3 (pM f k T)).2.1), (pNum f k 0 3 (pM f k T)).2.2)
def pCh (f : Nat → Nat) (k a b c : Nat) (T : pSt) : pO Nat := if wQ f (xTb a) T = true then (0, 0, pAdv f k T) else if wQ f (xTb b) T = true then (0, 1, pAdv f k T) else if wQ f (xTb c) T = true then (0, 2, pAdv f k T) else (1, 0, T)
def pBd {α : Type} (o : pO α) (g : α → pSt → Nat × pSt) : Nat × pSt := if o.1 = 0 then g o.2.1 o.2.2 else (o.1, o.2.2)
def pSize (f : Nat → Nat) (k : Nat) (T : pSt) : Nat × pSt := pBd (pNum f k 2 8 T) (fun v T => pBd (pNum f k 2 8 (pU T 0 v)) (fun w T => (0, pU T 1 w)))
def pEdge (f : Nat → Nat) (k : Nat) (T : pSt) : Nat × pSt := pBd (pCh f k 9 10 11 T) (fun v T => (0, pU T 2 v))
def pRat (f : Nat → Nat) (k : Nat) (T : pSt) : Nat × pSt := pBd (pNum f k 1 98 T) (fun v T => pBd (pNum f k (v + 1) 99 (pU T 3 v)) (fun w T => (0, pU T 4 w)))
def pStr (f : Nat → Nat) (k : Nat) (T : pSt) : Nat × pSt := pBd (pSig f k T) (fun v T => (0, pF T v))
def pFld (f : Nat → Nat) (k : Nat) (T : pSt) : Nat × pSt := pBd (pSig f k T) (fun v T => (0, pG T v))
def pRul (f : Nat → Nat) (k : Nat) (T : pSt) : Nat × pSt := pBd (pCh f k 12 13 14 T) (fun v T => (0, pU T 7 v))
def pSd (f : Nat → Nat) (k : Nat) (T : pSt) : Nat × pSt := pBd (pNum f k 0 9999 T) (fun v T => (0, pU T 8 v))
def pSrt (f : Nat → Nat) (k : Nat) (T : pSt) : Nat × pSt := pBd (pCh f k 15 16 17 T) (fun v T => (0, pU T 9 v))
/-- is there such a bond? -/
def pEx (T : pSt) (y x : Nat) (d : Bool) : Bool := if d = true then bD (qU T 0) (qU T 2) y else bR (qU T 1) (qU T 2) x
/-- a bond, from its direction on -/
def pDir (f : Nat → Nat) (k y x : Nat) (T : pSt) : Nat × pSt := if ¬ wQ f (xTb 16) T = true ∧ ¬ wQ f (xTb 18) T = true then (1, T) else if ¬ pEx T y x (wQ f (xTb 16) T) = true then (3, T) else pBd (pSig f k (pAdv f k T)) (fun v T' => (0, pAb T' (y * qU T' 1 + x) (wQ f (xTb 16) T) v))
def pBond (f : Nat → Nat) (k : Nat) (T : pSt) : Nat × pSt := pBd (pNum f k 0 (qU T 0 - 1) T) (fun y T => pBd (pNum f k 0 (qU T 1 - 1) T) (fun x T => pDir f k y x T))
/-- which statement begins: its number, 9 if none -/
def pWh (f : Nat → Nat) (T : pSt) : Nat := if wQ f (xTb 0) T = true then 0 else if wQ f (xTb 1) T = true then 1 else if wQ f (xTb 2) T = true then 2 else if wQ f (xTb 3) T = true then 3 else if wQ f (xTb 4) T = true then 4 else if wQ f (xTb 5) T = true then 5 else if wQ f (xTb 6) T = true then 6 else if wQ f (xTb 7) T = true then 7 else if wQ f (xTb 8) T = true then 8 else 9
def pAdm (T : pSt) (s : Nat) : Nat := if s = 9 then 1 else if (if s = 8 then decide (12 ≤ qB T) else (qN T).testBit s) = true ∨ ((s = 0 ∨ s = 1) ∧ 0 < qB T) then 3 else 0
def pBody (f : Nat → Nat) (k s : Nat) (T : pSt) : Nat × pSt := if s = 0 then pSize f k T else if s = 1 then pEdge f k T else if s = 2 then pRat f k T else if s = 3 then pStr f k T else if s = 4 then pFld f k T else if s = 5 then pRul f k T else if s = 6 then pSd f k T else if s = 7 then pSrt f k T else pBond f k T
def pStm (f : Nat → Nat) (k : Nat) (T : pSt) : Nat × pSt := if pAdm T (pWh f T) = 0 then pBody f k (pWh f T) (pAdv f k (pN T (qN T ||| 2 ^ pWh f T))) else (pAdm T (pWh f T), T)
def pLab (f : Nat → Nat) (k : Nat) : Nat → pSt → Nat × pSt
  | 0, T => (0, T)
  | j + 1, T => if qK T = 0 then (0, T) else if (pStm f k T).1 = 0 then (if qK (pStm f k T).2 = 4 then pLab f k j (pAdv f k (pStm f k T).2) else (1, (pStm f k T).2)) else pStm f k T
/-- what an empty text asks for -/
def pU0 : Nat → Nat := fun j => if j = 0 then 4 else if j = 1 then 4 else if j = 3 then 1 else if j = 4 then 2 else if j = 8 then 1 else 0
def p00 : pSt := ((0, 0, 0), 0, pU0, 1, 0, 0, (fun _ => 0), (fun _ => false), fun _ => 0)
def pLoad (f : Nat → Nat) (k : Nat) : Nat × pSt := pLab f k (k + 1) (pAdv f k p00)
end
/-! ===== setup texts: what stays so while they are read ===== -/
section
variable {f : Nat → Nat} {k : Nat} {T T' T2 : pSt}
/-- the token is one -/
def TK (f : Nat → Nat) (k : Nat) (T : pSt) : Prop := qS T ≤ qP T ∧ qP T ≤ k ∧ qK T ≤ 6 ∧ qK T ≠ 5 ∧ (qK T = 2 → qP T ≤ qS T + 4 ∧ ∀ j, qS T ≤ j → j < qP T → pD (f j) = true)
/-- it goes on -/
def PG (T T' : pSt) : Prop := qP T ≤ qP T' ∧ (qK T' ≠ 0 → qP T < qP T')
theorem TK_e (e : T'.1 = T.1) (h : TK f k T) : TK f k T' := by
  obtain ⟨a, b⟩ := T
  obtain ⟨a', b'⟩ := T'
  have e : a' = a := e
  subst e
  exact h
theorem PG_e {A : pSt} (e : T'.1 = T.1) (h : PG A T) : PG A T' := by
  obtain ⟨a, b⟩ := T
  obtain ⟨a', b'⟩ := T'
  have e : a' = a := e
  subst e
  exact h
theorem PG_l {A : pSt} (e : T'.1 = T.1) (h : PG T A) : PG T' A := by
  obtain ⟨a, b⟩ := T
  obtain ⟨a', b'⟩ := T'
  have e : a' = a := e
  subst e
  exact h
theorem PG_tr (h1 : PG T T') (h2 : PG T' T2) : PG T T2 := ⟨Nat.le_trans h1.1 h2.1, fun h => Nat.lt_of_le_of_lt h1.1 (h2.2 h)⟩
theorem pTk_in {p : Nat} (h : p ≤ k) (h2 : pBg f k p < k) : pTk f k p = (pE f k (pBg f k p), pBg f k p, pX f k (pBg f k p)) := if_pos h2
theorem pTk_out {p : Nat} (h2 : ¬ pBg f k p < k) : pTk f k p = (pBg f k p, pBg f k p, 0) := if_neg h2
theorem pX_cs {s : Nat} : (pX f k s = pK (f s) ∧ ¬ (pK (f s) = 2 ∧ s + 4 < pE f k s)) ∨ (pX f k s = 6 ∧ pK (f s) = 2 ∧ s + 4 < pE f k s) := by
  unfold pX
  by_cases h : pK (f s) = 2 ∧ s + 4 < pE f k s
  · rw [if_pos h]; exact Or.inr ⟨rfl, h⟩
  · rw [if_neg h]; exact Or.inl ⟨rfl, h⟩
theorem TK_adv (h : qP T ≤ k) : TK f k (pAdv f k T) ∧ PG T (pAdv f k T) := by
  have b := pBg_le (f := f) h
  by_cases h2 : pBg f k (qP T) < k
  · have e := pE_le (f := f) h2
    have hn := pBg_no h h2
    have hl := pK_le (f (pBg f k (qP T)))
    have eq : (pAdv f k T).1 = (pE f k (pBg f k (qP T)), pBg f k (qP T), pX f k (pBg f k (qP T))) := pTk_in h h2
    have e1 : qP (pAdv f k T) = pE f k (pBg f k (qP T)) := congrArg (fun t => t.1) eq
    have e2 : qS (pAdv f k T) = pBg f k (qP T) := congrArg (fun t => t.2.1) eq
    have e3 : qK (pAdv f k T) = pX f k (pBg f k (qP T)) := congrArg (fun t => t.2.2) eq
    unfold TK PG
    rw [e1, e2, e3]
    refine ⟨⟨by omega, e.2, ?_, ?_, fun h3 => ?_⟩, by omega, fun _ => by omega⟩
    · rcases pX_cs (f := f) (k := k) (s := pBg f k (qP T)) with q | q <;> rw [q.1] <;> omega
    · rcases pX_cs (f := f) (k := k) (s := pBg f k (qP T)) with q | q <;> rw [q.1]
      · exact hn
      · decide
    · rcases pX_cs (f := f) (k := k) (s := pBg f k (qP T)) with q | q
      · rw [q.1] at h3
        refine ⟨Nat.le_of_not_lt (fun h9 => q.2 ⟨h3, h9⟩), fun j h4 h5 => ?_⟩
        unfold pE at h5
        rw [if_neg (by rw [h3]; decide), if_pos h3] at h5
        exact pR_all pD f _ _ j h4 h5
      · rw [q.1] at h3
        cases h3
  · have eq : (pAdv f k T).1 = (pBg f k (qP T), pBg f k (qP T), 0) := pTk_out h2
    have e1 : qP (pAdv f k T) = pBg f k (qP T) := congrArg (fun t => t.1) eq
    have e2 : qS (pAdv f k T) = pBg f k (qP T) := congrArg (fun t => t.2.1) eq
    have e3 : qK (pAdv f k T) = 0 := congrArg (fun t => t.2.2) eq
    unfold TK PG
    rw [e1, e2, e3]
    exact ⟨⟨Nat.le_refl _, b.2, by decide, by decide, fun h => by cases h⟩, b.1, fun h => absurd rfl h⟩
/-- a number's value fits -/
theorem qVl_lt (h : TK f k T) (h2 : qK T = 2) : qVl f T < 10000 := by
  have h3 := h.2.2.2.2 h2
  have h4 := pV_lt (f := f) (s := qS T) (j := qP T - qS T) (fun i hi => h3.2 _ (by omega) (by omega))
  have h5 : 10 ^ (qP T - qS T) ≤ 10 ^ 4 := Nat.pow_le_pow_right (by decide) (by omega)
  unfold qVl
  omega
/-- what reading a number, a word leaves -/
def pWl {α : Type} (f : Nat → Nat) (k : Nat) (o : pO α) (T : pSt) : Prop := o.1 = 0 → TK f k o.2.2 ∧ o.2.2.2 = T.2 ∧ PG T o.2.2
theorem pNum_ok {lo hi : Nat} (h : TK f k T) : pWl f k (pNum f k lo hi T) T ∧ ((pNum f k lo hi T).1 = 0 → lo ≤ (pNum f k lo hi T).2.1 ∧ (pNum f k lo hi T).2.1 ≤ hi) := by
  unfold pWl pNum
  by_cases h1 : ¬ qK T = 2
  · rw [if_pos h1]
    exact ⟨fun e => (by cases e), fun e => (by cases e)⟩
  · rw [if_neg h1]
    by_cases h2 : qVl f T < lo ∨ hi < qVl f T
    · rw [if_pos h2]
      exact ⟨fun e => (by cases e), fun e => (by cases e)⟩
    · rw [if_neg h2]
      have a := TK_adv (f := f) h.2.1
      exact ⟨fun _ => ⟨a.1, rfl, a.2⟩, fun _ => by show lo ≤ qVl f T ∧ qVl f T ≤ hi; omega⟩
theorem pCh_ok {a b c : Nat} (h : TK f k T) : pWl f k (pCh f k a b c T) T ∧ ((pCh f k a b c T).1 = 0 → (pCh f k a b c T).2.1 < 3) := by
  have a := TK_adv (f := f) h.2.1
  unfold pWl pCh
  split
  · exact ⟨fun _ => ⟨a.1, rfl, a.2⟩, fun _ => (by decide : (0 : Nat) < 3)⟩
  · split
    · exact ⟨fun _ => ⟨a.1, rfl, a.2⟩, fun _ => (by decide : (1 : Nat) < 3)⟩
    · split
      · exact ⟨fun _ => ⟨a.1, rfl, a.2⟩, fun _ => (by decide : (2 : Nat) < 3)⟩
      · exact ⟨fun e => (by cases e), fun e => (by cases e)⟩
theorem TK_pM (h : TK f k T) : TK f k (pM f k T) ∧ (pM f k T).2 = T.2 ∧ qP T ≤ qP (pM f k T) := by
  unfold pM
  split
  · have a := TK_adv (f := f) h.2.1
    exact ⟨a.1, rfl, a.2.1⟩
  · exact ⟨h, rfl, Nat.le_refl _⟩
theorem sg3 : ∀ v, v ≤ 3 → (-3 ≤ (nI v).toInt ∧ (nI v).toInt ≤ 3) ∧ -3 ≤ (- nI v).toInt ∧ (- nI v).toInt ≤ 3 := by decide +kernel
def i33 (v : Int32) : Prop := -3 ≤ v.toInt ∧ v.toInt ≤ 3
theorem pSig_ok (h : TK f k T) : pWl f k (pSig f k T) T ∧ ((pSig f k T).1 = 0 → i33 (pSig f k T).2.1) := by
  obtain ⟨h1, h2, h3⟩ := TK_pM h
  obtain ⟨n1, n2⟩ := pNum_ok (lo := 0) (hi := 3) h1
  refine ⟨fun e => ?_, fun e => ?_⟩
  · obtain ⟨m1, m2, m3⟩ := n1 e
    exact ⟨m1, m2.trans h2, Nat.le_trans h3 m3.1, fun q => Nat.lt_of_le_of_lt h3 (m3.2 q)⟩
  · have := sg3 _ (n2 e).2
    show i33 (if qK T = 3 then _ else _)
    split
    · exact this.2
    · exact this.1
theorem pBd_0 {α : Type} {o : pO α} {g : α → pSt → Nat × pSt} (h : (pBd o g).1 = 0) : o.1 = 0 ∧ pBd o g = g o.2.1 o.2.2 := by
  unfold pBd at h ⊢
  by_cases e : o.1 = 0
  · rw [if_pos e]; exact ⟨e, rfl⟩
  · rw [if_neg e] at h; exact absurd h e
/-- a bond of the grid -/
def GB (u : Nat → Nat) (a : Nat) (d : Bool) : Prop := a < u 0 * u 1 ∧ (if d = true then bD (u 0) (u 2) (a / u 1) else bR (u 1) (u 2) (a % u 1)) = true
/-- the grid -/
def TG (T : pSt) : Prop := qN T < 512 ∧ qB T ≤ 12 ∧ 2 ≤ qU T 0 ∧ qU T 0 ≤ 8 ∧ 2 ≤ qU T 1 ∧ qU T 1 ≤ 8 ∧ qU T 2 < 3
/-- all -/
def TF (T : pSt) : Prop := TG T ∧ (0 < qU T 3 ∧ qU T 3 < qU T 4 ∧ qU T 4 ≤ 99) ∧ i33 (qF T) ∧ i33 (qG T) ∧ qU T 7 < 3 ∧ qU T 8 ≤ 9999 ∧ qU T 9 < 3 ∧ ∀ j, j < qB T → GB (qU T) (qA T j) (qD T j) ∧ i33 (qV T j)
theorem TF_e (e : T'.2 = T.2) (h : TF T) : TF T' := by
  obtain ⟨a, b⟩ := T
  obtain ⟨a', b'⟩ := T'
  have e : b' = b := e
  subst e
  exact h
theorem TF_pe {i v : Nat} (e : T'.2 = T.2) (h : TF (pU T i v)) : TF (pU T' i v) := by
  obtain ⟨a, b⟩ := T
  obtain ⟨a', b'⟩ := T'
  have e : b' = b := e
  subst e
  exact h
theorem TG_e (e : T'.2 = T.2) (h : TG T) : TG T' := by
  obtain ⟨a, b⟩ := T
  obtain ⟨a', b'⟩ := T'
  have e : b' = b := e
  subst e
  exact h
theorem pU_q (T : pSt) (i v : Nat) : qU (pU T i v) = upn (qU T) i v ∧ qN (pU T i v) = qN T ∧ qB (pU T i v) = qB T ∧ qF (pU T i v) = qF T ∧ qG (pU T i v) = qG T ∧ qA (pU T i v) = qA T ∧ qD (pU T i v) = qD T ∧ qV (pU T i v) = qV T := ⟨rfl, rfl, rfl, rfl, rfl, rfl, rfl, rfl⟩
theorem upn_ne {u : Nat → Nat} {i v j : Nat} (h : j ≠ i) : upn u i v j = u j := if_neg h
theorem upn_eq {u : Nat → Nat} {i v : Nat} : upn u i v i = v := if_pos rfl
theorem TF_sz {v w : Nat} (h : TF T) (hb : qB T = 0) (v1 : 2 ≤ v ∧ v ≤ 8) (w1 : 2 ≤ w ∧ w ≤ 8) : TF (pU (pU T 0 v) 1 w) := by
  obtain ⟨⟨a1, a2, a3, a4, a5, a6, a7⟩, ⟨b1, b2, b3⟩, c1, c2, c3, c4, c5, c6⟩ := h
  exact ⟨⟨a1, a2, v1.1, v1.2, w1.1, w1.2, a7⟩, ⟨b1, b2, b3⟩, c1, c2, c3, c4, c5, fun j hj => absurd (show j < qB T from hj) (by omega)⟩
theorem TG_u0 {v : Nat} (h : TG T) (v1 : 2 ≤ v ∧ v ≤ 8) : TG (pU T 0 v) := by
  obtain ⟨a1, a2, a3, a4, a5, a6, a7⟩ := h
  exact ⟨a1, a2, v1.1, v1.2, a5, a6, a7⟩
theorem TG_u3 {v : Nat} (h : TG T) : TG (pU T 3 v) := by
  obtain ⟨a1, a2, a3, a4, a5, a6, a7⟩ := h
  exact ⟨a1, a2, a3, a4, a5, a6, a7⟩
theorem TF_ed {v : Nat} (h : TF T) (hb : qB T = 0) (v1 : v < 3) : TF (pU T 2 v) := by
  obtain ⟨⟨a1, a2, a3, a4, a5, a6, a7⟩, ⟨b1, b2, b3⟩, c1, c2, c3, c4, c5, c6⟩ := h
  exact ⟨⟨a1, a2, a3, a4, a5, a6, v1⟩, ⟨b1, b2, b3⟩, c1, c2, c3, c4, c5, fun j hj => absurd (show j < qB T from hj) (by omega)⟩
theorem TF_ra {v w : Nat} (h : TF T) (v1 : 1 ≤ v) (w1 : v + 1 ≤ w ∧ w ≤ 99) : TF (pU (pU T 3 v) 4 w) := by
  obtain ⟨⟨a1, a2, a3, a4, a5, a6, a7⟩, ⟨b1, b2, b3⟩, c1, c2, c3, c4, c5, c6⟩ := h
  exact ⟨⟨a1, a2, a3, a4, a5, a6, a7⟩, ⟨v1, w1.1, w1.2⟩, c1, c2, c3, c4, c5, c6⟩
theorem TF_pF {v : Int32} (h : TF T) (v1 : i33 v) : TF (pF T v) := by
  obtain ⟨⟨a1, a2, a3, a4, a5, a6, a7⟩, ⟨b1, b2, b3⟩, c1, c2, c3, c4, c5, c6⟩ := h
  exact ⟨⟨a1, a2, a3, a4, a5, a6, a7⟩, ⟨b1, b2, b3⟩, v1, c2, c3, c4, c5, c6⟩
theorem TF_pG {v : Int32} (h : TF T) (v1 : i33 v) : TF (pG T v) := by
  obtain ⟨⟨a1, a2, a3, a4, a5, a6, a7⟩, ⟨b1, b2, b3⟩, c1, c2, c3, c4, c5, c6⟩ := h
  exact ⟨⟨a1, a2, a3, a4, a5, a6, a7⟩, ⟨b1, b2, b3⟩, c1, v1, c3, c4, c5, c6⟩
theorem TF_u7 {v : Nat} (h : TF T) (v1 : v < 3) : TF (pU T 7 v) := by
  obtain ⟨⟨a1, a2, a3, a4, a5, a6, a7⟩, ⟨b1, b2, b3⟩, c1, c2, c3, c4, c5, c6⟩ := h
  exact ⟨⟨a1, a2, a3, a4, a5, a6, a7⟩, ⟨b1, b2, b3⟩, c1, c2, v1, c4, c5, c6⟩
theorem TF_u8 {v : Nat} (h : TF T) (v1 : v ≤ 9999) : TF (pU T 8 v) := by
  obtain ⟨⟨a1, a2, a3, a4, a5, a6, a7⟩, ⟨b1, b2, b3⟩, c1, c2, c3, c4, c5, c6⟩ := h
  exact ⟨⟨a1, a2, a3, a4, a5, a6, a7⟩, ⟨b1, b2, b3⟩, c1, c2, c3, v1, c5, c6⟩
theorem TF_u9 {v : Nat} (h : TF T) (v1 : v < 3) : TF (pU T 9 v) := by
  obtain ⟨⟨a1, a2, a3, a4, a5, a6, a7⟩, ⟨b1, b2, b3⟩, c1, c2, c3, c4, c5, c6⟩ := h
  exact ⟨⟨a1, a2, a3, a4, a5, a6, a7⟩, ⟨b1, b2, b3⟩, c1, c2, c3, c4, v1, c6⟩
theorem TF_pN {n : Nat} (h : TF T) (v1 : n < 512) : TF (pN T n) := by
  obtain ⟨⟨a1, a2, a3, a4, a5, a6, a7⟩, ⟨b1, b2, b3⟩, c1, c2, c3, c4, c5, c6⟩ := h
  exact ⟨⟨v1, a2, a3, a4, a5, a6, a7⟩, ⟨b1, b2, b3⟩, c1, c2, c3, c4, c5, c6⟩
theorem TF_pAb {a : Nat} {d : Bool} {v : Int32} (h : TF T) (hb : qB T < 12) (ha : GB (qU T) a d) (hv : i33 v) : TF (pAb T a d v) := by
  obtain ⟨⟨a1, a2, a3, a4, a5, a6, a7⟩, ⟨b1, b2, b3⟩, c1, c2, c3, c4, c5, c6⟩ := h
  refine ⟨⟨a1, hb, a3, a4, a5, a6, a7⟩, ⟨b1, b2, b3⟩, c1, c2, c3, c4, c5, fun j hj => ?_⟩
  have hj : j < qB T + 1 := hj
  show GB (qU T) (upn (qA T) (qB T) a j) (if j = qB T then d else qD T j) ∧ i33 (if j = qB T then v else qV T j)
  unfold upn
  by_cases e : j = qB T
  · rw [if_pos e, if_pos e, if_pos e]; exact ⟨ha, hv⟩
  · rw [if_neg e, if_neg e, if_neg e]; exact c6 j (by omega)
/-- a statement's body leaves all well -/
def pGd (f : Nat → Nat) (k : Nat) (T : pSt) (o : Nat × pSt) : Prop := o.1 = 0 → TK f k o.2 ∧ PG T o.2 ∧ TF o.2
theorem GB_at {u : Nat → Nat} {y x : Nat} {d : Bool} (hy : y < u 0) (hx : x < u 1) (h : (if d = true then bD (u 0) (u 2) y else bR (u 1) (u 2) x) = true) : GB u (y * u 1 + x) d := by
  have e1 : (y * u 1 + x) / u 1 = y := by
    rw [Nat.mul_comm, Nat.mul_add_div (by omega), Nat.div_eq_of_lt hx, Nat.add_zero]
  have e2 : (y * u 1 + x) % u 1 = x := by
    rw [Nat.mul_comm, Nat.mul_add_mod, Nat.mod_eq_of_lt hx]
  refine ⟨?_, by rw [e1, e2]; exact h⟩
  have h2 : (y + 1) * u 1 ≤ u 0 * u 1 := Nat.mul_le_mul_right _ hy
  rw [Nat.succ_mul] at h2
  omega
theorem pSize_ok (hk : TK f k T) (h : TF T) (hb : qB T = 0) : pGd f k T (pSize f k T) := by
  intro e
  unfold pSize at e ⊢
  obtain ⟨e1, q1⟩ := pBd_0 e
  rw [q1] at e ⊢
  obtain ⟨n1, n2⟩ := pNum_ok (lo := 2) (hi := 8) hk
  obtain ⟨m1, m2, m3⟩ := n1 e1
  obtain ⟨e2, q2⟩ := pBd_0 e
  rw [q2]
  obtain ⟨n3, n4⟩ := pNum_ok (lo := 2) (hi := 8) (TK_e (T' := pU (pNum f k 2 8 T).2.2 0 (pNum f k 2 8 T).2.1) rfl m1)
  obtain ⟨m4, m5, m6⟩ := n3 e2
  refine ⟨TK_e rfl m4, PG_e rfl (PG_tr m3 (PG_l rfl m6)), ?_⟩
  have h5 := TF_sz (TF_e m2 h) ((congrArg (fun t : Nat × (Nat → Nat) × Int32 × Int32 × Nat × (Nat → Nat) × (Nat → Bool) × (Nat → Int32) => t.2.2.2.2.1) m2).trans hb) (n2 e1) (n4 e2)
  exact TF_pe m5 h5
theorem pEdge_ok (hk : TK f k T) (h : TF T) (hb : qB T = 0) : pGd f k T (pEdge f k T) := by
  intro e
  unfold pEdge at e ⊢
  obtain ⟨e1, q1⟩ := pBd_0 e
  rw [q1]
  obtain ⟨n1, n2⟩ := pCh_ok (a := 9) (b := 10) (c := 11) hk
  obtain ⟨m1, m2, m3⟩ := n1 e1
  exact ⟨TK_e rfl m1, PG_e rfl m3, TF_ed (TF_e m2 h) ((congrArg (fun t : Nat × (Nat → Nat) × Int32 × Int32 × Nat × (Nat → Nat) × (Nat → Bool) × (Nat → Int32) => t.2.2.2.2.1) m2).trans hb) (n2 e1)⟩
theorem pRat_ok (hk : TK f k T) (h : TF T) : pGd f k T (pRat f k T) := by
  intro e
  unfold pRat at e ⊢
  obtain ⟨e1, q1⟩ := pBd_0 e
  rw [q1] at e ⊢
  obtain ⟨n1, n2⟩ := pNum_ok (lo := 1) (hi := 98) hk
  obtain ⟨m1, m2, m3⟩ := n1 e1
  obtain ⟨e2, q2⟩ := pBd_0 e
  rw [q2]
  obtain ⟨n3, n4⟩ := pNum_ok (lo := (pNum f k 1 98 T).2.1 + 1) (hi := 99) (TK_e (T' := pU (pNum f k 1 98 T).2.2 3 (pNum f k 1 98 T).2.1) rfl m1)
  obtain ⟨m4, m5, m6⟩ := n3 e2
  refine ⟨TK_e rfl m4, PG_e rfl (PG_tr m3 (PG_l rfl m6)), ?_⟩
  have h5 := TF_ra (TF_e m2 h) (n2 e1).1 (n4 e2)
  exact TF_pe m5 h5
theorem pStr_ok (hk : TK f k T) (h : TF T) : pGd f k T (pStr f k T) := by
  intro e
  unfold pStr at e ⊢
  obtain ⟨e1, q1⟩ := pBd_0 e
  rw [q1]
  obtain ⟨n1, n2⟩ := pSig_ok hk
  obtain ⟨m1, m2, m3⟩ := n1 e1
  exact ⟨TK_e rfl m1, PG_e rfl m3, TF_pF (TF_e m2 h) (n2 e1)⟩
theorem pFld_ok (hk : TK f k T) (h : TF T) : pGd f k T (pFld f k T) := by
  intro e
  unfold pFld at e ⊢
  obtain ⟨e1, q1⟩ := pBd_0 e
  rw [q1]
  obtain ⟨n1, n2⟩ := pSig_ok hk
  obtain ⟨m1, m2, m3⟩ := n1 e1
  exact ⟨TK_e rfl m1, PG_e rfl m3, TF_pG (TF_e m2 h) (n2 e1)⟩
theorem pRul_ok (hk : TK f k T) (h : TF T) : pGd f k T (pRul f k T) := by
  intro e
  unfold pRul at e ⊢
  obtain ⟨e1, q1⟩ := pBd_0 e
  rw [q1]
  obtain ⟨n1, n2⟩ := pCh_ok (a := 12) (b := 13) (c := 14) hk
  obtain ⟨m1, m2, m3⟩ := n1 e1
  exact ⟨TK_e rfl m1, PG_e rfl m3, TF_u7 (TF_e m2 h) (n2 e1)⟩
theorem pSd_ok (hk : TK f k T) (h : TF T) : pGd f k T (pSd f k T) := by
  intro e
  unfold pSd at e ⊢
  obtain ⟨e1, q1⟩ := pBd_0 e
  rw [q1]
  obtain ⟨n1, n2⟩ := pNum_ok (lo := 0) (hi := 9999) hk
  obtain ⟨m1, m2, m3⟩ := n1 e1
  exact ⟨TK_e rfl m1, PG_e rfl m3, TF_u8 (TF_e m2 h) (n2 e1).2⟩
theorem pSrt_ok (hk : TK f k T) (h : TF T) : pGd f k T (pSrt f k T) := by
  intro e
  unfold pSrt at e ⊢
  obtain ⟨e1, q1⟩ := pBd_0 e
  rw [q1]
  obtain ⟨n1, n2⟩ := pCh_ok (a := 15) (b := 16) (c := 17) hk
  obtain ⟨m1, m2, m3⟩ := n1 e1
  exact ⟨TK_e rfl m1, PG_e rfl m3, TF_u9 (TF_e m2 h) (n2 e1)⟩
theorem pDir_ok {y x : Nat} (hk : TK f k T) (h : TF T) (hb : qB T < 12) (hy : y < qU T 0) (hx : x < qU T 1) : pGd f k T (pDir f k y x T) := by
  intro e
  unfold pDir at e ⊢
  by_cases c1 : ¬ wQ f (xTb 16) T = true ∧ ¬ wQ f (xTb 18) T = true
  · rw [if_pos c1] at e; cases e
  · rw [if_neg c1] at e ⊢
    by_cases c2 : ¬ pEx T y x (wQ f (xTb 16) T) = true
    · rw [if_pos c2] at e; cases e
    · rw [if_neg c2] at e ⊢
      have c3 : pEx T y x (wQ f (xTb 16) T) = true := Decidable.not_not.mp c2
      obtain ⟨e1, q1⟩ := pBd_0 e
      rw [q1]
      obtain ⟨a1, a2⟩ := TK_adv (f := f) hk.2.1
      obtain ⟨n1, n2⟩ := pSig_ok a1
      obtain ⟨m1, m2, m3⟩ := n1 e1
      have hU : qU (pSig f k (pAdv f k T)).2.2 = qU T := congrArg (fun t : Nat × (Nat → Nat) × Int32 × Int32 × Nat × (Nat → Nat) × (Nat → Bool) × (Nat → Int32) => t.2.1) m2
      have hB : qB (pSig f k (pAdv f k T)).2.2 = qB T := congrArg (fun t : Nat × (Nat → Nat) × Int32 × Int32 × Nat × (Nat → Nat) × (Nat → Bool) × (Nat → Int32) => t.2.2.2.2.1) m2
      refine ⟨TK_e rfl m1, PG_e rfl (PG_tr a2 m3), TF_pAb (TF_e (m2.trans rfl) h) (by rw [hB]; exact hb) ?_ (n2 e1)⟩
      rw [hU]
      exact GB_at hy hx c3
theorem pBond_ok (hk : TK f k T) (h : TF T) (hb : qB T < 12) : pGd f k T (pBond f k T) := by
  intro e
  unfold pBond at e ⊢
  obtain ⟨e1, q1⟩ := pBd_0 e
  rw [q1] at e ⊢
  obtain ⟨n1, n2⟩ := pNum_ok (lo := 0) (hi := qU T 0 - 1) hk
  obtain ⟨m1, m2, m3⟩ := n1 e1
  obtain ⟨e2, q2⟩ := pBd_0 e
  rw [q2] at e ⊢
  obtain ⟨n3, n4⟩ := pNum_ok (lo := 0) (hi := qU (pNum f k 0 (qU T 0 - 1) T).2.2 1 - 1) m1
  obtain ⟨m4, m5, m6⟩ := n3 e2
  have h1 := TF_e m2 h
  have h2 := TF_e m5 h1
  have b1 : qB (pNum f k 0 (qU (pNum f k 0 (qU T 0 - 1) T).2.2 1 - 1) (pNum f k 0 (qU T 0 - 1) T).2.2).2.2 = qB T := congrArg (fun t : Nat × (Nat → Nat) × Int32 × Int32 × Nat × (Nat → Nat) × (Nat → Bool) × (Nat → Int32) => t.2.2.2.2.1) (m5.trans m2)
  have u0 : qU (pNum f k 0 (qU T 0 - 1) T).2.2 = qU T := congrArg (fun t : Nat × (Nat → Nat) × Int32 × Int32 × Nat × (Nat → Nat) × (Nat → Bool) × (Nat → Int32) => t.2.1) m2
  have u1 : qU (pNum f k 0 (qU (pNum f k 0 (qU T 0 - 1) T).2.2 1 - 1) (pNum f k 0 (qU T 0 - 1) T).2.2).2.2 = qU T := congrArg (fun t : Nat × (Nat → Nat) × Int32 × Int32 × Nat × (Nat → Nat) × (Nat → Bool) × (Nat → Int32) => t.2.1) (m5.trans m2)
  have hg := h.1
  unfold TG at hg
  have y2 := (n2 e1).2
  have x2 := (n4 e2).2
  rw [u0] at x2
  have hd := pDir_ok (y := (pNum f k 0 (qU T 0 - 1) T).2.1) (x := (pNum f k 0 (qU (pNum f k 0 (qU T 0 - 1) T).2.2 1 - 1) (pNum f k 0 (qU T 0 - 1) T).2.2).2.1) m4 h2 (by rw [b1]; exact hb) (by rw [u1]; omega) (by rw [u1, u0]; omega) e
  exact ⟨hd.1, PG_tr m3 (PG_tr m6 hd.2.1), hd.2.2⟩
theorem pWh_le (f : Nat → Nat) (T : pSt) : pWh f T ≤ 9 := by
  unfold pWh
  repeat (split; · decide)
  decide
theorem or9 : ∀ n, n < 512 → ∀ s, s < 9 → n ||| 2 ^ s < 512 := fun n hn s hs => Nat.or_lt_two_pow (n := 9) hn (Nat.pow_lt_pow_right (by decide) hs)
theorem pAdm_0 {s : Nat} (h : pAdm T s = 0) : s ≠ 9 ∧ (s = 8 → qB T < 12) ∧ (s = 0 ∨ s = 1 → qB T = 0) := by
  unfold pAdm at h
  by_cases h9 : s = 9
  · rw [if_pos h9] at h; cases h
  · rw [if_neg h9] at h
    by_cases c : (if s = 8 then decide (12 ≤ qB T) else (qN T).testBit s) = true ∨ ((s = 0 ∨ s = 1) ∧ 0 < qB T)
    · rw [if_pos c] at h; cases h
    · refine ⟨h9, fun e => Nat.lt_of_not_le (fun q => c (Or.inl ?_)), fun e => Nat.le_zero.mp (Nat.le_of_not_lt (fun q => c (Or.inr ⟨e, q⟩)))⟩
      rw [if_pos e]
      exact decide_eq_true q
theorem pBody_ok {s : Nat} (hk : TK f k T) (h : TF T) (h8 : s = 8 → qB T < 12) (h01 : s = 0 ∨ s = 1 → qB T = 0) (h9 : s < 9) : pGd f k T (pBody f k s T) := by
  unfold pBody
  by_cases e0 : s = 0
  · rw [if_pos e0]; exact pSize_ok hk h (h01 (Or.inl e0))
  rw [if_neg e0]
  by_cases e1 : s = 1
  · rw [if_pos e1]; exact pEdge_ok hk h (h01 (Or.inr e1))
  rw [if_neg e1]
  by_cases e2 : s = 2
  · rw [if_pos e2]; exact pRat_ok hk h
  rw [if_neg e2]
  by_cases e3 : s = 3
  · rw [if_pos e3]; exact pStr_ok hk h
  rw [if_neg e3]
  by_cases e4 : s = 4
  · rw [if_pos e4]; exact pFld_ok hk h
  rw [if_neg e4]
  by_cases e5 : s = 5
  · rw [if_pos e5]; exact pRul_ok hk h
  rw [if_neg e5]
  by_cases e6 : s = 6
  · rw [if_pos e6]; exact pSd_ok hk h
  rw [if_neg e6]
  by_cases e7 : s = 7
  · rw [if_pos e7]; exact pSrt_ok hk h
  rw [if_neg e7]
  exact pBond_ok hk h (h8 (by omega))
theorem pStm_ok (hk : TK f k T) (h : TF T) : pGd f k T (pStm f k T) := by
  intro e
  unfold pStm at e ⊢
  by_cases c : pAdm T (pWh f T) = 0
  · rw [if_pos c] at e ⊢
    obtain ⟨q1, q2, q3⟩ := pAdm_0 c
    have q4 := pWh_le f T
    have hN := h.1.1
    have h1 : TF (pN T (qN T ||| 2 ^ pWh f T)) := TF_pN h (or9 _ hN _ (by omega))
    obtain ⟨a1, a2⟩ := TK_adv (f := f) (T := pN T (qN T ||| 2 ^ pWh f T)) (k := k) hk.2.1
    have hb := pBody_ok (s := pWh f T) a1 (TF_e (T' := pAdv f k (pN T (qN T ||| 2 ^ pWh f T))) rfl h1) q2 q3 (by omega) e
    exact ⟨hb.1, PG_tr (PG_l rfl a2) hb.2.1, hb.2.2⟩
  · rw [if_neg c] at e
    exact absurd e c
theorem pLab_ok : ∀ (j : Nat) (T : pSt), TK f k T → TF T → (pLab f k j T).1 = 0 → TF (pLab f k j T).2
  | 0, T, _, h, _ => h
  | j + 1, T, hk, h, e => by
    rw [pLab] at e ⊢
    by_cases c0 : qK T = 0
    · rw [if_pos c0]; exact h
    · rw [if_neg c0] at e ⊢
      by_cases c1 : (pStm f k T).1 = 0
      · rw [if_pos c1] at e ⊢
        have hs := pStm_ok hk h c1
        by_cases c2 : qK (pStm f k T).2 = 4
        · rw [if_pos c2] at e ⊢
          exact pLab_ok j _ (TK_adv hs.1.2.1).1 (TF_e rfl hs.2.2) e
        · rw [if_neg c2] at e; cases e
      · rw [if_neg c1] at e
        exact absurd e c1
theorem TF_00 : TF p00 := ⟨⟨by decide, by decide, by decide, by decide, by decide, by decide, by decide⟩, ⟨by decide, by decide, by decide⟩, ⟨by decide, by decide⟩, ⟨by decide, by decide⟩, by decide, by decide, by decide, fun j hj => absurd (show j < 0 from hj) (Nat.not_lt_zero j)⟩
end
/-! ===== the class reads a setup text: tokens ===== -/
section
/-- the reader at o, its setup and rows behind it; the input's bytes -/
def PH (o : Nat) (S : xS) (R : xR) : Prop := S o = (6, 0) ∧ S (o + 1) = (5, 0) ∧ S (o + 2) = (100, 12) ∧ S (o + 3) = (105, 12) ∧ S (o + 4) = (100, 12) ∧ R o 0 = some (o + 1) ∧ R o 3 = some 101 ∧ R (o + 1) 11 = some (o + 2) ∧ R (o + 1) 12 = some (o + 3) ∧ R (o + 1) 13 = some (o + 4) ∧ S 101 = (103, 600)
def cf (o : Nat) (I I' : xI) : Prop := ∀ p, p < o ∨ o + 4 < p → I' p = I p
def PC (o k : Nat) (f : Nat → Nat) (S : xS) (I : xI) (R : xR) : Prop := PH o S R ∧ 402 ≤ o ∧ k ≤ 600 ∧ ∀ j, j < k → I 101 j = sB8 (f j) ∧ f j < 256
/-- the reader's state -/
def CT (o k : Nat) (T : pSt) (I : xI) : Prop := (I o 1 = 0 ∧ I o 2 = -1 ∧ I o 4 = nI k ∧ I o 5 = nI (qP T) ∧ I o 6 = nI (qK T) ∧ I o 7 = nI (qS T) ∧ I o 9 = nI (qN T)) ∧ (∀ j, j ≤ 9 → j ≠ 5 → j ≠ 6 → I (o + 1) j = nI (qU T j)) ∧ (I (o + 1) 5 = qF T ∧ I (o + 1) 6 = qG T ∧ I (o + 1) 10 = nI (qB T)) ∧ ∀ j, j < qB T → I (o + 2) j = nI (qA T j) ∧ I (o + 3) j = (if qD T j = true then 1 else 0) ∧ I (o + 4) j = qV T j
/-- read on, or stopped at an error -/
def CO (o k e : Nat) (T : pSt) (I : xI) : Prop := (e = 0 → CT o k T I) ∧ (e ≠ 0 → I o 1 = nI e ∧ I o 2 = nI (qS T))
variable {o k p : Nat} {f : Nat → Nat} {T : pSt} {S : xS} {I I' I2 : xI} {J : xJ} {D : xDb} {R : xR} {b : Nat × Nat} {Q : xQ}
theorem PC_e (h : PC o k f S I R) (e : I' 101 = I 101) : PC o k f S I' R := ⟨h.1, h.2.1, h.2.2.1, fun j hj => by rw [e]; exact h.2.2.2 j hj⟩
theorem PC_u {c : Nat} {v : Int32} (h : PC o k f S I R) (hp : 402 ≤ p) : PC o k f S (uI I p c v) R := PC_e h (by funext j; rw [uI_at, if_neg (by omega)])
theorem PC_c (h : PC o k f S I R) (e : cf o I I') : PC o k f S I' R := PC_e h (e 101 (Or.inl (by have := h.2.1; omega)))
theorem cf_r : cf o I I := fun _ _ => rfl
theorem cf_t (h1 : cf o I I') (h2 : cf o I' I2) : cf o I I2 := fun p hp => (h2 p hp).trans (h1 p hp)
theorem cf_u {c : Nat} {v : Int32} (h : o ≤ p ∧ p ≤ o + 4) : cf o I (uI I p c v) := fun q hq => by funext j; rw [uI_at, if_neg (by omega)]
theorem s59 : ∀ v, v < 256 → ((decide (sB8 v < 97) || decide (122 < sB8 v)) = ! pL v) ∧ ((decide (sB8 v < 48) || decide (57 < sB8 v)) = ! pD v) ∧ swf (sB8 v) [(10, 82), (32, 80), (45, 84), (59, 86)] 88 = (if v = 10 then 82 else if v = 32 then 80 else if v = 45 then 84 else if v = 59 then 86 else 88) := by decide +kernel
theorem pK_r {v : Nat} (h1 : ¬ pL v = true) (h2 : ¬ pD v = true) : pK v = if v = 10 then 5 else if v = 32 then 5 else if v = 45 then 3 else if v = 59 then 4 else 6 := by
  unfold pK pB
  rw [if_neg h1, if_neg h2]
  by_cases a1 : v = 10 <;> by_cases a2 : v = 32 <;> simp [a1, a2]
theorem R59_35 {v : Nat} (hv : v < 256) (h1 : ¬ pL v = true) (h2 : ¬ pD v = true) : xRun xT 59 35 [(2, .int (sB8 v))] [] (S, I, J, D, R) b Q = Q (.ok (some (.int (nI (pK v))))) (S, I, J, D, R) b := by
  rw [e59_35]
  simp only [B59_35, xSeq, i_push, i_load, i_iload, i_lload, i_dload, i_aload, i_istore, i_astore, i_lstore, i_dstore, i_iinc, i_ii, i_iiz, i_ll, i_llz, i_lli, i_li, i_i, i_l, i_i2l, i_l2i, i_dup, i_dup2, i_dup2w, i_dupx1, i_pop, i_pop2, i_goto, i_ifc, i_icmp, i_getI, i_getL, i_getR, i_putI, i_putZ, i_putL, i_putR, i_aldI, i_aldB, i_aldL, i_aldD, i_astI, i_astL, i_astD, i_alen, i_ret, i_iret, i_zret, i_lret, i_fret, i_dret, i_aret, i_invS0, i_invV0, i_m2, i_m1, i_ml, i_obj, lk, lkp, stf1, stf2, Value.category, rV, xTo, lv_args, xCk, xCat, xRc, xAk, hg_S, hg_I, hg_J, hg_D, hg_R, hs_I, hs_J, hs_D, hs_R, uI_at, uJ_at, uD_at, uR_at, List.take_succ_cons, List.take_zero, List.drop_succ_cons, List.drop_zero, List.reverse_cons, List.reverse_nil, List.nil_append, List.cons_append, List.map_cons, List.map_nil, List.sum_cons, List.sum_nil, List.length_cons, List.length_nil, Option.toList_some, Option.toList_none, true_and, and_true, false_and, and_false, true_implies, false_implies, implies_true, not_true_eq_false, not_false_eq_true, ne_eq, if_true, if_false, Bool.and_true, Bool.true_and, decide_true, decide_false, reduceIte, reduceCtorEq, Bool.and_self, Bool.and_eq_true, decide_eq_true_eq, and_self, true_or, or_true, false_or, or_false, Nat.zero_add, Nat.add_zero, eq_self, Nat.reduceEqDiff, Nat.reduceLeDiff, Nat.reduceLT, Nat.reduceAdd, Nat.reduceSub, Nat.reduceMul, i_sw_eq, (s59 v hv).2.2]
  rw [pK_r h1 h2]
  by_cases a1 : v = 10
  · simp only [a1, xSeq, i_push, i_load, i_iload, i_lload, i_dload, i_aload, i_istore, i_astore, i_lstore, i_dstore, i_iinc, i_ii, i_iiz, i_ll, i_llz, i_lli, i_li, i_i, i_l, i_i2l, i_l2i, i_dup, i_dup2, i_dup2w, i_dupx1, i_pop, i_pop2, i_goto, i_ifc, i_icmp, i_getI, i_getL, i_getR, i_putI, i_putZ, i_putL, i_putR, i_aldI, i_aldB, i_aldL, i_aldD, i_astI, i_astL, i_astD, i_alen, i_ret, i_iret, i_zret, i_lret, i_fret, i_dret, i_aret, i_invS0, i_invV0, i_m2, i_m1, i_ml, i_obj, lk, lkp, stf1, stf2, Value.category, rV, xTo, lv_args, xCk, xCat, xRc, xAk, hg_S, hg_I, hg_J, hg_D, hg_R, hs_I, hs_J, hs_D, hs_R, uI_at, uJ_at, uD_at, uR_at, List.take_succ_cons, List.take_zero, List.drop_succ_cons, List.drop_zero, List.reverse_cons, List.reverse_nil, List.nil_append, List.cons_append, List.map_cons, List.map_nil, List.sum_cons, List.sum_nil, List.length_cons, List.length_nil, Option.toList_some, Option.toList_none, true_and, and_true, false_and, and_false, true_implies, false_implies, implies_true, not_true_eq_false, not_false_eq_true, ne_eq, if_true, if_false, Bool.and_true, Bool.true_and, decide_true, decide_false, reduceIte, reduceCtorEq, Bool.and_self, Bool.and_eq_true, decide_eq_true_eq, and_self, true_or, or_true, false_or, or_false, Nat.zero_add, Nat.add_zero, eq_self, Nat.reduceEqDiff, Nat.reduceLeDiff, Nat.reduceLT, Nat.reduceAdd, Nat.reduceSub, Nat.reduceMul, e59_82, B59_82]
    rfl
  · by_cases a2 : v = 32
    · simp only [a2, xSeq, i_push, i_load, i_iload, i_lload, i_dload, i_aload, i_istore, i_astore, i_lstore, i_dstore, i_iinc, i_ii, i_iiz, i_ll, i_llz, i_lli, i_li, i_i, i_l, i_i2l, i_l2i, i_dup, i_dup2, i_dup2w, i_dupx1, i_pop, i_pop2, i_goto, i_ifc, i_icmp, i_getI, i_getL, i_getR, i_putI, i_putZ, i_putL, i_putR, i_aldI, i_aldB, i_aldL, i_aldD, i_astI, i_astL, i_astD, i_alen, i_ret, i_iret, i_zret, i_lret, i_fret, i_dret, i_aret, i_invS0, i_invV0, i_m2, i_m1, i_ml, i_obj, lk, lkp, stf1, stf2, Value.category, rV, xTo, lv_args, xCk, xCat, xRc, xAk, hg_S, hg_I, hg_J, hg_D, hg_R, hs_I, hs_J, hs_D, hs_R, uI_at, uJ_at, uD_at, uR_at, List.take_succ_cons, List.take_zero, List.drop_succ_cons, List.drop_zero, List.reverse_cons, List.reverse_nil, List.nil_append, List.cons_append, List.map_cons, List.map_nil, List.sum_cons, List.sum_nil, List.length_cons, List.length_nil, Option.toList_some, Option.toList_none, true_and, and_true, false_and, and_false, true_implies, false_implies, implies_true, not_true_eq_false, not_false_eq_true, ne_eq, if_true, if_false, Bool.and_true, Bool.true_and, decide_true, decide_false, reduceIte, reduceCtorEq, Bool.and_self, Bool.and_eq_true, decide_eq_true_eq, and_self, true_or, or_true, false_or, or_false, Nat.zero_add, Nat.add_zero, eq_self, Nat.reduceEqDiff, Nat.reduceLeDiff, Nat.reduceLT, Nat.reduceAdd, Nat.reduceSub, Nat.reduceMul, e59_80, B59_80]
      rfl
    · by_cases a3 : v = 45
      · simp only [a3, xSeq, i_push, i_load, i_iload, i_lload, i_dload, i_aload, i_istore, i_astore, i_lstore, i_dstore, i_iinc, i_ii, i_iiz, i_ll, i_llz, i_lli, i_li, i_i, i_l, i_i2l, i_l2i, i_dup, i_dup2, i_dup2w, i_dupx1, i_pop, i_pop2, i_goto, i_ifc, i_icmp, i_getI, i_getL, i_getR, i_putI, i_putZ, i_putL, i_putR, i_aldI, i_aldB, i_aldL, i_aldD, i_astI, i_astL, i_astD, i_alen, i_ret, i_iret, i_zret, i_lret, i_fret, i_dret, i_aret, i_invS0, i_invV0, i_m2, i_m1, i_ml, i_obj, lk, lkp, stf1, stf2, Value.category, rV, xTo, lv_args, xCk, xCat, xRc, xAk, hg_S, hg_I, hg_J, hg_D, hg_R, hs_I, hs_J, hs_D, hs_R, uI_at, uJ_at, uD_at, uR_at, List.take_succ_cons, List.take_zero, List.drop_succ_cons, List.drop_zero, List.reverse_cons, List.reverse_nil, List.nil_append, List.cons_append, List.map_cons, List.map_nil, List.sum_cons, List.sum_nil, List.length_cons, List.length_nil, Option.toList_some, Option.toList_none, true_and, and_true, false_and, and_false, true_implies, false_implies, implies_true, not_true_eq_false, not_false_eq_true, ne_eq, if_true, if_false, Bool.and_true, Bool.true_and, decide_true, decide_false, reduceIte, reduceCtorEq, Bool.and_self, Bool.and_eq_true, decide_eq_true_eq, and_self, true_or, or_true, false_or, or_false, Nat.zero_add, Nat.add_zero, eq_self, Nat.reduceEqDiff, Nat.reduceLeDiff, Nat.reduceLT, Nat.reduceAdd, Nat.reduceSub, Nat.reduceMul, e59_84, B59_84]
        rfl
      · by_cases a4 : v = 59
        · simp only [a4, xSeq, i_push, i_load, i_iload, i_lload, i_dload, i_aload, i_istore, i_astore, i_lstore, i_dstore, i_iinc, i_ii, i_iiz, i_ll, i_llz, i_lli, i_li, i_i, i_l, i_i2l, i_l2i, i_dup, i_dup2, i_dup2w, i_dupx1, i_pop, i_pop2, i_goto, i_ifc, i_icmp, i_getI, i_getL, i_getR, i_putI, i_putZ, i_putL, i_putR, i_aldI, i_aldB, i_aldL, i_aldD, i_astI, i_astL, i_astD, i_alen, i_ret, i_iret, i_zret, i_lret, i_fret, i_dret, i_aret, i_invS0, i_invV0, i_m2, i_m1, i_ml, i_obj, lk, lkp, stf1, stf2, Value.category, rV, xTo, lv_args, xCk, xCat, xRc, xAk, hg_S, hg_I, hg_J, hg_D, hg_R, hs_I, hs_J, hs_D, hs_R, uI_at, uJ_at, uD_at, uR_at, List.take_succ_cons, List.take_zero, List.drop_succ_cons, List.drop_zero, List.reverse_cons, List.reverse_nil, List.nil_append, List.cons_append, List.map_cons, List.map_nil, List.sum_cons, List.sum_nil, List.length_cons, List.length_nil, Option.toList_some, Option.toList_none, true_and, and_true, false_and, and_false, true_implies, false_implies, implies_true, not_true_eq_false, not_false_eq_true, ne_eq, if_true, if_false, Bool.and_true, Bool.true_and, decide_true, decide_false, reduceIte, reduceCtorEq, Bool.and_self, Bool.and_eq_true, decide_eq_true_eq, and_self, true_or, or_true, false_or, or_false, Nat.zero_add, Nat.add_zero, eq_self, Nat.reduceEqDiff, Nat.reduceLeDiff, Nat.reduceLT, Nat.reduceAdd, Nat.reduceSub, Nat.reduceMul, e59_86, B59_86]
          rfl
        · simp only [a1, a2, a3, a4, xSeq, i_push, i_load, i_iload, i_lload, i_dload, i_aload, i_istore, i_astore, i_lstore, i_dstore, i_iinc, i_ii, i_iiz, i_ll, i_llz, i_lli, i_li, i_i, i_l, i_i2l, i_l2i, i_dup, i_dup2, i_dup2w, i_dupx1, i_pop, i_pop2, i_goto, i_ifc, i_icmp, i_getI, i_getL, i_getR, i_putI, i_putZ, i_putL, i_putR, i_aldI, i_aldB, i_aldL, i_aldD, i_astI, i_astL, i_astD, i_alen, i_ret, i_iret, i_zret, i_lret, i_fret, i_dret, i_aret, i_invS0, i_invV0, i_m2, i_m1, i_ml, i_obj, lk, lkp, stf1, stf2, Value.category, rV, xTo, lv_args, xCk, xCat, xRc, xAk, hg_S, hg_I, hg_J, hg_D, hg_R, hs_I, hs_J, hs_D, hs_R, uI_at, uJ_at, uD_at, uR_at, List.take_succ_cons, List.take_zero, List.drop_succ_cons, List.drop_zero, List.reverse_cons, List.reverse_nil, List.nil_append, List.cons_append, List.map_cons, List.map_nil, List.sum_cons, List.sum_nil, List.length_cons, List.length_nil, Option.toList_some, Option.toList_none, true_and, and_true, false_and, and_false, true_implies, false_implies, implies_true, not_true_eq_false, not_false_eq_true, ne_eq, if_true, if_false, Bool.and_true, Bool.true_and, decide_true, decide_false, reduceIte, reduceCtorEq, Bool.and_self, Bool.and_eq_true, decide_eq_true_eq, and_self, true_or, or_true, false_or, or_false, Nat.zero_add, Nat.add_zero, eq_self, Nat.reduceEqDiff, Nat.reduceLeDiff, Nat.reduceLT, Nat.reduceAdd, Nat.reduceSub, Nat.reduceMul, e59_88, B59_88]
          rfl
theorem R59_21 {v : Nat} (hv : v < 256) (h1 : ¬ pL v = true) : xRun xT 59 21 [(2, .int (sB8 v))] [] (S, I, J, D, R) b Q = Q (.ok (some (.int (nI (pK v))))) (S, I, J, D, R) b := by
  have q := (s59 v hv).2.1
  rw [e59_21]
  by_cases h2 : pD v = true
  · rw [h2] at q
    simp only [Bool.not_true, Bool.or_eq_false_iff, decide_eq_false_iff_not] at q
    simp only [B59_21, xSeq, i_push, i_load, i_iload, i_lload, i_dload, i_aload, i_istore, i_astore, i_lstore, i_dstore, i_iinc, i_ii, i_iiz, i_ll, i_llz, i_lli, i_li, i_i, i_l, i_i2l, i_l2i, i_dup, i_dup2, i_dup2w, i_dupx1, i_pop, i_pop2, i_goto, i_ifc, i_icmp, i_getI, i_getL, i_getR, i_putI, i_putZ, i_putL, i_putR, i_aldI, i_aldB, i_aldL, i_aldD, i_astI, i_astL, i_astD, i_alen, i_ret, i_iret, i_zret, i_lret, i_fret, i_dret, i_aret, i_invS0, i_invV0, i_m2, i_m1, i_ml, i_obj, lk, lkp, stf1, stf2, Value.category, rV, xTo, lv_args, xCk, xCat, xRc, xAk, hg_S, hg_I, hg_J, hg_D, hg_R, hs_I, hs_J, hs_D, hs_R, uI_at, uJ_at, uD_at, uR_at, List.take_succ_cons, List.take_zero, List.drop_succ_cons, List.drop_zero, List.reverse_cons, List.reverse_nil, List.nil_append, List.cons_append, List.map_cons, List.map_nil, List.sum_cons, List.sum_nil, List.length_cons, List.length_nil, Option.toList_some, Option.toList_none, true_and, and_true, false_and, and_false, true_implies, false_implies, implies_true, not_true_eq_false, not_false_eq_true, ne_eq, if_true, if_false, Bool.and_true, Bool.true_and, decide_true, decide_false, reduceIte, reduceCtorEq, Bool.and_self, Bool.and_eq_true, decide_eq_true_eq, and_self, true_or, or_true, false_or, or_false, Nat.zero_add, Nat.add_zero, eq_self, Nat.reduceEqDiff, Nat.reduceLeDiff, Nat.reduceLT, Nat.reduceAdd, Nat.reduceSub, Nat.reduceMul, q.1, q.2]
    rw [pK_2.mpr h2]
    rfl
  · rw [Bool.eq_false_iff.mpr h2] at q
    simp only [Bool.not_false, Bool.or_eq_true, decide_eq_true_eq] at q
    by_cases c : sB8 v < 48
    · simp only [B59_21, xSeq, i_push, i_load, i_iload, i_lload, i_dload, i_aload, i_istore, i_astore, i_lstore, i_dstore, i_iinc, i_ii, i_iiz, i_ll, i_llz, i_lli, i_li, i_i, i_l, i_i2l, i_l2i, i_dup, i_dup2, i_dup2w, i_dupx1, i_pop, i_pop2, i_goto, i_ifc, i_icmp, i_getI, i_getL, i_getR, i_putI, i_putZ, i_putL, i_putR, i_aldI, i_aldB, i_aldL, i_aldD, i_astI, i_astL, i_astD, i_alen, i_ret, i_iret, i_zret, i_lret, i_fret, i_dret, i_aret, i_invS0, i_invV0, i_m2, i_m1, i_ml, i_obj, lk, lkp, stf1, stf2, Value.category, rV, xTo, lv_args, xCk, xCat, xRc, xAk, hg_S, hg_I, hg_J, hg_D, hg_R, hs_I, hs_J, hs_D, hs_R, uI_at, uJ_at, uD_at, uR_at, List.take_succ_cons, List.take_zero, List.drop_succ_cons, List.drop_zero, List.reverse_cons, List.reverse_nil, List.nil_append, List.cons_append, List.map_cons, List.map_nil, List.sum_cons, List.sum_nil, List.length_cons, List.length_nil, Option.toList_some, Option.toList_none, true_and, and_true, false_and, and_false, true_implies, false_implies, implies_true, not_true_eq_false, not_false_eq_true, ne_eq, if_true, if_false, Bool.and_true, Bool.true_and, decide_true, decide_false, reduceIte, reduceCtorEq, Bool.and_self, Bool.and_eq_true, decide_eq_true_eq, and_self, true_or, or_true, false_or, or_false, Nat.zero_add, Nat.add_zero, eq_self, Nat.reduceEqDiff, Nat.reduceLeDiff, Nat.reduceLT, Nat.reduceAdd, Nat.reduceSub, Nat.reduceMul, c]
      exact R59_35 hv h1 h2
    · have c2 := q.resolve_left c
      simp only [B59_21, xSeq, i_push, i_load, i_iload, i_lload, i_dload, i_aload, i_istore, i_astore, i_lstore, i_dstore, i_iinc, i_ii, i_iiz, i_ll, i_llz, i_lli, i_li, i_i, i_l, i_i2l, i_l2i, i_dup, i_dup2, i_dup2w, i_dupx1, i_pop, i_pop2, i_goto, i_ifc, i_icmp, i_getI, i_getL, i_getR, i_putI, i_putZ, i_putL, i_putR, i_aldI, i_aldB, i_aldL, i_aldD, i_astI, i_astL, i_astD, i_alen, i_ret, i_iret, i_zret, i_lret, i_fret, i_dret, i_aret, i_invS0, i_invV0, i_m2, i_m1, i_ml, i_obj, lk, lkp, stf1, stf2, Value.category, rV, xTo, lv_args, xCk, xCat, xRc, xAk, hg_S, hg_I, hg_J, hg_D, hg_R, hs_I, hs_J, hs_D, hs_R, uI_at, uJ_at, uD_at, uR_at, List.take_succ_cons, List.take_zero, List.drop_succ_cons, List.drop_zero, List.reverse_cons, List.reverse_nil, List.nil_append, List.cons_append, List.map_cons, List.map_nil, List.sum_cons, List.sum_nil, List.length_cons, List.length_nil, Option.toList_some, Option.toList_none, true_and, and_true, false_and, and_false, true_implies, false_implies, implies_true, not_true_eq_false, not_false_eq_true, ne_eq, if_true, if_false, Bool.and_true, Bool.true_and, decide_true, decide_false, reduceIte, reduceCtorEq, Bool.and_self, Bool.and_eq_true, decide_eq_true_eq, and_self, true_or, or_true, false_or, or_false, Nat.zero_add, Nat.add_zero, eq_self, Nat.reduceEqDiff, Nat.reduceLeDiff, Nat.reduceLT, Nat.reduceAdd, Nat.reduceSub, Nat.reduceMul, c, c2]
      exact R59_35 hv h1 h2
theorem R59 (h : PC o k f S I R) {a : Nat} (ha : a < k) : xRun xT 59 0 [(0, .ref o), (1, .int (nI a))] [] (S, I, J, D, R) b Q = Q (.ok (some (.int (nI (pK (f a)))))) (S, I, J, D, R) b := by
  obtain ⟨⟨h1, h2, h3, h4, h5, h6, h7, h8, h9, h10, h11⟩, h0, hk, hf⟩ := h
  obtain ⟨i1, v1⟩ := hf a ha
  have q := (s59 _ v1).1
  rw [e59_0]
  by_cases c : pL (f a) = true
  · rw [c] at q
    simp only [Bool.not_true, Bool.or_eq_false_iff, decide_eq_false_iff_not] at q
    simp only [B59_0, xSeq, i_push, i_load, i_iload, i_lload, i_dload, i_aload, i_istore, i_astore, i_lstore, i_dstore, i_iinc, i_ii, i_iiz, i_ll, i_llz, i_lli, i_li, i_i, i_l, i_i2l, i_l2i, i_dup, i_dup2, i_dup2w, i_dupx1, i_pop, i_pop2, i_goto, i_ifc, i_icmp, i_getI, i_getL, i_getR, i_putI, i_putZ, i_putL, i_putR, i_aldI, i_aldB, i_aldL, i_aldD, i_astI, i_astL, i_astD, i_alen, i_ret, i_iret, i_zret, i_lret, i_fret, i_dret, i_aret, i_invS0, i_invV0, i_m2, i_m1, i_ml, i_obj, lk, lkp, stf1, stf2, Value.category, rV, xTo, lv_args, xCk, xCat, xRc, xAk, hg_S, hg_I, hg_J, hg_D, hg_R, hs_I, hs_J, hs_D, hs_R, uI_at, uJ_at, uD_at, uR_at, List.take_succ_cons, List.take_zero, List.drop_succ_cons, List.drop_zero, List.reverse_cons, List.reverse_nil, List.nil_append, List.cons_append, List.map_cons, List.map_nil, List.sum_cons, List.sum_nil, List.length_cons, List.length_nil, Option.toList_some, Option.toList_none, true_and, and_true, false_and, and_false, true_implies, false_implies, implies_true, not_true_eq_false, not_false_eq_true, ne_eq, if_true, if_false, Bool.and_true, Bool.true_and, decide_true, decide_false, reduceIte, reduceCtorEq, Bool.and_self, Bool.and_eq_true, decide_eq_true_eq, and_self, true_or, or_true, false_or, or_false, Nat.zero_add, Nat.add_zero, eq_self, Nat.reduceEqDiff, Nat.reduceLeDiff, Nat.reduceLT, Nat.reduceAdd, Nat.reduceSub, Nat.reduceMul, h1, h7, h11, nI_inP (show a < 600 by omega) (by decide), nI_ix (show a < 2147483648 by omega), i1, q.1, q.2]
    rw [pK_1.mpr c]
    rfl
  · rw [Bool.eq_false_iff.mpr c] at q
    simp only [Bool.not_false, Bool.or_eq_true, decide_eq_true_eq] at q
    by_cases c1 : sB8 (f a) < 97
    · simp only [B59_0, xSeq, i_push, i_load, i_iload, i_lload, i_dload, i_aload, i_istore, i_astore, i_lstore, i_dstore, i_iinc, i_ii, i_iiz, i_ll, i_llz, i_lli, i_li, i_i, i_l, i_i2l, i_l2i, i_dup, i_dup2, i_dup2w, i_dupx1, i_pop, i_pop2, i_goto, i_ifc, i_icmp, i_getI, i_getL, i_getR, i_putI, i_putZ, i_putL, i_putR, i_aldI, i_aldB, i_aldL, i_aldD, i_astI, i_astL, i_astD, i_alen, i_ret, i_iret, i_zret, i_lret, i_fret, i_dret, i_aret, i_invS0, i_invV0, i_m2, i_m1, i_ml, i_obj, lk, lkp, stf1, stf2, Value.category, rV, xTo, lv_args, xCk, xCat, xRc, xAk, hg_S, hg_I, hg_J, hg_D, hg_R, hs_I, hs_J, hs_D, hs_R, uI_at, uJ_at, uD_at, uR_at, List.take_succ_cons, List.take_zero, List.drop_succ_cons, List.drop_zero, List.reverse_cons, List.reverse_nil, List.nil_append, List.cons_append, List.map_cons, List.map_nil, List.sum_cons, List.sum_nil, List.length_cons, List.length_nil, Option.toList_some, Option.toList_none, true_and, and_true, false_and, and_false, true_implies, false_implies, implies_true, not_true_eq_false, not_false_eq_true, ne_eq, if_true, if_false, Bool.and_true, Bool.true_and, decide_true, decide_false, reduceIte, reduceCtorEq, Bool.and_self, Bool.and_eq_true, decide_eq_true_eq, and_self, true_or, or_true, false_or, or_false, Nat.zero_add, Nat.add_zero, eq_self, Nat.reduceEqDiff, Nat.reduceLeDiff, Nat.reduceLT, Nat.reduceAdd, Nat.reduceSub, Nat.reduceMul, h1, h7, h11, nI_inP (show a < 600 by omega) (by decide), nI_ix (show a < 2147483648 by omega), i1, c1]
      exact R59_21 v1 c
    · have c2 := q.resolve_left c1
      simp only [B59_0, xSeq, i_push, i_load, i_iload, i_lload, i_dload, i_aload, i_istore, i_astore, i_lstore, i_dstore, i_iinc, i_ii, i_iiz, i_ll, i_llz, i_lli, i_li, i_i, i_l, i_i2l, i_l2i, i_dup, i_dup2, i_dup2w, i_dupx1, i_pop, i_pop2, i_goto, i_ifc, i_icmp, i_getI, i_getL, i_getR, i_putI, i_putZ, i_putL, i_putR, i_aldI, i_aldB, i_aldL, i_aldD, i_astI, i_astL, i_astD, i_alen, i_ret, i_iret, i_zret, i_lret, i_fret, i_dret, i_aret, i_invS0, i_invV0, i_m2, i_m1, i_ml, i_obj, lk, lkp, stf1, stf2, Value.category, rV, xTo, lv_args, xCk, xCat, xRc, xAk, hg_S, hg_I, hg_J, hg_D, hg_R, hs_I, hs_J, hs_D, hs_R, uI_at, uJ_at, uD_at, uR_at, List.take_succ_cons, List.take_zero, List.drop_succ_cons, List.drop_zero, List.reverse_cons, List.reverse_nil, List.nil_append, List.cons_append, List.map_cons, List.map_nil, List.sum_cons, List.sum_nil, List.length_cons, List.length_nil, Option.toList_some, Option.toList_none, true_and, and_true, false_and, and_false, true_implies, false_implies, implies_true, not_true_eq_false, not_false_eq_true, ne_eq, if_true, if_false, Bool.and_true, Bool.true_and, decide_true, decide_false, reduceIte, reduceCtorEq, Bool.and_self, Bool.and_eq_true, decide_eq_true_eq, and_self, true_or, or_true, false_or, or_false, Nat.zero_add, Nat.add_zero, eq_self, Nat.reduceEqDiff, Nat.reduceLeDiff, Nat.reduceLT, Nat.reduceAdd, Nat.reduceSub, Nat.reduceMul, h1, h7, h11, nI_inP (show a < 600 by omega) (by decide), nI_ix (show a < 2147483648 by omega), i1, c1, c2]
      exact R59_21 v1 c
theorem pK5 (v : Nat) : (nI (pK v) = 5) = (pB v = true) := by
  have := pK_le v
  rw [show (5 : Int32) = nI 5 from rfl, nI_iff (by omega) (by decide)]
  exact propext pK_5
theorem pK1 (v : Nat) : (nI (pK v) = 1) = (pL v = true) := by
  have := pK_le v
  rw [show (1 : Int32) = nI 1 from rfl, nI_iff (by omega) (by decide)]
  exact propext pK_1
theorem pK2 (v : Nat) : (nI (pK v) = 2) = (pD v = true) := by
  have := pK_le v
  rw [show (2 : Int32) = nI 2 from rfl, nI_iff (by omega) (by decide)]
  exact propext pK_2
theorem L58_0 : ∀ (j p : Nat) (I : xI), p + j = k → PC o k f S I R → I o 4 = nI k → I o 5 = nI p → (∀ I' : xI, (∀ a c, ¬ (a = o ∧ c = 5) → I' a c = I a c) → I' o 5 = nI (pR pB f j p) → xRun xT 58 36 [(0, .ref o)] [] (S, I', J, D, R) b Q) → xRun xT 58 0 [(0, .ref o)] [] (S, I, J, D, R) b Q
  | 0, p, I, e, h, i4, i5, kk => by
    have hs := h.1.1
    have hk := h.2.2.1
    rw [e58_0]
    simp only [B58_0, xSeq, i_push, i_load, i_iload, i_lload, i_dload, i_aload, i_istore, i_astore, i_lstore, i_dstore, i_iinc, i_ii, i_iiz, i_ll, i_llz, i_lli, i_li, i_i, i_l, i_i2l, i_l2i, i_dup, i_dup2, i_dup2w, i_dupx1, i_pop, i_pop2, i_goto, i_ifc, i_icmp, i_getI, i_getL, i_getR, i_putI, i_putZ, i_putL, i_putR, i_aldI, i_aldB, i_aldL, i_aldD, i_astI, i_astL, i_astD, i_alen, i_ret, i_iret, i_zret, i_lret, i_fret, i_dret, i_aret, i_invS0, i_invV0, i_m2, i_m1, i_ml, i_obj, lk, lkp, stf1, stf2, Value.category, rV, xTo, lv_args, xCk, xCat, xRc, xAk, hg_S, hg_I, hg_J, hg_D, hg_R, hs_I, hs_J, hs_D, hs_R, uI_at, uJ_at, uD_at, uR_at, List.take_succ_cons, List.take_zero, List.drop_succ_cons, List.drop_zero, List.reverse_cons, List.reverse_nil, List.nil_append, List.cons_append, List.map_cons, List.map_nil, List.sum_cons, List.sum_nil, List.length_cons, List.length_nil, Option.toList_some, Option.toList_none, true_and, and_true, false_and, and_false, true_implies, false_implies, implies_true, not_true_eq_false, not_false_eq_true, ne_eq, if_true, if_false, Bool.and_true, Bool.true_and, decide_true, decide_false, reduceIte, reduceCtorEq, Bool.and_self, Bool.and_eq_true, decide_eq_true_eq, and_self, true_or, or_true, false_or, or_false, Nat.zero_add, Nat.add_zero, eq_self, Nat.reduceEqDiff, Nat.reduceLeDiff, Nat.reduceLT, Nat.reduceAdd, Nat.reduceSub, Nat.reduceMul, hs, i4, i5, nI_leP (show k < 2147483648 by omega) (show p < 2147483648 by omega), show (k ≤ p) = True from eq_true (by omega)]
    exact kk I (fun _ _ _ => rfl) i5
  | j + 1, p, I, e, h, i4, i5, kk => by
    have hs := h.1.1
    have hk := h.2.2.1
    have e59 := fun (Q : xQ) => R59 (J := J) (D := D) (b := (0, 0)) (Q := Q) h (show p < k by omega)
    rw [e58_0]
    by_cases c : pB (f p) = true
    · simp only [B58_0, xSeq, i_push, i_load, i_iload, i_lload, i_dload, i_aload, i_istore, i_astore, i_lstore, i_dstore, i_iinc, i_ii, i_iiz, i_ll, i_llz, i_lli, i_li, i_i, i_l, i_i2l, i_l2i, i_dup, i_dup2, i_dup2w, i_dupx1, i_pop, i_pop2, i_goto, i_ifc, i_icmp, i_getI, i_getL, i_getR, i_putI, i_putZ, i_putL, i_putR, i_aldI, i_aldB, i_aldL, i_aldD, i_astI, i_astL, i_astD, i_alen, i_ret, i_iret, i_zret, i_lret, i_fret, i_dret, i_aret, i_invS0, i_invV0, i_m2, i_m1, i_ml, i_obj, lk, lkp, stf1, stf2, Value.category, rV, xTo, lv_args, xCk, xCat, xRc, xAk, hg_S, hg_I, hg_J, hg_D, hg_R, hs_I, hs_J, hs_D, hs_R, uI_at, uJ_at, uD_at, uR_at, List.take_succ_cons, List.take_zero, List.drop_succ_cons, List.drop_zero, List.reverse_cons, List.reverse_nil, List.nil_append, List.cons_append, List.map_cons, List.map_nil, List.sum_cons, List.sum_nil, List.length_cons, List.length_nil, Option.toList_some, Option.toList_none, true_and, and_true, false_and, and_false, true_implies, false_implies, implies_true, not_true_eq_false, not_false_eq_true, ne_eq, if_true, if_false, Bool.and_true, Bool.true_and, decide_true, decide_false, reduceIte, reduceCtorEq, Bool.and_self, Bool.and_eq_true, decide_eq_true_eq, and_self, true_or, or_true, false_or, or_false, Nat.zero_add, Nat.add_zero, eq_self, Nat.reduceEqDiff, Nat.reduceLeDiff, Nat.reduceLT, Nat.reduceAdd, Nat.reduceSub, Nat.reduceMul, hs, i4, i5, nI_leP (show k < 2147483648 by omega) (show p < 2147483648 by omega), show (k ≤ p) = False from eq_false (by omega), e59, pK5, c, nI_1]
      refine L58_0 j (p + 1) _ (by omega) (PC_u h h.2.1) ?_ ?_ (fun I' q1 q2 => kk I' (fun a c hc => ?_) ?_)
      · rw [uI_at, if_neg (by omega)]; exact i4
      · rw [uI_at, if_pos ⟨rfl, rfl⟩]
      · rw [q1 a c hc, uI_at, if_neg hc]
      · rw [q2, pR, if_pos c]
    · simp only [B58_0, xSeq, i_push, i_load, i_iload, i_lload, i_dload, i_aload, i_istore, i_astore, i_lstore, i_dstore, i_iinc, i_ii, i_iiz, i_ll, i_llz, i_lli, i_li, i_i, i_l, i_i2l, i_l2i, i_dup, i_dup2, i_dup2w, i_dupx1, i_pop, i_pop2, i_goto, i_ifc, i_icmp, i_getI, i_getL, i_getR, i_putI, i_putZ, i_putL, i_putR, i_aldI, i_aldB, i_aldL, i_aldD, i_astI, i_astL, i_astD, i_alen, i_ret, i_iret, i_zret, i_lret, i_fret, i_dret, i_aret, i_invS0, i_invV0, i_m2, i_m1, i_ml, i_obj, lk, lkp, stf1, stf2, Value.category, rV, xTo, lv_args, xCk, xCat, xRc, xAk, hg_S, hg_I, hg_J, hg_D, hg_R, hs_I, hs_J, hs_D, hs_R, uI_at, uJ_at, uD_at, uR_at, List.take_succ_cons, List.take_zero, List.drop_succ_cons, List.drop_zero, List.reverse_cons, List.reverse_nil, List.nil_append, List.cons_append, List.map_cons, List.map_nil, List.sum_cons, List.sum_nil, List.length_cons, List.length_nil, Option.toList_some, Option.toList_none, true_and, and_true, false_and, and_false, true_implies, false_implies, implies_true, not_true_eq_false, not_false_eq_true, ne_eq, if_true, if_false, Bool.and_true, Bool.true_and, decide_true, decide_false, reduceIte, reduceCtorEq, Bool.and_self, Bool.and_eq_true, decide_eq_true_eq, and_self, true_or, or_true, false_or, or_false, Nat.zero_add, Nat.add_zero, eq_self, Nat.reduceEqDiff, Nat.reduceLeDiff, Nat.reduceLT, Nat.reduceAdd, Nat.reduceSub, Nat.reduceMul, hs, i4, i5, nI_leP (show k < 2147483648 by omega) (show p < 2147483648 by omega), show (k ≤ p) = False from eq_false (by omega), e59, pK5, c]
      exact kk I (fun _ _ _ => rfl) (by rw [i5, pR, if_neg c])
theorem L58_99 {kd : Nat} {P : Nat → Bool} (hP : ∀ v, (nI (pK v) = nI kd) = (P v = true)) : ∀ (j p : Nat) (I : xI), p + j = k → PC o k f S I R → I o 4 = nI k → I o 5 = nI p → I o 6 = nI kd → (∀ I' : xI, (∀ a c, ¬ (a = o ∧ c = 5) → I' a c = I a c) → I' o 5 = nI (pR P f j p) → xRun xT 58 138 [(0, .ref o)] [] (S, I', J, D, R) b Q) → xRun xT 58 99 [(0, .ref o)] [] (S, I, J, D, R) b Q
  | 0, p, I, e, h, i4, i5, i6, kk => by
    have hs := h.1.1
    have hk := h.2.2.1
    rw [e58_99]
    simp only [B58_99, xSeq, i_push, i_load, i_iload, i_lload, i_dload, i_aload, i_istore, i_astore, i_lstore, i_dstore, i_iinc, i_ii, i_iiz, i_ll, i_llz, i_lli, i_li, i_i, i_l, i_i2l, i_l2i, i_dup, i_dup2, i_dup2w, i_dupx1, i_pop, i_pop2, i_goto, i_ifc, i_icmp, i_getI, i_getL, i_getR, i_putI, i_putZ, i_putL, i_putR, i_aldI, i_aldB, i_aldL, i_aldD, i_astI, i_astL, i_astD, i_alen, i_ret, i_iret, i_zret, i_lret, i_fret, i_dret, i_aret, i_invS0, i_invV0, i_m2, i_m1, i_ml, i_obj, lk, lkp, stf1, stf2, Value.category, rV, xTo, lv_args, xCk, xCat, xRc, xAk, hg_S, hg_I, hg_J, hg_D, hg_R, hs_I, hs_J, hs_D, hs_R, uI_at, uJ_at, uD_at, uR_at, List.take_succ_cons, List.take_zero, List.drop_succ_cons, List.drop_zero, List.reverse_cons, List.reverse_nil, List.nil_append, List.cons_append, List.map_cons, List.map_nil, List.sum_cons, List.sum_nil, List.length_cons, List.length_nil, Option.toList_some, Option.toList_none, true_and, and_true, false_and, and_false, true_implies, false_implies, implies_true, not_true_eq_false, not_false_eq_true, ne_eq, if_true, if_false, Bool.and_true, Bool.true_and, decide_true, decide_false, reduceIte, reduceCtorEq, Bool.and_self, Bool.and_eq_true, decide_eq_true_eq, and_self, true_or, or_true, false_or, or_false, Nat.zero_add, Nat.add_zero, eq_self, Nat.reduceEqDiff, Nat.reduceLeDiff, Nat.reduceLT, Nat.reduceAdd, Nat.reduceSub, Nat.reduceMul, hs, i4, i5, nI_leP (show k < 2147483648 by omega) (show p < 2147483648 by omega), show (k ≤ p) = True from eq_true (by omega)]
    exact kk I (fun _ _ _ => rfl) i5
  | j + 1, p, I, e, h, i4, i5, i6, kk => by
    have hs := h.1.1
    have hk := h.2.2.1
    have e59 := fun (Q : xQ) => R59 (J := J) (D := D) (b := (0, 0)) (Q := Q) h (show p < k by omega)
    rw [e58_99]
    by_cases c : P (f p) = true
    · simp only [B58_99, xSeq, i_push, i_load, i_iload, i_lload, i_dload, i_aload, i_istore, i_astore, i_lstore, i_dstore, i_iinc, i_ii, i_iiz, i_ll, i_llz, i_lli, i_li, i_i, i_l, i_i2l, i_l2i, i_dup, i_dup2, i_dup2w, i_dupx1, i_pop, i_pop2, i_goto, i_ifc, i_icmp, i_getI, i_getL, i_getR, i_putI, i_putZ, i_putL, i_putR, i_aldI, i_aldB, i_aldL, i_aldD, i_astI, i_astL, i_astD, i_alen, i_ret, i_iret, i_zret, i_lret, i_fret, i_dret, i_aret, i_invS0, i_invV0, i_m2, i_m1, i_ml, i_obj, lk, lkp, stf1, stf2, Value.category, rV, xTo, lv_args, xCk, xCat, xRc, xAk, hg_S, hg_I, hg_J, hg_D, hg_R, hs_I, hs_J, hs_D, hs_R, uI_at, uJ_at, uD_at, uR_at, List.take_succ_cons, List.take_zero, List.drop_succ_cons, List.drop_zero, List.reverse_cons, List.reverse_nil, List.nil_append, List.cons_append, List.map_cons, List.map_nil, List.sum_cons, List.sum_nil, List.length_cons, List.length_nil, Option.toList_some, Option.toList_none, true_and, and_true, false_and, and_false, true_implies, false_implies, implies_true, not_true_eq_false, not_false_eq_true, ne_eq, if_true, if_false, Bool.and_true, Bool.true_and, decide_true, decide_false, reduceIte, reduceCtorEq, Bool.and_self, Bool.and_eq_true, decide_eq_true_eq, and_self, true_or, or_true, false_or, or_false, Nat.zero_add, Nat.add_zero, eq_self, Nat.reduceEqDiff, Nat.reduceLeDiff, Nat.reduceLT, Nat.reduceAdd, Nat.reduceSub, Nat.reduceMul, hs, i4, i5, i6, nI_leP (show k < 2147483648 by omega) (show p < 2147483648 by omega), show (k ≤ p) = False from eq_false (by omega), e59, hP, c, nI_1]
      refine L58_99 hP j (p + 1) _ (by omega) (PC_u h h.2.1) ?_ ?_ ?_ (fun I' q1 q2 => kk I' (fun a c hc => ?_) ?_)
      · rw [uI_at, if_neg (by omega)]; exact i4
      · rw [uI_at, if_pos ⟨rfl, rfl⟩]
      · rw [uI_at, if_neg (by omega)]; exact i6
      · rw [q1 a c hc, uI_at, if_neg hc]
      · rw [q2, pR, if_pos c]
    · simp only [B58_99, xSeq, i_push, i_load, i_iload, i_lload, i_dload, i_aload, i_istore, i_astore, i_lstore, i_dstore, i_iinc, i_ii, i_iiz, i_ll, i_llz, i_lli, i_li, i_i, i_l, i_i2l, i_l2i, i_dup, i_dup2, i_dup2w, i_dupx1, i_pop, i_pop2, i_goto, i_ifc, i_icmp, i_getI, i_getL, i_getR, i_putI, i_putZ, i_putL, i_putR, i_aldI, i_aldB, i_aldL, i_aldD, i_astI, i_astL, i_astD, i_alen, i_ret, i_iret, i_zret, i_lret, i_fret, i_dret, i_aret, i_invS0, i_invV0, i_m2, i_m1, i_ml, i_obj, lk, lkp, stf1, stf2, Value.category, rV, xTo, lv_args, xCk, xCat, xRc, xAk, hg_S, hg_I, hg_J, hg_D, hg_R, hs_I, hs_J, hs_D, hs_R, uI_at, uJ_at, uD_at, uR_at, List.take_succ_cons, List.take_zero, List.drop_succ_cons, List.drop_zero, List.reverse_cons, List.reverse_nil, List.nil_append, List.cons_append, List.map_cons, List.map_nil, List.sum_cons, List.sum_nil, List.length_cons, List.length_nil, Option.toList_some, Option.toList_none, true_and, and_true, false_and, and_false, true_implies, false_implies, implies_true, not_true_eq_false, not_false_eq_true, ne_eq, if_true, if_false, Bool.and_true, Bool.true_and, decide_true, decide_false, reduceIte, reduceCtorEq, Bool.and_self, Bool.and_eq_true, decide_eq_true_eq, and_self, true_or, or_true, false_or, or_false, Nat.zero_add, Nat.add_zero, eq_self, Nat.reduceEqDiff, Nat.reduceLeDiff, Nat.reduceLT, Nat.reduceAdd, Nat.reduceSub, Nat.reduceMul, hs, i4, i5, i6, nI_leP (show k < 2147483648 by omega) (show p < 2147483648 by omega), show (k ≤ p) = False from eq_false (by omega), e59, hP, c]
      exact kk I (fun _ _ _ => rfl) (by rw [i5, pR, if_neg c])
theorem L58_138 {q s kd : Nat} (hs : S o = (6, 0)) (i5 : I o 5 = nI q) (i6 : I o 6 = nI kd) (i7 : I o 7 = nI s) (h1 : s ≤ q) (h2 : q < 2147483648) (h3 : kd < 2147483648) (kk : Q (.ok none) (S, (if kd = 2 ∧ s + 4 < q then uI I o 6 (nI 6) else I), J, D, R) b) : xRun xT 58 138 [(0, .ref o)] [] (S, I, J, D, R) b Q := by
  have e2 : (nI kd = 2) = (kd = 2) := by rw [show (2 : Int32) = nI 2 from rfl, nI_iff h3 (by decide)]
  have e4 : (nI (q - s) ≤ 4) = (q - s ≤ 4) := nI_leP (b := 4) (by omega) (by decide)
  rw [e58_138]
  by_cases c : kd = 2
  · have e2t : (nI kd = 2) = True := e2.trans (eq_true c)
    by_cases c2 : s + 4 < q
    · rw [if_pos ⟨c, c2⟩] at kk
      simp only [B58_138, xSeq, i_push, i_load, i_iload, i_lload, i_dload, i_aload, i_istore, i_astore, i_lstore, i_dstore, i_iinc, i_ii, i_iiz, i_ll, i_llz, i_lli, i_li, i_i, i_l, i_i2l, i_l2i, i_dup, i_dup2, i_dup2w, i_dupx1, i_pop, i_pop2, i_goto, i_ifc, i_icmp, i_getI, i_getL, i_getR, i_putI, i_putZ, i_putL, i_putR, i_aldI, i_aldB, i_aldL, i_aldD, i_astI, i_astL, i_astD, i_alen, i_ret, i_iret, i_zret, i_lret, i_fret, i_dret, i_aret, i_invS0, i_invV0, i_m2, i_m1, i_ml, i_obj, lk, lkp, stf1, stf2, Value.category, rV, xTo, lv_args, xCk, xCat, xRc, xAk, hg_S, hg_I, hg_J, hg_D, hg_R, hs_I, hs_J, hs_D, hs_R, uI_at, uJ_at, uD_at, uR_at, List.take_succ_cons, List.take_zero, List.drop_succ_cons, List.drop_zero, List.reverse_cons, List.reverse_nil, List.nil_append, List.cons_append, List.map_cons, List.map_nil, List.sum_cons, List.sum_nil, List.length_cons, List.length_nil, Option.toList_some, Option.toList_none, true_and, and_true, false_and, and_false, true_implies, false_implies, implies_true, not_true_eq_false, not_false_eq_true, ne_eq, if_true, if_false, Bool.and_true, Bool.true_and, decide_true, decide_false, reduceIte, reduceCtorEq, Bool.and_self, Bool.and_eq_true, decide_eq_true_eq, and_self, true_or, or_true, false_or, or_false, Nat.zero_add, Nat.add_zero, eq_self, Nat.reduceEqDiff, Nat.reduceLeDiff, Nat.reduceLT, Nat.reduceAdd, Nat.reduceSub, Nat.reduceMul, hs, i5, i6, i7, e2t, nI_subn h1, e4, show (q - s ≤ 4) = False from eq_false (by omega), e58_165, B58_165]
      exact kk
    · rw [if_neg (fun h => c2 h.2)] at kk
      simp only [B58_138, xSeq, i_push, i_load, i_iload, i_lload, i_dload, i_aload, i_istore, i_astore, i_lstore, i_dstore, i_iinc, i_ii, i_iiz, i_ll, i_llz, i_lli, i_li, i_i, i_l, i_i2l, i_l2i, i_dup, i_dup2, i_dup2w, i_dupx1, i_pop, i_pop2, i_goto, i_ifc, i_icmp, i_getI, i_getL, i_getR, i_putI, i_putZ, i_putL, i_putR, i_aldI, i_aldB, i_aldL, i_aldD, i_astI, i_astL, i_astD, i_alen, i_ret, i_iret, i_zret, i_lret, i_fret, i_dret, i_aret, i_invS0, i_invV0, i_m2, i_m1, i_ml, i_obj, lk, lkp, stf1, stf2, Value.category, rV, xTo, lv_args, xCk, xCat, xRc, xAk, hg_S, hg_I, hg_J, hg_D, hg_R, hs_I, hs_J, hs_D, hs_R, uI_at, uJ_at, uD_at, uR_at, List.take_succ_cons, List.take_zero, List.drop_succ_cons, List.drop_zero, List.reverse_cons, List.reverse_nil, List.nil_append, List.cons_append, List.map_cons, List.map_nil, List.sum_cons, List.sum_nil, List.length_cons, List.length_nil, Option.toList_some, Option.toList_none, true_and, and_true, false_and, and_false, true_implies, false_implies, implies_true, not_true_eq_false, not_false_eq_true, ne_eq, if_true, if_false, Bool.and_true, Bool.true_and, decide_true, decide_false, reduceIte, reduceCtorEq, Bool.and_self, Bool.and_eq_true, decide_eq_true_eq, and_self, true_or, or_true, false_or, or_false, Nat.zero_add, Nat.add_zero, eq_self, Nat.reduceEqDiff, Nat.reduceLeDiff, Nat.reduceLT, Nat.reduceAdd, Nat.reduceSub, Nat.reduceMul, hs, i5, i6, i7, e2t, nI_subn h1, e4, show (q - s ≤ 4) = True from eq_true (by omega), e58_165, B58_165]
      exact kk
  · rw [if_neg (fun h => c h.1)] at kk
    simp only [B58_138, xSeq, i_push, i_load, i_iload, i_lload, i_dload, i_aload, i_istore, i_astore, i_lstore, i_dstore, i_iinc, i_ii, i_iiz, i_ll, i_llz, i_lli, i_li, i_i, i_l, i_i2l, i_l2i, i_dup, i_dup2, i_dup2w, i_dupx1, i_pop, i_pop2, i_goto, i_ifc, i_icmp, i_getI, i_getL, i_getR, i_putI, i_putZ, i_putL, i_putR, i_aldI, i_aldB, i_aldL, i_aldD, i_astI, i_astL, i_astD, i_alen, i_ret, i_iret, i_zret, i_lret, i_fret, i_dret, i_aret, i_invS0, i_invV0, i_m2, i_m1, i_ml, i_obj, lk, lkp, stf1, stf2, Value.category, rV, xTo, lv_args, xCk, xCat, xRc, xAk, hg_S, hg_I, hg_J, hg_D, hg_R, hs_I, hs_J, hs_D, hs_R, uI_at, uJ_at, uD_at, uR_at, List.take_succ_cons, List.take_zero, List.drop_succ_cons, List.drop_zero, List.reverse_cons, List.reverse_nil, List.nil_append, List.cons_append, List.map_cons, List.map_nil, List.sum_cons, List.sum_nil, List.length_cons, List.length_nil, Option.toList_some, Option.toList_none, true_and, and_true, false_and, and_false, true_implies, false_implies, implies_true, not_true_eq_false, not_false_eq_true, ne_eq, if_true, if_false, Bool.and_true, Bool.true_and, decide_true, decide_false, reduceIte, reduceCtorEq, Bool.and_self, Bool.and_eq_true, decide_eq_true_eq, and_self, true_or, or_true, false_or, or_false, Nat.zero_add, Nat.add_zero, eq_self, Nat.reduceEqDiff, Nat.reduceLeDiff, Nat.reduceLT, Nat.reduceAdd, Nat.reduceSub, Nat.reduceMul, hs, i5, i6, i7, e2, eq_false c, e58_165, B58_165]
    exact kk
theorem CT_tk {p' s' kd' : Nat} (h : CT o k T I) (fr : ∀ a c, ¬ (a = o ∧ (c = 5 ∨ c = 6 ∨ c = 7 ∨ c = 8)) → I' a c = I a c) (h5 : I' o 5 = nI p') (h6 : I' o 6 = nI kd') (h7 : I' o 7 = nI s') : CT o k ((p', s', kd'), T.2) I' := by
  obtain ⟨⟨c1, c2, c4, c5, c6, c7, c9⟩, c10, ⟨c11, c12, c13⟩, c14⟩ := h
  refine ⟨⟨?_, ?_, ?_, h5, h6, h7, ?_⟩, fun j q1 q2 q3 => ?_, ⟨?_, ?_, ?_⟩, fun j hj => ⟨?_, ?_, ?_⟩⟩
  · rw [fr _ _ (by omega)]; exact c1
  · rw [fr _ _ (by omega)]; exact c2
  · rw [fr _ _ (by omega)]; exact c4
  · rw [fr _ _ (by omega)]; exact c9
  · rw [fr _ _ (by omega)]; exact c10 j q1 q2 q3
  · rw [fr _ _ (by omega)]; exact c11
  · rw [fr _ _ (by omega)]; exact c12
  · rw [fr _ _ (by omega)]; exact c13
  · rw [fr _ _ (by omega)]; exact (c14 j hj).1
  · rw [fr _ _ (by omega)]; exact (c14 j hj).2.1
  · rw [fr _ _ (by omega)]; exact (c14 j hj).2.2
theorem CT_8 {x : Int32} (h : CT o k T I) : CT o k T (uI I o 8 x) := CT_tk (p' := qP T) (s' := qS T) (kd' := qK T) h (fun a c hc => by rw [uI_at, if_neg (by omega)]) (by rw [uI_at, if_neg (by omega)]; exact h.1.2.2.2.1) (by rw [uI_at, if_neg (by omega)]; exact h.1.2.2.2.2.1) (by rw [uI_at, if_neg (by omega)]; exact h.1.2.2.2.2.2.1)
theorem L58 (hp : PC o k f S I R) (h : CT o k T I) (ht : qP T ≤ k) (kk : ∀ I', CT o k (pAdv f k T) I' → cf o I I' → I' o 8 = I o 8 → Q (.ok none) (S, I', J, D, R) b) : xRun xT 58 0 [(0, .ref o)] [] (S, I, J, D, R) b Q := by
  have hs := hp.1.1
  have hk := hp.2.2.1
  have fin : ∀ I' : xI, ∀ p' s' kd', (∀ a c, ¬ (a = o ∧ (c = 5 ∨ c = 6 ∨ c = 7)) → I' a c = I a c) → I' o 5 = nI p' → I' o 6 = nI kd' → I' o 7 = nI s' → pTk f k (qP T) = (p', s', kd') → Q (.ok none) (S, I', J, D, R) b := fun I' p' s' kd' fr h5 h6 h7 e => by
    have hc := CT_tk h (fun a c hc => fr a c (by omega)) h5 h6 h7
    rw [← e] at hc
    exact kk I' hc (fun p hp => by funext c; exact fr p c (by omega)) (fr o 8 (by omega))
  refine L58_0 (k - qP T) (qP T) I (by omega) hp h.1.2.2.1 h.1.2.2.2.1 (fun I1 f1 g5 => ?_)
  obtain ⟨s, hs0⟩ : ∃ s, s = pBg f k (qP T) := ⟨_, rfl⟩
  have g5 : I1 o 5 = nI s := by rw [hs0]; exact g5
  have g4 : I1 o 4 = nI k := (f1 o 4 (by omega)).trans h.1.2.2.1
  have bs := pBg_le (f := f) ht
  rw [← hs0] at bs
  have hp1 : PC o k f S I1 R := PC_e hp (by funext j; exact f1 101 j (by have := hp.2.1; omega))
  have o402 := hp.2.1
  rw [e58_36]
  by_cases c : s < k
  · have tk : pTk f k (qP T) = (pE f k s, s, pX f k s) := by rw [hs0]; exact pTk_in ht (by rw [← hs0]; exact c)
    have es := pE_le (f := f) c
    have kl := pK_le (f s)
    have e59 := fun (Q : xQ) => R59 (J := J) (D := D) (b := (0, 0)) (Q := Q) (PC_u (c := 7) (v := nI s) hp1 o402) c
    have k138 : ∀ I3 : xI, (∀ a c, ¬ (a = o ∧ (c = 5 ∨ c = 6 ∨ c = 7)) → I3 a c = I1 a c) → I3 o 5 = nI (pE f k s) → I3 o 6 = nI (pK (f s)) → I3 o 7 = nI s → xRun xT 58 138 [(0, .ref o)] [] (S, I3, J, D, R) b Q := fun I3 w1 w5 w6 w7 => by
      refine L58_138 hs w5 w6 w7 (by omega) (by omega) (by omega) ?_
      by_cases cc : pK (f s) = 2 ∧ s + 4 < pE f k s
      · rw [if_pos cc]
        refine fin _ (pE f k s) s 6 (fun a c hc => ?_) ?_ ?_ ?_ (by rw [tk]; unfold pX; rw [if_pos cc])
        · rw [uI_at, if_neg (by omega), w1 a c hc, f1 a c (by omega)]
        · rw [uI_at, if_neg (by omega)]; exact w5
        · rw [uI_at, if_pos ⟨rfl, rfl⟩]
        · rw [uI_at, if_neg (by omega)]; exact w7
      · rw [if_neg cc]
        exact fin _ (pE f k s) s (pK (f s)) (fun a c hc => by rw [w1 a c hc, f1 a c (by omega)]) w5 w6 w7 (by rw [tk]; unfold pX; rw [if_neg cc])
    simp only [B58_36, xSeq, i_push, i_load, i_iload, i_lload, i_dload, i_aload, i_istore, i_astore, i_lstore, i_dstore, i_iinc, i_ii, i_iiz, i_ll, i_llz, i_lli, i_li, i_i, i_l, i_i2l, i_l2i, i_dup, i_dup2, i_dup2w, i_dupx1, i_pop, i_pop2, i_goto, i_ifc, i_icmp, i_getI, i_getL, i_getR, i_putI, i_putZ, i_putL, i_putR, i_aldI, i_aldB, i_aldL, i_aldD, i_astI, i_astL, i_astD, i_alen, i_ret, i_iret, i_zret, i_lret, i_fret, i_dret, i_aret, i_invS0, i_invV0, i_m2, i_m1, i_ml, i_obj, lk, lkp, stf1, stf2, Value.category, rV, xTo, lv_args, xCk, xCat, xRc, xAk, hg_S, hg_I, hg_J, hg_D, hg_R, hs_I, hs_J, hs_D, hs_R, uI_at, uJ_at, uD_at, uR_at, List.take_succ_cons, List.take_zero, List.drop_succ_cons, List.drop_zero, List.reverse_cons, List.reverse_nil, List.nil_append, List.cons_append, List.map_cons, List.map_nil, List.sum_cons, List.sum_nil, List.length_cons, List.length_nil, Option.toList_some, Option.toList_none, true_and, and_true, false_and, and_false, true_implies, false_implies, implies_true, not_true_eq_false, not_false_eq_true, ne_eq, if_true, if_false, Bool.and_true, Bool.true_and, decide_true, decide_false, reduceIte, reduceCtorEq, Bool.and_self, Bool.and_eq_true, decide_eq_true_eq, and_self, true_or, or_true, false_or, or_false, Nat.zero_add, Nat.add_zero, eq_self, Nat.reduceEqDiff, Nat.reduceLeDiff, Nat.reduceLT, Nat.reduceAdd, Nat.reduceSub, Nat.reduceMul, hs, g5, g4, nI_ltP (show s < 2147483648 by omega) (show k < 2147483648 by omega), c]
    rw [e58_61]
    obtain ⟨I2, hI2⟩ : ∃ I2, I2 = uI (uI (uI I1 o 7 (nI s)) o 6 (nI (pK (f s)))) o 5 (nI (s + 1)) := ⟨_, rfl⟩
    have fr2 : ∀ a c, ¬ (a = o ∧ (c = 5 ∨ c = 6 ∨ c = 7)) → I2 a c = I1 a c := fun a c hc => by
      rw [hI2, uI_at, if_neg (by omega), uI_at, if_neg (by omega), uI_at, if_neg (by omega)]
    have u5 : I2 o 5 = nI (s + 1) := by rw [hI2, uI_at, if_pos ⟨rfl, rfl⟩]
    have u6 : I2 o 6 = nI (pK (f s)) := by rw [hI2, uI_at, if_neg (by omega), uI_at, if_pos ⟨rfl, rfl⟩]
    have u7 : I2 o 7 = nI s := by rw [hI2, uI_at, if_neg (by omega), uI_at, if_neg (by omega), uI_at, if_pos ⟨rfl, rfl⟩]
    have u4 : I2 o 4 = nI k := (fr2 o 4 (by omega)).trans g4
    have hp2 : PC o k f S I2 R := PC_e hp1 (by funext j; exact fr2 101 j (by omega))
    by_cases c1 : pL (f s) = true
    · simp only [B58_61, xSeq, i_push, i_load, i_iload, i_lload, i_dload, i_aload, i_istore, i_astore, i_lstore, i_dstore, i_iinc, i_ii, i_iiz, i_ll, i_llz, i_lli, i_li, i_i, i_l, i_i2l, i_l2i, i_dup, i_dup2, i_dup2w, i_dupx1, i_pop, i_pop2, i_goto, i_ifc, i_icmp, i_getI, i_getL, i_getR, i_putI, i_putZ, i_putL, i_putR, i_aldI, i_aldB, i_aldL, i_aldD, i_astI, i_astL, i_astD, i_alen, i_ret, i_iret, i_zret, i_lret, i_fret, i_dret, i_aret, i_invS0, i_invV0, i_m2, i_m1, i_ml, i_obj, lk, lkp, stf1, stf2, Value.category, rV, xTo, lv_args, xCk, xCat, xRc, xAk, hg_S, hg_I, hg_J, hg_D, hg_R, hs_I, hs_J, hs_D, hs_R, uI_at, uJ_at, uD_at, uR_at, List.take_succ_cons, List.take_zero, List.drop_succ_cons, List.drop_zero, List.reverse_cons, List.reverse_nil, List.nil_append, List.cons_append, List.map_cons, List.map_nil, List.sum_cons, List.sum_nil, List.length_cons, List.length_nil, Option.toList_some, Option.toList_none, true_and, and_true, false_and, and_false, true_implies, false_implies, implies_true, not_true_eq_false, not_false_eq_true, ne_eq, if_true, if_false, Bool.and_true, Bool.true_and, decide_true, decide_false, reduceIte, reduceCtorEq, Bool.and_self, Bool.and_eq_true, decide_eq_true_eq, and_self, true_or, or_true, false_or, or_false, Nat.zero_add, Nat.add_zero, eq_self, Nat.reduceEqDiff, Nat.reduceLeDiff, Nat.reduceLT, Nat.reduceAdd, Nat.reduceSub, Nat.reduceMul, hs, g5, e59, nI_1, pK1, c1]
      rw [← hI2]
      have q1 := pK_1.mpr c1
      refine L58_99 (kd := 1) (P := pL) pK1 (k - (s + 1)) (s + 1) I2 (by omega) hp2 u4 u5 (by rw [u6, q1]) (fun I3 w1 w5 => k138 I3 (fun a c hc => by rw [w1 a c (by omega), fr2 a c hc]) ?_ ?_ ?_)
      · rw [w5, ← pR_up c c1]; unfold pE; rw [if_pos q1]
      · rw [w1 _ _ (by omega)]; exact u6
      · rw [w1 _ _ (by omega)]; exact u7
    · by_cases c2 : pD (f s) = true
      · simp only [B58_61, xSeq, i_push, i_load, i_iload, i_lload, i_dload, i_aload, i_istore, i_astore, i_lstore, i_dstore, i_iinc, i_ii, i_iiz, i_ll, i_llz, i_lli, i_li, i_i, i_l, i_i2l, i_l2i, i_dup, i_dup2, i_dup2w, i_dupx1, i_pop, i_pop2, i_goto, i_ifc, i_icmp, i_getI, i_getL, i_getR, i_putI, i_putZ, i_putL, i_putR, i_aldI, i_aldB, i_aldL, i_aldD, i_astI, i_astL, i_astD, i_alen, i_ret, i_iret, i_zret, i_lret, i_fret, i_dret, i_aret, i_invS0, i_invV0, i_m2, i_m1, i_ml, i_obj, lk, lkp, stf1, stf2, Value.category, rV, xTo, lv_args, xCk, xCat, xRc, xAk, hg_S, hg_I, hg_J, hg_D, hg_R, hs_I, hs_J, hs_D, hs_R, uI_at, uJ_at, uD_at, uR_at, List.take_succ_cons, List.take_zero, List.drop_succ_cons, List.drop_zero, List.reverse_cons, List.reverse_nil, List.nil_append, List.cons_append, List.map_cons, List.map_nil, List.sum_cons, List.sum_nil, List.length_cons, List.length_nil, Option.toList_some, Option.toList_none, true_and, and_true, false_and, and_false, true_implies, false_implies, implies_true, not_true_eq_false, not_false_eq_true, ne_eq, if_true, if_false, Bool.and_true, Bool.true_and, decide_true, decide_false, reduceIte, reduceCtorEq, Bool.and_self, Bool.and_eq_true, decide_eq_true_eq, and_self, true_or, or_true, false_or, or_false, Nat.zero_add, Nat.add_zero, eq_self, Nat.reduceEqDiff, Nat.reduceLeDiff, Nat.reduceLT, Nat.reduceAdd, Nat.reduceSub, Nat.reduceMul, hs, g5, e59, nI_1, pK1, pK2, c1, c2]
        rw [← hI2]
        have q1 := pK_2.mpr c2
        refine L58_99 (kd := 2) (P := pD) pK2 (k - (s + 1)) (s + 1) I2 (by omega) hp2 u4 u5 (by rw [u6, q1]) (fun I3 w1 w5 => k138 I3 (fun a c hc => by rw [w1 a c (by omega), fr2 a c hc]) ?_ ?_ ?_)
        · rw [w5, ← pR_up c c2]; unfold pE; rw [if_neg (by rw [q1]; decide), if_pos q1]
        · rw [w1 _ _ (by omega)]; exact u6
        · rw [w1 _ _ (by omega)]; exact u7
      · simp only [B58_61, xSeq, i_push, i_load, i_iload, i_lload, i_dload, i_aload, i_istore, i_astore, i_lstore, i_dstore, i_iinc, i_ii, i_iiz, i_ll, i_llz, i_lli, i_li, i_i, i_l, i_i2l, i_l2i, i_dup, i_dup2, i_dup2w, i_dupx1, i_pop, i_pop2, i_goto, i_ifc, i_icmp, i_getI, i_getL, i_getR, i_putI, i_putZ, i_putL, i_putR, i_aldI, i_aldB, i_aldL, i_aldD, i_astI, i_astL, i_astD, i_alen, i_ret, i_iret, i_zret, i_lret, i_fret, i_dret, i_aret, i_invS0, i_invV0, i_m2, i_m1, i_ml, i_obj, lk, lkp, stf1, stf2, Value.category, rV, xTo, lv_args, xCk, xCat, xRc, xAk, hg_S, hg_I, hg_J, hg_D, hg_R, hs_I, hs_J, hs_D, hs_R, uI_at, uJ_at, uD_at, uR_at, List.take_succ_cons, List.take_zero, List.drop_succ_cons, List.drop_zero, List.reverse_cons, List.reverse_nil, List.nil_append, List.cons_append, List.map_cons, List.map_nil, List.sum_cons, List.sum_nil, List.length_cons, List.length_nil, Option.toList_some, Option.toList_none, true_and, and_true, false_and, and_false, true_implies, false_implies, implies_true, not_true_eq_false, not_false_eq_true, ne_eq, if_true, if_false, Bool.and_true, Bool.true_and, decide_true, decide_false, reduceIte, reduceCtorEq, Bool.and_self, Bool.and_eq_true, decide_eq_true_eq, and_self, true_or, or_true, false_or, or_false, Nat.zero_add, Nat.add_zero, eq_self, Nat.reduceEqDiff, Nat.reduceLeDiff, Nat.reduceLT, Nat.reduceAdd, Nat.reduceSub, Nat.reduceMul, hs, g5, e59, nI_1, pK1, pK2, c1, c2]
        rw [← hI2]
        refine k138 I2 fr2 ?_ u6 u7
        rw [u5]
        unfold pE
        rw [if_neg (fun e => c1 (pK_1.mp e)), if_neg (fun e => c2 (pK_2.mp e))]
  · simp only [B58_36, xSeq, i_push, i_load, i_iload, i_lload, i_dload, i_aload, i_istore, i_astore, i_lstore, i_dstore, i_iinc, i_ii, i_iiz, i_ll, i_llz, i_lli, i_li, i_i, i_l, i_i2l, i_l2i, i_dup, i_dup2, i_dup2w, i_dupx1, i_pop, i_pop2, i_goto, i_ifc, i_icmp, i_getI, i_getL, i_getR, i_putI, i_putZ, i_putL, i_putR, i_aldI, i_aldB, i_aldL, i_aldD, i_astI, i_astL, i_astD, i_alen, i_ret, i_iret, i_zret, i_lret, i_fret, i_dret, i_aret, i_invS0, i_invV0, i_m2, i_m1, i_ml, i_obj, lk, lkp, stf1, stf2, Value.category, rV, xTo, lv_args, xCk, xCat, xRc, xAk, hg_S, hg_I, hg_J, hg_D, hg_R, hs_I, hs_J, hs_D, hs_R, uI_at, uJ_at, uD_at, uR_at, List.take_succ_cons, List.take_zero, List.drop_succ_cons, List.drop_zero, List.reverse_cons, List.reverse_nil, List.nil_append, List.cons_append, List.map_cons, List.map_nil, List.sum_cons, List.sum_nil, List.length_cons, List.length_nil, Option.toList_some, Option.toList_none, true_and, and_true, false_and, and_false, true_implies, false_implies, implies_true, not_true_eq_false, not_false_eq_true, ne_eq, if_true, if_false, Bool.and_true, Bool.true_and, decide_true, decide_false, reduceIte, reduceCtorEq, Bool.and_self, Bool.and_eq_true, decide_eq_true_eq, and_self, true_or, or_true, false_or, or_false, Nat.zero_add, Nat.add_zero, eq_self, Nat.reduceEqDiff, Nat.reduceLeDiff, Nat.reduceLT, Nat.reduceAdd, Nat.reduceSub, Nat.reduceMul, hs, g5, g4, nI_ltP (show s < 2147483648 by omega) (show k < 2147483648 by omega), c]
    refine fin _ s s 0 (fun a c hc => ?_) ?_ ?_ ?_ (by rw [hs0]; exact pTk_out (by rw [← hs0]; exact c))
    · rw [uI_at, if_neg (by omega), uI_at, if_neg (by omega), f1 a c (by omega)]
    · rw [uI_at, if_neg (by omega), uI_at, if_neg (by omega)]; exact g5
    · rw [uI_at, if_pos ⟨rfl, rfl⟩]; rfl
    · rw [uI_at, if_neg (by omega), uI_at, if_pos ⟨rfl, rfl⟩]
end
/-! ===== the class reads a setup text: words, numbers ===== -/
section
/-- a text of the program's at w -/
def WD (S : xS) (I : xI) (R : xR) (w : Nat) (l : List Int32) : Prop := ∃ v, S w = (10, 0) ∧ R w 0 = some v ∧ I w 1 = 0 ∧ S v = (107, l.length) ∧ (∀ j, j < l.length → I v j = l.getD j 0) ∧ l.length ≤ 100 ∧ (∀ j, j < l.length → ∃ c, c < 128 ∧ l.getD j 0 = nI c) ∧ 900000 ≤ w ∧ 900000 ≤ v
variable {o k w : Nat} {f : Nat → Nat} {T : pSt} {l : List Int32} {S : xS} {I I' I2 : xI} {J : xJ} {D : xDb} {R : xR} {b : Nat × Nat} {Q : xQ}
theorem WD_e (h : WD S I R w l) (e : ∀ p, 900000 ≤ p → I' p = I p) : WD S I' R w l := by
  obtain ⟨v, h1, h2, h3, h4, h5, h6, h7, h8, h9⟩ := h
  exact ⟨v, h1, h2, by rw [e _ h8]; exact h3, h4, fun j hj => by rw [e _ h9]; exact h5 j hj, h6, h7, h8, h9⟩
def wOk (l : List Int32) : Bool := decide (l.length ≤ 100) && (List.range l.length).all (fun j => (List.range 128).any (fun c => decide (l.getD j 0 = nI c)))
theorem wOk_all : ∀ t, t < 51 → wOk (xTb t) = true := by decide +kernel
theorem wOk_at (h : wOk l = true) : l.length ≤ 100 ∧ ∀ j, j < l.length → ∃ c, c < 128 ∧ l.getD j 0 = nI c := by
  unfold wOk at h
  simp only [Bool.and_eq_true, decide_eq_true_eq, List.all_eq_true, List.any_eq_true, List.mem_range] at h
  exact h
theorem xTx_51 : 51 ≤ xTxs.length := by decide +kernel
theorem WT_w (h : WT S I R) {t : Nat} (ht : t < 51) : WD S I R (900000 + t) (xTb t) := by
  obtain ⟨h1, h2, h3, h4, h5⟩ := h t (Nat.lt_of_lt_of_le ht xTx_51)
  obtain ⟨w1, w2⟩ := wOk_at (wOk_all t ht)
  exact ⟨900100 + t, h1, h2, h3, h4, h5, w1, w2, by omega, by omega⟩
theorem nar8 : narrow .byte (.int 0) = .int 0 := by decide +kernel
theorem R9w (h : WD S I R w l) : xRun xT 9 0 [(0, .ref w)] [] (S, I, J, D, R) b Q = Q (.ok (some (.int 0))) (S, I, J, D, R) b := by
  obtain ⟨v, h1, h2, h3, h4, h5, h6, h7, h8, h9⟩ := h
  rw [e9_0]
  simp only [B9_0, xSeq, i_push, i_load, i_iload, i_lload, i_dload, i_aload, i_istore, i_astore, i_lstore, i_dstore, i_iinc, i_ii, i_iiz, i_ll, i_llz, i_lli, i_li, i_i, i_l, i_i2l, i_l2i, i_dup, i_dup2, i_dup2w, i_dupx1, i_pop, i_pop2, i_goto, i_ifc, i_icmp, i_getI, i_getL, i_getR, i_putI, i_putZ, i_putL, i_putR, i_aldI, i_aldB, i_aldL, i_aldD, i_astI, i_astL, i_astD, i_alen, i_ret, i_iret, i_zret, i_lret, i_fret, i_dret, i_aret, i_invS0, i_invV0, i_m2, i_m1, i_ml, i_obj, lk, lkp, stf1, stf2, Value.category, rV, xTo, lv_args, xCk, xCat, xRc, xAk, hg_S, hg_I, hg_J, hg_D, hg_R, hs_I, hs_J, hs_D, hs_R, uI_at, uJ_at, uD_at, uR_at, List.take_succ_cons, List.take_zero, List.drop_succ_cons, List.drop_zero, List.reverse_cons, List.reverse_nil, List.nil_append, List.cons_append, List.map_cons, List.map_nil, List.sum_cons, List.sum_nil, List.length_cons, List.length_nil, Option.toList_some, Option.toList_none, true_and, and_true, false_and, and_false, true_implies, false_implies, implies_true, not_true_eq_false, not_false_eq_true, ne_eq, if_true, if_false, Bool.and_true, Bool.true_and, decide_true, decide_false, reduceIte, reduceCtorEq, Bool.and_self, Bool.and_eq_true, decide_eq_true_eq, and_self, true_or, or_true, false_or, or_false, Nat.zero_add, Nat.add_zero, eq_self, Nat.reduceEqDiff, Nat.reduceLeDiff, Nat.reduceLT, Nat.reduceAdd, Nat.reduceSub, Nat.reduceMul, h1, h3, i1_0, e9_14, B9_14, i_nret, nar8]
theorem R7w (h : WD S I R w l) : xRun xT 7 0 [(0, .ref w)] [] (S, I, J, D, R) b Q = Q (.ok (some (.int (nI l.length)))) (S, I, J, D, R) b := by
  have e9 := fun (Q : xQ) => R9w (J := J) (D := D) (b := (0, 0)) (Q := Q) h
  obtain ⟨v, h1, h2, h3, h4, h5, h6, h7, h8, h9⟩ := h
  have ak : ((100 ≤ 107 ∧ 107 < 106) ∨ 107 = 107 ∨ 107 = 108) = True := eq_true (by decide)
  rw [e7_0]
  simp only [B7_0, xSeq, i_push, i_load, i_iload, i_lload, i_dload, i_aload, i_istore, i_astore, i_lstore, i_dstore, i_iinc, i_ii, i_iiz, i_ll, i_llz, i_lli, i_li, i_i, i_l, i_i2l, i_l2i, i_dup, i_dup2, i_dup2w, i_dupx1, i_pop, i_pop2, i_goto, i_ifc, i_icmp, i_getI, i_getL, i_getR, i_putI, i_putZ, i_putL, i_putR, i_aldI, i_aldB, i_aldL, i_aldD, i_astI, i_astL, i_astD, i_alen, i_ret, i_iret, i_zret, i_lret, i_fret, i_dret, i_aret, i_invS0, i_invV0, i_m2, i_m1, i_ml, i_obj, lk, lkp, stf1, stf2, Value.category, rV, xTo, lv_args, xCk, xCat, xRc, xAk, hg_S, hg_I, hg_J, hg_D, hg_R, hs_I, hs_J, hs_D, hs_R, uI_at, uJ_at, uD_at, uR_at, List.take_succ_cons, List.take_zero, List.drop_succ_cons, List.drop_zero, List.reverse_cons, List.reverse_nil, List.nil_append, List.cons_append, List.map_cons, List.map_nil, List.sum_cons, List.sum_nil, List.length_cons, List.length_nil, Option.toList_some, Option.toList_none, true_and, and_true, false_and, and_false, true_implies, false_implies, implies_true, not_true_eq_false, not_false_eq_true, ne_eq, if_true, if_false, Bool.and_true, Bool.true_and, decide_true, decide_false, reduceIte, reduceCtorEq, Bool.and_self, Bool.and_eq_true, decide_eq_true_eq, and_self, true_or, or_true, false_or, or_false, Nat.zero_add, Nat.add_zero, eq_self, Nat.reduceEqDiff, Nat.reduceLeDiff, Nat.reduceLT, Nat.reduceAdd, Nat.reduceSub, Nat.reduceMul, h1, h2, h4, ak, e9, shr0]
theorem R10w (h : WD S I R w l) : xRun xT 10 0 [(0, .ref w)] [] (S, I, J, D, R) b Q = Q (.ok (some (.int 1))) (S, I, J, D, R) b := by
  obtain ⟨v, h1, h2, h3, h4, h5, h6, h7, h8, h9⟩ := h
  rw [e10_0]
  simp only [B10_0, xSeq, i_push, i_load, i_iload, i_lload, i_dload, i_aload, i_istore, i_astore, i_lstore, i_dstore, i_iinc, i_ii, i_iiz, i_ll, i_llz, i_lli, i_li, i_i, i_l, i_i2l, i_l2i, i_dup, i_dup2, i_dup2w, i_dupx1, i_pop, i_pop2, i_goto, i_ifc, i_icmp, i_getI, i_getL, i_getR, i_putI, i_putZ, i_putL, i_putR, i_aldI, i_aldB, i_aldL, i_aldD, i_astI, i_astL, i_astD, i_alen, i_ret, i_iret, i_zret, i_lret, i_fret, i_dret, i_aret, i_invS0, i_invV0, i_m2, i_m1, i_ml, i_obj, lk, lkp, stf1, stf2, Value.category, rV, xTo, lv_args, xCk, xCat, xRc, xAk, hg_S, hg_I, hg_J, hg_D, hg_R, hs_I, hs_J, hs_D, hs_R, uI_at, uJ_at, uD_at, uR_at, List.take_succ_cons, List.take_zero, List.drop_succ_cons, List.drop_zero, List.reverse_cons, List.reverse_nil, List.nil_append, List.cons_append, List.map_cons, List.map_nil, List.sum_cons, List.sum_nil, List.length_cons, List.length_nil, Option.toList_some, Option.toList_none, true_and, and_true, false_and, and_false, true_implies, false_implies, implies_true, not_true_eq_false, not_false_eq_true, ne_eq, if_true, if_false, Bool.and_true, Bool.true_and, decide_true, decide_false, reduceIte, reduceCtorEq, Bool.and_self, Bool.and_eq_true, decide_eq_true_eq, and_self, true_or, or_true, false_or, or_false, Nat.zero_add, Nat.add_zero, eq_self, Nat.reduceEqDiff, Nat.reduceLeDiff, Nat.reduceLT, Nat.reduceAdd, Nat.reduceSub, Nat.reduceMul, h1, h3, i1_0, e10_18, B10_18]
theorem c128 : ∀ c, c < 128 → jI2c (255 &&& nI c) = nI c ∧ jI2c (nI c &&& 255) = nI c ∧ narrow .char (.int (nI c)) = .int (nI c) := by decide +kernel
theorem L12w {v j : Nat} (h4 : S v = (107, l.length)) (h5 : ∀ j, j < l.length → I v j = l.getD j 0) (h6 : l.length ≤ 100) (h7 : ∀ j, j < l.length → ∃ c, c < 128 ∧ l.getD j 0 = nI c) (hj : j < l.length) (kk : Q (.ok (some (.int (l.getD j 0)))) (S, I, J, D, R) b) : xRun xT 12 0 [(0, .ref v), (1, .int (nI j))] [] (S, I, J, D, R) b Q := by
  have ak : ((100 ≤ 107 ∧ 107 < 106) ∨ 107 = 107 ∨ 107 = 108) = True := eq_true (by decide)
  obtain ⟨c, hc, e⟩ := h7 j hj
  obtain ⟨-, c2, c3⟩ := c128 c hc
  rw [e12_0]
  simp only [B12_0, xSeq, i_push, i_load, i_iload, i_lload, i_dload, i_aload, i_istore, i_astore, i_lstore, i_dstore, i_iinc, i_ii, i_iiz, i_ll, i_llz, i_lli, i_li, i_i, i_l, i_i2l, i_l2i, i_dup, i_dup2, i_dup2w, i_dupx1, i_pop, i_pop2, i_goto, i_ifc, i_icmp, i_getI, i_getL, i_getR, i_putI, i_putZ, i_putL, i_putR, i_aldI, i_aldB, i_aldL, i_aldD, i_astI, i_astL, i_astD, i_alen, i_ret, i_iret, i_zret, i_lret, i_fret, i_dret, i_aret, i_invS0, i_invV0, i_m2, i_m1, i_ml, i_obj, lk, lkp, stf1, stf2, Value.category, rV, xTo, lv_args, xCk, xCat, xRc, xAk, hg_S, hg_I, hg_J, hg_D, hg_R, hs_I, hs_J, hs_D, hs_R, uI_at, uJ_at, uD_at, uR_at, List.take_succ_cons, List.take_zero, List.drop_succ_cons, List.drop_zero, List.reverse_cons, List.reverse_nil, List.nil_append, List.cons_append, List.map_cons, List.map_nil, List.sum_cons, List.sum_nil, List.length_cons, List.length_nil, Option.toList_some, Option.toList_none, true_and, and_true, false_and, and_false, true_implies, false_implies, implies_true, not_true_eq_false, not_false_eq_true, ne_eq, if_true, if_false, Bool.and_true, Bool.true_and, decide_true, decide_false, reduceIte, reduceCtorEq, Bool.and_self, Bool.and_eq_true, decide_eq_true_eq, and_self, true_or, or_true, false_or, or_false, Nat.zero_add, Nat.add_zero, eq_self, Nat.reduceEqDiff, Nat.reduceLeDiff, Nat.reduceLT, Nat.reduceAdd, Nat.reduceSub, Nat.reduceMul, h4, ak]
  refine W11 hj (by omega) ?_
  simp only [xSeq, i_push, i_load, i_iload, i_lload, i_dload, i_aload, i_istore, i_astore, i_lstore, i_dstore, i_iinc, i_ii, i_iiz, i_ll, i_llz, i_lli, i_li, i_i, i_l, i_i2l, i_l2i, i_dup, i_dup2, i_dup2w, i_dupx1, i_pop, i_pop2, i_goto, i_ifc, i_icmp, i_getI, i_getL, i_getR, i_putI, i_putZ, i_putL, i_putR, i_aldI, i_aldB, i_aldL, i_aldD, i_astI, i_astL, i_astD, i_alen, i_ret, i_iret, i_zret, i_lret, i_fret, i_dret, i_aret, i_invS0, i_invV0, i_m2, i_m1, i_ml, i_obj, lk, lkp, stf1, stf2, Value.category, rV, xTo, lv_args, xCk, xCat, xRc, xAk, hg_S, hg_I, hg_J, hg_D, hg_R, hs_I, hs_J, hs_D, hs_R, uI_at, uJ_at, uD_at, uR_at, List.take_succ_cons, List.take_zero, List.drop_succ_cons, List.drop_zero, List.reverse_cons, List.reverse_nil, List.nil_append, List.cons_append, List.map_cons, List.map_nil, List.sum_cons, List.sum_nil, List.length_cons, List.length_nil, Option.toList_some, Option.toList_none, true_and, and_true, false_and, and_false, true_implies, false_implies, implies_true, not_true_eq_false, not_false_eq_true, ne_eq, if_true, if_false, Bool.and_true, Bool.true_and, decide_true, decide_false, reduceIte, reduceCtorEq, Bool.and_self, Bool.and_eq_true, decide_eq_true_eq, and_self, true_or, or_true, false_or, or_false, Nat.zero_add, Nat.add_zero, eq_self, Nat.reduceEqDiff, Nat.reduceLeDiff, Nat.reduceLT, Nat.reduceAdd, Nat.reduceSub, Nat.reduceMul, h4, nI_inP hj (by omega), nI_ix (show j < 2147483648 by omega), h5 j hj, e, c2, i_nret, c3]
  rw [← e]
  exact kk
theorem L8w {j : Nat} (h : WD S I R w l) (hj : j < l.length) (kk : Q (.ok (some (.int (l.getD j 0)))) (S, I, J, D, R) b) : xRun xT 8 0 [(0, .ref w), (1, .int (nI j))] [] (S, I, J, D, R) b Q := by
  have e10 := fun (Q : xQ) => R10w (J := J) (D := D) (b := (0, 0)) (Q := Q) h
  obtain ⟨v, h1, h2, h3, h4, h5, h6, h7, h8, h9⟩ := h
  obtain ⟨c, hc, e⟩ := h7 j hj
  obtain ⟨-, -, c3⟩ := c128 c hc
  rw [e8_0]
  simp only [B8_0, xSeq, i_push, i_load, i_iload, i_lload, i_dload, i_aload, i_istore, i_astore, i_lstore, i_dstore, i_iinc, i_ii, i_iiz, i_ll, i_llz, i_lli, i_li, i_i, i_l, i_i2l, i_l2i, i_dup, i_dup2, i_dup2w, i_dupx1, i_pop, i_pop2, i_goto, i_ifc, i_icmp, i_getI, i_getL, i_getR, i_putI, i_putZ, i_putL, i_putR, i_aldI, i_aldB, i_aldL, i_aldD, i_astI, i_astL, i_astD, i_alen, i_ret, i_iret, i_zret, i_lret, i_fret, i_dret, i_aret, i_invS0, i_invV0, i_m2, i_m1, i_ml, i_obj, lk, lkp, stf1, stf2, Value.category, rV, xTo, lv_args, xCk, xCat, xRc, xAk, hg_S, hg_I, hg_J, hg_D, hg_R, hs_I, hs_J, hs_D, hs_R, uI_at, uJ_at, uD_at, uR_at, List.take_succ_cons, List.take_zero, List.drop_succ_cons, List.drop_zero, List.reverse_cons, List.reverse_nil, List.nil_append, List.cons_append, List.map_cons, List.map_nil, List.sum_cons, List.sum_nil, List.length_cons, List.length_nil, Option.toList_some, Option.toList_none, true_and, and_true, false_and, and_false, true_implies, false_implies, implies_true, not_true_eq_false, not_false_eq_true, ne_eq, if_true, if_false, Bool.and_true, Bool.true_and, decide_true, decide_false, reduceIte, reduceCtorEq, Bool.and_self, Bool.and_eq_true, decide_eq_true_eq, and_self, true_or, or_true, false_or, or_false, Nat.zero_add, Nat.add_zero, eq_self, Nat.reduceEqDiff, Nat.reduceLeDiff, Nat.reduceLT, Nat.reduceAdd, Nat.reduceSub, Nat.reduceMul, h1, h2, e10, i1_0]
  refine L12w h4 h5 h6 h7 hj ?_
  simp only [xSeq, i_push, i_load, i_iload, i_lload, i_dload, i_aload, i_istore, i_astore, i_lstore, i_dstore, i_iinc, i_ii, i_iiz, i_ll, i_llz, i_lli, i_li, i_i, i_l, i_i2l, i_l2i, i_dup, i_dup2, i_dup2w, i_dupx1, i_pop, i_pop2, i_goto, i_ifc, i_icmp, i_getI, i_getL, i_getR, i_putI, i_putZ, i_putL, i_putR, i_aldI, i_aldB, i_aldL, i_aldD, i_astI, i_astL, i_astD, i_alen, i_ret, i_iret, i_zret, i_lret, i_fret, i_dret, i_aret, i_invS0, i_invV0, i_m2, i_m1, i_ml, i_obj, lk, lkp, stf1, stf2, Value.category, rV, xTo, lv_args, xCk, xCat, xRc, xAk, hg_S, hg_I, hg_J, hg_D, hg_R, hs_I, hs_J, hs_D, hs_R, uI_at, uJ_at, uD_at, uR_at, List.take_succ_cons, List.take_zero, List.drop_succ_cons, List.drop_zero, List.reverse_cons, List.reverse_nil, List.nil_append, List.cons_append, List.map_cons, List.map_nil, List.sum_cons, List.sum_nil, List.length_cons, List.length_nil, Option.toList_some, Option.toList_none, true_and, and_true, false_and, and_false, true_implies, false_implies, implies_true, not_true_eq_false, not_false_eq_true, ne_eq, if_true, if_false, Bool.and_true, Bool.true_and, decide_true, decide_false, reduceIte, reduceCtorEq, Bool.and_self, Bool.and_eq_true, decide_eq_true_eq, and_self, true_or, or_true, false_or, or_false, Nat.zero_add, Nat.add_zero, eq_self, Nat.reduceEqDiff, Nat.reduceLeDiff, Nat.reduceLT, Nat.reduceAdd, Nat.reduceSub, Nat.reduceMul, e, i_nret, c3]
  rw [← e]
  exact kk
theorem sB8_neg : ∀ v, v < 256 → 128 ≤ v → sB8 v < 0 := by decide +kernel
theorem sB8_eq {v c : Nat} (hv : v < 256) (hc : c < 128) : (sB8 v = nI c) = (nI v = nI c) := by
  by_cases h : v < 128
  · unfold sB8
    rw [if_pos h]
  · rw [nI_iff (by omega) (by omega)]
    refine propext ⟨fun e => ?_, fun e => absurd e (by omega)⟩
    have h1 := sB8_neg v hv (by omega)
    rw [e] at h1
    exact absurd h1 (nI_pos (by omega))
theorem L61_28 (h : PC o k f S I R) (hW : WD S I R w l) {s : Nat} (i4 : I o 4 = nI k) (i7 : I o 7 = nI s) (hsk : s + l.length ≤ k) (k1 : (∀ c, c < l.length → nI (f (s + c)) = l.getD c 0) → Q (.ok (some (.int 1))) (S, I, J, D, R) b) (k0 : (¬ ∀ c, c < l.length → nI (f (s + c)) = l.getD c 0) → Q (.ok (some (.int 0))) (S, I, J, D, R) b) :
    ∀ (j i : Nat), i + j = l.length → (∀ c, c < i → nI (f (s + c)) = l.getD c 0) → xRun xT 61 28 [(0, .ref o), (1, .ref w), (2, .int (nI i))] [] (S, I, J, D, R) b Q
  | 0, i, e, hp => by
    have e7 := fun (Q : xQ) => R7w (J := J) (D := D) (b := (0, 0)) (Q := Q) hW
    have e : i = l.length := by omega
    have hk := h.2.2.1
    have hWs : S w = (10, 0) := hW.choose_spec.1
    subst e
    rw [e61_28]
    simp only [B61_28, xSeq, i_push, i_load, i_iload, i_lload, i_dload, i_aload, i_istore, i_astore, i_lstore, i_dstore, i_iinc, i_ii, i_iiz, i_ll, i_llz, i_lli, i_li, i_i, i_l, i_i2l, i_l2i, i_dup, i_dup2, i_dup2w, i_dupx1, i_pop, i_pop2, i_goto, i_ifc, i_icmp, i_getI, i_getL, i_getR, i_putI, i_putZ, i_putL, i_putR, i_aldI, i_aldB, i_aldL, i_aldD, i_astI, i_astL, i_astD, i_alen, i_ret, i_iret, i_zret, i_lret, i_fret, i_dret, i_aret, i_invS0, i_invV0, i_m2, i_m1, i_ml, i_obj, lk, lkp, stf1, stf2, Value.category, rV, xTo, lv_args, xCk, xCat, xRc, xAk, hg_S, hg_I, hg_J, hg_D, hg_R, hs_I, hs_J, hs_D, hs_R, uI_at, uJ_at, uD_at, uR_at, List.take_succ_cons, List.take_zero, List.drop_succ_cons, List.drop_zero, List.reverse_cons, List.reverse_nil, List.nil_append, List.cons_append, List.map_cons, List.map_nil, List.sum_cons, List.sum_nil, List.length_cons, List.length_nil, Option.toList_some, Option.toList_none, true_and, and_true, false_and, and_false, true_implies, false_implies, implies_true, not_true_eq_false, not_false_eq_true, ne_eq, if_true, if_false, Bool.and_true, Bool.true_and, decide_true, decide_false, reduceIte, reduceCtorEq, Bool.and_self, Bool.and_eq_true, decide_eq_true_eq, and_self, true_or, or_true, false_or, or_false, Nat.zero_add, Nat.add_zero, eq_self, Nat.reduceEqDiff, Nat.reduceLeDiff, Nat.reduceLT, Nat.reduceAdd, Nat.reduceSub, Nat.reduceMul, hWs, e7, nI_leP (show l.length < 2147483648 by omega) (show l.length < 2147483648 by omega), Nat.le_refl, e61_76, B61_76, i1_0]
    exact k1 hp
  | j + 1, i, e, hp => by
    have e7 := fun (Q : xQ) => R7w (J := J) (D := D) (b := (0, 0)) (Q := Q) hW
    have hs := h.1.1
    have h3 := h.1.2.2.2.2.2.2.1
    have h101 := h.1.2.2.2.2.2.2.2.2.2.2
    have hk := h.2.2.1
    have hi : i < l.length := by omega
    obtain ⟨f1, f2⟩ := h.2.2.2 (s + i) (by omega)
    have hWs : S w = (10, 0) := hW.choose_spec.1
    obtain ⟨c, hc, ec⟩ := hW.choose_spec.2.2.2.2.2.2.1 i hi
    rw [e61_28]
    simp only [B61_28, xSeq, i_push, i_load, i_iload, i_lload, i_dload, i_aload, i_istore, i_astore, i_lstore, i_dstore, i_iinc, i_ii, i_iiz, i_ll, i_llz, i_lli, i_li, i_i, i_l, i_i2l, i_l2i, i_dup, i_dup2, i_dup2w, i_dupx1, i_pop, i_pop2, i_goto, i_ifc, i_icmp, i_getI, i_getL, i_getR, i_putI, i_putZ, i_putL, i_putR, i_aldI, i_aldB, i_aldL, i_aldD, i_astI, i_astL, i_astD, i_alen, i_ret, i_iret, i_zret, i_lret, i_fret, i_dret, i_aret, i_invS0, i_invV0, i_m2, i_m1, i_ml, i_obj, lk, lkp, stf1, stf2, Value.category, rV, xTo, lv_args, xCk, xCat, xRc, xAk, hg_S, hg_I, hg_J, hg_D, hg_R, hs_I, hs_J, hs_D, hs_R, uI_at, uJ_at, uD_at, uR_at, List.take_succ_cons, List.take_zero, List.drop_succ_cons, List.drop_zero, List.reverse_cons, List.reverse_nil, List.nil_append, List.cons_append, List.map_cons, List.map_nil, List.sum_cons, List.sum_nil, List.length_cons, List.length_nil, Option.toList_some, Option.toList_none, true_and, and_true, false_and, and_false, true_implies, false_implies, implies_true, not_true_eq_false, not_false_eq_true, ne_eq, if_true, if_false, Bool.and_true, Bool.true_and, decide_true, decide_false, reduceIte, reduceCtorEq, Bool.and_self, Bool.and_eq_true, decide_eq_true_eq, and_self, true_or, or_true, false_or, or_false, Nat.zero_add, Nat.add_zero, eq_self, Nat.reduceEqDiff, Nat.reduceLeDiff, Nat.reduceLT, Nat.reduceAdd, Nat.reduceSub, Nat.reduceMul, hs, h3, h101, hWs, e7, i4, i7, nI_add, nI_leP (show l.length < 2147483648 by omega) (show i < 2147483648 by omega), show (l.length ≤ i) = False from eq_false (by omega), nI_leP (show k < 2147483648 by omega) (show s + i < 2147483648 by omega), show (k ≤ s + i) = False from eq_false (by omega), nI_inP (show s + i < 600 by omega) (by decide), nI_ix (show s + i < 2147483648 by omega), f1]
    refine L8w hW hi ?_
    by_cases m : nI (f (s + i)) = l.getD i 0
    · have m2 : (sB8 (f (s + i)) = l.getD i 0) = True := by rw [ec, sB8_eq f2 hc, ← ec]; exact eq_true m
      simp only [xSeq, i_push, i_load, i_iload, i_lload, i_dload, i_aload, i_istore, i_astore, i_lstore, i_dstore, i_iinc, i_ii, i_iiz, i_ll, i_llz, i_lli, i_li, i_i, i_l, i_i2l, i_l2i, i_dup, i_dup2, i_dup2w, i_dupx1, i_pop, i_pop2, i_goto, i_ifc, i_icmp, i_getI, i_getL, i_getR, i_putI, i_putZ, i_putL, i_putR, i_aldI, i_aldB, i_aldL, i_aldD, i_astI, i_astL, i_astD, i_alen, i_ret, i_iret, i_zret, i_lret, i_fret, i_dret, i_aret, i_invS0, i_invV0, i_m2, i_m1, i_ml, i_obj, lk, lkp, stf1, stf2, Value.category, rV, xTo, lv_args, xCk, xCat, xRc, xAk, hg_S, hg_I, hg_J, hg_D, hg_R, hs_I, hs_J, hs_D, hs_R, uI_at, uJ_at, uD_at, uR_at, List.take_succ_cons, List.take_zero, List.drop_succ_cons, List.drop_zero, List.reverse_cons, List.reverse_nil, List.nil_append, List.cons_append, List.map_cons, List.map_nil, List.sum_cons, List.sum_nil, List.length_cons, List.length_nil, Option.toList_some, Option.toList_none, true_and, and_true, false_and, and_false, true_implies, false_implies, implies_true, not_true_eq_false, not_false_eq_true, ne_eq, if_true, if_false, Bool.and_true, Bool.true_and, decide_true, decide_false, reduceIte, reduceCtorEq, Bool.and_self, Bool.and_eq_true, decide_eq_true_eq, and_self, true_or, or_true, false_or, or_false, Nat.zero_add, Nat.add_zero, eq_self, Nat.reduceEqDiff, Nat.reduceLeDiff, Nat.reduceLT, Nat.reduceAdd, Nat.reduceSub, Nat.reduceMul, m2]
      rw [e61_70]
      simp only [B61_70, xSeq, i_push, i_load, i_iload, i_lload, i_dload, i_aload, i_istore, i_astore, i_lstore, i_dstore, i_iinc, i_ii, i_iiz, i_ll, i_llz, i_lli, i_li, i_i, i_l, i_i2l, i_l2i, i_dup, i_dup2, i_dup2w, i_dupx1, i_pop, i_pop2, i_goto, i_ifc, i_icmp, i_getI, i_getL, i_getR, i_putI, i_putZ, i_putL, i_putR, i_aldI, i_aldB, i_aldL, i_aldD, i_astI, i_astL, i_astD, i_alen, i_ret, i_iret, i_zret, i_lret, i_fret, i_dret, i_aret, i_invS0, i_invV0, i_m2, i_m1, i_ml, i_obj, lk, lkp, stf1, stf2, Value.category, rV, xTo, lv_args, xCk, xCat, xRc, xAk, hg_S, hg_I, hg_J, hg_D, hg_R, hs_I, hs_J, hs_D, hs_R, uI_at, uJ_at, uD_at, uR_at, List.take_succ_cons, List.take_zero, List.drop_succ_cons, List.drop_zero, List.reverse_cons, List.reverse_nil, List.nil_append, List.cons_append, List.map_cons, List.map_nil, List.sum_cons, List.sum_nil, List.length_cons, List.length_nil, Option.toList_some, Option.toList_none, true_and, and_true, false_and, and_false, true_implies, false_implies, implies_true, not_true_eq_false, not_false_eq_true, ne_eq, if_true, if_false, Bool.and_true, Bool.true_and, decide_true, decide_false, reduceIte, reduceCtorEq, Bool.and_self, Bool.and_eq_true, decide_eq_true_eq, and_self, true_or, or_true, false_or, or_false, Nat.zero_add, Nat.add_zero, eq_self, Nat.reduceEqDiff, Nat.reduceLeDiff, Nat.reduceLT, Nat.reduceAdd, Nat.reduceSub, Nat.reduceMul, nI_1]
      exact L61_28 h hW i4 i7 hsk k1 k0 j (i + 1) (by omega) (fun c hc => if q : c = i then by rw [q]; exact m else hp c (by omega))
    · have m2 : (sB8 (f (s + i)) = l.getD i 0) = False := by rw [ec, sB8_eq f2 hc, ← ec]; exact eq_false m
      simp only [xSeq, i_push, i_load, i_iload, i_lload, i_dload, i_aload, i_istore, i_astore, i_lstore, i_dstore, i_iinc, i_ii, i_iiz, i_ll, i_llz, i_lli, i_li, i_i, i_l, i_i2l, i_l2i, i_dup, i_dup2, i_dup2w, i_dupx1, i_pop, i_pop2, i_goto, i_ifc, i_icmp, i_getI, i_getL, i_getR, i_putI, i_putZ, i_putL, i_putR, i_aldI, i_aldB, i_aldL, i_aldD, i_astI, i_astL, i_astD, i_alen, i_ret, i_iret, i_zret, i_lret, i_fret, i_dret, i_aret, i_invS0, i_invV0, i_m2, i_m1, i_ml, i_obj, lk, lkp, stf1, stf2, Value.category, rV, xTo, lv_args, xCk, xCat, xRc, xAk, hg_S, hg_I, hg_J, hg_D, hg_R, hs_I, hs_J, hs_D, hs_R, uI_at, uJ_at, uD_at, uR_at, List.take_succ_cons, List.take_zero, List.drop_succ_cons, List.drop_zero, List.reverse_cons, List.reverse_nil, List.nil_append, List.cons_append, List.map_cons, List.map_nil, List.sum_cons, List.sum_nil, List.length_cons, List.length_nil, Option.toList_some, Option.toList_none, true_and, and_true, false_and, and_false, true_implies, false_implies, implies_true, not_true_eq_false, not_false_eq_true, ne_eq, if_true, if_false, Bool.and_true, Bool.true_and, decide_true, decide_false, reduceIte, reduceCtorEq, Bool.and_self, Bool.and_eq_true, decide_eq_true_eq, and_self, true_or, or_true, false_or, or_false, Nat.zero_add, Nat.add_zero, eq_self, Nat.reduceEqDiff, Nat.reduceLeDiff, Nat.reduceLT, Nat.reduceAdd, Nat.reduceSub, Nat.reduceMul, m2]
      exact k0 (fun q => m (q i hi))
theorem L61 (h : PC o k f S I R) (hc : CT o k T I) (hk : TK f k T) (hW : WD S I R w l) (kk : Q (.ok (some (.int (if wQ f l T = true then 1 else 0)))) (S, I, J, D, R) b) : xRun xT 61 0 [(0, .ref o), (1, .ref w)] [] (S, I, J, D, R) b Q := by
  have e7 := fun (Q : xQ) => R7w (J := J) (D := D) (b := (0, 0)) (Q := Q) hW
  have hs := h.1.1
  have hk6 := h.2.2.1
  obtain ⟨k1, k2, k3, -⟩ := hk
  have i4 := hc.1.2.2.1
  have i5 := hc.1.2.2.2.1
  have i6 := hc.1.2.2.2.2.1
  have i7 := hc.1.2.2.2.2.2.1
  have hWs : S w = (10, 0) := hW.choose_spec.1
  have hWl : l.length ≤ 100 := hW.choose_spec.2.2.2.2.2.1
  have e1 : (nI (qK T) = 1) = (qK T = 1) := by rw [show (1 : Int32) = nI 1 from rfl, nI_iff (by omega) (by decide)]
  rw [e61_0]
  by_cases c1 : qK T = 1
  · by_cases c2 : qP T - qS T = l.length
    · simp only [B61_0, xSeq, i_push, i_load, i_iload, i_lload, i_dload, i_aload, i_istore, i_astore, i_lstore, i_dstore, i_iinc, i_ii, i_iiz, i_ll, i_llz, i_lli, i_li, i_i, i_l, i_i2l, i_l2i, i_dup, i_dup2, i_dup2w, i_dupx1, i_pop, i_pop2, i_goto, i_ifc, i_icmp, i_getI, i_getL, i_getR, i_putI, i_putZ, i_putL, i_putR, i_aldI, i_aldB, i_aldL, i_aldD, i_astI, i_astL, i_astD, i_alen, i_ret, i_iret, i_zret, i_lret, i_fret, i_dret, i_aret, i_invS0, i_invV0, i_m2, i_m1, i_ml, i_obj, lk, lkp, stf1, stf2, Value.category, rV, xTo, lv_args, xCk, xCat, xRc, xAk, hg_S, hg_I, hg_J, hg_D, hg_R, hs_I, hs_J, hs_D, hs_R, uI_at, uJ_at, uD_at, uR_at, List.take_succ_cons, List.take_zero, List.drop_succ_cons, List.drop_zero, List.reverse_cons, List.reverse_nil, List.nil_append, List.cons_append, List.map_cons, List.map_nil, List.sum_cons, List.sum_nil, List.length_cons, List.length_nil, Option.toList_some, Option.toList_none, true_and, and_true, false_and, and_false, true_implies, false_implies, implies_true, not_true_eq_false, not_false_eq_true, ne_eq, if_true, if_false, Bool.and_true, Bool.true_and, decide_true, decide_false, reduceIte, reduceCtorEq, Bool.and_self, Bool.and_eq_true, decide_eq_true_eq, and_self, true_or, or_true, false_or, or_false, Nat.zero_add, Nat.add_zero, eq_self, Nat.reduceEqDiff, Nat.reduceLeDiff, Nat.reduceLT, Nat.reduceAdd, Nat.reduceSub, Nat.reduceMul, hs, hWs, i5, i6, i7, e1, eq_true c1, nI_subn k1, e7, c2]
      rw [e61_26]
      simp only [B61_26, xSeq, i_push, i_load, i_iload, i_lload, i_dload, i_aload, i_istore, i_astore, i_lstore, i_dstore, i_iinc, i_ii, i_iiz, i_ll, i_llz, i_lli, i_li, i_i, i_l, i_i2l, i_l2i, i_dup, i_dup2, i_dup2w, i_dupx1, i_pop, i_pop2, i_goto, i_ifc, i_icmp, i_getI, i_getL, i_getR, i_putI, i_putZ, i_putL, i_putR, i_aldI, i_aldB, i_aldL, i_aldD, i_astI, i_astL, i_astD, i_alen, i_ret, i_iret, i_zret, i_lret, i_fret, i_dret, i_aret, i_invS0, i_invV0, i_m2, i_m1, i_ml, i_obj, lk, lkp, stf1, stf2, Value.category, rV, xTo, lv_args, xCk, xCat, xRc, xAk, hg_S, hg_I, hg_J, hg_D, hg_R, hs_I, hs_J, hs_D, hs_R, uI_at, uJ_at, uD_at, uR_at, List.take_succ_cons, List.take_zero, List.drop_succ_cons, List.drop_zero, List.reverse_cons, List.reverse_nil, List.nil_append, List.cons_append, List.map_cons, List.map_nil, List.sum_cons, List.sum_nil, List.length_cons, List.length_nil, Option.toList_some, Option.toList_none, true_and, and_true, false_and, and_false, true_implies, false_implies, implies_true, not_true_eq_false, not_false_eq_true, ne_eq, if_true, if_false, Bool.and_true, Bool.true_and, decide_true, decide_false, reduceIte, reduceCtorEq, Bool.and_self, Bool.and_eq_true, decide_eq_true_eq, and_self, true_or, or_true, false_or, or_false, Nat.zero_add, Nat.add_zero, eq_self, Nat.reduceEqDiff, Nat.reduceLeDiff, Nat.reduceLT, Nat.reduceAdd, Nat.reduceSub, Nat.reduceMul]
      have hh := L61_28 (J := J) (D := D) (b := b) (Q := Q) (s := qS T) h hW i4 i7 (by omega) (fun q => ?_) (fun q => ?_) l.length 0 (by omega) (fun c hc => absurd hc (Nat.not_lt_zero c))
      · rw [nI_0] at hh
        exact hh
      · rw [if_pos (wQ_iff.mpr ⟨c1, c2, q⟩)] at kk
        exact kk
      · rw [if_neg (fun e => q (wQ_iff.mp e).2.2)] at kk
        exact kk
    · rw [if_neg (fun e => c2 (wQ_iff.mp e).2.1)] at kk
      have e2 : (nI (qP T - qS T) = nI l.length) = False := by rw [nI_iff (by omega) (by omega)]; exact eq_false c2
      simp only [B61_0, xSeq, i_push, i_load, i_iload, i_lload, i_dload, i_aload, i_istore, i_astore, i_lstore, i_dstore, i_iinc, i_ii, i_iiz, i_ll, i_llz, i_lli, i_li, i_i, i_l, i_i2l, i_l2i, i_dup, i_dup2, i_dup2w, i_dupx1, i_pop, i_pop2, i_goto, i_ifc, i_icmp, i_getI, i_getL, i_getR, i_putI, i_putZ, i_putL, i_putR, i_aldI, i_aldB, i_aldL, i_aldD, i_astI, i_astL, i_astD, i_alen, i_ret, i_iret, i_zret, i_lret, i_fret, i_dret, i_aret, i_invS0, i_invV0, i_m2, i_m1, i_ml, i_obj, lk, lkp, stf1, stf2, Value.category, rV, xTo, lv_args, xCk, xCat, xRc, xAk, hg_S, hg_I, hg_J, hg_D, hg_R, hs_I, hs_J, hs_D, hs_R, uI_at, uJ_at, uD_at, uR_at, List.take_succ_cons, List.take_zero, List.drop_succ_cons, List.drop_zero, List.reverse_cons, List.reverse_nil, List.nil_append, List.cons_append, List.map_cons, List.map_nil, List.sum_cons, List.sum_nil, List.length_cons, List.length_nil, Option.toList_some, Option.toList_none, true_and, and_true, false_and, and_false, true_implies, false_implies, implies_true, not_true_eq_false, not_false_eq_true, ne_eq, if_true, if_false, Bool.and_true, Bool.true_and, decide_true, decide_false, reduceIte, reduceCtorEq, Bool.and_self, Bool.and_eq_true, decide_eq_true_eq, and_self, true_or, or_true, false_or, or_false, Nat.zero_add, Nat.add_zero, eq_self, Nat.reduceEqDiff, Nat.reduceLeDiff, Nat.reduceLT, Nat.reduceAdd, Nat.reduceSub, Nat.reduceMul, hs, hWs, i5, i6, i7, e1, eq_true c1, nI_subn k1, e7, e2, e61_24, B61_24]
      exact kk
  · rw [if_neg (fun e => c1 (wQ_iff.mp e).1)] at kk
    simp only [B61_0, xSeq, i_push, i_load, i_iload, i_lload, i_dload, i_aload, i_istore, i_astore, i_lstore, i_dstore, i_iinc, i_ii, i_iiz, i_ll, i_llz, i_lli, i_li, i_i, i_l, i_i2l, i_l2i, i_dup, i_dup2, i_dup2w, i_dupx1, i_pop, i_pop2, i_goto, i_ifc, i_icmp, i_getI, i_getL, i_getR, i_putI, i_putZ, i_putL, i_putR, i_aldI, i_aldB, i_aldL, i_aldD, i_astI, i_astL, i_astD, i_alen, i_ret, i_iret, i_zret, i_lret, i_fret, i_dret, i_aret, i_invS0, i_invV0, i_m2, i_m1, i_ml, i_obj, lk, lkp, stf1, stf2, Value.category, rV, xTo, lv_args, xCk, xCat, xRc, xAk, hg_S, hg_I, hg_J, hg_D, hg_R, hs_I, hs_J, hs_D, hs_R, uI_at, uJ_at, uD_at, uR_at, List.take_succ_cons, List.take_zero, List.drop_succ_cons, List.drop_zero, List.reverse_cons, List.reverse_nil, List.nil_append, List.cons_append, List.map_cons, List.map_nil, List.sum_cons, List.sum_nil, List.length_cons, List.length_nil, Option.toList_some, Option.toList_none, true_and, and_true, false_and, and_false, true_implies, false_implies, implies_true, not_true_eq_false, not_false_eq_true, ne_eq, if_true, if_false, Bool.and_true, Bool.true_and, decide_true, decide_false, reduceIte, reduceCtorEq, Bool.and_self, Bool.and_eq_true, decide_eq_true_eq, and_self, true_or, or_true, false_or, or_false, Nat.zero_add, Nat.add_zero, eq_self, Nat.reduceEqDiff, Nat.reduceLeDiff, Nat.reduceLT, Nat.reduceAdd, Nat.reduceSub, Nat.reduceMul, hs, i6, e1, eq_false c1, e61_24, B61_24]
    exact kk
theorem R63 (hs : S o = (6, 0)) {e : Int32} : xRun xT 63 0 [(0, .ref o), (1, .int e)] [] (S, I, J, D, R) b Q = Q (.ok (some (.int 0))) (S, uI (uI I o 1 e) o 2 (I o 7), J, D, R) b := by
  rw [e63_0]
  simp only [B63_0, xSeq, i_push, i_load, i_iload, i_lload, i_dload, i_aload, i_istore, i_astore, i_lstore, i_dstore, i_iinc, i_ii, i_iiz, i_ll, i_llz, i_lli, i_li, i_i, i_l, i_i2l, i_l2i, i_dup, i_dup2, i_dup2w, i_dupx1, i_pop, i_pop2, i_goto, i_ifc, i_icmp, i_getI, i_getL, i_getR, i_putI, i_putZ, i_putL, i_putR, i_aldI, i_aldB, i_aldL, i_aldD, i_astI, i_astL, i_astD, i_alen, i_ret, i_iret, i_zret, i_lret, i_fret, i_dret, i_aret, i_invS0, i_invV0, i_m2, i_m1, i_ml, i_obj, lk, lkp, stf1, stf2, Value.category, rV, xTo, lv_args, xCk, xCat, xRc, xAk, hg_S, hg_I, hg_J, hg_D, hg_R, hs_I, hs_J, hs_D, hs_R, uI_at, uJ_at, uD_at, uR_at, List.take_succ_cons, List.take_zero, List.drop_succ_cons, List.drop_zero, List.reverse_cons, List.reverse_nil, List.nil_append, List.cons_append, List.map_cons, List.map_nil, List.sum_cons, List.sum_nil, List.length_cons, List.length_nil, Option.toList_some, Option.toList_none, true_and, and_true, false_and, and_false, true_implies, false_implies, implies_true, not_true_eq_false, not_false_eq_true, ne_eq, if_true, if_false, Bool.and_true, Bool.true_and, decide_true, decide_false, reduceIte, reduceCtorEq, Bool.and_self, Bool.and_eq_true, decide_eq_true_eq, and_self, true_or, or_true, false_or, or_false, Nat.zero_add, Nat.add_zero, eq_self, Nat.reduceEqDiff, Nat.reduceLeDiff, Nat.reduceLT, Nat.reduceAdd, Nat.reduceSub, Nat.reduceMul, hs]
/-- stopped: the error's code, its place -/
theorem CO_f (hc : CT o k T I) {e : Nat} (he : e ≠ 0) : CO o k e T (uI (uI I o 1 (nI e)) o 2 (I o 7)) ∧ cf o I (uI (uI I o 1 (nI e)) o 2 (I o 7)) := by
  refine ⟨⟨fun h => absurd h he, fun _ => ⟨?_, ?_⟩⟩, cf_t (cf_u ⟨Nat.le_refl _, by omega⟩) (cf_u ⟨Nat.le_refl _, by omega⟩)⟩
  · rw [uI_at, if_neg (by omega), uI_at, if_pos ⟨rfl, rfl⟩]
  · rw [uI_at, if_pos ⟨rfl, rfl⟩]
    exact hc.1.2.2.2.2.2.1
theorem pD_sB {v : Nat} (h : pD v = true) : sB8 v - 48 = nI (v - 48) := by
  unfold pD at h
  simp only [Bool.and_eq_true, decide_eq_true_eq] at h
  unfold sB8
  rw [if_pos (by omega), show (48 : Int32) = nI 48 from rfl, nI_subn (by omega)]
theorem R67_7 (h : PC o k f S I R) {s q : Nat} (i4 : I o 4 = nI k) (i5 : I o 5 = nI q) (hq : q ≤ k) (hd : ∀ j, s ≤ j → j < q → pD (f j) = true) :
    ∀ (j i : Nat), s + i + j = q → xRun xT 67 7 [(0, .ref o), (1, .int (nI (pV f s i))), (2, .int (nI (s + i)))] [] (S, I, J, D, R) b Q = Q (.ok (some (.int (nI (pV f s (i + j)))))) (S, I, J, D, R) b
  | 0, i, e => by
    have hs := h.1.1
    have hk := h.2.2.1
    rw [e67_7]
    simp only [B67_7, xSeq, i_push, i_load, i_iload, i_lload, i_dload, i_aload, i_istore, i_astore, i_lstore, i_dstore, i_iinc, i_ii, i_iiz, i_ll, i_llz, i_lli, i_li, i_i, i_l, i_i2l, i_l2i, i_dup, i_dup2, i_dup2w, i_dupx1, i_pop, i_pop2, i_goto, i_ifc, i_icmp, i_getI, i_getL, i_getR, i_putI, i_putZ, i_putL, i_putR, i_aldI, i_aldB, i_aldL, i_aldD, i_astI, i_astL, i_astD, i_alen, i_ret, i_iret, i_zret, i_lret, i_fret, i_dret, i_aret, i_invS0, i_invV0, i_m2, i_m1, i_ml, i_obj, lk, lkp, stf1, stf2, Value.category, rV, xTo, lv_args, xCk, xCat, xRc, xAk, hg_S, hg_I, hg_J, hg_D, hg_R, hs_I, hs_J, hs_D, hs_R, uI_at, uJ_at, uD_at, uR_at, List.take_succ_cons, List.take_zero, List.drop_succ_cons, List.drop_zero, List.reverse_cons, List.reverse_nil, List.nil_append, List.cons_append, List.map_cons, List.map_nil, List.sum_cons, List.sum_nil, List.length_cons, List.length_nil, Option.toList_some, Option.toList_none, true_and, and_true, false_and, and_false, true_implies, false_implies, implies_true, not_true_eq_false, not_false_eq_true, ne_eq, if_true, if_false, Bool.and_true, Bool.true_and, decide_true, decide_false, reduceIte, reduceCtorEq, Bool.and_self, Bool.and_eq_true, decide_eq_true_eq, and_self, true_or, or_true, false_or, or_false, Nat.zero_add, Nat.add_zero, eq_self, Nat.reduceEqDiff, Nat.reduceLeDiff, Nat.reduceLT, Nat.reduceAdd, Nat.reduceSub, Nat.reduceMul, hs, i5, nI_leP (show q < 2147483648 by omega) (show s + i < 2147483648 by omega), show (q ≤ s + i) = True from eq_true (by omega), e67_44, B67_44]
  | j + 1, i, e => by
    have hs := h.1.1
    have h3 := h.1.2.2.2.2.2.2.1
    have h101 := h.1.2.2.2.2.2.2.2.2.2.2
    have hk := h.2.2.1
    obtain ⟨f1, f2⟩ := h.2.2.2 (s + i) (by omega)
    have e10 : nI (pV f s i) * 10 + nI (f (s + i) - 48) = nI (pV f s (i + 1)) := by
      rw [show (10 : Int32) = nI 10 from rfl, pk_mul, nI_add, pV, Nat.mul_comm]
    rw [e67_7]
    simp only [B67_7, xSeq, i_push, i_load, i_iload, i_lload, i_dload, i_aload, i_istore, i_astore, i_lstore, i_dstore, i_iinc, i_ii, i_iiz, i_ll, i_llz, i_lli, i_li, i_i, i_l, i_i2l, i_l2i, i_dup, i_dup2, i_dup2w, i_dupx1, i_pop, i_pop2, i_goto, i_ifc, i_icmp, i_getI, i_getL, i_getR, i_putI, i_putZ, i_putL, i_putR, i_aldI, i_aldB, i_aldL, i_aldD, i_astI, i_astL, i_astD, i_alen, i_ret, i_iret, i_zret, i_lret, i_fret, i_dret, i_aret, i_invS0, i_invV0, i_m2, i_m1, i_ml, i_obj, lk, lkp, stf1, stf2, Value.category, rV, xTo, lv_args, xCk, xCat, xRc, xAk, hg_S, hg_I, hg_J, hg_D, hg_R, hs_I, hs_J, hs_D, hs_R, uI_at, uJ_at, uD_at, uR_at, List.take_succ_cons, List.take_zero, List.drop_succ_cons, List.drop_zero, List.reverse_cons, List.reverse_nil, List.nil_append, List.cons_append, List.map_cons, List.map_nil, List.sum_cons, List.sum_nil, List.length_cons, List.length_nil, Option.toList_some, Option.toList_none, true_and, and_true, false_and, and_false, true_implies, false_implies, implies_true, not_true_eq_false, not_false_eq_true, ne_eq, if_true, if_false, Bool.and_true, Bool.true_and, decide_true, decide_false, reduceIte, reduceCtorEq, Bool.and_self, Bool.and_eq_true, decide_eq_true_eq, and_self, true_or, or_true, false_or, or_false, Nat.zero_add, Nat.add_zero, eq_self, Nat.reduceEqDiff, Nat.reduceLeDiff, Nat.reduceLT, Nat.reduceAdd, Nat.reduceSub, Nat.reduceMul, hs, h3, h101, i4, i5, nI_leP (show q < 2147483648 by omega) (show s + i < 2147483648 by omega), show (q ≤ s + i) = False from eq_false (by omega), nI_leP (show k < 2147483648 by omega) (show s + i < 2147483648 by omega), show (k ≤ s + i) = False from eq_false (by omega), nI_inP (show s + i < 600 by omega) (by decide), nI_ix (show s + i < 2147483648 by omega), f1, pD_sB (hd (s + i) (by omega) (by omega)), e10, nI_1]
    have hh := R67_7 h i4 i5 hq hd j (i + 1) (by omega)
    rw [show s + (i + 1) = s + i + 1 by omega, show i + 1 + j = i + (j + 1) by omega] at hh
    exact hh
theorem R67 (h : PC o k f S I R) (hc : CT o k T I) (hk : TK f k T) (h2 : qK T = 2) : xRun xT 67 0 [(0, .ref o)] [] (S, I, J, D, R) b Q = Q (.ok (some (.int (nI (qVl f T))))) (S, I, J, D, R) b := by
  have hs := h.1.1
  have i7 := hc.1.2.2.2.2.2.1
  have hh := R67_7 (J := J) (D := D) (b := b) (Q := Q) (s := qS T) (q := qP T) h hc.1.2.2.1 hc.1.2.2.2.1 hk.2.1 (hk.2.2.2.2 h2).2 (qP T - qS T) 0 (by have := hk.1; omega)
  rw [pV, nI_0, Nat.add_zero, Nat.zero_add] at hh
  rw [e67_0]
  simp only [B67_0, xSeq, i_push, i_load, i_iload, i_lload, i_dload, i_aload, i_istore, i_astore, i_lstore, i_dstore, i_iinc, i_ii, i_iiz, i_ll, i_llz, i_lli, i_li, i_i, i_l, i_i2l, i_l2i, i_dup, i_dup2, i_dup2w, i_dupx1, i_pop, i_pop2, i_goto, i_ifc, i_icmp, i_getI, i_getL, i_getR, i_putI, i_putZ, i_putL, i_putR, i_aldI, i_aldB, i_aldL, i_aldD, i_astI, i_astL, i_astD, i_alen, i_ret, i_iret, i_zret, i_lret, i_fret, i_dret, i_aret, i_invS0, i_invV0, i_m2, i_m1, i_ml, i_obj, lk, lkp, stf1, stf2, Value.category, rV, xTo, lv_args, xCk, xCat, xRc, xAk, hg_S, hg_I, hg_J, hg_D, hg_R, hs_I, hs_J, hs_D, hs_R, uI_at, uJ_at, uD_at, uR_at, List.take_succ_cons, List.take_zero, List.drop_succ_cons, List.drop_zero, List.reverse_cons, List.reverse_nil, List.nil_append, List.cons_append, List.map_cons, List.map_nil, List.sum_cons, List.sum_nil, List.length_cons, List.length_nil, Option.toList_some, Option.toList_none, true_and, and_true, false_and, and_false, true_implies, false_implies, implies_true, not_true_eq_false, not_false_eq_true, ne_eq, if_true, if_false, Bool.and_true, Bool.true_and, decide_true, decide_false, reduceIte, reduceCtorEq, Bool.and_self, Bool.and_eq_true, decide_eq_true_eq, and_self, true_or, or_true, false_or, or_false, Nat.zero_add, Nat.add_zero, eq_self, Nat.reduceEqDiff, Nat.reduceLeDiff, Nat.reduceLT, Nat.reduceAdd, Nat.reduceSub, Nat.reduceMul, hs, i7, hh]
  rfl
/-- a number in its range, or not -/
theorem L66_56 {lo hi x : Int32} (h : PC o k f S I R) (hc : CT o k T I) (hk : TK f k T) (k0 : (x < lo ∨ ¬ x ≤ hi) → ∀ I', CO o k 2 T I' → cf o I I' → Q (.ok (some (.int 0))) (S, I', J, D, R) b) (k1 : ¬ x < lo → x ≤ hi → ∀ I', CT o k (pAdv f k T) I' → cf o I I' → I' o 8 = x → Q (.ok (some (.int 1))) (S, I', J, D, R) b) :
    xRun xT 66 56 [(0, .ref o), (1, .int lo), (2, .int hi)] [.int x] (S, I, J, D, R) b Q := by
  have hs := h.1.1
  have e2 : (2 : Int32) = nI 2 := rfl
  obtain ⟨q1, q2⟩ := CO_f hc (e := 2) (by decide)
  rw [e66_56]
  by_cases c1 : x < lo
  · simp only [B66_56, xSeq, i_push, i_load, i_iload, i_lload, i_dload, i_aload, i_istore, i_astore, i_lstore, i_dstore, i_iinc, i_ii, i_iiz, i_ll, i_llz, i_lli, i_li, i_i, i_l, i_i2l, i_l2i, i_dup, i_dup2, i_dup2w, i_dupx1, i_pop, i_pop2, i_goto, i_ifc, i_icmp, i_getI, i_getL, i_getR, i_putI, i_putZ, i_putL, i_putR, i_aldI, i_aldB, i_aldL, i_aldD, i_astI, i_astL, i_astD, i_alen, i_ret, i_iret, i_zret, i_lret, i_fret, i_dret, i_aret, i_invS0, i_invV0, i_m2, i_m1, i_ml, i_obj, lk, lkp, stf1, stf2, Value.category, rV, xTo, lv_args, xCk, xCat, xRc, xAk, hg_S, hg_I, hg_J, hg_D, hg_R, hs_I, hs_J, hs_D, hs_R, uI_at, uJ_at, uD_at, uR_at, List.take_succ_cons, List.take_zero, List.drop_succ_cons, List.drop_zero, List.reverse_cons, List.reverse_nil, List.nil_append, List.cons_append, List.map_cons, List.map_nil, List.sum_cons, List.sum_nil, List.length_cons, List.length_nil, Option.toList_some, Option.toList_none, true_and, and_true, false_and, and_false, true_implies, false_implies, implies_true, not_true_eq_false, not_false_eq_true, ne_eq, if_true, if_false, Bool.and_true, Bool.true_and, decide_true, decide_false, reduceIte, reduceCtorEq, Bool.and_self, Bool.and_eq_true, decide_eq_true_eq, and_self, true_or, or_true, false_or, or_false, Nat.zero_add, Nat.add_zero, eq_self, Nat.reduceEqDiff, Nat.reduceLeDiff, Nat.reduceLT, Nat.reduceAdd, Nat.reduceSub, Nat.reduceMul, c1]
    rw [e66_70]
    simp only [B66_70, xSeq, i_push, i_load, i_iload, i_lload, i_dload, i_aload, i_istore, i_astore, i_lstore, i_dstore, i_iinc, i_ii, i_iiz, i_ll, i_llz, i_lli, i_li, i_i, i_l, i_i2l, i_l2i, i_dup, i_dup2, i_dup2w, i_dupx1, i_pop, i_pop2, i_goto, i_ifc, i_icmp, i_getI, i_getL, i_getR, i_putI, i_putZ, i_putL, i_putR, i_aldI, i_aldB, i_aldL, i_aldD, i_astI, i_astL, i_astD, i_alen, i_ret, i_iret, i_zret, i_lret, i_fret, i_dret, i_aret, i_invS0, i_invV0, i_m2, i_m1, i_ml, i_obj, lk, lkp, stf1, stf2, Value.category, rV, xTo, lv_args, xCk, xCat, xRc, xAk, hg_S, hg_I, hg_J, hg_D, hg_R, hs_I, hs_J, hs_D, hs_R, uI_at, uJ_at, uD_at, uR_at, List.take_succ_cons, List.take_zero, List.drop_succ_cons, List.drop_zero, List.reverse_cons, List.reverse_nil, List.nil_append, List.cons_append, List.map_cons, List.map_nil, List.sum_cons, List.sum_nil, List.length_cons, List.length_nil, Option.toList_some, Option.toList_none, true_and, and_true, false_and, and_false, true_implies, false_implies, implies_true, not_true_eq_false, not_false_eq_true, ne_eq, if_true, if_false, Bool.and_true, Bool.true_and, decide_true, decide_false, reduceIte, reduceCtorEq, Bool.and_self, Bool.and_eq_true, decide_eq_true_eq, and_self, true_or, or_true, false_or, or_false, Nat.zero_add, Nat.add_zero, eq_self, Nat.reduceEqDiff, Nat.reduceLeDiff, Nat.reduceLT, Nat.reduceAdd, Nat.reduceSub, Nat.reduceMul, hs, R63 hs]
    exact k0 (Or.inl c1) _ q1 q2
  · by_cases c2 : x ≤ hi
    · simp only [B66_56, xSeq, i_push, i_load, i_iload, i_lload, i_dload, i_aload, i_istore, i_astore, i_lstore, i_dstore, i_iinc, i_ii, i_iiz, i_ll, i_llz, i_lli, i_li, i_i, i_l, i_i2l, i_l2i, i_dup, i_dup2, i_dup2w, i_dupx1, i_pop, i_pop2, i_goto, i_ifc, i_icmp, i_getI, i_getL, i_getR, i_putI, i_putZ, i_putL, i_putR, i_aldI, i_aldB, i_aldL, i_aldD, i_astI, i_astL, i_astD, i_alen, i_ret, i_iret, i_zret, i_lret, i_fret, i_dret, i_aret, i_invS0, i_invV0, i_m2, i_m1, i_ml, i_obj, lk, lkp, stf1, stf2, Value.category, rV, xTo, lv_args, xCk, xCat, xRc, xAk, hg_S, hg_I, hg_J, hg_D, hg_R, hs_I, hs_J, hs_D, hs_R, uI_at, uJ_at, uD_at, uR_at, List.take_succ_cons, List.take_zero, List.drop_succ_cons, List.drop_zero, List.reverse_cons, List.reverse_nil, List.nil_append, List.cons_append, List.map_cons, List.map_nil, List.sum_cons, List.sum_nil, List.length_cons, List.length_nil, Option.toList_some, Option.toList_none, true_and, and_true, false_and, and_false, true_implies, false_implies, implies_true, not_true_eq_false, not_false_eq_true, ne_eq, if_true, if_false, Bool.and_true, Bool.true_and, decide_true, decide_false, reduceIte, reduceCtorEq, Bool.and_self, Bool.and_eq_true, decide_eq_true_eq, and_self, true_or, or_true, false_or, or_false, Nat.zero_add, Nat.add_zero, eq_self, Nat.reduceEqDiff, Nat.reduceLeDiff, Nat.reduceLT, Nat.reduceAdd, Nat.reduceSub, Nat.reduceMul, c1, c2]
      rw [e66_76]
      simp only [B66_76, xSeq, i_push, i_load, i_iload, i_lload, i_dload, i_aload, i_istore, i_astore, i_lstore, i_dstore, i_iinc, i_ii, i_iiz, i_ll, i_llz, i_lli, i_li, i_i, i_l, i_i2l, i_l2i, i_dup, i_dup2, i_dup2w, i_dupx1, i_pop, i_pop2, i_goto, i_ifc, i_icmp, i_getI, i_getL, i_getR, i_putI, i_putZ, i_putL, i_putR, i_aldI, i_aldB, i_aldL, i_aldD, i_astI, i_astL, i_astD, i_alen, i_ret, i_iret, i_zret, i_lret, i_fret, i_dret, i_aret, i_invS0, i_invV0, i_m2, i_m1, i_ml, i_obj, lk, lkp, stf1, stf2, Value.category, rV, xTo, lv_args, xCk, xCat, xRc, xAk, hg_S, hg_I, hg_J, hg_D, hg_R, hs_I, hs_J, hs_D, hs_R, uI_at, uJ_at, uD_at, uR_at, List.take_succ_cons, List.take_zero, List.drop_succ_cons, List.drop_zero, List.reverse_cons, List.reverse_nil, List.nil_append, List.cons_append, List.map_cons, List.map_nil, List.sum_cons, List.sum_nil, List.length_cons, List.length_nil, Option.toList_some, Option.toList_none, true_and, and_true, false_and, and_false, true_implies, false_implies, implies_true, not_true_eq_false, not_false_eq_true, ne_eq, if_true, if_false, Bool.and_true, Bool.true_and, decide_true, decide_false, reduceIte, reduceCtorEq, Bool.and_self, Bool.and_eq_true, decide_eq_true_eq, and_self, true_or, or_true, false_or, or_false, Nat.zero_add, Nat.add_zero, eq_self, Nat.reduceEqDiff, Nat.reduceLeDiff, Nat.reduceLT, Nat.reduceAdd, Nat.reduceSub, Nat.reduceMul, hs]
      refine L58 (PC_u h h.2.1) (CT_8 hc) hk.2.1 (fun I' q3 q4 q5 => ?_)
      simp only [xSeq, i_push, i_load, i_iload, i_lload, i_dload, i_aload, i_istore, i_astore, i_lstore, i_dstore, i_iinc, i_ii, i_iiz, i_ll, i_llz, i_lli, i_li, i_i, i_l, i_i2l, i_l2i, i_dup, i_dup2, i_dup2w, i_dupx1, i_pop, i_pop2, i_goto, i_ifc, i_icmp, i_getI, i_getL, i_getR, i_putI, i_putZ, i_putL, i_putR, i_aldI, i_aldB, i_aldL, i_aldD, i_astI, i_astL, i_astD, i_alen, i_ret, i_iret, i_zret, i_lret, i_fret, i_dret, i_aret, i_invS0, i_invV0, i_m2, i_m1, i_ml, i_obj, lk, lkp, stf1, stf2, Value.category, rV, xTo, lv_args, xCk, xCat, xRc, xAk, hg_S, hg_I, hg_J, hg_D, hg_R, hs_I, hs_J, hs_D, hs_R, uI_at, uJ_at, uD_at, uR_at, List.take_succ_cons, List.take_zero, List.drop_succ_cons, List.drop_zero, List.reverse_cons, List.reverse_nil, List.nil_append, List.cons_append, List.map_cons, List.map_nil, List.sum_cons, List.sum_nil, List.length_cons, List.length_nil, Option.toList_some, Option.toList_none, true_and, and_true, false_and, and_false, true_implies, false_implies, implies_true, not_true_eq_false, not_false_eq_true, ne_eq, if_true, if_false, Bool.and_true, Bool.true_and, decide_true, decide_false, reduceIte, reduceCtorEq, Bool.and_self, Bool.and_eq_true, decide_eq_true_eq, and_self, true_or, or_true, false_or, or_false, Nat.zero_add, Nat.add_zero, eq_self, Nat.reduceEqDiff, Nat.reduceLeDiff, Nat.reduceLT, Nat.reduceAdd, Nat.reduceSub, Nat.reduceMul]
      exact k1 c1 c2 I' q3 (cf_t (cf_u ⟨Nat.le_refl _, by omega⟩) q4) (by rw [q5, uI_at, if_pos ⟨rfl, rfl⟩])
    · simp only [B66_56, xSeq, i_push, i_load, i_iload, i_lload, i_dload, i_aload, i_istore, i_astore, i_lstore, i_dstore, i_iinc, i_ii, i_iiz, i_ll, i_llz, i_lli, i_li, i_i, i_l, i_i2l, i_l2i, i_dup, i_dup2, i_dup2w, i_dupx1, i_pop, i_pop2, i_goto, i_ifc, i_icmp, i_getI, i_getL, i_getR, i_putI, i_putZ, i_putL, i_putR, i_aldI, i_aldB, i_aldL, i_aldD, i_astI, i_astL, i_astD, i_alen, i_ret, i_iret, i_zret, i_lret, i_fret, i_dret, i_aret, i_invS0, i_invV0, i_m2, i_m1, i_ml, i_obj, lk, lkp, stf1, stf2, Value.category, rV, xTo, lv_args, xCk, xCat, xRc, xAk, hg_S, hg_I, hg_J, hg_D, hg_R, hs_I, hs_J, hs_D, hs_R, uI_at, uJ_at, uD_at, uR_at, List.take_succ_cons, List.take_zero, List.drop_succ_cons, List.drop_zero, List.reverse_cons, List.reverse_nil, List.nil_append, List.cons_append, List.map_cons, List.map_nil, List.sum_cons, List.sum_nil, List.length_cons, List.length_nil, Option.toList_some, Option.toList_none, true_and, and_true, false_and, and_false, true_implies, false_implies, implies_true, not_true_eq_false, not_false_eq_true, ne_eq, if_true, if_false, Bool.and_true, Bool.true_and, decide_true, decide_false, reduceIte, reduceCtorEq, Bool.and_self, Bool.and_eq_true, decide_eq_true_eq, and_self, true_or, or_true, false_or, or_false, Nat.zero_add, Nat.add_zero, eq_self, Nat.reduceEqDiff, Nat.reduceLeDiff, Nat.reduceLT, Nat.reduceAdd, Nat.reduceSub, Nat.reduceMul, c1, c2]
      rw [e66_70]
      simp only [B66_70, xSeq, i_push, i_load, i_iload, i_lload, i_dload, i_aload, i_istore, i_astore, i_lstore, i_dstore, i_iinc, i_ii, i_iiz, i_ll, i_llz, i_lli, i_li, i_i, i_l, i_i2l, i_l2i, i_dup, i_dup2, i_dup2w, i_dupx1, i_pop, i_pop2, i_goto, i_ifc, i_icmp, i_getI, i_getL, i_getR, i_putI, i_putZ, i_putL, i_putR, i_aldI, i_aldB, i_aldL, i_aldD, i_astI, i_astL, i_astD, i_alen, i_ret, i_iret, i_zret, i_lret, i_fret, i_dret, i_aret, i_invS0, i_invV0, i_m2, i_m1, i_ml, i_obj, lk, lkp, stf1, stf2, Value.category, rV, xTo, lv_args, xCk, xCat, xRc, xAk, hg_S, hg_I, hg_J, hg_D, hg_R, hs_I, hs_J, hs_D, hs_R, uI_at, uJ_at, uD_at, uR_at, List.take_succ_cons, List.take_zero, List.drop_succ_cons, List.drop_zero, List.reverse_cons, List.reverse_nil, List.nil_append, List.cons_append, List.map_cons, List.map_nil, List.sum_cons, List.sum_nil, List.length_cons, List.length_nil, Option.toList_some, Option.toList_none, true_and, and_true, false_and, and_false, true_implies, false_implies, implies_true, not_true_eq_false, not_false_eq_true, ne_eq, if_true, if_false, Bool.and_true, Bool.true_and, decide_true, decide_false, reduceIte, reduceCtorEq, Bool.and_self, Bool.and_eq_true, decide_eq_true_eq, and_self, true_or, or_true, false_or, or_false, Nat.zero_add, Nat.add_zero, eq_self, Nat.reduceEqDiff, Nat.reduceLeDiff, Nat.reduceLT, Nat.reduceAdd, Nat.reduceSub, Nat.reduceMul, hs, R63 hs]
      exact k0 (Or.inr c2) _ q1 q2
/-- a number that may not be negative -/
theorem L66 {lo hi : Nat} (h : PC o k f S I R) (hc : CT o k T I) (hk : TK f k T) (h1 : lo < 2147483648) (h2 : hi < 2147483648) (kk : ∀ I', CO o k (pNum f k lo hi T).1 (pNum f k lo hi T).2.2 I' → cf o I I' → ((pNum f k lo hi T).1 = 0 → I' o 8 = nI (pNum f k lo hi T).2.1) → Q (.ok (some (.int (if (pNum f k lo hi T).1 = 0 then 1 else 0)))) (S, I', J, D, R) b) :
    xRun xT 66 0 [(0, .ref o), (1, .int (nI lo)), (2, .int (nI hi))] [] (S, I, J, D, R) b Q := by
  have hs := h.1.1
  have i6 := hc.1.2.2.2.2.1
  have k6 := hk.2.2.1
  have e0 : ((0 : Int32) ≤ nI lo) = True := eq_true (nI_pos' h1)
  have e2 : (nI (qK T) = 2) = (qK T = 2) := by rw [show (2 : Int32) = nI 2 from rfl, nI_iff (by omega) (by decide)]
  rw [e66_0]
  simp only [B66_0, xSeq, i_push, i_load, i_iload, i_lload, i_dload, i_aload, i_istore, i_astore, i_lstore, i_dstore, i_iinc, i_ii, i_iiz, i_ll, i_llz, i_lli, i_li, i_i, i_l, i_i2l, i_l2i, i_dup, i_dup2, i_dup2w, i_dupx1, i_pop, i_pop2, i_goto, i_ifc, i_icmp, i_getI, i_getL, i_getR, i_putI, i_putZ, i_putL, i_putR, i_aldI, i_aldB, i_aldL, i_aldD, i_astI, i_astL, i_astD, i_alen, i_ret, i_iret, i_zret, i_lret, i_fret, i_dret, i_aret, i_invS0, i_invV0, i_m2, i_m1, i_ml, i_obj, lk, lkp, stf1, stf2, Value.category, rV, xTo, lv_args, xCk, xCat, xRc, xAk, hg_S, hg_I, hg_J, hg_D, hg_R, hs_I, hs_J, hs_D, hs_R, uI_at, uJ_at, uD_at, uR_at, List.take_succ_cons, List.take_zero, List.drop_succ_cons, List.drop_zero, List.reverse_cons, List.reverse_nil, List.nil_append, List.cons_append, List.map_cons, List.map_nil, List.sum_cons, List.sum_nil, List.length_cons, List.length_nil, Option.toList_some, Option.toList_none, true_and, and_true, false_and, and_false, true_implies, false_implies, implies_true, not_true_eq_false, not_false_eq_true, ne_eq, if_true, if_false, Bool.and_true, Bool.true_and, decide_true, decide_false, reduceIte, reduceCtorEq, Bool.and_self, Bool.and_eq_true, decide_eq_true_eq, and_self, true_or, or_true, false_or, or_false, Nat.zero_add, Nat.add_zero, eq_self, Nat.reduceEqDiff, Nat.reduceLeDiff, Nat.reduceLT, Nat.reduceAdd, Nat.reduceSub, Nat.reduceMul, e0]
  rw [e66_16]
  simp only [B66_16, xSeq, i_push, i_load, i_iload, i_lload, i_dload, i_aload, i_istore, i_astore, i_lstore, i_dstore, i_iinc, i_ii, i_iiz, i_ll, i_llz, i_lli, i_li, i_i, i_l, i_i2l, i_l2i, i_dup, i_dup2, i_dup2w, i_dupx1, i_pop, i_pop2, i_goto, i_ifc, i_icmp, i_getI, i_getL, i_getR, i_putI, i_putZ, i_putL, i_putR, i_aldI, i_aldB, i_aldL, i_aldD, i_astI, i_astL, i_astD, i_alen, i_ret, i_iret, i_zret, i_lret, i_fret, i_dret, i_aret, i_invS0, i_invV0, i_m2, i_m1, i_ml, i_obj, lk, lkp, stf1, stf2, Value.category, rV, xTo, lv_args, xCk, xCat, xRc, xAk, hg_S, hg_I, hg_J, hg_D, hg_R, hs_I, hs_J, hs_D, hs_R, uI_at, uJ_at, uD_at, uR_at, List.take_succ_cons, List.take_zero, List.drop_succ_cons, List.drop_zero, List.reverse_cons, List.reverse_nil, List.nil_append, List.cons_append, List.map_cons, List.map_nil, List.sum_cons, List.sum_nil, List.length_cons, List.length_nil, Option.toList_some, Option.toList_none, true_and, and_true, false_and, and_false, true_implies, false_implies, implies_true, not_true_eq_false, not_false_eq_true, ne_eq, if_true, if_false, Bool.and_true, Bool.true_and, decide_true, decide_false, reduceIte, reduceCtorEq, Bool.and_self, Bool.and_eq_true, decide_eq_true_eq, and_self, true_or, or_true, false_or, or_false, Nat.zero_add, Nat.add_zero, eq_self, Nat.reduceEqDiff, Nat.reduceLeDiff, Nat.reduceLT, Nat.reduceAdd, Nat.reduceSub, Nat.reduceMul]
  rw [e66_17]
  simp only [B66_17, xSeq, i_push, i_load, i_iload, i_lload, i_dload, i_aload, i_istore, i_astore, i_lstore, i_dstore, i_iinc, i_ii, i_iiz, i_ll, i_llz, i_lli, i_li, i_i, i_l, i_i2l, i_l2i, i_dup, i_dup2, i_dup2w, i_dupx1, i_pop, i_pop2, i_goto, i_ifc, i_icmp, i_getI, i_getL, i_getR, i_putI, i_putZ, i_putL, i_putR, i_aldI, i_aldB, i_aldL, i_aldD, i_astI, i_astL, i_astD, i_alen, i_ret, i_iret, i_zret, i_lret, i_fret, i_dret, i_aret, i_invS0, i_invV0, i_m2, i_m1, i_ml, i_obj, lk, lkp, stf1, stf2, Value.category, rV, xTo, lv_args, xCk, xCat, xRc, xAk, hg_S, hg_I, hg_J, hg_D, hg_R, hs_I, hs_J, hs_D, hs_R, uI_at, uJ_at, uD_at, uR_at, List.take_succ_cons, List.take_zero, List.drop_succ_cons, List.drop_zero, List.reverse_cons, List.reverse_nil, List.nil_append, List.cons_append, List.map_cons, List.map_nil, List.sum_cons, List.sum_nil, List.length_cons, List.length_nil, Option.toList_some, Option.toList_none, true_and, and_true, false_and, and_false, true_implies, false_implies, implies_true, not_true_eq_false, not_false_eq_true, ne_eq, if_true, if_false, Bool.and_true, Bool.true_and, decide_true, decide_false, reduceIte, reduceCtorEq, Bool.and_self, Bool.and_eq_true, decide_eq_true_eq, and_self, true_or, or_true, false_or, or_false, Nat.zero_add, Nat.add_zero, eq_self, Nat.reduceEqDiff, Nat.reduceLeDiff, Nat.reduceLT, Nat.reduceAdd, Nat.reduceSub, Nat.reduceMul]
  rw [e66_26]
  by_cases c : qK T = 2
  · have v9 := qVl_lt hk c
    have e67 := fun (Q : xQ) => R67 (J := J) (D := D) (b := (0, 0)) (Q := Q) h hc hk c
    simp only [B66_26, xSeq, i_push, i_load, i_iload, i_lload, i_dload, i_aload, i_istore, i_astore, i_lstore, i_dstore, i_iinc, i_ii, i_iiz, i_ll, i_llz, i_lli, i_li, i_i, i_l, i_i2l, i_l2i, i_dup, i_dup2, i_dup2w, i_dupx1, i_pop, i_pop2, i_goto, i_ifc, i_icmp, i_getI, i_getL, i_getR, i_putI, i_putZ, i_putL, i_putR, i_aldI, i_aldB, i_aldL, i_aldD, i_astI, i_astL, i_astD, i_alen, i_ret, i_iret, i_zret, i_lret, i_fret, i_dret, i_aret, i_invS0, i_invV0, i_m2, i_m1, i_ml, i_obj, lk, lkp, stf1, stf2, Value.category, rV, xTo, lv_args, xCk, xCat, xRc, xAk, hg_S, hg_I, hg_J, hg_D, hg_R, hs_I, hs_J, hs_D, hs_R, uI_at, uJ_at, uD_at, uR_at, List.take_succ_cons, List.take_zero, List.drop_succ_cons, List.drop_zero, List.reverse_cons, List.reverse_nil, List.nil_append, List.cons_append, List.map_cons, List.map_nil, List.sum_cons, List.sum_nil, List.length_cons, List.length_nil, Option.toList_some, Option.toList_none, true_and, and_true, false_and, and_false, true_implies, false_implies, implies_true, not_true_eq_false, not_false_eq_true, ne_eq, if_true, if_false, Bool.and_true, Bool.true_and, decide_true, decide_false, reduceIte, reduceCtorEq, Bool.and_self, Bool.and_eq_true, decide_eq_true_eq, and_self, true_or, or_true, false_or, or_false, Nat.zero_add, Nat.add_zero, eq_self, Nat.reduceEqDiff, Nat.reduceLeDiff, Nat.reduceLT, Nat.reduceAdd, Nat.reduceSub, Nat.reduceMul, hs, i6, e2, eq_true c, e66_40, B66_40, e66_52, B66_52, e67]
    refine L66_56 h hc hk (fun q I' q1 q2 => ?_) (fun q3 q4 I' q1 q2 q5 => ?_)
    · rw [nI_ltP (by omega) h1, nI_leP (by omega) h2] at q
      have e : pNum f k lo hi T = (2, 0, T) := by unfold pNum; rw [if_neg (fun n => n c), if_pos (by omega)]
      have := kk I'
      rw [e] at this
      exact this q1 q2 (fun n => (by cases n))
    · rw [nI_ltP (by omega) h1] at q3
      rw [nI_leP (by omega) h2] at q4
      have e : pNum f k lo hi T = (0, qVl f T, pAdv f k T) := by unfold pNum; rw [if_neg (fun n => n c), if_neg (by omega)]
      have := kk I'
      rw [e] at this
      exact this ⟨fun _ => q1, fun n => absurd rfl n⟩ q2 (fun _ => q5)
  · have e : pNum f k lo hi T = (1, 0, T) := by unfold pNum; rw [if_pos c]
    obtain ⟨q1, q2⟩ := CO_f hc (e := 1) (by decide)
    simp only [B66_26, xSeq, i_push, i_load, i_iload, i_lload, i_dload, i_aload, i_istore, i_astore, i_lstore, i_dstore, i_iinc, i_ii, i_iiz, i_ll, i_llz, i_lli, i_li, i_i, i_l, i_i2l, i_l2i, i_dup, i_dup2, i_dup2w, i_dupx1, i_pop, i_pop2, i_goto, i_ifc, i_icmp, i_getI, i_getL, i_getR, i_putI, i_putZ, i_putL, i_putR, i_aldI, i_aldB, i_aldL, i_aldD, i_astI, i_astL, i_astD, i_alen, i_ret, i_iret, i_zret, i_lret, i_fret, i_dret, i_aret, i_invS0, i_invV0, i_m2, i_m1, i_ml, i_obj, lk, lkp, stf1, stf2, Value.category, rV, xTo, lv_args, xCk, xCat, xRc, xAk, hg_S, hg_I, hg_J, hg_D, hg_R, hs_I, hs_J, hs_D, hs_R, uI_at, uJ_at, uD_at, uR_at, List.take_succ_cons, List.take_zero, List.drop_succ_cons, List.drop_zero, List.reverse_cons, List.reverse_nil, List.nil_append, List.cons_append, List.map_cons, List.map_nil, List.sum_cons, List.sum_nil, List.length_cons, List.length_nil, Option.toList_some, Option.toList_none, true_and, and_true, false_and, and_false, true_implies, false_implies, implies_true, not_true_eq_false, not_false_eq_true, ne_eq, if_true, if_false, Bool.and_true, Bool.true_and, decide_true, decide_false, reduceIte, reduceCtorEq, Bool.and_self, Bool.and_eq_true, decide_eq_true_eq, and_self, true_or, or_true, false_or, or_false, Nat.zero_add, Nat.add_zero, eq_self, Nat.reduceEqDiff, Nat.reduceLeDiff, Nat.reduceLT, Nat.reduceAdd, Nat.reduceSub, Nat.reduceMul, hs, i6, e2, eq_false c, R63 hs]
    have := kk (uI (uI I o 1 (nI 1)) o 2 (I o 7))
    rw [e] at this
    exact this q1 q2 (fun n => (by cases n))
theorem sgP : ∀ v : Nat, v < 10000 → ((- nI v < -3) = (3 < v)) ∧ (- nI v ≤ 3) ∧ (¬ nI v < -3) ∧ ((nI v ≤ 3) = (v ≤ 3)) := by
  intro v hv
  have h3 : (-3 : Int32).toInt = -3 := by decide
  have h4 : (3 : Int32).toInt = 3 := by decide
  have hn := nI_toInt (show v < 2147483648 by omega)
  have hm : (- nI v).toInt = - (v : Int) := sb_negT (by omega)
  refine ⟨?_, ?_, ?_, ?_⟩
  · rw [Int32.lt_iff_toInt_lt, hm, h3]
    exact propext ⟨fun h => by omega, fun h => by omega⟩
  · rw [Int32.le_iff_toInt_le, hm, h4]; omega
  · rw [Int32.lt_iff_toInt_lt, hn, h3]; omega
  · rw [Int32.le_iff_toInt_le, hn, h4]
    exact propext ⟨fun h => by omega, fun h => by omega⟩
/-- a strength or a field: with a sign, from -3 to 3 -/
theorem L66s (h : PC o k f S I R) (hc : CT o k T I) (hk : TK f k T) (kk : ∀ I', CO o k (pSig f k T).1 (pSig f k T).2.2 I' → cf o I I' → ((pSig f k T).1 = 0 → I' o 8 = (pSig f k T).2.1) → Q (.ok (some (.int (if (pSig f k T).1 = 0 then 1 else 0)))) (S, I', J, D, R) b) :
    xRun xT 66 0 [(0, .ref o), (1, .int (-3)), (2, .int 3)] [] (S, I, J, D, R) b Q := by
  have hs := h.1.1
  have i6 := hc.1.2.2.2.2.1
  have k6 := hk.2.2.1
  have e0 : ((0 : Int32) ≤ -3) = False := eq_false (by decide)
  have e3 : (nI (qK T) = 3) = (qK T = 3) := by rw [show (3 : Int32) = nI 3 from rfl, nI_iff (by omega) (by decide)]
  -- from 26 on, with the sign's flag
  have go : ∀ (I1 : xI) (T1 : pSt) (g : Int32), PC o k f S I1 R → CT o k T1 I1 → TK f k T1 → cf o I I1 → T1 = pM f k T → g = (if qK T = 3 then 1 else 0) → xRun xT 66 26 [(0, .ref o), (1, .int (-3)), (2, .int 3), (3, .int g)] [] (S, I1, J, D, R) b Q := fun I1 T1 g h1 hc1 hk1 f1 eT eg => by
    have i61 := hc1.1.2.2.2.2.1
    have k61 := hk1.2.2.1
    have e2 : (nI (qK T1) = 2) = (qK T1 = 2) := by rw [show (2 : Int32) = nI 2 from rfl, nI_iff (by omega) (by decide)]
    have ps : pSig f k T = ((pNum f k 0 3 T1).1, (if qK T = 3 then - nI (pNum f k 0 3 T1).2.1 else nI (pNum f k 0 3 T1).2.1), (pNum f k 0 3 T1).2.2) := by rw [eT]; rfl
    rw [e66_26]
    by_cases c : qK T1 = 2
    · have v9 := qVl_lt hk1 c
      obtain ⟨s1, s2, s3, s4⟩ := sgP _ v9
      have e67 := fun (Q : xQ) => R67 (J := J) (D := D) (b := (0, 0)) (Q := Q) h1 hc1 hk1 c
      have bad : 3 < qVl f T1 → ∀ I', CO o k 2 T1 I' → cf o I1 I' → Q (.ok (some (.int 0))) (S, I', J, D, R) b := fun q I' q1 q2 => by
        have e : pNum f k 0 3 T1 = (2, 0, T1) := by unfold pNum; rw [if_neg (fun n => n c), if_pos (by omega)]
        have := kk I'
        rw [ps, e] at this
        exact this q1 (cf_t f1 q2) (fun n => (by cases n))
      have gut : qVl f T1 ≤ 3 → ∀ I', CT o k (pAdv f k T1) I' → cf o I1 I' → I' o 8 = (if qK T = 3 then - nI (qVl f T1) else nI (qVl f T1)) → Q (.ok (some (.int 1))) (S, I', J, D, R) b := fun q I' q1 q2 q5 => by
        have e : pNum f k 0 3 T1 = (0, qVl f T1, pAdv f k T1) := by unfold pNum; rw [if_neg (fun n => n c), if_neg (by omega)]
        have := kk I'
        rw [ps, e] at this
        exact this ⟨fun _ => q1, fun n => absurd rfl n⟩ (cf_t f1 q2) (fun _ => q5)
      by_cases c3 : qK T = 3
      · rw [if_pos c3] at eg
        simp only [if_pos c3] at gut
        simp only [B66_26, xSeq, i_push, i_load, i_iload, i_lload, i_dload, i_aload, i_istore, i_astore, i_lstore, i_dstore, i_iinc, i_ii, i_iiz, i_ll, i_llz, i_lli, i_li, i_i, i_l, i_i2l, i_l2i, i_dup, i_dup2, i_dup2w, i_dupx1, i_pop, i_pop2, i_goto, i_ifc, i_icmp, i_getI, i_getL, i_getR, i_putI, i_putZ, i_putL, i_putR, i_aldI, i_aldB, i_aldL, i_aldD, i_astI, i_astL, i_astD, i_alen, i_ret, i_iret, i_zret, i_lret, i_fret, i_dret, i_aret, i_invS0, i_invV0, i_m2, i_m1, i_ml, i_obj, lk, lkp, stf1, stf2, Value.category, rV, xTo, lv_args, xCk, xCat, xRc, xAk, hg_S, hg_I, hg_J, hg_D, hg_R, hs_I, hs_J, hs_D, hs_R, uI_at, uJ_at, uD_at, uR_at, List.take_succ_cons, List.take_zero, List.drop_succ_cons, List.drop_zero, List.reverse_cons, List.reverse_nil, List.nil_append, List.cons_append, List.map_cons, List.map_nil, List.sum_cons, List.sum_nil, List.length_cons, List.length_nil, Option.toList_some, Option.toList_none, true_and, and_true, false_and, and_false, true_implies, false_implies, implies_true, not_true_eq_false, not_false_eq_true, ne_eq, if_true, if_false, Bool.and_true, Bool.true_and, decide_true, decide_false, reduceIte, reduceCtorEq, Bool.and_self, Bool.and_eq_true, decide_eq_true_eq, and_self, true_or, or_true, false_or, or_false, Nat.zero_add, Nat.add_zero, eq_self, Nat.reduceEqDiff, Nat.reduceLeDiff, Nat.reduceLT, Nat.reduceAdd, Nat.reduceSub, Nat.reduceMul, hs, i61, e2, eq_true c, e66_40, B66_40, eg, i1_0, e67]
        refine L66_56 h1 hc1 hk1 (fun q I' q1 q2 => ?_) (fun q3 q4 I' q1 q2 q5 => ?_)
        · rw [s1] at q
          exact bad (q.resolve_right (fun n => n s2)) I' q1 q2
        · rw [s1] at q3
          exact gut (by omega) I' q1 q2 q5
      · rw [if_neg c3] at eg
        simp only [if_neg c3] at gut
        simp only [B66_26, xSeq, i_push, i_load, i_iload, i_lload, i_dload, i_aload, i_istore, i_astore, i_lstore, i_dstore, i_iinc, i_ii, i_iiz, i_ll, i_llz, i_lli, i_li, i_i, i_l, i_i2l, i_l2i, i_dup, i_dup2, i_dup2w, i_dupx1, i_pop, i_pop2, i_goto, i_ifc, i_icmp, i_getI, i_getL, i_getR, i_putI, i_putZ, i_putL, i_putR, i_aldI, i_aldB, i_aldL, i_aldD, i_astI, i_astL, i_astD, i_alen, i_ret, i_iret, i_zret, i_lret, i_fret, i_dret, i_aret, i_invS0, i_invV0, i_m2, i_m1, i_ml, i_obj, lk, lkp, stf1, stf2, Value.category, rV, xTo, lv_args, xCk, xCat, xRc, xAk, hg_S, hg_I, hg_J, hg_D, hg_R, hs_I, hs_J, hs_D, hs_R, uI_at, uJ_at, uD_at, uR_at, List.take_succ_cons, List.take_zero, List.drop_succ_cons, List.drop_zero, List.reverse_cons, List.reverse_nil, List.nil_append, List.cons_append, List.map_cons, List.map_nil, List.sum_cons, List.sum_nil, List.length_cons, List.length_nil, Option.toList_some, Option.toList_none, true_and, and_true, false_and, and_false, true_implies, false_implies, implies_true, not_true_eq_false, not_false_eq_true, ne_eq, if_true, if_false, Bool.and_true, Bool.true_and, decide_true, decide_false, reduceIte, reduceCtorEq, Bool.and_self, Bool.and_eq_true, decide_eq_true_eq, and_self, true_or, or_true, false_or, or_false, Nat.zero_add, Nat.add_zero, eq_self, Nat.reduceEqDiff, Nat.reduceLeDiff, Nat.reduceLT, Nat.reduceAdd, Nat.reduceSub, Nat.reduceMul, hs, i61, e2, eq_true c, e66_40, B66_40, eg, e66_52, B66_52, e67]
        refine L66_56 h1 hc1 hk1 (fun q I' q1 q2 => ?_) (fun q3 q4 I' q1 q2 q5 => ?_)
        · rw [s4] at q
          exact bad (Nat.lt_of_not_le (q.resolve_left s3)) I' q1 q2
        · rw [s4] at q4
          exact gut q4 I' q1 q2 q5
    · have e : pNum f k 0 3 T1 = (1, 0, T1) := by unfold pNum; rw [if_pos c]
      obtain ⟨q1, q2⟩ := CO_f hc1 (e := 1) (by decide)
      simp only [B66_26, xSeq, i_push, i_load, i_iload, i_lload, i_dload, i_aload, i_istore, i_astore, i_lstore, i_dstore, i_iinc, i_ii, i_iiz, i_ll, i_llz, i_lli, i_li, i_i, i_l, i_i2l, i_l2i, i_dup, i_dup2, i_dup2w, i_dupx1, i_pop, i_pop2, i_goto, i_ifc, i_icmp, i_getI, i_getL, i_getR, i_putI, i_putZ, i_putL, i_putR, i_aldI, i_aldB, i_aldL, i_aldD, i_astI, i_astL, i_astD, i_alen, i_ret, i_iret, i_zret, i_lret, i_fret, i_dret, i_aret, i_invS0, i_invV0, i_m2, i_m1, i_ml, i_obj, lk, lkp, stf1, stf2, Value.category, rV, xTo, lv_args, xCk, xCat, xRc, xAk, hg_S, hg_I, hg_J, hg_D, hg_R, hs_I, hs_J, hs_D, hs_R, uI_at, uJ_at, uD_at, uR_at, List.take_succ_cons, List.take_zero, List.drop_succ_cons, List.drop_zero, List.reverse_cons, List.reverse_nil, List.nil_append, List.cons_append, List.map_cons, List.map_nil, List.sum_cons, List.sum_nil, List.length_cons, List.length_nil, Option.toList_some, Option.toList_none, true_and, and_true, false_and, and_false, true_implies, false_implies, implies_true, not_true_eq_false, not_false_eq_true, ne_eq, if_true, if_false, Bool.and_true, Bool.true_and, decide_true, decide_false, reduceIte, reduceCtorEq, Bool.and_self, Bool.and_eq_true, decide_eq_true_eq, and_self, true_or, or_true, false_or, or_false, Nat.zero_add, Nat.add_zero, eq_self, Nat.reduceEqDiff, Nat.reduceLeDiff, Nat.reduceLT, Nat.reduceAdd, Nat.reduceSub, Nat.reduceMul, hs, i61, e2, eq_false c, R63 hs]
      have := kk (uI (uI I1 o 1 (nI 1)) o 2 (I1 o 7))
      rw [ps, e] at this
      exact this q1 (cf_t f1 q2) (fun n => (by cases n))
  rw [e66_0]
  by_cases c3 : qK T = 3
  · simp only [B66_0, xSeq, i_push, i_load, i_iload, i_lload, i_dload, i_aload, i_istore, i_astore, i_lstore, i_dstore, i_iinc, i_ii, i_iiz, i_ll, i_llz, i_lli, i_li, i_i, i_l, i_i2l, i_l2i, i_dup, i_dup2, i_dup2w, i_dupx1, i_pop, i_pop2, i_goto, i_ifc, i_icmp, i_getI, i_getL, i_getR, i_putI, i_putZ, i_putL, i_putR, i_aldI, i_aldB, i_aldL, i_aldD, i_astI, i_astL, i_astD, i_alen, i_ret, i_iret, i_zret, i_lret, i_fret, i_dret, i_aret, i_invS0, i_invV0, i_m2, i_m1, i_ml, i_obj, lk, lkp, stf1, stf2, Value.category, rV, xTo, lv_args, xCk, xCat, xRc, xAk, hg_S, hg_I, hg_J, hg_D, hg_R, hs_I, hs_J, hs_D, hs_R, uI_at, uJ_at, uD_at, uR_at, List.take_succ_cons, List.take_zero, List.drop_succ_cons, List.drop_zero, List.reverse_cons, List.reverse_nil, List.nil_append, List.cons_append, List.map_cons, List.map_nil, List.sum_cons, List.sum_nil, List.length_cons, List.length_nil, Option.toList_some, Option.toList_none, true_and, and_true, false_and, and_false, true_implies, false_implies, implies_true, not_true_eq_false, not_false_eq_true, ne_eq, if_true, if_false, Bool.and_true, Bool.true_and, decide_true, decide_false, reduceIte, reduceCtorEq, Bool.and_self, Bool.and_eq_true, decide_eq_true_eq, and_self, true_or, or_true, false_or, or_false, Nat.zero_add, Nat.add_zero, eq_self, Nat.reduceEqDiff, Nat.reduceLeDiff, Nat.reduceLT, Nat.reduceAdd, Nat.reduceSub, Nat.reduceMul, e0, hs, i6, e3, eq_true c3]
    rw [e66_17]
    simp only [B66_17, xSeq, i_push, i_load, i_iload, i_lload, i_dload, i_aload, i_istore, i_astore, i_lstore, i_dstore, i_iinc, i_ii, i_iiz, i_ll, i_llz, i_lli, i_li, i_i, i_l, i_i2l, i_l2i, i_dup, i_dup2, i_dup2w, i_dupx1, i_pop, i_pop2, i_goto, i_ifc, i_icmp, i_getI, i_getL, i_getR, i_putI, i_putZ, i_putL, i_putR, i_aldI, i_aldB, i_aldL, i_aldD, i_astI, i_astL, i_astD, i_alen, i_ret, i_iret, i_zret, i_lret, i_fret, i_dret, i_aret, i_invS0, i_invV0, i_m2, i_m1, i_ml, i_obj, lk, lkp, stf1, stf2, Value.category, rV, xTo, lv_args, xCk, xCat, xRc, xAk, hg_S, hg_I, hg_J, hg_D, hg_R, hs_I, hs_J, hs_D, hs_R, uI_at, uJ_at, uD_at, uR_at, List.take_succ_cons, List.take_zero, List.drop_succ_cons, List.drop_zero, List.reverse_cons, List.reverse_nil, List.nil_append, List.cons_append, List.map_cons, List.map_nil, List.sum_cons, List.sum_nil, List.length_cons, List.length_nil, Option.toList_some, Option.toList_none, true_and, and_true, false_and, and_false, true_implies, false_implies, implies_true, not_true_eq_false, not_false_eq_true, ne_eq, if_true, if_false, Bool.and_true, Bool.true_and, decide_true, decide_false, reduceIte, reduceCtorEq, Bool.and_self, Bool.and_eq_true, decide_eq_true_eq, and_self, true_or, or_true, false_or, or_false, Nat.zero_add, Nat.add_zero, eq_self, Nat.reduceEqDiff, Nat.reduceLeDiff, Nat.reduceLT, Nat.reduceAdd, Nat.reduceSub, Nat.reduceMul, i1_0, hs]
    refine L58 h hc hk.2.1 (fun I' q3 q4 q5 => ?_)
    simp only [xSeq, i_push, i_load, i_iload, i_lload, i_dload, i_aload, i_istore, i_astore, i_lstore, i_dstore, i_iinc, i_ii, i_iiz, i_ll, i_llz, i_lli, i_li, i_i, i_l, i_i2l, i_l2i, i_dup, i_dup2, i_dup2w, i_dupx1, i_pop, i_pop2, i_goto, i_ifc, i_icmp, i_getI, i_getL, i_getR, i_putI, i_putZ, i_putL, i_putR, i_aldI, i_aldB, i_aldL, i_aldD, i_astI, i_astL, i_astD, i_alen, i_ret, i_iret, i_zret, i_lret, i_fret, i_dret, i_aret, i_invS0, i_invV0, i_m2, i_m1, i_ml, i_obj, lk, lkp, stf1, stf2, Value.category, rV, xTo, lv_args, xCk, xCat, xRc, xAk, hg_S, hg_I, hg_J, hg_D, hg_R, hs_I, hs_J, hs_D, hs_R, uI_at, uJ_at, uD_at, uR_at, List.take_succ_cons, List.take_zero, List.drop_succ_cons, List.drop_zero, List.reverse_cons, List.reverse_nil, List.nil_append, List.cons_append, List.map_cons, List.map_nil, List.sum_cons, List.sum_nil, List.length_cons, List.length_nil, Option.toList_some, Option.toList_none, true_and, and_true, false_and, and_false, true_implies, false_implies, implies_true, not_true_eq_false, not_false_eq_true, ne_eq, if_true, if_false, Bool.and_true, Bool.true_and, decide_true, decide_false, reduceIte, reduceCtorEq, Bool.and_self, Bool.and_eq_true, decide_eq_true_eq, and_self, true_or, or_true, false_or, or_false, Nat.zero_add, Nat.add_zero, eq_self, Nat.reduceEqDiff, Nat.reduceLeDiff, Nat.reduceLT, Nat.reduceAdd, Nat.reduceSub, Nat.reduceMul]
    have a := TK_adv (f := f) hk.2.1
    exact go I' (pAdv f k T) 1 (PC_c h q4) q3 a.1 q4 (by unfold pM; rw [if_pos c3]) (by rw [if_pos c3])
  · simp only [B66_0, xSeq, i_push, i_load, i_iload, i_lload, i_dload, i_aload, i_istore, i_astore, i_lstore, i_dstore, i_iinc, i_ii, i_iiz, i_ll, i_llz, i_lli, i_li, i_i, i_l, i_i2l, i_l2i, i_dup, i_dup2, i_dup2w, i_dupx1, i_pop, i_pop2, i_goto, i_ifc, i_icmp, i_getI, i_getL, i_getR, i_putI, i_putZ, i_putL, i_putR, i_aldI, i_aldB, i_aldL, i_aldD, i_astI, i_astL, i_astD, i_alen, i_ret, i_iret, i_zret, i_lret, i_fret, i_dret, i_aret, i_invS0, i_invV0, i_m2, i_m1, i_ml, i_obj, lk, lkp, stf1, stf2, Value.category, rV, xTo, lv_args, xCk, xCat, xRc, xAk, hg_S, hg_I, hg_J, hg_D, hg_R, hs_I, hs_J, hs_D, hs_R, uI_at, uJ_at, uD_at, uR_at, List.take_succ_cons, List.take_zero, List.drop_succ_cons, List.drop_zero, List.reverse_cons, List.reverse_nil, List.nil_append, List.cons_append, List.map_cons, List.map_nil, List.sum_cons, List.sum_nil, List.length_cons, List.length_nil, Option.toList_some, Option.toList_none, true_and, and_true, false_and, and_false, true_implies, false_implies, implies_true, not_true_eq_false, not_false_eq_true, ne_eq, if_true, if_false, Bool.and_true, Bool.true_and, decide_true, decide_false, reduceIte, reduceCtorEq, Bool.and_self, Bool.and_eq_true, decide_eq_true_eq, and_self, true_or, or_true, false_or, or_false, Nat.zero_add, Nat.add_zero, eq_self, Nat.reduceEqDiff, Nat.reduceLeDiff, Nat.reduceLT, Nat.reduceAdd, Nat.reduceSub, Nat.reduceMul, e0, hs, i6, e3, eq_false c3]
    rw [e66_16]
    simp only [B66_16, xSeq, i_push, i_load, i_iload, i_lload, i_dload, i_aload, i_istore, i_astore, i_lstore, i_dstore, i_iinc, i_ii, i_iiz, i_ll, i_llz, i_lli, i_li, i_i, i_l, i_i2l, i_l2i, i_dup, i_dup2, i_dup2w, i_dupx1, i_pop, i_pop2, i_goto, i_ifc, i_icmp, i_getI, i_getL, i_getR, i_putI, i_putZ, i_putL, i_putR, i_aldI, i_aldB, i_aldL, i_aldD, i_astI, i_astL, i_astD, i_alen, i_ret, i_iret, i_zret, i_lret, i_fret, i_dret, i_aret, i_invS0, i_invV0, i_m2, i_m1, i_ml, i_obj, lk, lkp, stf1, stf2, Value.category, rV, xTo, lv_args, xCk, xCat, xRc, xAk, hg_S, hg_I, hg_J, hg_D, hg_R, hs_I, hs_J, hs_D, hs_R, uI_at, uJ_at, uD_at, uR_at, List.take_succ_cons, List.take_zero, List.drop_succ_cons, List.drop_zero, List.reverse_cons, List.reverse_nil, List.nil_append, List.cons_append, List.map_cons, List.map_nil, List.sum_cons, List.sum_nil, List.length_cons, List.length_nil, Option.toList_some, Option.toList_none, true_and, and_true, false_and, and_false, true_implies, false_implies, implies_true, not_true_eq_false, not_false_eq_true, ne_eq, if_true, if_false, Bool.and_true, Bool.true_and, decide_true, decide_false, reduceIte, reduceCtorEq, Bool.and_self, Bool.and_eq_true, decide_eq_true_eq, and_self, true_or, or_true, false_or, or_false, Nat.zero_add, Nat.add_zero, eq_self, Nat.reduceEqDiff, Nat.reduceLeDiff, Nat.reduceLT, Nat.reduceAdd, Nat.reduceSub, Nat.reduceMul]
    rw [e66_17]
    simp only [B66_17, xSeq, i_push, i_load, i_iload, i_lload, i_dload, i_aload, i_istore, i_astore, i_lstore, i_dstore, i_iinc, i_ii, i_iiz, i_ll, i_llz, i_lli, i_li, i_i, i_l, i_i2l, i_l2i, i_dup, i_dup2, i_dup2w, i_dupx1, i_pop, i_pop2, i_goto, i_ifc, i_icmp, i_getI, i_getL, i_getR, i_putI, i_putZ, i_putL, i_putR, i_aldI, i_aldB, i_aldL, i_aldD, i_astI, i_astL, i_astD, i_alen, i_ret, i_iret, i_zret, i_lret, i_fret, i_dret, i_aret, i_invS0, i_invV0, i_m2, i_m1, i_ml, i_obj, lk, lkp, stf1, stf2, Value.category, rV, xTo, lv_args, xCk, xCat, xRc, xAk, hg_S, hg_I, hg_J, hg_D, hg_R, hs_I, hs_J, hs_D, hs_R, uI_at, uJ_at, uD_at, uR_at, List.take_succ_cons, List.take_zero, List.drop_succ_cons, List.drop_zero, List.reverse_cons, List.reverse_nil, List.nil_append, List.cons_append, List.map_cons, List.map_nil, List.sum_cons, List.sum_nil, List.length_cons, List.length_nil, Option.toList_some, Option.toList_none, true_and, and_true, false_and, and_false, true_implies, false_implies, implies_true, not_true_eq_false, not_false_eq_true, ne_eq, if_true, if_false, Bool.and_true, Bool.true_and, decide_true, decide_false, reduceIte, reduceCtorEq, Bool.and_self, Bool.and_eq_true, decide_eq_true_eq, and_self, true_or, or_true, false_or, or_false, Nat.zero_add, Nat.add_zero, eq_self, Nat.reduceEqDiff, Nat.reduceLeDiff, Nat.reduceLT, Nat.reduceAdd, Nat.reduceSub, Nat.reduceMul]
    exact go I T 0 h hc hk cf_r (by unfold pM; rw [if_neg c3]) (by rw [if_neg c3])
/-- one of three words -/
theorem L68 {w1 w2 w3 a1 a2 a3 : Nat} (h : PC o k f S I R) (hc : CT o k T I) (hk : TK f k T) (W1 : WD S I R w1 (xTb a1)) (W2 : WD S I R w2 (xTb a2)) (W3 : WD S I R w3 (xTb a3)) (kk : ∀ I', CO o k (pCh f k a1 a2 a3 T).1 (pCh f k a1 a2 a3 T).2.2 I' → cf o I I' → ((pCh f k a1 a2 a3 T).1 = 0 → I' o 8 = nI (pCh f k a1 a2 a3 T).2.1) → Q (.ok (some (.int (if (pCh f k a1 a2 a3 T).1 = 0 then 1 else 0)))) (S, I', J, D, R) b) :
    xRun xT 68 0 [(0, .ref o), (1, .ref w1), (2, .ref w2), (3, .ref w3)] [] (S, I, J, D, R) b Q := by
  have hs := h.1.1
  have fin : ∀ t : Nat, pCh f k a1 a2 a3 T = (0, t, pAdv f k T) → xRun xT 68 54 [(0, .ref o)] [] (S, uI I o 8 (nI t), J, D, R) b Q := fun t e => by
    rw [e68_54]
    simp only [B68_54, xSeq, i_push, i_load, i_iload, i_lload, i_dload, i_aload, i_istore, i_astore, i_lstore, i_dstore, i_iinc, i_ii, i_iiz, i_ll, i_llz, i_lli, i_li, i_i, i_l, i_i2l, i_l2i, i_dup, i_dup2, i_dup2w, i_dupx1, i_pop, i_pop2, i_goto, i_ifc, i_icmp, i_getI, i_getL, i_getR, i_putI, i_putZ, i_putL, i_putR, i_aldI, i_aldB, i_aldL, i_aldD, i_astI, i_astL, i_astD, i_alen, i_ret, i_iret, i_zret, i_lret, i_fret, i_dret, i_aret, i_invS0, i_invV0, i_m2, i_m1, i_ml, i_obj, lk, lkp, stf1, stf2, Value.category, rV, xTo, lv_args, xCk, xCat, xRc, xAk, hg_S, hg_I, hg_J, hg_D, hg_R, hs_I, hs_J, hs_D, hs_R, uI_at, uJ_at, uD_at, uR_at, List.take_succ_cons, List.take_zero, List.drop_succ_cons, List.drop_zero, List.reverse_cons, List.reverse_nil, List.nil_append, List.cons_append, List.map_cons, List.map_nil, List.sum_cons, List.sum_nil, List.length_cons, List.length_nil, Option.toList_some, Option.toList_none, true_and, and_true, false_and, and_false, true_implies, false_implies, implies_true, not_true_eq_false, not_false_eq_true, ne_eq, if_true, if_false, Bool.and_true, Bool.true_and, decide_true, decide_false, reduceIte, reduceCtorEq, Bool.and_self, Bool.and_eq_true, decide_eq_true_eq, and_self, true_or, or_true, false_or, or_false, Nat.zero_add, Nat.add_zero, eq_self, Nat.reduceEqDiff, Nat.reduceLeDiff, Nat.reduceLT, Nat.reduceAdd, Nat.reduceSub, Nat.reduceMul, hs]
    refine L58 (PC_u h h.2.1) (CT_8 hc) hk.2.1 (fun I' q3 q4 q5 => ?_)
    simp only [xSeq, i_push, i_load, i_iload, i_lload, i_dload, i_aload, i_istore, i_astore, i_lstore, i_dstore, i_iinc, i_ii, i_iiz, i_ll, i_llz, i_lli, i_li, i_i, i_l, i_i2l, i_l2i, i_dup, i_dup2, i_dup2w, i_dupx1, i_pop, i_pop2, i_goto, i_ifc, i_icmp, i_getI, i_getL, i_getR, i_putI, i_putZ, i_putL, i_putR, i_aldI, i_aldB, i_aldL, i_aldD, i_astI, i_astL, i_astD, i_alen, i_ret, i_iret, i_zret, i_lret, i_fret, i_dret, i_aret, i_invS0, i_invV0, i_m2, i_m1, i_ml, i_obj, lk, lkp, stf1, stf2, Value.category, rV, xTo, lv_args, xCk, xCat, xRc, xAk, hg_S, hg_I, hg_J, hg_D, hg_R, hs_I, hs_J, hs_D, hs_R, uI_at, uJ_at, uD_at, uR_at, List.take_succ_cons, List.take_zero, List.drop_succ_cons, List.drop_zero, List.reverse_cons, List.reverse_nil, List.nil_append, List.cons_append, List.map_cons, List.map_nil, List.sum_cons, List.sum_nil, List.length_cons, List.length_nil, Option.toList_some, Option.toList_none, true_and, and_true, false_and, and_false, true_implies, false_implies, implies_true, not_true_eq_false, not_false_eq_true, ne_eq, if_true, if_false, Bool.and_true, Bool.true_and, decide_true, decide_false, reduceIte, reduceCtorEq, Bool.and_self, Bool.and_eq_true, decide_eq_true_eq, and_self, true_or, or_true, false_or, or_false, Nat.zero_add, Nat.add_zero, eq_self, Nat.reduceEqDiff, Nat.reduceLeDiff, Nat.reduceLT, Nat.reduceAdd, Nat.reduceSub, Nat.reduceMul]
    have := kk I'
    rw [e] at this
    exact this ⟨fun _ => q3, fun n => absurd rfl n⟩ (cf_t (cf_u ⟨Nat.le_refl _, by omega⟩) q4) (fun _ => by rw [q5, uI_at, if_pos ⟨rfl, rfl⟩])
  rw [e68_0]
  simp only [B68_0, xSeq, i_push, i_load, i_iload, i_lload, i_dload, i_aload, i_istore, i_astore, i_lstore, i_dstore, i_iinc, i_ii, i_iiz, i_ll, i_llz, i_lli, i_li, i_i, i_l, i_i2l, i_l2i, i_dup, i_dup2, i_dup2w, i_dupx1, i_pop, i_pop2, i_goto, i_ifc, i_icmp, i_getI, i_getL, i_getR, i_putI, i_putZ, i_putL, i_putR, i_aldI, i_aldB, i_aldL, i_aldD, i_astI, i_astL, i_astD, i_alen, i_ret, i_iret, i_zret, i_lret, i_fret, i_dret, i_aret, i_invS0, i_invV0, i_m2, i_m1, i_ml, i_obj, lk, lkp, stf1, stf2, Value.category, rV, xTo, lv_args, xCk, xCat, xRc, xAk, hg_S, hg_I, hg_J, hg_D, hg_R, hs_I, hs_J, hs_D, hs_R, uI_at, uJ_at, uD_at, uR_at, List.take_succ_cons, List.take_zero, List.drop_succ_cons, List.drop_zero, List.reverse_cons, List.reverse_nil, List.nil_append, List.cons_append, List.map_cons, List.map_nil, List.sum_cons, List.sum_nil, List.length_cons, List.length_nil, Option.toList_some, Option.toList_none, true_and, and_true, false_and, and_false, true_implies, false_implies, implies_true, not_true_eq_false, not_false_eq_true, ne_eq, if_true, if_false, Bool.and_true, Bool.true_and, decide_true, decide_false, reduceIte, reduceCtorEq, Bool.and_self, Bool.and_eq_true, decide_eq_true_eq, and_self, true_or, or_true, false_or, or_false, Nat.zero_add, Nat.add_zero, eq_self, Nat.reduceEqDiff, Nat.reduceLeDiff, Nat.reduceLT, Nat.reduceAdd, Nat.reduceSub, Nat.reduceMul, hs]
  refine L61 h hc hk W1 ?_
  by_cases c1 : wQ f (xTb a1) T = true
  · simp only [c1, xSeq, i_push, i_load, i_iload, i_lload, i_dload, i_aload, i_istore, i_astore, i_lstore, i_dstore, i_iinc, i_ii, i_iiz, i_ll, i_llz, i_lli, i_li, i_i, i_l, i_i2l, i_l2i, i_dup, i_dup2, i_dup2w, i_dupx1, i_pop, i_pop2, i_goto, i_ifc, i_icmp, i_getI, i_getL, i_getR, i_putI, i_putZ, i_putL, i_putR, i_aldI, i_aldB, i_aldL, i_aldD, i_astI, i_astL, i_astD, i_alen, i_ret, i_iret, i_zret, i_lret, i_fret, i_dret, i_aret, i_invS0, i_invV0, i_m2, i_m1, i_ml, i_obj, lk, lkp, stf1, stf2, Value.category, rV, xTo, lv_args, xCk, xCat, xRc, xAk, hg_S, hg_I, hg_J, hg_D, hg_R, hs_I, hs_J, hs_D, hs_R, uI_at, uJ_at, uD_at, uR_at, List.take_succ_cons, List.take_zero, List.drop_succ_cons, List.drop_zero, List.reverse_cons, List.reverse_nil, List.nil_append, List.cons_append, List.map_cons, List.map_nil, List.sum_cons, List.sum_nil, List.length_cons, List.length_nil, Option.toList_some, Option.toList_none, true_and, and_true, false_and, and_false, true_implies, false_implies, implies_true, not_true_eq_false, not_false_eq_true, ne_eq, if_true, if_false, Bool.and_true, Bool.true_and, decide_true, decide_false, reduceIte, reduceCtorEq, Bool.and_self, Bool.and_eq_true, decide_eq_true_eq, and_self, true_or, or_true, false_or, or_false, Nat.zero_add, Nat.add_zero, eq_self, Nat.reduceEqDiff, Nat.reduceLeDiff, Nat.reduceLT, Nat.reduceAdd, Nat.reduceSub, Nat.reduceMul, hs, i1_0]
    exact fin 0 (by unfold pCh; rw [if_pos c1])
  · simp only [c1, xSeq, i_push, i_load, i_iload, i_lload, i_dload, i_aload, i_istore, i_astore, i_lstore, i_dstore, i_iinc, i_ii, i_iiz, i_ll, i_llz, i_lli, i_li, i_i, i_l, i_i2l, i_l2i, i_dup, i_dup2, i_dup2w, i_dupx1, i_pop, i_pop2, i_goto, i_ifc, i_icmp, i_getI, i_getL, i_getR, i_putI, i_putZ, i_putL, i_putR, i_aldI, i_aldB, i_aldL, i_aldD, i_astI, i_astL, i_astD, i_alen, i_ret, i_iret, i_zret, i_lret, i_fret, i_dret, i_aret, i_invS0, i_invV0, i_m2, i_m1, i_ml, i_obj, lk, lkp, stf1, stf2, Value.category, rV, xTo, lv_args, xCk, xCat, xRc, xAk, hg_S, hg_I, hg_J, hg_D, hg_R, hs_I, hs_J, hs_D, hs_R, uI_at, uJ_at, uD_at, uR_at, List.take_succ_cons, List.take_zero, List.drop_succ_cons, List.drop_zero, List.reverse_cons, List.reverse_nil, List.nil_append, List.cons_append, List.map_cons, List.map_nil, List.sum_cons, List.sum_nil, List.length_cons, List.length_nil, Option.toList_some, Option.toList_none, true_and, and_true, false_and, and_false, true_implies, false_implies, implies_true, not_true_eq_false, not_false_eq_true, ne_eq, if_true, if_false, Bool.and_true, Bool.true_and, decide_true, decide_false, reduceIte, reduceCtorEq, Bool.and_self, Bool.and_eq_true, decide_eq_true_eq, and_self, true_or, or_true, false_or, or_false, Nat.zero_add, Nat.add_zero, eq_self, Nat.reduceEqDiff, Nat.reduceLeDiff, Nat.reduceLT, Nat.reduceAdd, Nat.reduceSub, Nat.reduceMul, Bool.false_eq_true]
    rw [e68_16]
    simp only [B68_16, xSeq, i_push, i_load, i_iload, i_lload, i_dload, i_aload, i_istore, i_astore, i_lstore, i_dstore, i_iinc, i_ii, i_iiz, i_ll, i_llz, i_lli, i_li, i_i, i_l, i_i2l, i_l2i, i_dup, i_dup2, i_dup2w, i_dupx1, i_pop, i_pop2, i_goto, i_ifc, i_icmp, i_getI, i_getL, i_getR, i_putI, i_putZ, i_putL, i_putR, i_aldI, i_aldB, i_aldL, i_aldD, i_astI, i_astL, i_astD, i_alen, i_ret, i_iret, i_zret, i_lret, i_fret, i_dret, i_aret, i_invS0, i_invV0, i_m2, i_m1, i_ml, i_obj, lk, lkp, stf1, stf2, Value.category, rV, xTo, lv_args, xCk, xCat, xRc, xAk, hg_S, hg_I, hg_J, hg_D, hg_R, hs_I, hs_J, hs_D, hs_R, uI_at, uJ_at, uD_at, uR_at, List.take_succ_cons, List.take_zero, List.drop_succ_cons, List.drop_zero, List.reverse_cons, List.reverse_nil, List.nil_append, List.cons_append, List.map_cons, List.map_nil, List.sum_cons, List.sum_nil, List.length_cons, List.length_nil, Option.toList_some, Option.toList_none, true_and, and_true, false_and, and_false, true_implies, false_implies, implies_true, not_true_eq_false, not_false_eq_true, ne_eq, if_true, if_false, Bool.and_true, Bool.true_and, decide_true, decide_false, reduceIte, reduceCtorEq, Bool.and_self, Bool.and_eq_true, decide_eq_true_eq, and_self, true_or, or_true, false_or, or_false, Nat.zero_add, Nat.add_zero, eq_self, Nat.reduceEqDiff, Nat.reduceLeDiff, Nat.reduceLT, Nat.reduceAdd, Nat.reduceSub, Nat.reduceMul, hs]
    refine L61 h hc hk W2 ?_
    by_cases c2 : wQ f (xTb a2) T = true
    · simp only [c2, xSeq, i_push, i_load, i_iload, i_lload, i_dload, i_aload, i_istore, i_astore, i_lstore, i_dstore, i_iinc, i_ii, i_iiz, i_ll, i_llz, i_lli, i_li, i_i, i_l, i_i2l, i_l2i, i_dup, i_dup2, i_dup2w, i_dupx1, i_pop, i_pop2, i_goto, i_ifc, i_icmp, i_getI, i_getL, i_getR, i_putI, i_putZ, i_putL, i_putR, i_aldI, i_aldB, i_aldL, i_aldD, i_astI, i_astL, i_astD, i_alen, i_ret, i_iret, i_zret, i_lret, i_fret, i_dret, i_aret, i_invS0, i_invV0, i_m2, i_m1, i_ml, i_obj, lk, lkp, stf1, stf2, Value.category, rV, xTo, lv_args, xCk, xCat, xRc, xAk, hg_S, hg_I, hg_J, hg_D, hg_R, hs_I, hs_J, hs_D, hs_R, uI_at, uJ_at, uD_at, uR_at, List.take_succ_cons, List.take_zero, List.drop_succ_cons, List.drop_zero, List.reverse_cons, List.reverse_nil, List.nil_append, List.cons_append, List.map_cons, List.map_nil, List.sum_cons, List.sum_nil, List.length_cons, List.length_nil, Option.toList_some, Option.toList_none, true_and, and_true, false_and, and_false, true_implies, false_implies, implies_true, not_true_eq_false, not_false_eq_true, ne_eq, if_true, if_false, Bool.and_true, Bool.true_and, decide_true, decide_false, reduceIte, reduceCtorEq, Bool.and_self, Bool.and_eq_true, decide_eq_true_eq, and_self, true_or, or_true, false_or, or_false, Nat.zero_add, Nat.add_zero, eq_self, Nat.reduceEqDiff, Nat.reduceLeDiff, Nat.reduceLT, Nat.reduceAdd, Nat.reduceSub, Nat.reduceMul, hs, i1_0]
      exact fin 1 (by unfold pCh; rw [if_neg c1, if_pos c2])
    · simp only [c2, xSeq, i_push, i_load, i_iload, i_lload, i_dload, i_aload, i_istore, i_astore, i_lstore, i_dstore, i_iinc, i_ii, i_iiz, i_ll, i_llz, i_lli, i_li, i_i, i_l, i_i2l, i_l2i, i_dup, i_dup2, i_dup2w, i_dupx1, i_pop, i_pop2, i_goto, i_ifc, i_icmp, i_getI, i_getL, i_getR, i_putI, i_putZ, i_putL, i_putR, i_aldI, i_aldB, i_aldL, i_aldD, i_astI, i_astL, i_astD, i_alen, i_ret, i_iret, i_zret, i_lret, i_fret, i_dret, i_aret, i_invS0, i_invV0, i_m2, i_m1, i_ml, i_obj, lk, lkp, stf1, stf2, Value.category, rV, xTo, lv_args, xCk, xCat, xRc, xAk, hg_S, hg_I, hg_J, hg_D, hg_R, hs_I, hs_J, hs_D, hs_R, uI_at, uJ_at, uD_at, uR_at, List.take_succ_cons, List.take_zero, List.drop_succ_cons, List.drop_zero, List.reverse_cons, List.reverse_nil, List.nil_append, List.cons_append, List.map_cons, List.map_nil, List.sum_cons, List.sum_nil, List.length_cons, List.length_nil, Option.toList_some, Option.toList_none, true_and, and_true, false_and, and_false, true_implies, false_implies, implies_true, not_true_eq_false, not_false_eq_true, ne_eq, if_true, if_false, Bool.and_true, Bool.true_and, decide_true, decide_false, reduceIte, reduceCtorEq, Bool.and_self, Bool.and_eq_true, decide_eq_true_eq, and_self, true_or, or_true, false_or, or_false, Nat.zero_add, Nat.add_zero, eq_self, Nat.reduceEqDiff, Nat.reduceLeDiff, Nat.reduceLT, Nat.reduceAdd, Nat.reduceSub, Nat.reduceMul, Bool.false_eq_true]
      rw [e68_32]
      simp only [B68_32, xSeq, i_push, i_load, i_iload, i_lload, i_dload, i_aload, i_istore, i_astore, i_lstore, i_dstore, i_iinc, i_ii, i_iiz, i_ll, i_llz, i_lli, i_li, i_i, i_l, i_i2l, i_l2i, i_dup, i_dup2, i_dup2w, i_dupx1, i_pop, i_pop2, i_goto, i_ifc, i_icmp, i_getI, i_getL, i_getR, i_putI, i_putZ, i_putL, i_putR, i_aldI, i_aldB, i_aldL, i_aldD, i_astI, i_astL, i_astD, i_alen, i_ret, i_iret, i_zret, i_lret, i_fret, i_dret, i_aret, i_invS0, i_invV0, i_m2, i_m1, i_ml, i_obj, lk, lkp, stf1, stf2, Value.category, rV, xTo, lv_args, xCk, xCat, xRc, xAk, hg_S, hg_I, hg_J, hg_D, hg_R, hs_I, hs_J, hs_D, hs_R, uI_at, uJ_at, uD_at, uR_at, List.take_succ_cons, List.take_zero, List.drop_succ_cons, List.drop_zero, List.reverse_cons, List.reverse_nil, List.nil_append, List.cons_append, List.map_cons, List.map_nil, List.sum_cons, List.sum_nil, List.length_cons, List.length_nil, Option.toList_some, Option.toList_none, true_and, and_true, false_and, and_false, true_implies, false_implies, implies_true, not_true_eq_false, not_false_eq_true, ne_eq, if_true, if_false, Bool.and_true, Bool.true_and, decide_true, decide_false, reduceIte, reduceCtorEq, Bool.and_self, Bool.and_eq_true, decide_eq_true_eq, and_self, true_or, or_true, false_or, or_false, Nat.zero_add, Nat.add_zero, eq_self, Nat.reduceEqDiff, Nat.reduceLeDiff, Nat.reduceLT, Nat.reduceAdd, Nat.reduceSub, Nat.reduceMul, hs]
      refine L61 h hc hk W3 ?_
      by_cases c3 : wQ f (xTb a3) T = true
      · simp only [c3, xSeq, i_push, i_load, i_iload, i_lload, i_dload, i_aload, i_istore, i_astore, i_lstore, i_dstore, i_iinc, i_ii, i_iiz, i_ll, i_llz, i_lli, i_li, i_i, i_l, i_i2l, i_l2i, i_dup, i_dup2, i_dup2w, i_dupx1, i_pop, i_pop2, i_goto, i_ifc, i_icmp, i_getI, i_getL, i_getR, i_putI, i_putZ, i_putL, i_putR, i_aldI, i_aldB, i_aldL, i_aldD, i_astI, i_astL, i_astD, i_alen, i_ret, i_iret, i_zret, i_lret, i_fret, i_dret, i_aret, i_invS0, i_invV0, i_m2, i_m1, i_ml, i_obj, lk, lkp, stf1, stf2, Value.category, rV, xTo, lv_args, xCk, xCat, xRc, xAk, hg_S, hg_I, hg_J, hg_D, hg_R, hs_I, hs_J, hs_D, hs_R, uI_at, uJ_at, uD_at, uR_at, List.take_succ_cons, List.take_zero, List.drop_succ_cons, List.drop_zero, List.reverse_cons, List.reverse_nil, List.nil_append, List.cons_append, List.map_cons, List.map_nil, List.sum_cons, List.sum_nil, List.length_cons, List.length_nil, Option.toList_some, Option.toList_none, true_and, and_true, false_and, and_false, true_implies, false_implies, implies_true, not_true_eq_false, not_false_eq_true, ne_eq, if_true, if_false, Bool.and_true, Bool.true_and, decide_true, decide_false, reduceIte, reduceCtorEq, Bool.and_self, Bool.and_eq_true, decide_eq_true_eq, and_self, true_or, or_true, false_or, or_false, Nat.zero_add, Nat.add_zero, eq_self, Nat.reduceEqDiff, Nat.reduceLeDiff, Nat.reduceLT, Nat.reduceAdd, Nat.reduceSub, Nat.reduceMul, hs, i1_0]
        exact fin 2 (by unfold pCh; rw [if_neg c1, if_neg c2, if_pos c3])
      · have e : pCh f k a1 a2 a3 T = (1, 0, T) := by unfold pCh; rw [if_neg c1, if_neg c2, if_neg c3]
        obtain ⟨q1, q2⟩ := CO_f hc (e := 1) (by decide)
        simp only [c3, xSeq, i_push, i_load, i_iload, i_lload, i_dload, i_aload, i_istore, i_astore, i_lstore, i_dstore, i_iinc, i_ii, i_iiz, i_ll, i_llz, i_lli, i_li, i_i, i_l, i_i2l, i_l2i, i_dup, i_dup2, i_dup2w, i_dupx1, i_pop, i_pop2, i_goto, i_ifc, i_icmp, i_getI, i_getL, i_getR, i_putI, i_putZ, i_putL, i_putR, i_aldI, i_aldB, i_aldL, i_aldD, i_astI, i_astL, i_astD, i_alen, i_ret, i_iret, i_zret, i_lret, i_fret, i_dret, i_aret, i_invS0, i_invV0, i_m2, i_m1, i_ml, i_obj, lk, lkp, stf1, stf2, Value.category, rV, xTo, lv_args, xCk, xCat, xRc, xAk, hg_S, hg_I, hg_J, hg_D, hg_R, hs_I, hs_J, hs_D, hs_R, uI_at, uJ_at, uD_at, uR_at, List.take_succ_cons, List.take_zero, List.drop_succ_cons, List.drop_zero, List.reverse_cons, List.reverse_nil, List.nil_append, List.cons_append, List.map_cons, List.map_nil, List.sum_cons, List.sum_nil, List.length_cons, List.length_nil, Option.toList_some, Option.toList_none, true_and, and_true, false_and, and_false, true_implies, false_implies, implies_true, not_true_eq_false, not_false_eq_true, ne_eq, if_true, if_false, Bool.and_true, Bool.true_and, decide_true, decide_false, reduceIte, reduceCtorEq, Bool.and_self, Bool.and_eq_true, decide_eq_true_eq, and_self, true_or, or_true, false_or, or_false, Nat.zero_add, Nat.add_zero, eq_self, Nat.reduceEqDiff, Nat.reduceLeDiff, Nat.reduceLT, Nat.reduceAdd, Nat.reduceSub, Nat.reduceMul, Bool.false_eq_true]
        rw [e68_48]
        simp only [B68_48, xSeq, i_push, i_load, i_iload, i_lload, i_dload, i_aload, i_istore, i_astore, i_lstore, i_dstore, i_iinc, i_ii, i_iiz, i_ll, i_llz, i_lli, i_li, i_i, i_l, i_i2l, i_l2i, i_dup, i_dup2, i_dup2w, i_dupx1, i_pop, i_pop2, i_goto, i_ifc, i_icmp, i_getI, i_getL, i_getR, i_putI, i_putZ, i_putL, i_putR, i_aldI, i_aldB, i_aldL, i_aldD, i_astI, i_astL, i_astD, i_alen, i_ret, i_iret, i_zret, i_lret, i_fret, i_dret, i_aret, i_invS0, i_invV0, i_m2, i_m1, i_ml, i_obj, lk, lkp, stf1, stf2, Value.category, rV, xTo, lv_args, xCk, xCat, xRc, xAk, hg_S, hg_I, hg_J, hg_D, hg_R, hs_I, hs_J, hs_D, hs_R, uI_at, uJ_at, uD_at, uR_at, List.take_succ_cons, List.take_zero, List.drop_succ_cons, List.drop_zero, List.reverse_cons, List.reverse_nil, List.nil_append, List.cons_append, List.map_cons, List.map_nil, List.sum_cons, List.sum_nil, List.length_cons, List.length_nil, Option.toList_some, Option.toList_none, true_and, and_true, false_and, and_false, true_implies, false_implies, implies_true, not_true_eq_false, not_false_eq_true, ne_eq, if_true, if_false, Bool.and_true, Bool.true_and, decide_true, decide_false, reduceIte, reduceCtorEq, Bool.and_self, Bool.and_eq_true, decide_eq_true_eq, and_self, true_or, or_true, false_or, or_false, Nat.zero_add, Nat.add_zero, eq_self, Nat.reduceEqDiff, Nat.reduceLeDiff, Nat.reduceLT, Nat.reduceAdd, Nat.reduceSub, Nat.reduceMul, hs, R63 hs]
        have := kk (uI (uI I o 1 (nI 1)) o 2 (I o 7))
        rw [e] at this
        exact this q1 q2 (fun n => (by cases n))
end
