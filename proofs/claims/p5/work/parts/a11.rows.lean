/-! ===== rows made; samples taken: printed by a11.rows.py ===== -/
section
variable {g : xGd} {x x' : xSt} {sv : Option xSt} {k : Nat} {by' : Nat → Nat} {e1 e2 : Int32} {N P P' f f' : Nat} {S S' : xS} {I I' : xI} {J J' : xJ} {D D' : xDb} {R R' : xR} {b : Nat × Nat} {Q : xQ}
/-- places that things may be put at -/
abbrev pn (o : Nat) : Prop := (113 ≤ o ∧ o ≤ 115) ∨ (117 ≤ o ∧ o ≤ 119) ∨ (123 ≤ o ∧ o ≤ 125) ∨ (127 ≤ o ∧ o ≤ 129) ∨ (131 ≤ o ∧ o ≤ 136) ∨ (151 ≤ o ∧ o ≤ 156)
theorem LC_w (h : LC S R) (hS : ∀ o, o < 200 → ¬ pn o → S' o = S o) (hR : ∀ o j, o = 100 ∨ o = 102 ∨ o = 110 ∨ o = 120 → R' o j = R o j) (h130 : ∀ j, j = 0 ∨ 12 ≤ j → R' 130 j = R 130 j) : LC S' R' := by
  unfold LC at *
  rw [hS 100 (by decide) (by decide), hS 101 (by decide) (by decide), hS 102 (by decide) (by decide), hS 103 (by decide) (by decide), hS 104 (by decide) (by decide), hS 105 (by decide) (by decide), hS 106 (by decide) (by decide), hS 107 (by decide) (by decide), hS 108 (by decide) (by decide), hS 110 (by decide) (by decide), hS 111 (by decide) (by decide), hS 112 (by decide) (by decide), hS 116 (by decide) (by decide), hS 120 (by decide) (by decide), hS 121 (by decide) (by decide), hS 122 (by decide) (by decide), hS 126 (by decide) (by decide), hS 130 (by decide) (by decide), hS 137 (by decide) (by decide), hS 138 (by decide) (by decide), hS 139 (by decide) (by decide), hS 140 (by decide) (by decide)]
  rw [hR 100 0 (by decide), hR 100 4 (by decide), hR 100 5 (by decide), hR 100 6 (by decide), hR 100 8 (by decide), hR 100 9 (by decide), hR 102 5 (by decide), hR 102 6 (by decide), hR 102 7 (by decide), hR 102 8 (by decide), hR 102 9 (by decide), hR 102 10 (by decide), hR 110 0 (by decide), hR 110 1 (by decide), hR 110 2 (by decide), hR 110 3 (by decide), hR 120 0 (by decide), hR 120 1 (by decide), hR 120 2 (by decide), hR 120 3 (by decide), h130 0 (by decide), h130 12 (by decide), h130 13 (by decide), h130 14 (by decide)]
  exact h
theorem AC_al (h : AC g x sv k by' e1 e2 P f S I J R) (hL : LC S' R') (hI : ∀ o, (100 ≤ o ∧ o ≤ 104) ∨ o = 107 ∨ o = 108 ∨ (110 ≤ o ∧ o ≤ 112) ∨ (120 ≤ o ∧ o ≤ 122) → I' o = I o) (hJ : ∀ o, o = 102 ∨ o = 110 ∨ o = 120 → J' o = J o)
    (hc : ∀ i, i < stK x → J' 117 i = J 117 i ∧ I' 118 i = I 118 i) (hs : ∀ y, sv = some y → ∀ i, i < stK y → J' 127 i = J 127 i ∧ I' 128 i = I 128 i) (hx : I' 130 1 = 0 ∨ XL (gn g) (eG g x) S' I' R') (hr : RM P' f' S' I' R') : AC g x sv k by' e1 e2 P' f' S' I' J' R' := by
  obtain ⟨a1, ⟨⟨c1, c2, c3, c4, c5, c6⟩, a3, a4, a5⟩, ⟨d1, d2, d3, d4⟩, ⟨a7, a8⟩, ⟨a9, a10, a11, a12⟩, a13, p⟩ := h
  refine ⟨hL, ⟨⟨?_, ?_, ?_, ?_, ?_, ?_⟩, ?_, ?_, ?_⟩, ⟨?_, ?_, ?_, fun i hi => ?_⟩, ⟨?_, fun y hy => ?_⟩, ⟨?_, ?_, ?_, ?_⟩, hx, hr⟩
  · rw [hI 102 (by decide)]; exact c1
  · rw [hI 102 (by decide)]; exact c2
  · rw [hI 103 (by decide)]; exact c3
  · rw [hI 104 (by decide)]; exact c4
  · rw [hI 107 (by decide)]; exact c5
  · rw [hI 108 (by decide)]; exact c6
  · rw [hI 102 (by decide)]; exact a3
  · rw [hI 102 (by decide)]; exact a4
  · rw [hJ 102 (by decide)]; exact a5
  · rw [hI 110 (by decide), hJ 110 (by decide)]; exact d1
  · rw [hI 111 (by decide)]; exact d2
  · rw [hI 112 (by decide)]; exact d3
  · rw [(hc i hi).1, (hc i hi).2]; exact d4 i hi
  · rw [hI 100 (by decide)]; exact a7
  · obtain ⟨y1, y2, y3, y4⟩ := a8 y hy
    refine ⟨?_, ?_, ?_, fun i hi => ?_⟩
    · rw [hI 120 (by decide), hJ 120 (by decide)]; exact y1
    · rw [hI 121 (by decide)]; exact y2
    · rw [hI 122 (by decide)]; exact y3
    · rw [(hs y hy i hi).1, (hs y hy i hi).2]; exact y4 i hi
  · rw [hI 100 (by decide)]; exact a9
  · rw [hI 101 (by decide)]; exact a10
  · rw [hI 100 (by decide)]; exact a11
  · rw [hI 100 (by decide)]; exact a12
def nS112 (S : xS) : xS := nF (nF S 117 (101, 10000)) 118 (100, 10000)
def nI112 (I : xI) : xI := zI (zI I 117) 118
def nJ112 (J : xJ) : xJ := zJ (zJ J 117) 118
def nD112 (D : xDb) : xDb := zD (zD D 117) 118
def nR112 (R : xR) : xR := uR (zR (uR (zR R 117) 112 1 (some 117)) 118) 112 2 (some 118)
theorem nS112_o {o : Nat} (h1 : o ≠ 117) (h2 : o ≠ 118) : nS112 S o = S o := by
  unfold nS112
  rw [nF_at, if_neg h2, nF_at, if_neg h1]
theorem nI112_o {o : Nat} (h1 : o ≠ 117) (h2 : o ≠ 118) : nI112 I o = I o := by
  funext j
  unfold nI112
  rw [zI_at, if_neg h2, zI_at, if_neg h1]
theorem nJ112_o {o : Nat} (h1 : o ≠ 117) (h2 : o ≠ 118) : nJ112 J o = J o := by
  funext j
  unfold nJ112
  rw [zJ_at, if_neg h2, zJ_at, if_neg h1]
theorem nR112_o {o j : Nat} (h1 : o ≠ 117) (h2 : o ≠ 118) (h3 : ¬ (o = 112 ∧ (j = 1 ∨ j = 2))) : nR112 R o j = R o j := by
  unfold nR112
  rw [uR_at, if_neg (fun e => h3 ⟨e.1, Or.inr e.2⟩), zR_at, if_neg h2, uR_at, if_neg (fun e => h3 ⟨e.1, Or.inl e.2⟩), zR_at, if_neg h1]
theorem nR112_p : nR112 R 112 1 = some 117 ∧ nR112 R 112 2 = some 118 ∧ nS112 S 117 = (101, 10000) ∧ nS112 S 118 = (100, 10000) := by
  unfold nR112 nS112
  refine ⟨?_, ?_, ?_, ?_⟩ <;> simp only [uR_at, zR_at, nF_at, true_and, and_true, false_and, and_false, true_implies, false_implies, implies_true, not_true_eq_false, not_false_eq_true, ne_eq, if_true, if_false, Bool.and_true, Bool.true_and, decide_true, decide_false, reduceIte, reduceCtorEq, Bool.and_self, Bool.and_eq_true, decide_eq_true_eq, and_self, true_or, or_true, false_or, or_false, Nat.zero_add, Nat.add_zero, eq_self, Nat.reduceEqDiff, Nat.reduceLeDiff, Nat.reduceLT, Nat.reduceAdd, Nat.reduceSub, Nat.reduceMul]
theorem L40m112 {u : Nat} (hS : S 112 = (4, 0)) (hR : R 112 1 = some u) (hu : S u = (101, 0)) (h2 : S 117 = (0, 0)) (h3 : S 118 = (0, 0)) (b1 : 2 ≤ b.1) (b2 : 20000 ≤ b.2)
    (kk : ∀ b', Q (.ok none) (nS112 S, nI112 I, nJ112 J, nD112 D, nR112 R) b') : xRun xT 40 0 [(0, .ref 112)] [] (S, I, J, D, R) b Q := by
  have z0 : ((0 : Int32) = 0) = True := eq_self 0
  rw [e40_0]
  simp only [B40_0, xSeq, i_push, i_load, i_iload, i_lload, i_dload, i_aload, i_istore, i_astore, i_lstore, i_dstore, i_iinc, i_ii, i_iiz, i_ll, i_llz, i_lli, i_li, i_i, i_l, i_i2l, i_l2i, i_dup, i_dup2, i_dup2w, i_dupx1, i_pop, i_pop2, i_goto, i_ifc, i_icmp, i_getI, i_getL, i_getR, i_putI, i_putZ, i_putL, i_putR, i_aldI, i_aldB, i_aldL, i_aldD, i_astI, i_astL, i_astD, i_alen, i_ret, i_iret, i_zret, i_lret, i_fret, i_dret, i_aret, i_invS0, i_invV0, i_m2, i_m1, i_ml, i_obj, lk, lkp, stf1, stf2, Value.category, rV, xTo, lv_args, xCk, xCat, xRc, xAk, hg_S, hg_I, hg_J, hg_D, hg_R, hs_I, hs_J, hs_D, hs_R, uI_at, uJ_at, uD_at, uR_at, List.take_succ_cons, List.take_zero, List.drop_succ_cons, List.drop_zero, List.reverse_cons, List.reverse_nil, List.nil_append, List.cons_append, List.map_cons, List.map_nil, List.sum_cons, List.sum_nil, List.length_cons, List.length_nil, Option.toList_some, Option.toList_none, true_and, and_true, false_and, and_false, true_implies, false_implies, implies_true, not_true_eq_false, not_false_eq_true, ne_eq, if_true, if_false, Bool.and_true, Bool.true_and, decide_true, decide_false, reduceIte, reduceCtorEq, Bool.and_self, Bool.and_eq_true, decide_eq_true_eq, and_self, true_or, or_true, false_or, or_false, Nat.zero_add, Nat.add_zero, eq_self, Nat.reduceEqDiff, Nat.reduceLeDiff, Nat.reduceLT, Nat.reduceAdd, Nat.reduceSub, Nat.reduceMul, hS, hR, hu, nI_0]
  refine w_newa 117 10000 (by decide) (by decide) (by decide) (by omega) (by omega) (by rw [h2]) (by decide) ?_
  simp only [xSeq, i_push, i_load, i_iload, i_lload, i_dload, i_aload, i_istore, i_astore, i_lstore, i_dstore, i_iinc, i_ii, i_iiz, i_ll, i_llz, i_lli, i_li, i_i, i_l, i_i2l, i_l2i, i_dup, i_dup2, i_dup2w, i_dupx1, i_pop, i_pop2, i_goto, i_ifc, i_icmp, i_getI, i_getL, i_getR, i_putI, i_putZ, i_putL, i_putR, i_aldI, i_aldB, i_aldL, i_aldD, i_astI, i_astL, i_astD, i_alen, i_ret, i_iret, i_zret, i_lret, i_fret, i_dret, i_aret, i_invS0, i_invV0, i_m2, i_m1, i_ml, i_obj, lk, lkp, stf1, stf2, Value.category, rV, xTo, lv_args, xCk, xCat, xRc, xAk, hg_S, hg_I, hg_J, hg_D, hg_R, hs_I, hs_J, hs_D, hs_R, uI_at, uJ_at, uD_at, uR_at, List.take_succ_cons, List.take_zero, List.drop_succ_cons, List.drop_zero, List.reverse_cons, List.reverse_nil, List.nil_append, List.cons_append, List.map_cons, List.map_nil, List.sum_cons, List.sum_nil, List.length_cons, List.length_nil, Option.toList_some, Option.toList_none, true_and, and_true, false_and, and_false, true_implies, false_implies, implies_true, not_true_eq_false, not_false_eq_true, ne_eq, if_true, if_false, Bool.and_true, Bool.true_and, decide_true, decide_false, reduceIte, reduceCtorEq, Bool.and_self, Bool.and_eq_true, decide_eq_true_eq, and_self, true_or, or_true, false_or, or_false, Nat.zero_add, Nat.add_zero, eq_self, Nat.reduceEqDiff, Nat.reduceLeDiff, Nat.reduceLT, Nat.reduceAdd, Nat.reduceSub, Nat.reduceMul, nF_at, zI_at, zJ_at, zD_at, zR_at, hS]
  refine w_newa 118 10000 (by decide) (by decide) (by decide) (by omega) (by omega) (by simp only [nF_at, true_and, and_true, false_and, and_false, true_implies, false_implies, implies_true, not_true_eq_false, not_false_eq_true, ne_eq, if_true, if_false, Bool.and_true, Bool.true_and, decide_true, decide_false, reduceIte, reduceCtorEq, Bool.and_self, Bool.and_eq_true, decide_eq_true_eq, and_self, true_or, or_true, false_or, or_false, Nat.zero_add, Nat.add_zero, eq_self, Nat.reduceEqDiff, Nat.reduceLeDiff, Nat.reduceLT, Nat.reduceAdd, Nat.reduceSub, Nat.reduceMul, h3]) (by decide) ?_
  simp only [xSeq, i_push, i_load, i_iload, i_lload, i_dload, i_aload, i_istore, i_astore, i_lstore, i_dstore, i_iinc, i_ii, i_iiz, i_ll, i_llz, i_lli, i_li, i_i, i_l, i_i2l, i_l2i, i_dup, i_dup2, i_dup2w, i_dupx1, i_pop, i_pop2, i_goto, i_ifc, i_icmp, i_getI, i_getL, i_getR, i_putI, i_putZ, i_putL, i_putR, i_aldI, i_aldB, i_aldL, i_aldD, i_astI, i_astL, i_astD, i_alen, i_ret, i_iret, i_zret, i_lret, i_fret, i_dret, i_aret, i_invS0, i_invV0, i_m2, i_m1, i_ml, i_obj, lk, lkp, stf1, stf2, Value.category, rV, xTo, lv_args, xCk, xCat, xRc, xAk, hg_S, hg_I, hg_J, hg_D, hg_R, hs_I, hs_J, hs_D, hs_R, uI_at, uJ_at, uD_at, uR_at, List.take_succ_cons, List.take_zero, List.drop_succ_cons, List.drop_zero, List.reverse_cons, List.reverse_nil, List.nil_append, List.cons_append, List.map_cons, List.map_nil, List.sum_cons, List.sum_nil, List.length_cons, List.length_nil, Option.toList_some, Option.toList_none, true_and, and_true, false_and, and_false, true_implies, false_implies, implies_true, not_true_eq_false, not_false_eq_true, ne_eq, if_true, if_false, Bool.and_true, Bool.true_and, decide_true, decide_false, reduceIte, reduceCtorEq, Bool.and_self, Bool.and_eq_true, decide_eq_true_eq, and_self, true_or, or_true, false_or, or_false, Nat.zero_add, Nat.add_zero, eq_self, Nat.reduceEqDiff, Nat.reduceLeDiff, Nat.reduceLT, Nat.reduceAdd, Nat.reduceSub, Nat.reduceMul, nF_at, zI_at, zJ_at, zD_at, zR_at, hS]
  rw [e40_26]
  simp only [B40_26, xSeq, i_push, i_load, i_iload, i_lload, i_dload, i_aload, i_istore, i_astore, i_lstore, i_dstore, i_iinc, i_ii, i_iiz, i_ll, i_llz, i_lli, i_li, i_i, i_l, i_i2l, i_l2i, i_dup, i_dup2, i_dup2w, i_dupx1, i_pop, i_pop2, i_goto, i_ifc, i_icmp, i_getI, i_getL, i_getR, i_putI, i_putZ, i_putL, i_putR, i_aldI, i_aldB, i_aldL, i_aldD, i_astI, i_astL, i_astD, i_alen, i_ret, i_iret, i_zret, i_lret, i_fret, i_dret, i_aret, i_invS0, i_invV0, i_m2, i_m1, i_ml, i_obj, lk, lkp, stf1, stf2, Value.category, rV, xTo, lv_args, xCk, xCat, xRc, xAk, hg_S, hg_I, hg_J, hg_D, hg_R, hs_I, hs_J, hs_D, hs_R, uI_at, uJ_at, uD_at, uR_at, List.take_succ_cons, List.take_zero, List.drop_succ_cons, List.drop_zero, List.reverse_cons, List.reverse_nil, List.nil_append, List.cons_append, List.map_cons, List.map_nil, List.sum_cons, List.sum_nil, List.length_cons, List.length_nil, Option.toList_some, Option.toList_none, true_and, and_true, false_and, and_false, true_implies, false_implies, implies_true, not_true_eq_false, not_false_eq_true, ne_eq, if_true, if_false, Bool.and_true, Bool.true_and, decide_true, decide_false, reduceIte, reduceCtorEq, Bool.and_self, Bool.and_eq_true, decide_eq_true_eq, and_self, true_or, or_true, false_or, or_false, Nat.zero_add, Nat.add_zero, eq_self, Nat.reduceEqDiff, Nat.reduceLeDiff, Nat.reduceLT, Nat.reduceAdd, Nat.reduceSub, Nat.reduceMul]
  exact kk _
theorem R40p112 (hS : S 112 = (4, 0)) (hR : R 112 1 = some 117) (hu : S 117 = (101, 10000)) : xRun xT 40 0 [(0, .ref 112)] [] (S, I, J, D, R) b Q = Q (.ok none) (S, I, J, D, R) b := by
  have t : (nI 10000 = 0) = False := eq_false (by decide)
  rw [e40_0]
  simp only [B40_0, xSeq, i_push, i_load, i_iload, i_lload, i_dload, i_aload, i_istore, i_astore, i_lstore, i_dstore, i_iinc, i_ii, i_iiz, i_ll, i_llz, i_lli, i_li, i_i, i_l, i_i2l, i_l2i, i_dup, i_dup2, i_dup2w, i_dupx1, i_pop, i_pop2, i_goto, i_ifc, i_icmp, i_getI, i_getL, i_getR, i_putI, i_putZ, i_putL, i_putR, i_aldI, i_aldB, i_aldL, i_aldD, i_astI, i_astL, i_astD, i_alen, i_ret, i_iret, i_zret, i_lret, i_fret, i_dret, i_aret, i_invS0, i_invV0, i_m2, i_m1, i_ml, i_obj, lk, lkp, stf1, stf2, Value.category, rV, xTo, lv_args, xCk, xCat, xRc, xAk, hg_S, hg_I, hg_J, hg_D, hg_R, hs_I, hs_J, hs_D, hs_R, uI_at, uJ_at, uD_at, uR_at, List.take_succ_cons, List.take_zero, List.drop_succ_cons, List.drop_zero, List.reverse_cons, List.reverse_nil, List.nil_append, List.cons_append, List.map_cons, List.map_nil, List.sum_cons, List.sum_nil, List.length_cons, List.length_nil, Option.toList_some, Option.toList_none, true_and, and_true, false_and, and_false, true_implies, false_implies, implies_true, not_true_eq_false, not_false_eq_true, ne_eq, if_true, if_false, Bool.and_true, Bool.true_and, decide_true, decide_false, reduceIte, reduceCtorEq, Bool.and_self, Bool.and_eq_true, decide_eq_true_eq, and_self, true_or, or_true, false_or, or_false, Nat.zero_add, Nat.add_zero, eq_self, Nat.reduceEqDiff, Nat.reduceLeDiff, Nat.reduceLT, Nat.reduceAdd, Nat.reduceSub, Nat.reduceMul, hS, hR, hu, t, e40_26, B40_26]
/-- with rows for them -/
theorem AC_rows112 (h : AC g x sv k by' e1 e2 P f S I J R) (hm : R 112 1 = some 113) : 20002 ≤ P ∧ S 113 = (101, 0) ∧ S 117 = (0, 0) ∧ S 118 = (0, 0) ∧ AC g x sv k by' e1 e2 (P - 20002) f (nS112 S) (nI112 I) (nJ112 J) (nR112 R) := by
  have h' := h
  obtain ⟨a1, ⟨a2, a3, a4, a5⟩, a6, ⟨a7, a8⟩, ⟨a9, a10, a11, a12⟩, a13, p1, p2, p3, p4, p5, q0, q1, q2, q3, q4, q5⟩ := h'
  rcases q1 with ⟨r1, r2, r3, r4, r5, r6, r7, r8⟩ | ⟨r1, r2⟩
  · refine ⟨by omega, r2, r5, r6, AC_al h (LC_w a1 (fun o q1 q2 => nS112_o (by unfold pn at q2; omega) (by unfold pn at q2; omega)) (fun o j q => nR112_o (by omega) (by omega) (by omega)) (fun j _ => nR112_o (by decide) (by decide) (by omega))) (fun o q => nI112_o (by omega) (by omega)) (fun o q => nJ112_o (by omega) (by omega)) (fun i hi => ?_) (fun y hy i hi => ?_) ?_ ?_⟩
    · have e9 := a6.2.2.1.1
      rw [r7, show (0 : Int32) = nI 0 from rfl] at e9
      have := (nI_eq (by decide) (by have := a6.2.2.1.2; omega)).mp e9
      omega
    · rw [nJ112_o (by decide) (by decide), nI112_o (by decide) (by decide)]
      exact ⟨rfl, rfl⟩
    · rw [nI112_o (by decide) (by decide)]
      rcases a13 with a13 | a13
      · exact Or.inl a13
      · right
        unfold XL LE at *
        rw [nI112_o (by decide) (by decide), nI112_o (by decide) (by decide), nI112_o (by decide) (by decide), nI112_o (by decide) (by decide), nI112_o (by decide) (by decide), nS112_o (by decide) (by decide), nS112_o (by decide) (by decide), nS112_o (by decide) (by decide), nS112_o (by decide) (by decide), nS112_o (by decide) (by decide), nS112_o (by decide) (by decide), nR112_o (by decide) (by decide) (by decide), nR112_o (by decide) (by decide) (by decide), nR112_o (by decide) (by decide) (by decide), nR112_o (by decide) (by decide) (by decide), nR112_o (by decide) (by decide) (by decide), nR112_o (by decide) (by decide) (by decide)]
        exact a13
    · have eS : ∀ a, a ≠ 117 → a ≠ 118 → nS112 S a = S a := fun a q1 q2 => nS112_o q1 q2
      have eR : ∀ a, a ≠ 117 → a ≠ 118 → a ≠ 112 → nR112 R a = R a := fun a q1 q2 q3 => by funext j; exact nR112_o q1 q2 (by omega)
      refine ⟨0, p2, p3, p4, p5, by omega, Or.inr ⟨nR112_p (S := S).1, nR112_p (R := R).2.2.1, nR112_p (S := S).2.1, nR112_p (R := R).2.2.2⟩, SH_e q2 (fun a ha => eS a (by omega) (by omega)) (eR 122 (by decide) (by decide) (by decide)) (fun _ e => by rw [nI112_o (by decide) (by decide)]; exact e), ?_, ?_, ?_⟩
      · unfold ST at *
        rw [eS 115 (by decide) (by decide), eS 119 (by decide) (by decide), nR112_o (by decide) (by decide) (by decide)]
        exact q3
      · unfold SX LE at *
        rw [eS 131 (by decide) (by decide), eS 151 (by decide) (by decide), eS 152 (by decide) (by decide), eS 153 (by decide) (by decide), eS 154 (by decide) (by decide), eS 155 (by decide) (by decide), eS 156 (by decide) (by decide), eR 130 (by decide) (by decide) (by decide), nI112_o (by decide) (by decide)]
        rcases q4 with ⟨t1, t2, t3, t4, t5⟩ | t
        · exact Or.inl ⟨t1, t2, fun a b1 b2 => by rw [eS a (by omega) (by omega)]; exact t3 a b1 b2, t4, t5⟩
        · exact Or.inr t
      · obtain ⟨⟨v, cap, cnt, t1, t2, t3, t4, t5, t6⟩, b1, b2, b3⟩ := q5
        have n1 : v ≠ 117 := by omega
        have n2 : v ≠ 118 := by omega
        refine ⟨⟨v, cap, cnt, ?_, ?_, ?_, ?_, t5, ?_⟩, b1, b2, fun a w1 w2 => ?_⟩
        · rw [eR 140 (by decide) (by decide) (by decide)]; exact t1
        · rw [eS v n1 n2]; exact t2
        · rw [nI112_o (by decide) (by decide)]; exact t3
        · rw [nI112_o (by decide) (by decide)]; exact t4
        · rw [nI112_o n1 n2]; exact t6
        · rw [eS a (by omega) (by omega)]; exact b3 a w1 w2
  · rw [hm] at r1
    cases r1
def nS122 (S : xS) : xS := nF (nF S 127 (101, 10000)) 128 (100, 10000)
def nI122 (I : xI) : xI := zI (zI I 127) 128
def nJ122 (J : xJ) : xJ := zJ (zJ J 127) 128
def nD122 (D : xDb) : xDb := zD (zD D 127) 128
def nR122 (R : xR) : xR := uR (zR (uR (zR R 127) 122 1 (some 127)) 128) 122 2 (some 128)
theorem nS122_o {o : Nat} (h1 : o ≠ 127) (h2 : o ≠ 128) : nS122 S o = S o := by
  unfold nS122
  rw [nF_at, if_neg h2, nF_at, if_neg h1]
theorem nI122_o {o : Nat} (h1 : o ≠ 127) (h2 : o ≠ 128) : nI122 I o = I o := by
  funext j
  unfold nI122
  rw [zI_at, if_neg h2, zI_at, if_neg h1]
theorem nJ122_o {o : Nat} (h1 : o ≠ 127) (h2 : o ≠ 128) : nJ122 J o = J o := by
  funext j
  unfold nJ122
  rw [zJ_at, if_neg h2, zJ_at, if_neg h1]
theorem nR122_o {o j : Nat} (h1 : o ≠ 127) (h2 : o ≠ 128) (h3 : ¬ (o = 122 ∧ (j = 1 ∨ j = 2))) : nR122 R o j = R o j := by
  unfold nR122
  rw [uR_at, if_neg (fun e => h3 ⟨e.1, Or.inr e.2⟩), zR_at, if_neg h2, uR_at, if_neg (fun e => h3 ⟨e.1, Or.inl e.2⟩), zR_at, if_neg h1]
theorem nR122_p : nR122 R 122 1 = some 127 ∧ nR122 R 122 2 = some 128 ∧ nS122 S 127 = (101, 10000) ∧ nS122 S 128 = (100, 10000) := by
  unfold nR122 nS122
  refine ⟨?_, ?_, ?_, ?_⟩ <;> simp only [uR_at, zR_at, nF_at, true_and, and_true, false_and, and_false, true_implies, false_implies, implies_true, not_true_eq_false, not_false_eq_true, ne_eq, if_true, if_false, Bool.and_true, Bool.true_and, decide_true, decide_false, reduceIte, reduceCtorEq, Bool.and_self, Bool.and_eq_true, decide_eq_true_eq, and_self, true_or, or_true, false_or, or_false, Nat.zero_add, Nat.add_zero, eq_self, Nat.reduceEqDiff, Nat.reduceLeDiff, Nat.reduceLT, Nat.reduceAdd, Nat.reduceSub, Nat.reduceMul]
theorem L40m122 {u : Nat} (hS : S 122 = (4, 0)) (hR : R 122 1 = some u) (hu : S u = (101, 0)) (h2 : S 127 = (0, 0)) (h3 : S 128 = (0, 0)) (b1 : 2 ≤ b.1) (b2 : 20000 ≤ b.2)
    (kk : ∀ b', Q (.ok none) (nS122 S, nI122 I, nJ122 J, nD122 D, nR122 R) b') : xRun xT 40 0 [(0, .ref 122)] [] (S, I, J, D, R) b Q := by
  have z0 : ((0 : Int32) = 0) = True := eq_self 0
  rw [e40_0]
  simp only [B40_0, xSeq, i_push, i_load, i_iload, i_lload, i_dload, i_aload, i_istore, i_astore, i_lstore, i_dstore, i_iinc, i_ii, i_iiz, i_ll, i_llz, i_lli, i_li, i_i, i_l, i_i2l, i_l2i, i_dup, i_dup2, i_dup2w, i_dupx1, i_pop, i_pop2, i_goto, i_ifc, i_icmp, i_getI, i_getL, i_getR, i_putI, i_putZ, i_putL, i_putR, i_aldI, i_aldB, i_aldL, i_aldD, i_astI, i_astL, i_astD, i_alen, i_ret, i_iret, i_zret, i_lret, i_fret, i_dret, i_aret, i_invS0, i_invV0, i_m2, i_m1, i_ml, i_obj, lk, lkp, stf1, stf2, Value.category, rV, xTo, lv_args, xCk, xCat, xRc, xAk, hg_S, hg_I, hg_J, hg_D, hg_R, hs_I, hs_J, hs_D, hs_R, uI_at, uJ_at, uD_at, uR_at, List.take_succ_cons, List.take_zero, List.drop_succ_cons, List.drop_zero, List.reverse_cons, List.reverse_nil, List.nil_append, List.cons_append, List.map_cons, List.map_nil, List.sum_cons, List.sum_nil, List.length_cons, List.length_nil, Option.toList_some, Option.toList_none, true_and, and_true, false_and, and_false, true_implies, false_implies, implies_true, not_true_eq_false, not_false_eq_true, ne_eq, if_true, if_false, Bool.and_true, Bool.true_and, decide_true, decide_false, reduceIte, reduceCtorEq, Bool.and_self, Bool.and_eq_true, decide_eq_true_eq, and_self, true_or, or_true, false_or, or_false, Nat.zero_add, Nat.add_zero, eq_self, Nat.reduceEqDiff, Nat.reduceLeDiff, Nat.reduceLT, Nat.reduceAdd, Nat.reduceSub, Nat.reduceMul, hS, hR, hu, nI_0]
  refine w_newa 127 10000 (by decide) (by decide) (by decide) (by omega) (by omega) (by rw [h2]) (by decide) ?_
  simp only [xSeq, i_push, i_load, i_iload, i_lload, i_dload, i_aload, i_istore, i_astore, i_lstore, i_dstore, i_iinc, i_ii, i_iiz, i_ll, i_llz, i_lli, i_li, i_i, i_l, i_i2l, i_l2i, i_dup, i_dup2, i_dup2w, i_dupx1, i_pop, i_pop2, i_goto, i_ifc, i_icmp, i_getI, i_getL, i_getR, i_putI, i_putZ, i_putL, i_putR, i_aldI, i_aldB, i_aldL, i_aldD, i_astI, i_astL, i_astD, i_alen, i_ret, i_iret, i_zret, i_lret, i_fret, i_dret, i_aret, i_invS0, i_invV0, i_m2, i_m1, i_ml, i_obj, lk, lkp, stf1, stf2, Value.category, rV, xTo, lv_args, xCk, xCat, xRc, xAk, hg_S, hg_I, hg_J, hg_D, hg_R, hs_I, hs_J, hs_D, hs_R, uI_at, uJ_at, uD_at, uR_at, List.take_succ_cons, List.take_zero, List.drop_succ_cons, List.drop_zero, List.reverse_cons, List.reverse_nil, List.nil_append, List.cons_append, List.map_cons, List.map_nil, List.sum_cons, List.sum_nil, List.length_cons, List.length_nil, Option.toList_some, Option.toList_none, true_and, and_true, false_and, and_false, true_implies, false_implies, implies_true, not_true_eq_false, not_false_eq_true, ne_eq, if_true, if_false, Bool.and_true, Bool.true_and, decide_true, decide_false, reduceIte, reduceCtorEq, Bool.and_self, Bool.and_eq_true, decide_eq_true_eq, and_self, true_or, or_true, false_or, or_false, Nat.zero_add, Nat.add_zero, eq_self, Nat.reduceEqDiff, Nat.reduceLeDiff, Nat.reduceLT, Nat.reduceAdd, Nat.reduceSub, Nat.reduceMul, nF_at, zI_at, zJ_at, zD_at, zR_at, hS]
  refine w_newa 128 10000 (by decide) (by decide) (by decide) (by omega) (by omega) (by simp only [nF_at, true_and, and_true, false_and, and_false, true_implies, false_implies, implies_true, not_true_eq_false, not_false_eq_true, ne_eq, if_true, if_false, Bool.and_true, Bool.true_and, decide_true, decide_false, reduceIte, reduceCtorEq, Bool.and_self, Bool.and_eq_true, decide_eq_true_eq, and_self, true_or, or_true, false_or, or_false, Nat.zero_add, Nat.add_zero, eq_self, Nat.reduceEqDiff, Nat.reduceLeDiff, Nat.reduceLT, Nat.reduceAdd, Nat.reduceSub, Nat.reduceMul, h3]) (by decide) ?_
  simp only [xSeq, i_push, i_load, i_iload, i_lload, i_dload, i_aload, i_istore, i_astore, i_lstore, i_dstore, i_iinc, i_ii, i_iiz, i_ll, i_llz, i_lli, i_li, i_i, i_l, i_i2l, i_l2i, i_dup, i_dup2, i_dup2w, i_dupx1, i_pop, i_pop2, i_goto, i_ifc, i_icmp, i_getI, i_getL, i_getR, i_putI, i_putZ, i_putL, i_putR, i_aldI, i_aldB, i_aldL, i_aldD, i_astI, i_astL, i_astD, i_alen, i_ret, i_iret, i_zret, i_lret, i_fret, i_dret, i_aret, i_invS0, i_invV0, i_m2, i_m1, i_ml, i_obj, lk, lkp, stf1, stf2, Value.category, rV, xTo, lv_args, xCk, xCat, xRc, xAk, hg_S, hg_I, hg_J, hg_D, hg_R, hs_I, hs_J, hs_D, hs_R, uI_at, uJ_at, uD_at, uR_at, List.take_succ_cons, List.take_zero, List.drop_succ_cons, List.drop_zero, List.reverse_cons, List.reverse_nil, List.nil_append, List.cons_append, List.map_cons, List.map_nil, List.sum_cons, List.sum_nil, List.length_cons, List.length_nil, Option.toList_some, Option.toList_none, true_and, and_true, false_and, and_false, true_implies, false_implies, implies_true, not_true_eq_false, not_false_eq_true, ne_eq, if_true, if_false, Bool.and_true, Bool.true_and, decide_true, decide_false, reduceIte, reduceCtorEq, Bool.and_self, Bool.and_eq_true, decide_eq_true_eq, and_self, true_or, or_true, false_or, or_false, Nat.zero_add, Nat.add_zero, eq_self, Nat.reduceEqDiff, Nat.reduceLeDiff, Nat.reduceLT, Nat.reduceAdd, Nat.reduceSub, Nat.reduceMul, nF_at, zI_at, zJ_at, zD_at, zR_at, hS]
  rw [e40_26]
  simp only [B40_26, xSeq, i_push, i_load, i_iload, i_lload, i_dload, i_aload, i_istore, i_astore, i_lstore, i_dstore, i_iinc, i_ii, i_iiz, i_ll, i_llz, i_lli, i_li, i_i, i_l, i_i2l, i_l2i, i_dup, i_dup2, i_dup2w, i_dupx1, i_pop, i_pop2, i_goto, i_ifc, i_icmp, i_getI, i_getL, i_getR, i_putI, i_putZ, i_putL, i_putR, i_aldI, i_aldB, i_aldL, i_aldD, i_astI, i_astL, i_astD, i_alen, i_ret, i_iret, i_zret, i_lret, i_fret, i_dret, i_aret, i_invS0, i_invV0, i_m2, i_m1, i_ml, i_obj, lk, lkp, stf1, stf2, Value.category, rV, xTo, lv_args, xCk, xCat, xRc, xAk, hg_S, hg_I, hg_J, hg_D, hg_R, hs_I, hs_J, hs_D, hs_R, uI_at, uJ_at, uD_at, uR_at, List.take_succ_cons, List.take_zero, List.drop_succ_cons, List.drop_zero, List.reverse_cons, List.reverse_nil, List.nil_append, List.cons_append, List.map_cons, List.map_nil, List.sum_cons, List.sum_nil, List.length_cons, List.length_nil, Option.toList_some, Option.toList_none, true_and, and_true, false_and, and_false, true_implies, false_implies, implies_true, not_true_eq_false, not_false_eq_true, ne_eq, if_true, if_false, Bool.and_true, Bool.true_and, decide_true, decide_false, reduceIte, reduceCtorEq, Bool.and_self, Bool.and_eq_true, decide_eq_true_eq, and_self, true_or, or_true, false_or, or_false, Nat.zero_add, Nat.add_zero, eq_self, Nat.reduceEqDiff, Nat.reduceLeDiff, Nat.reduceLT, Nat.reduceAdd, Nat.reduceSub, Nat.reduceMul]
  exact kk _
theorem R40p122 (hS : S 122 = (4, 0)) (hR : R 122 1 = some 127) (hu : S 127 = (101, 10000)) : xRun xT 40 0 [(0, .ref 122)] [] (S, I, J, D, R) b Q = Q (.ok none) (S, I, J, D, R) b := by
  have t : (nI 10000 = 0) = False := eq_false (by decide)
  rw [e40_0]
  simp only [B40_0, xSeq, i_push, i_load, i_iload, i_lload, i_dload, i_aload, i_istore, i_astore, i_lstore, i_dstore, i_iinc, i_ii, i_iiz, i_ll, i_llz, i_lli, i_li, i_i, i_l, i_i2l, i_l2i, i_dup, i_dup2, i_dup2w, i_dupx1, i_pop, i_pop2, i_goto, i_ifc, i_icmp, i_getI, i_getL, i_getR, i_putI, i_putZ, i_putL, i_putR, i_aldI, i_aldB, i_aldL, i_aldD, i_astI, i_astL, i_astD, i_alen, i_ret, i_iret, i_zret, i_lret, i_fret, i_dret, i_aret, i_invS0, i_invV0, i_m2, i_m1, i_ml, i_obj, lk, lkp, stf1, stf2, Value.category, rV, xTo, lv_args, xCk, xCat, xRc, xAk, hg_S, hg_I, hg_J, hg_D, hg_R, hs_I, hs_J, hs_D, hs_R, uI_at, uJ_at, uD_at, uR_at, List.take_succ_cons, List.take_zero, List.drop_succ_cons, List.drop_zero, List.reverse_cons, List.reverse_nil, List.nil_append, List.cons_append, List.map_cons, List.map_nil, List.sum_cons, List.sum_nil, List.length_cons, List.length_nil, Option.toList_some, Option.toList_none, true_and, and_true, false_and, and_false, true_implies, false_implies, implies_true, not_true_eq_false, not_false_eq_true, ne_eq, if_true, if_false, Bool.and_true, Bool.true_and, decide_true, decide_false, reduceIte, reduceCtorEq, Bool.and_self, Bool.and_eq_true, decide_eq_true_eq, and_self, true_or, or_true, false_or, or_false, Nat.zero_add, Nat.add_zero, eq_self, Nat.reduceEqDiff, Nat.reduceLeDiff, Nat.reduceLT, Nat.reduceAdd, Nat.reduceSub, Nat.reduceMul, hS, hR, hu, t, e40_26, B40_26]
/-- with rows for them -/
theorem AC_rows122 (h : AC g x sv k by' e1 e2 P f S I J R) (hm : R 122 1 = some 123) : 20002 ≤ P ∧ S 123 = (101, 0) ∧ S 127 = (0, 0) ∧ S 128 = (0, 0) ∧ AC g x sv k by' e1 e2 (P - 20002) f (nS122 S) (nI122 I) (nJ122 J) (nR122 R) := by
  have h' := h
  obtain ⟨a1, ⟨a2, a3, a4, a5⟩, a6, ⟨a7, a8⟩, ⟨a9, a10, a11, a12⟩, a13, p1, p2, p3, p4, p5, q0, q1, q2, q3, q4, q5⟩ := h'
  rcases q2 with ⟨r1, r2, r3, r4, r5, r6, r7, r8⟩ | ⟨r1, r2⟩
  · refine ⟨by omega, r2, r5, r6, AC_al h (LC_w a1 (fun o q1 q2 => nS122_o (by unfold pn at q2; omega) (by unfold pn at q2; omega)) (fun o j q => nR122_o (by omega) (by omega) (by omega)) (fun j _ => nR122_o (by decide) (by decide) (by omega))) (fun o q => nI122_o (by omega) (by omega)) (fun o q => nJ122_o (by omega) (by omega)) (fun i hi => ?_) (fun y hy i hi => ?_) ?_ ?_⟩
    · rw [nJ122_o (by decide) (by decide), nI122_o (by decide) (by decide)]
      exact ⟨rfl, rfl⟩
    · have e9 := (a8 y hy).2.2.1.1
      rw [r7, show (0 : Int32) = nI 0 from rfl] at e9
      have := (nI_eq (by decide) (by have := (a8 y hy).2.2.1.2; omega)).mp e9
      omega
    · rw [nI122_o (by decide) (by decide)]
      rcases a13 with a13 | a13
      · exact Or.inl a13
      · right
        unfold XL LE at *
        rw [nI122_o (by decide) (by decide), nI122_o (by decide) (by decide), nI122_o (by decide) (by decide), nI122_o (by decide) (by decide), nI122_o (by decide) (by decide), nS122_o (by decide) (by decide), nS122_o (by decide) (by decide), nS122_o (by decide) (by decide), nS122_o (by decide) (by decide), nS122_o (by decide) (by decide), nS122_o (by decide) (by decide), nR122_o (by decide) (by decide) (by decide), nR122_o (by decide) (by decide) (by decide), nR122_o (by decide) (by decide) (by decide), nR122_o (by decide) (by decide) (by decide), nR122_o (by decide) (by decide) (by decide), nR122_o (by decide) (by decide) (by decide)]
        exact a13
    · have eS : ∀ a, a ≠ 127 → a ≠ 128 → nS122 S a = S a := fun a q1 q2 => nS122_o q1 q2
      have eR : ∀ a, a ≠ 127 → a ≠ 128 → a ≠ 122 → nR122 R a = R a := fun a q1 q2 q3 => by funext j; exact nR122_o q1 q2 (by omega)
      refine ⟨p1, 0, p3, p4, p5, by omega, SH_e q1 (fun a ha => eS a (by omega) (by omega)) (eR 112 (by decide) (by decide) (by decide)) (fun _ e => by rw [nI122_o (by decide) (by decide)]; exact e), Or.inr ⟨nR122_p (S := S).1, nR122_p (R := R).2.2.1, nR122_p (S := S).2.1, nR122_p (R := R).2.2.2⟩, ?_, ?_, ?_⟩
      · unfold ST at *
        rw [eS 115 (by decide) (by decide), eS 119 (by decide) (by decide), nR122_o (by decide) (by decide) (by decide)]
        exact q3
      · unfold SX LE at *
        rw [eS 131 (by decide) (by decide), eS 151 (by decide) (by decide), eS 152 (by decide) (by decide), eS 153 (by decide) (by decide), eS 154 (by decide) (by decide), eS 155 (by decide) (by decide), eS 156 (by decide) (by decide), eR 130 (by decide) (by decide) (by decide), nI122_o (by decide) (by decide)]
        rcases q4 with ⟨t1, t2, t3, t4, t5⟩ | t
        · exact Or.inl ⟨t1, t2, fun a b1 b2 => by rw [eS a (by omega) (by omega)]; exact t3 a b1 b2, t4, t5⟩
        · exact Or.inr t
      · obtain ⟨⟨v, cap, cnt, t1, t2, t3, t4, t5, t6⟩, b1, b2, b3⟩ := q5
        have n1 : v ≠ 127 := by omega
        have n2 : v ≠ 128 := by omega
        refine ⟨⟨v, cap, cnt, ?_, ?_, ?_, ?_, t5, ?_⟩, b1, b2, fun a w1 w2 => ?_⟩
        · rw [eR 140 (by decide) (by decide) (by decide)]; exact t1
        · rw [eS v n1 n2]; exact t2
        · rw [nI122_o (by decide) (by decide)]; exact t3
        · rw [nI122_o (by decide) (by decide)]; exact t4
        · rw [nI122_o n1 n2]; exact t6
        · rw [eS a (by omega) (by omega)]; exact b3 a w1 w2
  · rw [hm] at r1
    cases r1
/-- rows are there, or not yet -/
theorem AC_rc (h : AC g x sv k by' e1 e2 P f S I J R) : R 112 1 = some 113 ∨ (R 112 1 = some 117 ∧ S 117 = (101, 10000) ∧ R 112 2 = some 118 ∧ S 118 = (100, 10000)) := by
  obtain ⟨a1, ⟨a2, a3, a4, a5⟩, a6, ⟨a7, a8⟩, ⟨a9, a10, a11, a12⟩, a13, p1, p2, p3, p4, p5, q0, q1, q2, q3, q4, q5⟩ := h
  rcases q1 with q1 | q1
  · exact Or.inl q1.1
  · exact Or.inr q1
theorem AC_rd (h : AC g x sv k by' e1 e2 P f S I J R) : R 122 1 = some 123 ∨ (R 122 1 = some 127 ∧ S 127 = (101, 10000) ∧ R 122 2 = some 128 ∧ S 128 = (100, 10000)) := by
  obtain ⟨a1, ⟨a2, a3, a4, a5⟩, a6, ⟨a7, a8⟩, ⟨a9, a10, a11, a12⟩, a13, p1, p2, p3, p4, p5, q0, q1, q2, q3, q4, q5⟩ := h
  rcases q2 with q2 | q2
  · exact Or.inl q2.1
  · exact Or.inr q2
theorem frC_rows112 : frC S I J R (nS112 S) (nI112 I) (nJ112 J) (nR112 R) := fun o h1 => ⟨nS112_o (by omega) (by omega), nI112_o (by omega) (by omega), by funext j; exact nR112_o (by omega) (by omega) (by omega), fun _ => nJ112_o (by omega) (by omega)⟩
theorem frC_rows122 : frC S I J R (nS122 S) (nI122 I) (nJ122 J) (nR122 R) := fun o h1 => ⟨nS122_o (by omega) (by omega), nI122_o (by omega) (by omega), by funext j; exact nR122_o (by omega) (by omega) (by omega), fun _ => nJ122_o (by omega) (by omega)⟩
end
