/-! ===== visited, as contracts: printed by a25.visitk.py ===== -/
section
variable {g : xGd} {x : xSt} {sv : Option xSt} {k : Nat} {by' : Nat → Nat} {e1 e2 : Int32} {z : xA} {N P f : Nat} {S : xS} {I : xI} {J : xJ} {D : xDb} {R : xR} {b : Nat × Nat} {Q : xQ} {n m : Nat}
def tabP (P : Nat) (R : xR) : Nat := if R 112 3 = some 119 then P else P - 32769
theorem tabP_le : tabP P R ≤ P := by
  unfold tabP
  split <;> omega
/-- the table's row is free to be anything -/
theorem AC_119 {I' : xI} (h : AC g x sv k by' e1 e2 P f S I J R) (hi : ∀ o, o ≠ 119 → I' o = I o) : AC g x sv k by' e1 e2 P f S I' J R := by
  have h' := h
  obtain ⟨a1, ⟨a2, a3, a4, a5⟩, a6, ⟨a7, a8⟩, ⟨a9, a10, a11, a12⟩, a13, p1, p2, p3, p4, p5, q0, q1, q2, q3, q4, q5⟩ := h'
  refine AC_al h a1 (fun o q => hi o (by omega)) (fun o _ => rfl) (fun i _ => ⟨rfl, by rw [hi 118 (by decide)]⟩) (fun y _ i _ => ⟨rfl, by rw [hi 128 (by decide)]⟩) ?_ ⟨p1, p2, p3, p4, p5, q0, ?_, ?_, q3, ?_, ?_⟩
  · rw [hi 130 (by decide)]
    rcases a13 with a13 | a13
    · exact Or.inl a13
    · right
      unfold XL at *
      rw [hi 130 (by decide), hi 151 (by decide), hi 154 (by decide), hi 155 (by decide), hi 156 (by decide)]
      exact a13
  · exact SH_e q1 (fun _ _ => rfl) rfl (fun _ e => by rw [hi 112 (by decide)]; exact e)
  · exact SH_e q2 (fun _ _ => rfl) rfl (fun _ e => by rw [hi 122 (by decide)]; exact e)
  · unfold SX at *
    rw [hi 130 (by decide)]
    exact q4
  · obtain ⟨⟨v, cap, cnt, t1, t2, t3, t4, t5, t6⟩, b1, b2, b3⟩ := q5
    exact ⟨⟨v, cap, cnt, t1, t2, by rw [hi 140 (by decide)]; exact t3, by rw [hi 140 (by decide)]; exact t4, t5, by rw [hi v (by omega)]; exact t6⟩, b1, b2, b3⟩
theorem AC_tt (h : AC g x sv k by' e1 e2 P f S I J R) : (R 112 3 = some 115 ∧ S 115 = (100, 0) ∧ S 119 = (0, 0) ∧ 32769 ≤ P) ∨ (R 112 3 = some 119 ∧ S 119 = (100, 32768)) := by
  obtain ⟨a1, ⟨a2, a3, a4, a5⟩, a6, ⟨a7, a8⟩, ⟨a9, a10, a11, a12⟩, a13, p1, p2, p3, p4, p5, q0, q1, q2, q3, q4, q5⟩ := h
  rcases q3 with ⟨r1, r2, r3, r4⟩ | q3
  · exact Or.inl ⟨r1, r2, r3, by omega⟩
  · exact Or.inr q3
def nSt (S : xS) : xS := nF S 119 (100, 32768)
def nRt (R : xR) : xR := uR (zR R 119) 112 3 (some 119)
theorem nSt_o {o : Nat} (h1 : o ≠ 119) : nSt S o = S o := by
  unfold nSt
  rw [nF_at, if_neg h1]
theorem zI_o {r o : Nat} (h1 : o ≠ r) : zI I r o = I o := by
  funext j
  rw [zI_at, if_neg h1]
theorem zJ_o {r o : Nat} (h1 : o ≠ r) : zJ J r o = J o := by
  funext j
  rw [zJ_at, if_neg h1]
theorem nRt_o {o j : Nat} (h1 : o ≠ 119) (h3 : ¬ (o = 112 ∧ j = 3)) : nRt R o j = R o j := by
  unfold nRt
  rw [uR_at, if_neg h3, zR_at, if_neg h1]
theorem nRt_p : nRt R 112 3 = some 119 := by
  unfold nRt
  rw [uR_at, if_pos ⟨rfl, rfl⟩]
theorem nSt_p : nSt S 119 = (100, 32768) := by
  unfold nSt
  rw [nF_at, if_pos rfl]
theorem AC_tab (h : AC g x sv k by' e1 e2 P f S I J R) (hm : R 112 3 = some 115) : AC g x sv k by' e1 e2 (P - 32769) f (nSt S) (zI I 119) (zJ J 119) (nRt R) := by
  have h' := h
  obtain ⟨a1, ⟨a2, a3, a4, a5⟩, a6, ⟨a7, a8⟩, ⟨a9, a10, a11, a12⟩, a13, p1, p2, p3, p4, p5, q0, q1, q2, q3, q4, q5⟩ := h'
  have r4 : 32769 ≤ p3 := by
    rcases q3 with ⟨r1, r2, r3, r4⟩ | ⟨r1, r2⟩
    · exact r4
    · rw [hm] at r1; cases r1
  have eS : ∀ a, a ≠ 119 → nSt S a = S a := fun a q1 => nSt_o q1
  have eR : ∀ a, a ≠ 119 → a ≠ 112 → nRt R a = R a := fun a q1 q3 => by funext j; exact nRt_o q1 (by omega)
  have eI : ∀ a, a ≠ 119 → zI I 119 a = I a := fun a q1 => zI_o q1
  have eJ : ∀ a, a ≠ 119 → zJ J 119 a = J a := fun a q1 => zJ_o q1
  refine AC_al h (LC_w a1 (fun o q1 q2 => eS o (by unfold pn at q2; omega)) (fun o j q => nRt_o (by omega) (by omega)) (fun j _ => nRt_o (by decide) (by omega))) (fun o q => eI o (by omega)) (fun o q => eJ o (by omega)) (fun i hi => ?_) (fun y hy i hi => ?_) ?_ ⟨p1, p2, 0, p4, p5, by omega, ?_, ?_, Or.inr ⟨nRt_p, nSt_p⟩, ?_, ?_⟩
  · rw [eI 118 (by decide), eJ 117 (by decide)]; exact ⟨rfl, rfl⟩
  · rw [eI 128 (by decide), eJ 127 (by decide)]; exact ⟨rfl, rfl⟩
  · rw [eI 130 (by decide)]
    rcases a13 with a13 | a13
    · exact Or.inl a13
    · right
      unfold XL LE at *
      rw [eI 130 (by decide), eI 151 (by decide), eI 154 (by decide), eI 155 (by decide), eI 156 (by decide), eS 151 (by decide), eS 152 (by decide), eS 153 (by decide), eS 154 (by decide), eS 155 (by decide), eS 156 (by decide), eR 130 (by decide) (by decide)]
      exact a13
  · have e1 : nRt R 112 1 = R 112 1 := nRt_o (by decide) (by decide)
    have e2 : nRt R 112 2 = R 112 2 := nRt_o (by decide) (by decide)
    unfold SH at *
    rw [eS (110 + 3) (by decide), eS (110 + 4) (by decide), eS (110 + 7) (by decide), eS (110 + 8) (by decide), eI (110 + 2) (by decide), show nRt R (110 + 2) 1 = R (110 + 2) 1 from e1, show nRt R (110 + 2) 2 = R (110 + 2) 2 from e2]
    exact q1
  · exact SH_e q2 (fun a ha => eS a (by omega)) (eR 122 (by decide) (by decide)) (fun _ e => by rw [eI 122 (by decide)]; exact e)
  · unfold SX LE at *
    rw [eS 131 (by decide), eS 151 (by decide), eS 152 (by decide), eS 153 (by decide), eS 154 (by decide), eS 155 (by decide), eS 156 (by decide), eR 130 (by decide) (by decide), eI 130 (by decide)]
    rcases q4 with ⟨t1, t2, t3, t4, t5⟩ | t
    · exact Or.inl ⟨t1, t2, fun a b1 b2 => by rw [eS a (by omega)]; exact t3 a b1 b2, t4, t5⟩
    · exact Or.inr t
  · obtain ⟨⟨v, cap, cnt, t1, t2, t3, t4, t5, t6⟩, b1, b2, b3⟩ := q5
    refine ⟨⟨v, cap, cnt, ?_, ?_, ?_, ?_, t5, ?_⟩, b1, b2, fun a w1 w2 => ?_⟩
    · rw [eR 140 (by decide) (by decide)]; exact t1
    · rw [eS v (by omega)]; exact t2
    · rw [eI 140 (by decide)]; exact t3
    · rw [eI 140 (by decide)]; exact t4
    · rw [eI v (by omega)]; exact t6
    · rw [eS a (by omega)]; exact b3 a w1 w2
theorem frC_tab : frC S I J R (nSt S) (zI I 119) (zJ J 119) (nRt R) := fun o h1 => ⟨nSt_o (by omega), zI_o (by omega), by funext j; exact nRt_o (by omega) (by omega), fun _ => zJ_o (by omega)⟩
theorem CS_C (h : AC g x sv k by' e1 e2 P f S I J R) (w : WF N g x sv k by') : ∀ i, i < stK x → J 117 i = lN (stC x i) ∧ stC x i < 2 ^ 64 := fun i hi => ⟨(h.2.2.1.2.2.2 i hi).1, Nat.lt_of_lt_of_le (w.2.1.2.2.2 i hi).1 (Nat.pow_le_pow_right (by decide) (gn_bd w.1).2.1)⟩
theorem V37 (h : AC g x sv k by' e1 e2 P f S I J R) (w : WF N g x sv k by') (hK : 0 < stK x) (h3 : R 112 3 = some 119) (h4 : S 119 = (100, 32768))
    (kk : ∀ I', AC g x sv k by' e1 e2 P f S I' J R → (∀ o, o ≠ 119 → I' o = I o) → Q (.ok (some (.int (nI (dct (stC x) (stK x)))))) (S, I', J, D, R) b) : xRun xT 37 25 [(0, .ref 112)] [] (S, I, J, D, R) b Q := by
  obtain ⟨V, hV⟩ : ∃ V : Nat, V = 32768 := ⟨_, rfl⟩
  rw [← hV] at h4
  have hL := h.1
  have hS : S 112 = (4, 0) := by simp only [LC_out hL]
  have h0 : I 112 0 = nI (stK x) := h.2.2.1.2.2.1.1
  have hk2 : stK x ≤ 10000 := h.2.2.1.2.2.1.2
  obtain ⟨h1, h2⟩ : R 112 1 = some 117 ∧ S 117 = (101, 10000) := by
    obtain ⟨a1, ⟨a2, a3, a4, a5⟩, a6, ⟨a7, a8⟩, ⟨a9, a10, a11, a12⟩, a13, p1, p2, p3, p4, p5, q0, q1, q2, q3, q4, q5⟩ := h
    rcases q1 with ⟨-, -, -, -, -, -, r7, -⟩ | ⟨r1, r2, -⟩
    · have r7 : I 112 0 = 0 := r7
      rw [h0, show (0 : Int32) = nI 0 from rfl] at r7
      have := (nI_eq (by omega) (by decide)).mp r7
      omega
    · exact ⟨r1, r2⟩
  rw [e37_25]
  simp only [B37_25, xSeq, i_push, i_load, i_iload, i_lload, i_dload, i_aload, i_istore, i_astore, i_lstore, i_dstore, i_iinc, i_ii, i_iiz, i_ll, i_llz, i_lli, i_li, i_i, i_l, i_i2l, i_l2i, i_dup, i_dup2, i_dup2w, i_dupx1, i_pop, i_pop2, i_goto, i_ifc, i_icmp, i_getI, i_getL, i_getR, i_putI, i_putZ, i_putL, i_putR, i_aldI, i_aldB, i_aldL, i_aldD, i_astI, i_astL, i_astD, i_alen, i_ret, i_iret, i_zret, i_lret, i_fret, i_dret, i_aret, i_invS0, i_invV0, i_m2, i_m1, i_ml, i_obj, lk, lkp, stf1, stf2, Value.category, rV, xTo, lv_args, xCk, xCat, xRc, xAk, hg_S, hg_I, hg_J, hg_D, hg_R, hs_I, hs_J, hs_D, hs_R, uI_at, uJ_at, uD_at, uR_at, List.take_succ_cons, List.take_zero, List.drop_succ_cons, List.drop_zero, List.reverse_cons, List.reverse_nil, List.nil_append, List.cons_append, List.map_cons, List.map_nil, List.sum_cons, List.sum_nil, List.length_cons, List.length_nil, Option.toList_some, Option.toList_none, true_and, and_true, false_and, and_false, true_implies, false_implies, implies_true, not_true_eq_false, not_false_eq_true, ne_eq, if_true, if_false, Bool.and_true, Bool.true_and, decide_true, decide_false, reduceIte, reduceCtorEq, Bool.and_self, Bool.and_eq_true, decide_eq_true_eq, and_self, true_or, or_true, false_or, or_false, Nat.zero_add, Nat.add_zero, eq_self, Nat.reduceEqDiff, Nat.reduceLeDiff, Nat.reduceLT, Nat.reduceAdd, Nat.reduceSub, Nat.reduceMul, hS, h3, h4, Y6 h4 (show V < 2147483648 by omega)]
  have ht := TB_0 V hsC (stC x)
  have hI : HTv V 119 I (fun _ => 0) (rI I 119 (fill (I 119) 0 V)) := ⟨fun p hp => by rw [rI_at, if_pos rfl, fill_at, if_pos hp]; rfl, fun o j ho => by rw [rI_at, if_neg ho]⟩
  have hh := L37_37 (S := S) (J := J) (D := D) (R := R) (b := b) (Q := Q) hV hsC_lt hsC_e hS h1 h2 h3 h4 hk2 (CS_C h w) h0 (fun I' T' q => kk I' (AC_119 h (fun o ho => funext fun j => q.2 o j ho)) (fun o ho => funext fun j => q.2 o j ho)) (stK x) 0 _ _ (by omega) ht hI
  exact hh
theorem KC32a (w : WA N z) (hK : stK z.2.1 = 0) : CC 1 141 [(0, .ref 100)] z z (fun r _ _ => r = some (.int 0)) := by
  intro P f S I J D R h hw hf
  obtain ⟨hL, hC, hG, ⟨i6, i7, i8, i9, i10, i11, j4, j5⟩, j102, i111, ⟨s1, s2, s3⟩, ⟨n0, n1, n2, n3⟩⟩ := AC_o h w
  refine ⟨P, Nat.le_refl P, fun _ => rfl, fun b Q b1 b2 kk => ?_⟩
  have h0 : I 112 0 = 0 := by rw [h.2.2.1.2.2.1.1, hK]; rfl
  rw [e141_0]
  simp only [B141_0, xSeq, i_push, i_load, i_iload, i_lload, i_dload, i_aload, i_istore, i_astore, i_lstore, i_dstore, i_iinc, i_ii, i_iiz, i_ll, i_llz, i_lli, i_li, i_i, i_l, i_i2l, i_l2i, i_dup, i_dup2, i_dup2w, i_dupx1, i_pop, i_pop2, i_goto, i_ifc, i_icmp, i_getI, i_getL, i_getR, i_putI, i_putZ, i_putL, i_putR, i_aldI, i_aldB, i_aldL, i_aldD, i_astI, i_astL, i_astD, i_alen, i_ret, i_iret, i_zret, i_lret, i_fret, i_dret, i_aret, i_invS0, i_invV0, i_m2, i_m1, i_ml, i_obj, lk, lkp, stf1, stf2, Value.category, rV, xTo, lv_args, xCk, xCat, xRc, xAk, hg_S, hg_I, hg_J, hg_D, hg_R, hs_I, hs_J, hs_D, hs_R, uI_at, uJ_at, uD_at, uR_at, List.take_succ_cons, List.take_zero, List.drop_succ_cons, List.drop_zero, List.reverse_cons, List.reverse_nil, List.nil_append, List.cons_append, List.map_cons, List.map_nil, List.sum_cons, List.sum_nil, List.length_cons, List.length_nil, Option.toList_some, Option.toList_none, true_and, and_true, false_and, and_false, true_implies, false_implies, implies_true, not_true_eq_false, not_false_eq_true, ne_eq, if_true, if_false, Bool.and_true, Bool.true_and, decide_true, decide_false, reduceIte, reduceCtorEq, Bool.and_self, Bool.and_eq_true, decide_eq_true_eq, and_self, true_or, or_true, false_or, or_false, Nat.zero_add, Nat.add_zero, eq_self, Nat.reduceEqDiff, Nat.reduceLeDiff, Nat.reduceLT, Nat.reduceAdd, Nat.reduceSub, Nat.reduceMul, LC_out hL]
  refine w_invVA (mc := 0) (ms := 0) (Nat.zero_le _) (Nat.zero_le _) rfl (by simp only [xSeq, i_push, i_load, i_iload, i_lload, i_dload, i_aload, i_istore, i_astore, i_lstore, i_dstore, i_iinc, i_ii, i_iiz, i_ll, i_llz, i_lli, i_li, i_i, i_l, i_i2l, i_l2i, i_dup, i_dup2, i_dup2w, i_dupx1, i_pop, i_pop2, i_goto, i_ifc, i_icmp, i_getI, i_getL, i_getR, i_putI, i_putZ, i_putL, i_putR, i_aldI, i_aldB, i_aldL, i_aldD, i_astI, i_astL, i_astD, i_alen, i_ret, i_iret, i_zret, i_lret, i_fret, i_dret, i_aret, i_invS0, i_invV0, i_m2, i_m1, i_ml, i_obj, lk, lkp, stf1, stf2, Value.category, rV, xTo, lv_args, xCk, xCat, xRc, xAk, hg_S, hg_I, hg_J, hg_D, hg_R, hs_I, hs_J, hs_D, hs_R, uI_at, uJ_at, uD_at, uR_at, List.take_succ_cons, List.take_zero, List.drop_succ_cons, List.drop_zero, List.reverse_cons, List.reverse_nil, List.nil_append, List.cons_append, List.map_cons, List.map_nil, List.sum_cons, List.sum_nil, List.length_cons, List.length_nil, Option.toList_some, Option.toList_none, true_and, and_true, false_and, and_false, true_implies, false_implies, implies_true, not_true_eq_false, not_false_eq_true, ne_eq, if_true, if_false, Bool.and_true, Bool.true_and, decide_true, decide_false, reduceIte, reduceCtorEq, Bool.and_self, Bool.and_eq_true, decide_eq_true_eq, and_self, true_or, or_true, false_or, or_false, Nat.zero_add, Nat.add_zero, eq_self, Nat.reduceEqDiff, Nat.reduceLeDiff, Nat.reduceLT, Nat.reduceAdd, Nat.reduceSub, Nat.reduceMul, LC_out hL]) ?_
  simp only [xSeq, i_push, i_load, i_iload, i_lload, i_dload, i_aload, i_istore, i_astore, i_lstore, i_dstore, i_iinc, i_ii, i_iiz, i_ll, i_llz, i_lli, i_li, i_i, i_l, i_i2l, i_l2i, i_dup, i_dup2, i_dup2w, i_dupx1, i_pop, i_pop2, i_goto, i_ifc, i_icmp, i_getI, i_getL, i_getR, i_putI, i_putZ, i_putL, i_putR, i_aldI, i_aldB, i_aldL, i_aldD, i_astI, i_astL, i_astD, i_alen, i_ret, i_iret, i_zret, i_lret, i_fret, i_dret, i_aret, i_invS0, i_invV0, i_m2, i_m1, i_ml, i_obj, lk, lkp, stf1, stf2, Value.category, rV, xTo, lv_args, xCk, xCat, xRc, xAk, hg_S, hg_I, hg_J, hg_D, hg_R, hs_I, hs_J, hs_D, hs_R, uI_at, uJ_at, uD_at, uR_at, List.take_succ_cons, List.take_zero, List.drop_succ_cons, List.drop_zero, List.reverse_cons, List.reverse_nil, List.nil_append, List.cons_append, List.map_cons, List.map_nil, List.sum_cons, List.sum_nil, List.length_cons, List.length_nil, Option.toList_some, Option.toList_none, true_and, and_true, false_and, and_false, true_implies, false_implies, implies_true, not_true_eq_false, not_false_eq_true, ne_eq, if_true, if_false, Bool.and_true, Bool.true_and, decide_true, decide_false, reduceIte, reduceCtorEq, Bool.and_self, Bool.and_eq_true, decide_eq_true_eq, and_self, true_or, or_true, false_or, or_false, Nat.zero_add, Nat.add_zero, eq_self, Nat.reduceEqDiff, Nat.reduceLeDiff, Nat.reduceLT, Nat.reduceAdd, Nat.reduceSub, Nat.reduceMul]
  rw [e37_0]
  simp only [B37_0, xSeq, i_push, i_load, i_iload, i_lload, i_dload, i_aload, i_istore, i_astore, i_lstore, i_dstore, i_iinc, i_ii, i_iiz, i_ll, i_llz, i_lli, i_li, i_i, i_l, i_i2l, i_l2i, i_dup, i_dup2, i_dup2w, i_dupx1, i_pop, i_pop2, i_goto, i_ifc, i_icmp, i_getI, i_getL, i_getR, i_putI, i_putZ, i_putL, i_putR, i_aldI, i_aldB, i_aldL, i_aldD, i_astI, i_astL, i_astD, i_alen, i_ret, i_iret, i_zret, i_lret, i_fret, i_dret, i_aret, i_invS0, i_invV0, i_m2, i_m1, i_ml, i_obj, lk, lkp, stf1, stf2, Value.category, rV, xTo, lv_args, xCk, xCat, xRc, xAk, hg_S, hg_I, hg_J, hg_D, hg_R, hs_I, hs_J, hs_D, hs_R, uI_at, uJ_at, uD_at, uR_at, List.take_succ_cons, List.take_zero, List.drop_succ_cons, List.drop_zero, List.reverse_cons, List.reverse_nil, List.nil_append, List.cons_append, List.map_cons, List.map_nil, List.sum_cons, List.sum_nil, List.length_cons, List.length_nil, Option.toList_some, Option.toList_none, true_and, and_true, false_and, and_false, true_implies, false_implies, implies_true, not_true_eq_false, not_false_eq_true, ne_eq, if_true, if_false, Bool.and_true, Bool.true_and, decide_true, decide_false, reduceIte, reduceCtorEq, Bool.and_self, Bool.and_eq_true, decide_eq_true_eq, and_self, true_or, or_true, false_or, or_false, Nat.zero_add, Nat.add_zero, eq_self, Nat.reduceEqDiff, Nat.reduceLeDiff, Nat.reduceLT, Nat.reduceAdd, Nat.reduceSub, Nat.reduceMul, LC_out hL, h0]
  exact kk _ S I J D R f _ rfl h frC_rfl (by omega)
theorem KC32b (w : WA N z) (hK : 0 < stK z.2.1) : CC 1 141 [(0, .ref 100)] z z (fun r _ _ => r = some (.int (nI (dct (stC z.2.1) (stK z.2.1))))) := by
  intro P f S I J D R h hw hf
  obtain ⟨hL, hC, hG, ⟨i6, i7, i8, i9, i10, i11, j4, j5⟩, j102, i111, ⟨s1, s2, s3⟩, ⟨n0, n1, n2, n3⟩⟩ := AC_o h w
  refine ⟨tabP P R, tabP_le, fun e => absurd e (by decide), fun b Q b1 b2 kk => ?_⟩
  have hk2 : stK z.2.1 ≤ 10000 := h.2.2.1.2.2.1.2
  have h0 : (I 112 0 = 0) = False := by
    rw [h.2.2.1.2.2.1.1, nI_z (by omega)]
    exact eq_false (by omega)
  have l37 : ¬ ((32768 : Int32) < 0) := by decide
  rw [e141_0]
  simp only [B141_0, xSeq, i_push, i_load, i_iload, i_lload, i_dload, i_aload, i_istore, i_astore, i_lstore, i_dstore, i_iinc, i_ii, i_iiz, i_ll, i_llz, i_lli, i_li, i_i, i_l, i_i2l, i_l2i, i_dup, i_dup2, i_dup2w, i_dupx1, i_pop, i_pop2, i_goto, i_ifc, i_icmp, i_getI, i_getL, i_getR, i_putI, i_putZ, i_putL, i_putR, i_aldI, i_aldB, i_aldL, i_aldD, i_astI, i_astL, i_astD, i_alen, i_ret, i_iret, i_zret, i_lret, i_fret, i_dret, i_aret, i_invS0, i_invV0, i_m2, i_m1, i_ml, i_obj, lk, lkp, stf1, stf2, Value.category, rV, xTo, lv_args, xCk, xCat, xRc, xAk, hg_S, hg_I, hg_J, hg_D, hg_R, hs_I, hs_J, hs_D, hs_R, uI_at, uJ_at, uD_at, uR_at, List.take_succ_cons, List.take_zero, List.drop_succ_cons, List.drop_zero, List.reverse_cons, List.reverse_nil, List.nil_append, List.cons_append, List.map_cons, List.map_nil, List.sum_cons, List.sum_nil, List.length_cons, List.length_nil, Option.toList_some, Option.toList_none, true_and, and_true, false_and, and_false, true_implies, false_implies, implies_true, not_true_eq_false, not_false_eq_true, ne_eq, if_true, if_false, Bool.and_true, Bool.true_and, decide_true, decide_false, reduceIte, reduceCtorEq, Bool.and_self, Bool.and_eq_true, decide_eq_true_eq, and_self, true_or, or_true, false_or, or_false, Nat.zero_add, Nat.add_zero, eq_self, Nat.reduceEqDiff, Nat.reduceLeDiff, Nat.reduceLT, Nat.reduceAdd, Nat.reduceSub, Nat.reduceMul, LC_out hL]
  refine w_invVA (mc := 1 + (P - tabP P R)) (ms := 1 + (P - tabP P R)) (by omega) (by omega) rfl (by simp only [xSeq, i_push, i_load, i_iload, i_lload, i_dload, i_aload, i_istore, i_astore, i_lstore, i_dstore, i_iinc, i_ii, i_iiz, i_ll, i_llz, i_lli, i_li, i_i, i_l, i_i2l, i_l2i, i_dup, i_dup2, i_dup2w, i_dupx1, i_pop, i_pop2, i_goto, i_ifc, i_icmp, i_getI, i_getL, i_getR, i_putI, i_putZ, i_putL, i_putR, i_aldI, i_aldB, i_aldL, i_aldD, i_astI, i_astL, i_astD, i_alen, i_ret, i_iret, i_zret, i_lret, i_fret, i_dret, i_aret, i_invS0, i_invV0, i_m2, i_m1, i_ml, i_obj, lk, lkp, stf1, stf2, Value.category, rV, xTo, lv_args, xCk, xCat, xRc, xAk, hg_S, hg_I, hg_J, hg_D, hg_R, hs_I, hs_J, hs_D, hs_R, uI_at, uJ_at, uD_at, uR_at, List.take_succ_cons, List.take_zero, List.drop_succ_cons, List.drop_zero, List.reverse_cons, List.reverse_nil, List.nil_append, List.cons_append, List.map_cons, List.map_nil, List.sum_cons, List.sum_nil, List.length_cons, List.length_nil, Option.toList_some, Option.toList_none, true_and, and_true, false_and, and_false, true_implies, false_implies, implies_true, not_true_eq_false, not_false_eq_true, ne_eq, if_true, if_false, Bool.and_true, Bool.true_and, decide_true, decide_false, reduceIte, reduceCtorEq, Bool.and_self, Bool.and_eq_true, decide_eq_true_eq, and_self, true_or, or_true, false_or, or_false, Nat.zero_add, Nat.add_zero, eq_self, Nat.reduceEqDiff, Nat.reduceLeDiff, Nat.reduceLT, Nat.reduceAdd, Nat.reduceSub, Nat.reduceMul, LC_out hL]) ?_
  simp only [xSeq, i_push, i_load, i_iload, i_lload, i_dload, i_aload, i_istore, i_astore, i_lstore, i_dstore, i_iinc, i_ii, i_iiz, i_ll, i_llz, i_lli, i_li, i_i, i_l, i_i2l, i_l2i, i_dup, i_dup2, i_dup2w, i_dupx1, i_pop, i_pop2, i_goto, i_ifc, i_icmp, i_getI, i_getL, i_getR, i_putI, i_putZ, i_putL, i_putR, i_aldI, i_aldB, i_aldL, i_aldD, i_astI, i_astL, i_astD, i_alen, i_ret, i_iret, i_zret, i_lret, i_fret, i_dret, i_aret, i_invS0, i_invV0, i_m2, i_m1, i_ml, i_obj, lk, lkp, stf1, stf2, Value.category, rV, xTo, lv_args, xCk, xCat, xRc, xAk, hg_S, hg_I, hg_J, hg_D, hg_R, hs_I, hs_J, hs_D, hs_R, uI_at, uJ_at, uD_at, uR_at, List.take_succ_cons, List.take_zero, List.drop_succ_cons, List.drop_zero, List.reverse_cons, List.reverse_nil, List.nil_append, List.cons_append, List.map_cons, List.map_nil, List.sum_cons, List.sum_nil, List.length_cons, List.length_nil, Option.toList_some, Option.toList_none, true_and, and_true, false_and, and_false, true_implies, false_implies, implies_true, not_true_eq_false, not_false_eq_true, ne_eq, if_true, if_false, Bool.and_true, Bool.true_and, decide_true, decide_false, reduceIte, reduceCtorEq, Bool.and_self, Bool.and_eq_true, decide_eq_true_eq, and_self, true_or, or_true, false_or, or_false, Nat.zero_add, Nat.add_zero, eq_self, Nat.reduceEqDiff, Nat.reduceLeDiff, Nat.reduceLT, Nat.reduceAdd, Nat.reduceSub, Nat.reduceMul]
  rw [e37_0]
  simp only [B37_0, xSeq, i_push, i_load, i_iload, i_lload, i_dload, i_aload, i_istore, i_astore, i_lstore, i_dstore, i_iinc, i_ii, i_iiz, i_ll, i_llz, i_lli, i_li, i_i, i_l, i_i2l, i_l2i, i_dup, i_dup2, i_dup2w, i_dupx1, i_pop, i_pop2, i_goto, i_ifc, i_icmp, i_getI, i_getL, i_getR, i_putI, i_putZ, i_putL, i_putR, i_aldI, i_aldB, i_aldL, i_aldD, i_astI, i_astL, i_astD, i_alen, i_ret, i_iret, i_zret, i_lret, i_fret, i_dret, i_aret, i_invS0, i_invV0, i_m2, i_m1, i_ml, i_obj, lk, lkp, stf1, stf2, Value.category, rV, xTo, lv_args, xCk, xCat, xRc, xAk, hg_S, hg_I, hg_J, hg_D, hg_R, hs_I, hs_J, hs_D, hs_R, uI_at, uJ_at, uD_at, uR_at, List.take_succ_cons, List.take_zero, List.drop_succ_cons, List.drop_zero, List.reverse_cons, List.reverse_nil, List.nil_append, List.cons_append, List.map_cons, List.map_nil, List.sum_cons, List.sum_nil, List.length_cons, List.length_nil, Option.toList_some, Option.toList_none, true_and, and_true, false_and, and_false, true_implies, false_implies, implies_true, not_true_eq_false, not_false_eq_true, ne_eq, if_true, if_false, Bool.and_true, Bool.true_and, decide_true, decide_false, reduceIte, reduceCtorEq, Bool.and_self, Bool.and_eq_true, decide_eq_true_eq, and_self, true_or, or_true, false_or, or_false, Nat.zero_add, Nat.add_zero, eq_self, Nat.reduceEqDiff, Nat.reduceLeDiff, Nat.reduceLT, Nat.reduceAdd, Nat.reduceSub, Nat.reduceMul, LC_out hL, h0]
  rw [e37_9]
  rcases AC_tt h with ⟨r1, r2, r3, r4⟩ | ⟨r1, r2⟩
  · have hP : tabP P R = P - 32769 := by
      unfold tabP
      rw [r1, if_neg (by decide)]
    rw [hP] at b1 b2 kk ⊢
    have h2 := AC_tab h r1
    have z0 : ((0 : Int32) = 0) = True := eq_self 0
    simp only [B37_9, xSeq, i_push, i_load, i_iload, i_lload, i_dload, i_aload, i_istore, i_astore, i_lstore, i_dstore, i_iinc, i_ii, i_iiz, i_ll, i_llz, i_lli, i_li, i_i, i_l, i_i2l, i_l2i, i_dup, i_dup2, i_dup2w, i_dupx1, i_pop, i_pop2, i_goto, i_ifc, i_icmp, i_getI, i_getL, i_getR, i_putI, i_putZ, i_putL, i_putR, i_aldI, i_aldB, i_aldL, i_aldD, i_astI, i_astL, i_astD, i_alen, i_ret, i_iret, i_zret, i_lret, i_fret, i_dret, i_aret, i_invS0, i_invV0, i_m2, i_m1, i_ml, i_obj, lk, lkp, stf1, stf2, Value.category, rV, xTo, lv_args, xCk, xCat, xRc, xAk, hg_S, hg_I, hg_J, hg_D, hg_R, hs_I, hs_J, hs_D, hs_R, uI_at, uJ_at, uD_at, uR_at, List.take_succ_cons, List.take_zero, List.drop_succ_cons, List.drop_zero, List.reverse_cons, List.reverse_nil, List.nil_append, List.cons_append, List.map_cons, List.map_nil, List.sum_cons, List.sum_nil, List.length_cons, List.length_nil, Option.toList_some, Option.toList_none, true_and, and_true, false_and, and_false, true_implies, false_implies, implies_true, not_true_eq_false, not_false_eq_true, ne_eq, if_true, if_false, Bool.and_true, Bool.true_and, decide_true, decide_false, reduceIte, reduceCtorEq, Bool.and_self, Bool.and_eq_true, decide_eq_true_eq, and_self, true_or, or_true, false_or, or_false, Nat.zero_add, Nat.add_zero, eq_self, Nat.reduceEqDiff, Nat.reduceLeDiff, Nat.reduceLT, Nat.reduceAdd, Nat.reduceSub, Nat.reduceMul, LC_out hL, r1, r2, nI_0, z0]
    refine w_newa 119 32768 l37 (by decide) (by decide) (by first | omega | (simp; done) | (simp; omega)) (by first | omega | (simp; done) | (simp; omega)) (by rw [r3]) (by decide) ?_
    simp only [xSeq, i_push, i_load, i_iload, i_lload, i_dload, i_aload, i_istore, i_astore, i_lstore, i_dstore, i_iinc, i_ii, i_iiz, i_ll, i_llz, i_lli, i_li, i_i, i_l, i_i2l, i_l2i, i_dup, i_dup2, i_dup2w, i_dupx1, i_pop, i_pop2, i_goto, i_ifc, i_icmp, i_getI, i_getL, i_getR, i_putI, i_putZ, i_putL, i_putR, i_aldI, i_aldB, i_aldL, i_aldD, i_astI, i_astL, i_astD, i_alen, i_ret, i_iret, i_zret, i_lret, i_fret, i_dret, i_aret, i_invS0, i_invV0, i_m2, i_m1, i_ml, i_obj, lk, lkp, stf1, stf2, Value.category, rV, xTo, lv_args, xCk, xCat, xRc, xAk, hg_S, hg_I, hg_J, hg_D, hg_R, hs_I, hs_J, hs_D, hs_R, uI_at, uJ_at, uD_at, uR_at, List.take_succ_cons, List.take_zero, List.drop_succ_cons, List.drop_zero, List.reverse_cons, List.reverse_nil, List.nil_append, List.cons_append, List.map_cons, List.map_nil, List.sum_cons, List.sum_nil, List.length_cons, List.length_nil, Option.toList_some, Option.toList_none, true_and, and_true, false_and, and_false, true_implies, false_implies, implies_true, not_true_eq_false, not_false_eq_true, ne_eq, if_true, if_false, Bool.and_true, Bool.true_and, decide_true, decide_false, reduceIte, reduceCtorEq, Bool.and_self, Bool.and_eq_true, decide_eq_true_eq, and_self, true_or, or_true, false_or, or_false, Nat.zero_add, Nat.add_zero, eq_self, Nat.reduceEqDiff, Nat.reduceLeDiff, Nat.reduceLT, Nat.reduceAdd, Nat.reduceSub, Nat.reduceMul, nF_at, zI_at, zJ_at, zD_at, zR_at, LC_out hL]
    refine V37 (S := nSt S) (I := zI I 119) (J := zJ J 119) (R := nRt R) h2 w hK nRt_p nSt_p (fun I' h3 hi => ?_)
    simp only [xSeq, i_push, i_load, i_iload, i_lload, i_dload, i_aload, i_istore, i_astore, i_lstore, i_dstore, i_iinc, i_ii, i_iiz, i_ll, i_llz, i_lli, i_li, i_i, i_l, i_i2l, i_l2i, i_dup, i_dup2, i_dup2w, i_dupx1, i_pop, i_pop2, i_goto, i_ifc, i_icmp, i_getI, i_getL, i_getR, i_putI, i_putZ, i_putL, i_putR, i_aldI, i_aldB, i_aldL, i_aldD, i_astI, i_astL, i_astD, i_alen, i_ret, i_iret, i_zret, i_lret, i_fret, i_dret, i_aret, i_invS0, i_invV0, i_m2, i_m1, i_ml, i_obj, lk, lkp, stf1, stf2, Value.category, rV, xTo, lv_args, xCk, xCat, xRc, xAk, hg_S, hg_I, hg_J, hg_D, hg_R, hs_I, hs_J, hs_D, hs_R, uI_at, uJ_at, uD_at, uR_at, List.take_succ_cons, List.take_zero, List.drop_succ_cons, List.drop_zero, List.reverse_cons, List.reverse_nil, List.nil_append, List.cons_append, List.map_cons, List.map_nil, List.sum_cons, List.sum_nil, List.length_cons, List.length_nil, Option.toList_some, Option.toList_none, true_and, and_true, false_and, and_false, true_implies, false_implies, implies_true, not_true_eq_false, not_false_eq_true, ne_eq, if_true, if_false, Bool.and_true, Bool.true_and, decide_true, decide_false, reduceIte, reduceCtorEq, Bool.and_self, Bool.and_eq_true, decide_eq_true_eq, and_self, true_or, or_true, false_or, or_false, Nat.zero_add, Nat.add_zero, eq_self, Nat.reduceEqDiff, Nat.reduceLeDiff, Nat.reduceLT, Nat.reduceAdd, Nat.reduceSub, Nat.reduceMul]
    exact kk _ _ I' _ _ _ f _ rfl h3 (frC_tr frC_tab (fun o h1 => ⟨rfl, hi o (by omega), rfl, fun _ => rfl⟩)) (by omega)
  · have hP : tabP P R = P := by
      unfold tabP
      rw [if_pos r1]
    rw [hP] at b1 b2 kk ⊢
    have z0 : (nI 32768 = 0) = False := eq_false (by decide)
    simp only [B37_9, xSeq, i_push, i_load, i_iload, i_lload, i_dload, i_aload, i_istore, i_astore, i_lstore, i_dstore, i_iinc, i_ii, i_iiz, i_ll, i_llz, i_lli, i_li, i_i, i_l, i_i2l, i_l2i, i_dup, i_dup2, i_dup2w, i_dupx1, i_pop, i_pop2, i_goto, i_ifc, i_icmp, i_getI, i_getL, i_getR, i_putI, i_putZ, i_putL, i_putR, i_aldI, i_aldB, i_aldL, i_aldD, i_astI, i_astL, i_astD, i_alen, i_ret, i_iret, i_zret, i_lret, i_fret, i_dret, i_aret, i_invS0, i_invV0, i_m2, i_m1, i_ml, i_obj, lk, lkp, stf1, stf2, Value.category, rV, xTo, lv_args, xCk, xCat, xRc, xAk, hg_S, hg_I, hg_J, hg_D, hg_R, hs_I, hs_J, hs_D, hs_R, uI_at, uJ_at, uD_at, uR_at, List.take_succ_cons, List.take_zero, List.drop_succ_cons, List.drop_zero, List.reverse_cons, List.reverse_nil, List.nil_append, List.cons_append, List.map_cons, List.map_nil, List.sum_cons, List.sum_nil, List.length_cons, List.length_nil, Option.toList_some, Option.toList_none, true_and, and_true, false_and, and_false, true_implies, false_implies, implies_true, not_true_eq_false, not_false_eq_true, ne_eq, if_true, if_false, Bool.and_true, Bool.true_and, decide_true, decide_false, reduceIte, reduceCtorEq, Bool.and_self, Bool.and_eq_true, decide_eq_true_eq, and_self, true_or, or_true, false_or, or_false, Nat.zero_add, Nat.add_zero, eq_self, Nat.reduceEqDiff, Nat.reduceLeDiff, Nat.reduceLT, Nat.reduceAdd, Nat.reduceSub, Nat.reduceMul, LC_out hL, r1, r2, z0]
    refine V37 h w hK r1 r2 (fun I' h3 hi => ?_)
    simp only [xSeq, i_push, i_load, i_iload, i_lload, i_dload, i_aload, i_istore, i_astore, i_lstore, i_dstore, i_iinc, i_ii, i_iiz, i_ll, i_llz, i_lli, i_li, i_i, i_l, i_i2l, i_l2i, i_dup, i_dup2, i_dup2w, i_dupx1, i_pop, i_pop2, i_goto, i_ifc, i_icmp, i_getI, i_getL, i_getR, i_putI, i_putZ, i_putL, i_putR, i_aldI, i_aldB, i_aldL, i_aldD, i_astI, i_astL, i_astD, i_alen, i_ret, i_iret, i_zret, i_lret, i_fret, i_dret, i_aret, i_invS0, i_invV0, i_m2, i_m1, i_ml, i_obj, lk, lkp, stf1, stf2, Value.category, rV, xTo, lv_args, xCk, xCat, xRc, xAk, hg_S, hg_I, hg_J, hg_D, hg_R, hs_I, hs_J, hs_D, hs_R, uI_at, uJ_at, uD_at, uR_at, List.take_succ_cons, List.take_zero, List.drop_succ_cons, List.drop_zero, List.reverse_cons, List.reverse_nil, List.nil_append, List.cons_append, List.map_cons, List.map_nil, List.sum_cons, List.sum_nil, List.length_cons, List.length_nil, Option.toList_some, Option.toList_none, true_and, and_true, false_and, and_false, true_implies, false_implies, implies_true, not_true_eq_false, not_false_eq_true, ne_eq, if_true, if_false, Bool.and_true, Bool.true_and, decide_true, decide_false, reduceIte, reduceCtorEq, Bool.and_self, Bool.and_eq_true, decide_eq_true_eq, and_self, true_or, or_true, false_or, or_false, Nat.zero_add, Nat.add_zero, eq_self, Nat.reduceEqDiff, Nat.reduceLeDiff, Nat.reduceLT, Nat.reduceAdd, Nat.reduceSub, Nat.reduceMul]
    exact kk _ S I' J D R f _ rfl h3 (fun o h1 => ⟨rfl, hi o (by omega), rfl, fun _ => rfl⟩) (by omega)
theorem KM32 (w : WA N z) : MC 298 [(0, .ref 200)] z z (fun r I _ _ => r = some (.int (nI (dct (stC z.2.1) (stK z.2.1)))) ∧ I 200 19 = 0) := by
  intro S I J D R b Q h kk
  obtain ⟨hM, hD, hG, ⟨i2, i3, i4, i5, i6, i7, j3, j4⟩, i16, ⟨s1, s2, s3⟩, ⟨n0, n1, n2, n3⟩⟩ := AM_o h w
  have h9 := AM_19 h 0
  obtain ⟨V, hV⟩ : ∃ V : Nat, V = 32768 := ⟨_, rfl⟩
  have hn : (32768 : Int32) = nI V := by rw [hV]; decide
  have hk2 : stK z.2.1 ≤ 10000 := h.2.2.1.2.2.1.2
  have h0 : uI I 200 19 0 300 9 = nI (stK z.2.1) := h.2.2.1.2.2.1.1
  have hC : ∀ i, i < stK z.2.1 → J 310 i = lN (stC z.2.1 i) ∧ stC z.2.1 i < 2 ^ 64 := fun i hi => ⟨(h.2.2.1.2.2.2 i hi).2.2, Nat.lt_of_lt_of_le (w.2.1.2.2.2 i hi).1 (Nat.pow_le_pow_right (by decide) n1)⟩
  have ht := TB_0 V hsM (stC z.2.1)
  have hI : HTv V 342 (uI I 200 19 0) (fun _ => 0) (rI (uI I 200 19 0) 342 (fill (uI I 200 19 0 342) 0 V)) := ⟨fun p hp => by rw [rI_at, if_pos rfl, fill_at, if_pos hp]; rfl, fun o j ho => by rw [rI_at, if_neg ho]⟩
  have hh := L298_30 (S := S) (J := J) (D := D) (R := R) (b := b) (Q := Q) hV hsM_lt (fun _ hc => hsM_e hc) hM hk2 hC h0 (fun I' T' q => by
    have hi : ∀ o, o ≠ 342 → I' o = uI I 200 19 0 o := fun o ho => funext fun j => q.2 o j ho
    have k6 : ∀ o j, ¬ (o = 340 ∨ o = 341 ∨ o = 342 ∨ (353 ≤ o ∧ o ≤ 357)) → I' o j = uI I 200 19 0 o j := fun o j q1 => q.2 o j (by omega)
    exact kk _ I' J _ ⟨rfl, q.2 200 19 (by decide)⟩ (AM_scr h9 k6) (frM_tr (frM_19 (J := J) 0) (frM_scr k6))) (stK z.2.1) 0 _ _ (by omega) ht hI
  have h7 := R298_7 (S := S) (R := R) (I := uI I 200 19 0) (J := J) (D := D) (b := b) (Q := Q) hM hn hV V 0 (uI I 200 19 0 342) (by omega)
  rw [fill_0, rI_self] at h7
  rw [e298_0]
  simp only [B298_0, xSeq, i_push, i_load, i_iload, i_lload, i_dload, i_aload, i_istore, i_astore, i_lstore, i_dstore, i_iinc, i_ii, i_iiz, i_ll, i_llz, i_lli, i_li, i_i, i_l, i_i2l, i_l2i, i_dup, i_dup2, i_dup2w, i_dupx1, i_pop, i_pop2, i_goto, i_ifc, i_icmp, i_getI, i_getL, i_getR, i_putI, i_putZ, i_putL, i_putR, i_aldI, i_aldB, i_aldL, i_aldD, i_astI, i_astL, i_astD, i_alen, i_ret, i_iret, i_zret, i_lret, i_fret, i_dret, i_aret, i_invS0, i_invV0, i_m2, i_m1, i_ml, i_obj, lk, lkp, stf1, stf2, Value.category, rV, xTo, lv_args, xCk, xCat, xRc, xAk, hg_S, hg_I, hg_J, hg_D, hg_R, hs_I, hs_J, hs_D, hs_R, uI_at, uJ_at, uD_at, uR_at, List.take_succ_cons, List.take_zero, List.drop_succ_cons, List.drop_zero, List.reverse_cons, List.reverse_nil, List.nil_append, List.cons_append, List.map_cons, List.map_nil, List.sum_cons, List.sum_nil, List.length_cons, List.length_nil, Option.toList_some, Option.toList_none, true_and, and_true, false_and, and_false, true_implies, false_implies, implies_true, not_true_eq_false, not_false_eq_true, ne_eq, if_true, if_false, Bool.and_true, Bool.true_and, decide_true, decide_false, reduceIte, reduceCtorEq, Bool.and_self, Bool.and_eq_true, decide_eq_true_eq, and_self, true_or, or_true, false_or, or_false, Nat.zero_add, Nat.add_zero, eq_self, Nat.reduceEqDiff, Nat.reduceLeDiff, Nat.reduceLT, Nat.reduceAdd, Nat.reduceSub, Nat.reduceMul, LM_out hM]
  refine h7.symm ▸ ?_
  rw [e298_26]
  simp only [B298_26, xSeq, i_push, i_load, i_iload, i_lload, i_dload, i_aload, i_istore, i_astore, i_lstore, i_dstore, i_iinc, i_ii, i_iiz, i_ll, i_llz, i_lli, i_li, i_i, i_l, i_i2l, i_l2i, i_dup, i_dup2, i_dup2w, i_dupx1, i_pop, i_pop2, i_goto, i_ifc, i_icmp, i_getI, i_getL, i_getR, i_putI, i_putZ, i_putL, i_putR, i_aldI, i_aldB, i_aldL, i_aldD, i_astI, i_astL, i_astD, i_alen, i_ret, i_iret, i_zret, i_lret, i_fret, i_dret, i_aret, i_invS0, i_invV0, i_m2, i_m1, i_ml, i_obj, lk, lkp, stf1, stf2, Value.category, rV, xTo, lv_args, xCk, xCat, xRc, xAk, hg_S, hg_I, hg_J, hg_D, hg_R, hs_I, hs_J, hs_D, hs_R, uI_at, uJ_at, uD_at, uR_at, List.take_succ_cons, List.take_zero, List.drop_succ_cons, List.drop_zero, List.reverse_cons, List.reverse_nil, List.nil_append, List.cons_append, List.map_cons, List.map_nil, List.sum_cons, List.sum_nil, List.length_cons, List.length_nil, Option.toList_some, Option.toList_none, true_and, and_true, false_and, and_false, true_implies, false_implies, implies_true, not_true_eq_false, not_false_eq_true, ne_eq, if_true, if_false, Bool.and_true, Bool.true_and, decide_true, decide_false, reduceIte, reduceCtorEq, Bool.and_self, Bool.and_eq_true, decide_eq_true_eq, and_self, true_or, or_true, false_or, or_false, Nat.zero_add, Nat.add_zero, eq_self, Nat.reduceEqDiff, Nat.reduceLeDiff, Nat.reduceLT, Nat.reduceAdd, Nat.reduceSub, Nat.reduceMul]
  exact hh
end
