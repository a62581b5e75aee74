/-! ===== saving, restoring: printed by a28.savec.py ===== -/
section
variable {g : xGd} {x x' y : xSt} {sv sv' : Option xSt} {k : Nat} {by' : Nat → Nat} {e1 e2 : Int32} {z : xA} {N P f : Nat} {S : xS} {I I' : xI} {J J' : xJ} {D : xDb} {R : xR} {b : Nat × Nat} {Q : xQ} {n m K : Nat}
def rows120 (P K : Nat) (R : xR) : Nat := if K = 0 then P else if R 122 1 = some 127 then P else P - 20002
theorem rows120_le : rows120 P K R ≤ P := by
  unfold rows120
  split
  · omega
  · split <;> omega
theorem fr120 : frC S I J R S (fI120 I K) (fJ120 J K) R := fun o h1 => ⟨rfl, fI120_o (by omega) (by omega) (by omega) (by omega), rfl, fun _ => fJ120_o (by omega) (by omega)⟩
theorem K80_120 (h : AC g x sv k by' e1 e2 P f S I J R) (b1 : P - rows120 P (stK x) R ≤ b.1) (b2 : P - rows120 P (stK x) R ≤ b.2)
    (kk : ∀ S' I0 J0 D' R' b', AC g x sv k by' e1 e2 (rows120 P (stK x) R) f S' I0 J0 R' → frC S I J R S' I0 J0 R' → (stK x = 0 ∨ R' 122 1 = some 127) → (stK x = 0 ∨ R' 112 1 = some 117) → Q (.ok none) (S', fI120 I0 (stK x), fJ120 J0 (stK x), D', R') b') : xRun xT 80 0 [(0, .ref 120), (1, .ref 110)] [] (S, I, J, D, R) b Q := by
  have hL := h.1
  have h0 : I 112 0 = nI (stK x) := h.2.2.1.2.2.1.1
  have hK2 : stK x ≤ 10000 := h.2.2.1.2.2.1.2
  by_cases hK : stK x = 0
  · have hP : rows120 P (stK x) R = P := by
      unfold rows120
      rw [if_pos hK]
    rw [hP] at kk
    have kk2 := fun b' => kk S I J D R b' h frC_rfl (Or.inl hK) (Or.inl hK)
    rw [hK] at kk2 h0
    exact L80z120 hL (h0.trans rfl) kk2
  · obtain ⟨r1, r2, r3, r4⟩ : R 112 1 = some 117 ∧ S 117 = (101, 10000) ∧ R 112 2 = some 118 ∧ S 118 = (100, 10000) := by
      obtain ⟨a1, ⟨a2, a3, a4, a5⟩, a6, ⟨a7, a8⟩, ⟨a9, a10, a11, a12⟩, a13, p1, p2, p3, p4, p5, q0, q1, q2, q3, q4, q5⟩ := h
      rcases q1 with ⟨-, -, -, -, -, -, r7, -⟩ | r
      · have r7 : I 112 0 = 0 := r7
        rw [h0, show (0 : Int32) = nI 0 from rfl] at r7
        have := (nI_eq (by omega) (by decide)).mp r7
        omega
      · exact r
    rcases AC_rd h with hr | ⟨t1, t2, t3, t4⟩
    · have hP : rows120 P (stK x) R = P - 20002 := by
        unfold rows120
        rw [if_neg hK, hr, if_neg (by decide)]
      obtain ⟨v0, v1, v2, v3, h2⟩ := AC_rows122 h hr
      rw [hP] at b1 b2 kk
      refine L80m120 hL h2.1 h0 (by omega) hK2 r1 r2 r3 r4 hr v1 v2 v3 (by omega) (by omega) (fun b' => ?_)
      exact kk _ _ _ _ _ _ h2 frC_rows122 (Or.inr (nR122_p (S := S)).1) (Or.inr ((nR122_o (by decide) (by decide) (by decide)).trans r1))
    · have hP : rows120 P (stK x) R = P := by
        unfold rows120
        rw [if_neg hK, if_pos t1]
      rw [hP] at kk
      exact L80p120 hL h0 (by omega) hK2 r1 r2 r3 r4 t1 t2 t3 t4 (fun b' => kk _ _ _ _ _ _ h frC_rfl (Or.inr t1) (Or.inr r1))
def rows110 (P K : Nat) (R : xR) : Nat := if K = 0 then P else if R 112 1 = some 117 then P else P - 20002
theorem rows110_le : rows110 P K R ≤ P := by
  unfold rows110
  split
  · omega
  · split <;> omega
theorem fr110 : frC S I J R S (fI110 I K) (fJ110 J K) R := fun o h1 => ⟨rfl, fI110_o (by omega) (by omega) (by omega) (by omega), rfl, fun _ => fJ110_o (by omega) (by omega)⟩
theorem K80_110 (h : AC g x sv k by' e1 e2 P f S I J R) (hy : sv = some y) (b1 : P - rows110 P (stK y) R ≤ b.1) (b2 : P - rows110 P (stK y) R ≤ b.2)
    (kk : ∀ S' I0 J0 D' R' b', AC g x sv k by' e1 e2 (rows110 P (stK y) R) f S' I0 J0 R' → frC S I J R S' I0 J0 R' → (stK y = 0 ∨ R' 112 1 = some 117) → (stK y = 0 ∨ R' 122 1 = some 127) → Q (.ok none) (S', fI110 I0 (stK y), fJ110 J0 (stK y), D', R') b') : xRun xT 80 0 [(0, .ref 110), (1, .ref 120)] [] (S, I, J, D, R) b Q := by
  have hL := h.1
  have h0 : I 122 0 = nI (stK y) := (h.2.2.2.1.2 y hy).2.2.1.1
  have hK2 : stK y ≤ 10000 := (h.2.2.2.1.2 y hy).2.2.1.2
  by_cases hK : stK y = 0
  · have hP : rows110 P (stK y) R = P := by
      unfold rows110
      rw [if_pos hK]
    rw [hP] at kk
    have kk2 := fun b' => kk S I J D R b' h frC_rfl (Or.inl hK) (Or.inl hK)
    rw [hK] at kk2 h0
    exact L80z110 hL (h0.trans rfl) kk2
  · obtain ⟨r1, r2, r3, r4⟩ : R 122 1 = some 127 ∧ S 127 = (101, 10000) ∧ R 122 2 = some 128 ∧ S 128 = (100, 10000) := by
      obtain ⟨a1, ⟨a2, a3, a4, a5⟩, a6, ⟨a7, a8⟩, ⟨a9, a10, a11, a12⟩, a13, p1, p2, p3, p4, p5, q0, q1, q2, q3, q4, q5⟩ := h
      rcases q2 with ⟨-, -, -, -, -, -, r7, -⟩ | r
      · have r7 : I 122 0 = 0 := r7
        rw [h0, show (0 : Int32) = nI 0 from rfl] at r7
        have := (nI_eq (by omega) (by decide)).mp r7
        omega
      · exact r
    rcases AC_rc h with hr | ⟨t1, t2, t3, t4⟩
    · have hP : rows110 P (stK y) R = P - 20002 := by
        unfold rows110
        rw [if_neg hK, hr, if_neg (by decide)]
      obtain ⟨v0, v1, v2, v3, h2⟩ := AC_rows112 h hr
      rw [hP] at b1 b2 kk
      refine L80m110 hL h2.1 h0 (by omega) hK2 r1 r2 r3 r4 hr v1 v2 v3 (by omega) (by omega) (fun b' => ?_)
      exact kk _ _ _ _ _ _ h2 frC_rows112 (Or.inr (nR112_p (S := S)).1) (Or.inr ((nR112_o (by decide) (by decide) (by decide)).trans r1))
    · have hP : rows110 P (stK y) R = P := by
        unfold rows110
        rw [if_neg hK, if_pos t1]
      rw [hP] at kk
      exact L80p110 hL h0 (by omega) hK2 r1 r2 r3 r4 t1 t2 t3 t4 (fun b' => kk _ _ _ _ _ _ h frC_rfl (Or.inr t1) (Or.inr r1))
def zSv (z : xA) : xA := (z.1, z.2.1, some z.2.1, z.2.2.2)
def zRs (z : xA) (y : xSt) : xA := (z.1, y, z.2.2)
theorem AC_sv (h : AC g x sv k by' e1 e2 P f S I J R) (w : WF N g x sv k by') (hr : stK x = 0 ∨ R 122 1 = some 127) (hr2 : stK x = 0 ∨ R 112 1 = some 117) : AC g x (some x) k by' e1 e2 P f S (uI (fI120 I (stK x)) 100 7 1) (fJ120 J (stK x)) R := by
  have hi : ∀ o, o ≠ 100 → o ≠ 120 → o ≠ 121 → o ≠ 122 → o ≠ 128 → uI (fI120 I (stK x)) 100 7 1 o = I o := fun o q0 q1 q2 q3 q4 => by
    have e := fI120_o (I := I) (K := stK x) q1 q2 q3 q4
    rw [← e]
    funext j
    rw [uI_at, if_neg (fun e => q0 e.1)]
  have hi2 : ∀ o, o ≠ 100 → uI (fI120 I (stK x)) 100 7 1 o = fI120 I (stK x) o := fun o q0 => by
    funext j
    rw [uI_at, if_neg (fun e => q0 e.1)]
  have hj : ∀ o, o ≠ 120 → o ≠ 127 → fJ120 J (stK x) o = J o := fun o q1 q2 => fJ120_o q1 q2
  have c := h.2.2.1
  have f2 := fC120 c (gn_bd w.1).2.2.1
  refine AC_gen h (fun o q0 q1 q2 q3 q4 q5 q6 q7 q8 q9 q10 q11 => hi o q2 q7 q8 q9 q10) (fun j q => by rw [uI_at, if_neg (fun e => q e.2), fI120_o (by decide) (by decide) (by decide) (by decide)]) (fun j q => by rw [hi 130 (by decide) (by decide) (by decide) (by decide) (by decide)]) (fun o q1 q2 => hi o (by omega) (by omega) (by omega) (by omega) (by omega)) (hj 102 (by decide) (by decide)) (Or.inr ⟨by rw [hi 130 (by decide) (by decide) (by decide) (by decide) (by decide)], rfl⟩) ?_ ⟨?_, fun y hy => ?_⟩ ?_ ?_
  · exact CS_e c (hi 110 (by decide) (by decide) (by decide) (by decide) (by decide)) (hi 111 (by decide) (by decide) (by decide) (by decide) (by decide)) (hi 112 (by decide) (by decide) (by decide) (by decide) (by decide)) (hi 118 (by decide) (by decide) (by decide) (by decide) (by decide)) (hj 110 (by decide) (by decide)) (hj 117 (by decide) (by decide))
  · rw [uI_at, if_pos ⟨rfl, rfl⟩]; rfl
  · cases hy
    exact CS_e f2 (hi2 120 (by decide)) (hi2 121 (by decide)) (hi2 122 (by decide)) (hi2 128 (by decide)) rfl rfl
  · rcases hr2 with hr2 | hr2
    · left
      rw [hi 112 (by decide) (by decide) (by decide) (by decide) (by decide), c.2.2.1.1, hr2]; rfl
    · exact Or.inr hr2
  · rcases hr with hr | hr
    · left
      rw [hi2 122 (by decide), f2.2.2.1.1, hr]; rfl
    · exact Or.inr hr
theorem AC_rs (h : AC g x sv k by' e1 e2 P f S I J R) (w : WF N g x sv k by') (hy : sv = some y) (hr : stK y = 0 ∨ R 112 1 = some 117) (hr2 : stK y = 0 ∨ R 122 1 = some 127) : AC g y sv k by' e1 e2 P f S (uI (fI110 I (stK y)) 130 1 0) (fJ110 J (stK y)) R := by
  have hi : ∀ o, o ≠ 130 → o ≠ 110 → o ≠ 111 → o ≠ 112 → o ≠ 118 → uI (fI110 I (stK y)) 130 1 0 o = I o := fun o q0 q1 q2 q3 q4 => by
    have e := fI110_o (I := I) (K := stK y) q1 q2 q3 q4
    rw [← e]
    funext j
    rw [uI_at, if_neg (fun e => q0 e.1)]
  have hi2 : ∀ o, o ≠ 130 → uI (fI110 I (stK y)) 130 1 0 o = fI110 I (stK y) o := fun o q0 => by
    funext j
    rw [uI_at, if_neg (fun e => q0 e.1)]
  have hj : ∀ o, o ≠ 110 → o ≠ 117 → fJ110 J (stK y) o = J o := fun o q1 q2 => fJ110_o q1 q2
  have c := h.2.2.2.1.2 y hy
  have f2 := fC110 c (gn_bd w.1).2.2.1
  refine AC_gen h (fun o q0 q1 q2 q3 q4 q5 q6 q7 q8 q9 q10 q11 => hi o q11 q3 q4 q5 q6) (fun j q => by rw [hi 100 (by decide) (by decide) (by decide) (by decide) (by decide)]) (fun j q => by rw [uI_at, if_neg (fun e => q e.2), fI110_o (by decide) (by decide) (by decide) (by decide)]) (fun o q1 q2 => hi o (by omega) (by omega) (by omega) (by omega) (by omega)) (hj 102 (by decide) (by decide)) (Or.inl (by rw [uI_at, if_pos ⟨rfl, rfl⟩])) ?_ ⟨?_, fun y' hy' => ?_⟩ ?_ ?_
  · exact CS_e f2 (hi2 110 (by decide)) (hi2 111 (by decide)) (hi2 112 (by decide)) (hi2 118 (by decide)) rfl rfl
  · rw [hi 100 (by decide) (by decide) (by decide) (by decide) (by decide)]; exact h.2.2.2.1.1
  · exact CS_e (h.2.2.2.1.2 y' hy') (hi 120 (by decide) (by decide) (by decide) (by decide) (by decide)) (hi 121 (by decide) (by decide) (by decide) (by decide) (by decide)) (hi 122 (by decide) (by decide) (by decide) (by decide) (by decide)) (hi 128 (by decide) (by decide) (by decide) (by decide) (by decide)) (hj 120 (by decide) (by decide)) (hj 127 (by decide) (by decide))
  · rcases hr with hr | hr
    · left
      rw [hi2 112 (by decide), f2.2.2.1.1, hr]; rfl
    · exact Or.inr hr
  · rcases hr2 with hr2 | hr2
    · left
      rw [hi 122 (by decide) (by decide) (by decide) (by decide) (by decide), c.2.2.1.1, hr2]; rfl
    · exact Or.inr hr2
theorem KC62 (w : WA N z) : CC 1 145 [(0, .ref 100)] z (zSv z) (fun r _ _ => r = some (.int (eG z.1 z.2.1 (stZ z.2.1).1))) := by
  intro P f S I J D R h hw hf
  obtain ⟨hL, hC, hG, ⟨i6, i7, i8, i9, i10, i11, j4, j5⟩, j102, i111, ⟨s1, s2, s3⟩, ⟨n0, n1, n2, n3⟩⟩ := AC_o h w
  refine ⟨rows120 P (stK z.2.1) R, rows120_le, fun e => absurd e (by decide), fun b Q b1 b2 kk => ?_⟩
  rw [e145_0]
  simp only [B145_0, xSeq, i_push, i_load, i_iload, i_lload, i_dload, i_aload, i_istore, i_astore, i_lstore, i_dstore, i_iinc, i_ii, i_iiz, i_ll, i_llz, i_lli, i_li, i_i, i_l, i_i2l, i_l2i, i_dup, i_dup2, i_dup2w, i_dupx1, i_pop, i_pop2, i_goto, i_ifc, i_icmp, i_getI, i_getL, i_getR, i_putI, i_putZ, i_putL, i_putR, i_aldI, i_aldB, i_aldL, i_aldD, i_astI, i_astL, i_astD, i_alen, i_ret, i_iret, i_zret, i_lret, i_fret, i_dret, i_aret, i_invS0, i_invV0, i_m2, i_m1, i_ml, i_obj, lk, lkp, stf1, stf2, Value.category, rV, xTo, lv_args, xCk, xCat, xRc, xAk, hg_S, hg_I, hg_J, hg_D, hg_R, hs_I, hs_J, hs_D, hs_R, uI_at, uJ_at, uD_at, uR_at, List.take_succ_cons, List.take_zero, List.drop_succ_cons, List.drop_zero, List.reverse_cons, List.reverse_nil, List.nil_append, List.cons_append, List.map_cons, List.map_nil, List.sum_cons, List.sum_nil, List.length_cons, List.length_nil, Option.toList_some, Option.toList_none, true_and, and_true, false_and, and_false, true_implies, false_implies, implies_true, not_true_eq_false, not_false_eq_true, ne_eq, if_true, if_false, Bool.and_true, Bool.true_and, decide_true, decide_false, reduceIte, reduceCtorEq, Bool.and_self, Bool.and_eq_true, decide_eq_true_eq, and_self, true_or, or_true, false_or, or_false, Nat.zero_add, Nat.add_zero, eq_self, Nat.reduceEqDiff, Nat.reduceLeDiff, Nat.reduceLT, Nat.reduceAdd, Nat.reduceSub, Nat.reduceMul, LC_out hL]
  refine w_invVA (mc := P - rows120 P (stK z.2.1) R) (ms := P - rows120 P (stK z.2.1) R) (by omega) (by omega) rfl (by simp only [xSeq, i_push, i_load, i_iload, i_lload, i_dload, i_aload, i_istore, i_astore, i_lstore, i_dstore, i_iinc, i_ii, i_iiz, i_ll, i_llz, i_lli, i_li, i_i, i_l, i_i2l, i_l2i, i_dup, i_dup2, i_dup2w, i_dupx1, i_pop, i_pop2, i_goto, i_ifc, i_icmp, i_getI, i_getL, i_getR, i_putI, i_putZ, i_putL, i_putR, i_aldI, i_aldB, i_aldL, i_aldD, i_astI, i_astL, i_astD, i_alen, i_ret, i_iret, i_zret, i_lret, i_fret, i_dret, i_aret, i_invS0, i_invV0, i_m2, i_m1, i_ml, i_obj, lk, lkp, stf1, stf2, Value.category, rV, xTo, lv_args, xCk, xCat, xRc, xAk, hg_S, hg_I, hg_J, hg_D, hg_R, hs_I, hs_J, hs_D, hs_R, uI_at, uJ_at, uD_at, uR_at, List.take_succ_cons, List.take_zero, List.drop_succ_cons, List.drop_zero, List.reverse_cons, List.reverse_nil, List.nil_append, List.cons_append, List.map_cons, List.map_nil, List.sum_cons, List.sum_nil, List.length_cons, List.length_nil, Option.toList_some, Option.toList_none, true_and, and_true, false_and, and_false, true_implies, false_implies, implies_true, not_true_eq_false, not_false_eq_true, ne_eq, if_true, if_false, Bool.and_true, Bool.true_and, decide_true, decide_false, reduceIte, reduceCtorEq, Bool.and_self, Bool.and_eq_true, decide_eq_true_eq, and_self, true_or, or_true, false_or, or_false, Nat.zero_add, Nat.add_zero, eq_self, Nat.reduceEqDiff, Nat.reduceLeDiff, Nat.reduceLT, Nat.reduceAdd, Nat.reduceSub, Nat.reduceMul, LC_out hL]) ?_
  simp only [xSeq, i_push, i_load, i_iload, i_lload, i_dload, i_aload, i_istore, i_astore, i_lstore, i_dstore, i_iinc, i_ii, i_iiz, i_ll, i_llz, i_lli, i_li, i_i, i_l, i_i2l, i_l2i, i_dup, i_dup2, i_dup2w, i_dupx1, i_pop, i_pop2, i_goto, i_ifc, i_icmp, i_getI, i_getL, i_getR, i_putI, i_putZ, i_putL, i_putR, i_aldI, i_aldB, i_aldL, i_aldD, i_astI, i_astL, i_astD, i_alen, i_ret, i_iret, i_zret, i_lret, i_fret, i_dret, i_aret, i_invS0, i_invV0, i_m2, i_m1, i_ml, i_obj, lk, lkp, stf1, stf2, Value.category, rV, xTo, lv_args, xCk, xCat, xRc, xAk, hg_S, hg_I, hg_J, hg_D, hg_R, hs_I, hs_J, hs_D, hs_R, uI_at, uJ_at, uD_at, uR_at, List.take_succ_cons, List.take_zero, List.drop_succ_cons, List.drop_zero, List.reverse_cons, List.reverse_nil, List.nil_append, List.cons_append, List.map_cons, List.map_nil, List.sum_cons, List.sum_nil, List.length_cons, List.length_nil, Option.toList_some, Option.toList_none, true_and, and_true, false_and, and_false, true_implies, false_implies, implies_true, not_true_eq_false, not_false_eq_true, ne_eq, if_true, if_false, Bool.and_true, Bool.true_and, decide_true, decide_false, reduceIte, reduceCtorEq, Bool.and_self, Bool.and_eq_true, decide_eq_true_eq, and_self, true_or, or_true, false_or, or_false, Nat.zero_add, Nat.add_zero, eq_self, Nat.reduceEqDiff, Nat.reduceLeDiff, Nat.reduceLT, Nat.reduceAdd, Nat.reduceSub, Nat.reduceMul]
  refine K80_120 h (Nat.le_refl _) (Nat.le_refl _) (fun S' I0 J0 D' R' b' h2 fr hr hr2 => ?_)
  have h3 := AC_sv h2 w hr hr2
  obtain ⟨hL3, hC3, hG3, ⟨-, -, -, -, -, -, t4, -⟩, -⟩ := AC_o h3 (show WF N z.1 z.2.1 (some z.2.1) z.2.2.2.1 z.2.2.2.2.1 from ⟨w.1, w.2.1, fun y hy => by cases hy; exact w.2.1, w.2.2.2⟩)
  simp only [xSeq, i_push, i_load, i_iload, i_lload, i_dload, i_aload, i_istore, i_astore, i_lstore, i_dstore, i_iinc, i_ii, i_iiz, i_ll, i_llz, i_lli, i_li, i_i, i_l, i_i2l, i_l2i, i_dup, i_dup2, i_dup2w, i_dupx1, i_pop, i_pop2, i_goto, i_ifc, i_icmp, i_getI, i_getL, i_getR, i_putI, i_putZ, i_putL, i_putR, i_aldI, i_aldB, i_aldL, i_aldD, i_astI, i_astL, i_astD, i_alen, i_ret, i_iret, i_zret, i_lret, i_fret, i_dret, i_aret, i_invS0, i_invV0, i_m2, i_m1, i_ml, i_obj, lk, lkp, stf1, stf2, Value.category, rV, xTo, lv_args, xCk, xCat, xRc, xAk, hg_S, hg_I, hg_J, hg_D, hg_R, hs_I, hs_J, hs_D, hs_R, uI_at, uJ_at, uD_at, uR_at, List.take_succ_cons, List.take_zero, List.drop_succ_cons, List.drop_zero, List.reverse_cons, List.reverse_nil, List.nil_append, List.cons_append, List.map_cons, List.map_nil, List.sum_cons, List.sum_nil, List.length_cons, List.length_nil, Option.toList_some, Option.toList_none, true_and, and_true, false_and, and_false, true_implies, false_implies, implies_true, not_true_eq_false, not_false_eq_true, ne_eq, if_true, if_false, Bool.and_true, Bool.true_and, decide_true, decide_false, reduceIte, reduceCtorEq, Bool.and_self, Bool.and_eq_true, decide_eq_true_eq, and_self, true_or, or_true, false_or, or_false, Nat.zero_add, Nat.add_zero, eq_self, Nat.reduceEqDiff, Nat.reduceLeDiff, Nat.reduceLT, Nat.reduceAdd, Nat.reduceSub, Nat.reduceMul, LC_out hL3]
  rw [R126 (I := uI (fI120 I0 (stK z.2.1)) 100 7 1) hL3 hG3 hC3 t4 s2 s1, AC_en h3]
  simp only [xSeq, i_push, i_load, i_iload, i_lload, i_dload, i_aload, i_istore, i_astore, i_lstore, i_dstore, i_iinc, i_ii, i_iiz, i_ll, i_llz, i_lli, i_li, i_i, i_l, i_i2l, i_l2i, i_dup, i_dup2, i_dup2w, i_dupx1, i_pop, i_pop2, i_goto, i_ifc, i_icmp, i_getI, i_getL, i_getR, i_putI, i_putZ, i_putL, i_putR, i_aldI, i_aldB, i_aldL, i_aldD, i_astI, i_astL, i_astD, i_alen, i_ret, i_iret, i_zret, i_lret, i_fret, i_dret, i_aret, i_invS0, i_invV0, i_m2, i_m1, i_ml, i_obj, lk, lkp, stf1, stf2, Value.category, rV, xTo, lv_args, xCk, xCat, xRc, xAk, hg_S, hg_I, hg_J, hg_D, hg_R, hs_I, hs_J, hs_D, hs_R, uI_at, uJ_at, uD_at, uR_at, List.take_succ_cons, List.take_zero, List.drop_succ_cons, List.drop_zero, List.reverse_cons, List.reverse_nil, List.nil_append, List.cons_append, List.map_cons, List.map_nil, List.sum_cons, List.sum_nil, List.length_cons, List.length_nil, Option.toList_some, Option.toList_none, true_and, and_true, false_and, and_false, true_implies, false_implies, implies_true, not_true_eq_false, not_false_eq_true, ne_eq, if_true, if_false, Bool.and_true, Bool.true_and, decide_true, decide_false, reduceIte, reduceCtorEq, Bool.and_self, Bool.and_eq_true, decide_eq_true_eq, and_self, true_or, or_true, false_or, or_false, Nat.zero_add, Nat.add_zero, eq_self, Nat.reduceEqDiff, Nat.reduceLeDiff, Nat.reduceLT, Nat.reduceAdd, Nat.reduceSub, Nat.reduceMul]
  exact kk _ S' _ _ D' R' f _ rfl h3 (frC_tr fr (frC_tr fr120 (fun o h1 => ⟨rfl, by funext j; rw [uI_at, if_neg (fun e => by omega)], rfl, fun _ => rfl⟩))) (by omega)
def gI302 (I : xI) (K : Nat) : xI := cpr (cpr (cpr I 300 302 144) 308 311 K) 309 312 K
def gJ302 (J : xJ) (K : Nat) : xJ := uJ (uJ (cpq J 310 313 K) 200 5 (J 200 3)) 200 6 (J 200 4)
theorem gI302_o {o : Nat} (h1 : o ≠ 302) (h2 : o ≠ 311) (h3 : o ≠ 312) : gI302 I K o = I o := by
  funext j
  unfold gI302
  simp only [cpr_at, h1, h2, h3, if_false]
theorem gI302_w {j : Nat} (hj : j < 144) : gI302 I K 302 j = I 300 j := by
  unfold gI302
  simp only [cpr_at, hj, true_and, and_true, false_and, and_false, true_implies, false_implies, implies_true, not_true_eq_false, not_false_eq_true, ne_eq, if_true, if_false, Bool.and_true, Bool.true_and, decide_true, decide_false, reduceIte, reduceCtorEq, Bool.and_self, Bool.and_eq_true, decide_eq_true_eq, and_self, true_or, or_true, false_or, or_false, Nat.zero_add, Nat.add_zero, eq_self, Nat.reduceEqDiff, Nat.reduceLeDiff, Nat.reduceLT, Nat.reduceAdd, Nat.reduceSub, Nat.reduceMul]
theorem gC302 (c : MS 300 3 308 n m y I J) (hm : m ≤ 128) : MS 302 5 311 n m y (gI302 I (stK y)) (gJ302 J (stK y)) := by
  obtain ⟨⟨c1, c2, c3, c4, c5, c6, c7, c8⟩, c9, ⟨c10, c11⟩, c12⟩ := c
  refine ⟨⟨?_, ?_, ?_, ?_, ?_, ?_, ?_, ?_⟩, fun j hj => ?_, ⟨?_, c11⟩, fun i hi => ?_⟩
  · rw [gI302_w (by decide)]; exact c1
  · rw [gI302_w (by decide)]; exact c2
  · rw [gI302_w (by decide)]; exact c3
  · rw [gI302_w (by decide)]; exact c4
  · rw [gI302_w (by decide)]; exact c5
  · rw [gI302_w (by decide)]; exact c6
  · unfold gJ302; simp only [uJ_at, cpq_at, true_and, and_true, false_and, and_false, true_implies, false_implies, implies_true, not_true_eq_false, not_false_eq_true, ne_eq, if_true, if_false, Bool.and_true, Bool.true_and, decide_true, decide_false, reduceIte, reduceCtorEq, Bool.and_self, Bool.and_eq_true, decide_eq_true_eq, and_self, true_or, or_true, false_or, or_false, Nat.zero_add, Nat.add_zero, eq_self, Nat.reduceEqDiff, Nat.reduceLeDiff, Nat.reduceLT, Nat.reduceAdd, Nat.reduceSub, Nat.reduceMul]; exact c7
  · unfold gJ302; simp only [uJ_at, cpq_at, true_and, and_true, false_and, and_false, true_implies, false_implies, implies_true, not_true_eq_false, not_false_eq_true, ne_eq, if_true, if_false, Bool.and_true, Bool.true_and, decide_true, decide_false, reduceIte, reduceCtorEq, Bool.and_self, Bool.and_eq_true, decide_eq_true_eq, and_self, true_or, or_true, false_or, or_false, Nat.zero_add, Nat.add_zero, eq_self, Nat.reduceEqDiff, Nat.reduceLeDiff, Nat.reduceLT, Nat.reduceAdd, Nat.reduceSub, Nat.reduceMul]; exact c8
  · rw [gI302_w (by omega)]; exact c9 j hj
  · rw [gI302_w (by decide)]; exact c10
  · obtain ⟨a1, a2, a3⟩ := c12 i hi
    refine ⟨?_, ?_, ?_⟩
    · unfold gI302; simp only [cpr_at, hi, true_and, and_true, false_and, and_false, true_implies, false_implies, implies_true, not_true_eq_false, not_false_eq_true, ne_eq, if_true, if_false, Bool.and_true, Bool.true_and, decide_true, decide_false, reduceIte, reduceCtorEq, Bool.and_self, Bool.and_eq_true, decide_eq_true_eq, and_self, true_or, or_true, false_or, or_false, Nat.zero_add, Nat.add_zero, eq_self, Nat.reduceEqDiff, Nat.reduceLeDiff, Nat.reduceLT, Nat.reduceAdd, Nat.reduceSub, Nat.reduceMul]; exact a1
    · unfold gI302; simp only [cpr_at, hi, true_and, and_true, false_and, and_false, true_implies, false_implies, implies_true, not_true_eq_false, not_false_eq_true, ne_eq, if_true, if_false, Bool.and_true, Bool.true_and, decide_true, decide_false, reduceIte, reduceCtorEq, Bool.and_self, Bool.and_eq_true, decide_eq_true_eq, and_self, true_or, or_true, false_or, or_false, Nat.zero_add, Nat.add_zero, eq_self, Nat.reduceEqDiff, Nat.reduceLeDiff, Nat.reduceLT, Nat.reduceAdd, Nat.reduceSub, Nat.reduceMul]; exact a2
    · unfold gJ302; simp only [uJ_at, cpq_at, hi, true_and, and_true, false_and, and_false, true_implies, false_implies, implies_true, not_true_eq_false, not_false_eq_true, ne_eq, if_true, if_false, Bool.and_true, Bool.true_and, decide_true, decide_false, reduceIte, reduceCtorEq, Bool.and_self, Bool.and_eq_true, decide_eq_true_eq, and_self, true_or, or_true, false_or, or_false, Nat.zero_add, Nat.add_zero, eq_self, Nat.reduceEqDiff, Nat.reduceLeDiff, Nat.reduceLT, Nat.reduceAdd, Nat.reduceSub, Nat.reduceMul]; exact a3
def gI300 (I : xI) (K : Nat) : xI := cpr (cpr (cpr I 302 300 144) 311 308 K) 312 309 K
def gJ300 (J : xJ) (K : Nat) : xJ := uJ (uJ (cpq J 313 310 K) 200 3 (J 200 5)) 200 4 (J 200 6)
theorem gI300_o {o : Nat} (h1 : o ≠ 300) (h2 : o ≠ 308) (h3 : o ≠ 309) : gI300 I K o = I o := by
  funext j
  unfold gI300
  simp only [cpr_at, h1, h2, h3, if_false]
theorem gI300_w {j : Nat} (hj : j < 144) : gI300 I K 300 j = I 302 j := by
  unfold gI300
  simp only [cpr_at, hj, true_and, and_true, false_and, and_false, true_implies, false_implies, implies_true, not_true_eq_false, not_false_eq_true, ne_eq, if_true, if_false, Bool.and_true, Bool.true_and, decide_true, decide_false, reduceIte, reduceCtorEq, Bool.and_self, Bool.and_eq_true, decide_eq_true_eq, and_self, true_or, or_true, false_or, or_false, Nat.zero_add, Nat.add_zero, eq_self, Nat.reduceEqDiff, Nat.reduceLeDiff, Nat.reduceLT, Nat.reduceAdd, Nat.reduceSub, Nat.reduceMul]
theorem gC300 (c : MS 302 5 311 n m y I J) (hm : m ≤ 128) : MS 300 3 308 n m y (gI300 I (stK y)) (gJ300 J (stK y)) := by
  obtain ⟨⟨c1, c2, c3, c4, c5, c6, c7, c8⟩, c9, ⟨c10, c11⟩, c12⟩ := c
  refine ⟨⟨?_, ?_, ?_, ?_, ?_, ?_, ?_, ?_⟩, fun j hj => ?_, ⟨?_, c11⟩, fun i hi => ?_⟩
  · rw [gI300_w (by decide)]; exact c1
  · rw [gI300_w (by decide)]; exact c2
  · rw [gI300_w (by decide)]; exact c3
  · rw [gI300_w (by decide)]; exact c4
  · rw [gI300_w (by decide)]; exact c5
  · rw [gI300_w (by decide)]; exact c6
  · unfold gJ300; simp only [uJ_at, cpq_at, true_and, and_true, false_and, and_false, true_implies, false_implies, implies_true, not_true_eq_false, not_false_eq_true, ne_eq, if_true, if_false, Bool.and_true, Bool.true_and, decide_true, decide_false, reduceIte, reduceCtorEq, Bool.and_self, Bool.and_eq_true, decide_eq_true_eq, and_self, true_or, or_true, false_or, or_false, Nat.zero_add, Nat.add_zero, eq_self, Nat.reduceEqDiff, Nat.reduceLeDiff, Nat.reduceLT, Nat.reduceAdd, Nat.reduceSub, Nat.reduceMul]; exact c7
  · unfold gJ300; simp only [uJ_at, cpq_at, true_and, and_true, false_and, and_false, true_implies, false_implies, implies_true, not_true_eq_false, not_false_eq_true, ne_eq, if_true, if_false, Bool.and_true, Bool.true_and, decide_true, decide_false, reduceIte, reduceCtorEq, Bool.and_self, Bool.and_eq_true, decide_eq_true_eq, and_self, true_or, or_true, false_or, or_false, Nat.zero_add, Nat.add_zero, eq_self, Nat.reduceEqDiff, Nat.reduceLeDiff, Nat.reduceLT, Nat.reduceAdd, Nat.reduceSub, Nat.reduceMul]; exact c8
  · rw [gI300_w (by omega)]; exact c9 j hj
  · rw [gI300_w (by decide)]; exact c10
  · obtain ⟨a1, a2, a3⟩ := c12 i hi
    refine ⟨?_, ?_, ?_⟩
    · unfold gI300; simp only [cpr_at, hi, true_and, and_true, false_and, and_false, true_implies, false_implies, implies_true, not_true_eq_false, not_false_eq_true, ne_eq, if_true, if_false, Bool.and_true, Bool.true_and, decide_true, decide_false, reduceIte, reduceCtorEq, Bool.and_self, Bool.and_eq_true, decide_eq_true_eq, and_self, true_or, or_true, false_or, or_false, Nat.zero_add, Nat.add_zero, eq_self, Nat.reduceEqDiff, Nat.reduceLeDiff, Nat.reduceLT, Nat.reduceAdd, Nat.reduceSub, Nat.reduceMul]; exact a1
    · unfold gI300; simp only [cpr_at, hi, true_and, and_true, false_and, and_false, true_implies, false_implies, implies_true, not_true_eq_false, not_false_eq_true, ne_eq, if_true, if_false, Bool.and_true, Bool.true_and, decide_true, decide_false, reduceIte, reduceCtorEq, Bool.and_self, Bool.and_eq_true, decide_eq_true_eq, and_self, true_or, or_true, false_or, or_false, Nat.zero_add, Nat.add_zero, eq_self, Nat.reduceEqDiff, Nat.reduceLeDiff, Nat.reduceLT, Nat.reduceAdd, Nat.reduceSub, Nat.reduceMul]; exact a2
    · unfold gJ300; simp only [uJ_at, cpq_at, hi, true_and, and_true, false_and, and_false, true_implies, false_implies, implies_true, not_true_eq_false, not_false_eq_true, ne_eq, if_true, if_false, Bool.and_true, Bool.true_and, decide_true, decide_false, reduceIte, reduceCtorEq, Bool.and_self, Bool.and_eq_true, decide_eq_true_eq, and_self, true_or, or_true, false_or, or_false, Nat.zero_add, Nat.add_zero, eq_self, Nat.reduceEqDiff, Nat.reduceLeDiff, Nat.reduceLT, Nat.reduceAdd, Nat.reduceSub, Nat.reduceMul]; exact a3
end
