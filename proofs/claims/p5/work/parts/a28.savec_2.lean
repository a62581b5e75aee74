/-! ===== saving, restoring: printed by a28.savec.py ===== -/
section
variable {g : xGd} {x x' y : xSt} {sv sv' : Option xSt} {k : Nat} {by' : Nat → Nat} {e1 e2 : Int32} {z : xA} {N P f : Nat} {S : xS} {I I' : xI} {J J' : xJ} {D : xDb} {R : xR} {b : Nat × Nat} {Q : xQ} {n m K : Nat}
def rows120 (P K : Nat) (R : xR) : Nat := if K = 0 then P else if R 122 1 = some 127 then P else P - 20002
theorem rows120_le : rows120 P K R ≤ P := by
  unfold rows120
  split
  · omega
  · split <;> omega
theorem fr120 : frC S I J R S (fI120 I K) (fJ120 J K) R := fun o h1 => ⟨rfl, fI120_o (by omega) (by omega) (by omega) (by omega), rfl, fun _ => fJ120_o (by omega) (by omega)⟩
theorem K80_120 (h : AC g x sv k by' e1 e2 P f S I J R) (b1 : P - rows120 P (stK x) R ≤ b.1) (b2 : P - rows120 P (stK x) R ≤ b.2)
    (kk : ∀ S' I0 J0 D' R' b', AC g x sv k by' e1 e2 (rows120 P (stK x) R) f S' I0 J0 R' → frC S I J R S' I0 J0 R' → (stK x = 0 ∨ R' 122 1 = some 127) → (stK x = 0 ∨ R' 112 1 = some 117) → Q (.ok none) (S', fI120 I0 (stK x), fJ120 J0 (stK x), D', R') b') : xRun xT 80 0 [(0, .ref 120), (1, .ref 110)] [] (S, I, J, D, R) b Q := by
  have hL := h.1
  have h0 : I 112 0 = nI (stK x) := h.2.2.1.2.2.1.1
  have hK2 : stK x ≤ 10000 := h.2.2.1.2.2.1.2
  by_cases hK : stK x = 0
  · have hP : rows120 P (stK x) R = P := by
      unfold rows120
      rw [if_pos hK]
    rw [hP] at kk
    have kk2 := fun b' => kk S I J D R b' h frC_rfl (Or.inl hK) (Or.inl hK)
    rw [hK] at kk2 h0
    exact L80z120 hL (h0.trans rfl) kk2
  · obtain ⟨r1, r2, r3, r4⟩ : R 112 1 = some 117 ∧ S 117 = (101, 10000) ∧ R 112 2 = some 118 ∧ S 118 = (100, 10000) := by
      obtain ⟨a1, ⟨a2, a3, a4, a5⟩, a6, ⟨a7, a8⟩, ⟨a9, a10, a11, a12⟩, a13, p1, p2, p3, p4, p5, q0, q1, q2, q3, q4, q5⟩ := h
      rcases q1 with ⟨-, -, -, -, -, -, r7, -⟩ | r
      · have r7 : I 112 0 = 0 := r7
        rw [h0, show (0 : Int32) = nI 0 from rfl] at r7
        have := (nI_eq (by omega) (by decide)).mp r7
        omega
      · exact r
    rcases AC_rd h with hr | ⟨t1, t2, t3, t4⟩
    · have hP : rows120 P (stK x) R = P - 20002 := by
        unfold rows120
        rw [if_neg hK, hr, if_neg (by decide)]
      obtain ⟨v0, v1, v2, v3, h2⟩ := AC_rows122 h hr
      rw [hP] at b1 b2 kk
      refine L80m120 hL h2.1 h0 (by omega) hK2 r1 r2 r3 r4 hr v1 v2 v3 (by omega) (by omega) (fun b' => ?_)
      exact kk _ _ _ _ _ _ h2 frC_rows122 (Or.inr (nR122_p (S := S)).1) (Or.inr ((nR122_o (by decide) (by decide) (by decide)).trans r1))
    · have hP : rows120 P (stK x) R = P := by
        unfold rows120
        rw [if_neg hK, if_pos t1]
      rw [hP] at kk
      exact L80p120 hL h0 (by omega) hK2 r1 r2 r3 r4 t1 t2 t3 t4 (fun b' => kk _ _ _ _ _ _ h frC_rfl (Or.inr t1) (Or.inr r1))
def rows110 (P K : Nat) (R : xR) : Nat := if K = 0 then P else if R 112 1 = some 117 then P else P - 20002
theorem rows110_le : rows110 P K R ≤ P := by
  unfold rows110
  split
  · omega
  · split <;> omega
theorem fr110 : frC S I J R S (fI110 I K) (fJ110 J K) R := fun o h1 => ⟨rfl, fI110_o (by omega) (by omega) (by omega) (by omega), rfl, fun _ => fJ110_o (by omega) (by omega)⟩
theorem K80_110 (h : AC g x sv k by' e1 e2 P f S I J R) (hy : sv = some y) (b1 : P - rows110 P (stK y) R ≤ b.1) (b2 : P - rows110 P (stK y) R ≤ b.2)
    (kk : ∀ S' I0 J0 D' R' b', AC g x sv k by' e1 e2 (rows110 P (stK y) R) f S' I0 J0 R' → frC S I J R S' I0 J0 R' → (stK y = 0 ∨ R' 112 1 = some 117) → (stK y = 0 ∨ R' 122 1 = some 127) → Q (.ok none) (S', fI110 I0 (stK y), fJ110 J0 (stK y), D', R') b') : xRun xT 80 0 [(0, .ref 110), (1, .ref 120)] [] (S, I, J, D, R) b Q := by
  have hL := h.1
  have h0 : I 122 0 = nI (stK y) := (h.2.2.2.1.2 y hy).2.2.1.1
  have hK2 : stK y ≤ 10000 := (h.2.2.2.1.2 y hy).2.2.1.2
  by_cases hK : stK y = 0
  · have hP : rows110 P (stK y) R = P := by
      unfold rows110
      rw [if_pos hK]
    rw [hP] at kk
    have kk2 := fun b' => kk S I J D R b' h frC_rfl (Or.inl hK) (Or.inl hK)
    rw [hK] at kk2 h0
    exact L80z110 hL (h0.trans rfl) kk2
  · obtain ⟨r1, r2, r3, r4⟩ : R 122 1 = some 127 ∧ S 127 = (101, 10000) ∧ R 122 2 = some 128 ∧ S 128 = (100, 10000) := by
      obtain ⟨a1, ⟨a2, a3, a4, a5⟩, a6, ⟨a7, a8⟩, ⟨a9, a10, a11, a12⟩, a13, p1, p2, p3, p4, p5, q0, q1, q2, q3, q4, q5⟩ := h
      rcases q2 with ⟨-, -, -, -, -, -, r7, -⟩ | r
      · have r7 : I 122 0 = 0 := r7
        rw [h0, show (0 : Int32) = nI 0 from rfl] at r7
        have := (nI_eq (by omega) (by decide)).mp r7
        omega
      · exact r
    rcases AC_rc h with hr | ⟨t1, t2, t3, t4⟩
    · have hP : rows110 P (stK y) R = P - 20002 := by
        unfold rows110
        rw [if_neg hK, hr, if_neg (by decide)]
      obtain ⟨v0, v1, v2, v3, h2⟩ := AC_rows112 h hr
      rw [hP] at b1 b2 kk
      refine L80m110 hL h2.1 h0 (by omega) hK2 r1 r2 r3 r4 hr v1 v2 v3 (by omega) (by omega) (fun b' => ?_)
      exact kk _ _ _ _ _ _ h2 frC_rows112 (Or.inr (nR112_p (S := S)).1) (Or.inr ((nR112_o (by decide) (by decide) (by decide)).trans r1))
    · have hP : rows110 P (stK y) R = P := by
        unfold rows110
        rw [if_neg hK, if_pos t1]
      rw [hP] at kk
      exact L80p110 hL h0 (by omega) hK2 r1 r2 r3 r4 t1 t2 t3 t4 (fun b' => kk _ _ _ _ _ _ h frC_rfl (Or.inr t1) (Or.inr r1))
def zSv (z : xA) : xA := (z.1, z.2.1, some z.2.1, z.2.2.2)
def zRs (z : xA) (y : xSt) : xA := (z.1, y, z.2.2)
theorem AC_sv (h : AC g x sv k by' e1 e2 P f S I J R) (w : WF N g x sv k by') (hr : stK x = 0 ∨ R 122 1 = some 127) (hr2 : stK x = 0 ∨ R 112 1 = some 117) : AC g x (some x) k by' e1 e2 P f S (uI (fI120 I (stK x)) 100 7 1) (fJ120 J (stK x)) R := by
  have hi : ∀ o, o ≠ 100 → o ≠ 120 → o ≠ 121 → o ≠ 122 → o ≠ 128 → uI (fI120 I (stK x)) 100 7 1 o = I o := fun o q0 q1 q2 q3 q4 => by
    have e := fI120_o (I := I) (K := stK x) q1 q2 q3 q4
    rw [← e]
    funext j
    rw [uI_at, if_neg (fun e => q0 e.1)]
  have hi2 : ∀ o, o ≠ 100 → uI (fI120 I (stK x)) 100 7 1 o = fI120 I (stK x) o := fun o q0 => by
    funext j
    rw [uI_at, if_neg (fun e => q0 e.1)]
  have hj : ∀ o, o ≠ 120 → o ≠ 127 → fJ120 J (stK x) o = J o := fun o q1 q2 => fJ120_o q1 q2
  have c := h.2.2.1
  have f2 := fC120 c (gn_bd w.1).2.2.1
  refine AC_gen h (fun o q0 q1 q2 q3 q4 q5 q6 q7 q8 q9 q10 q11 => hi o q2 q7 q8 q9 q10) (fun j q => by rw [uI_at, if_neg (fun e => q e.2), fI120_o (by decide) (by decide) (by decide) (by decide)]) (fun j q => by rw [hi 130 (by decide) (by decide) (by decide) (by decide) (by decide)]) (fun o q1 q2 => hi o (by omega) (by omega) (by omega) (by omega) (by omega)) (hj 102 (by decide) (by decide)) (Or.inr ⟨by rw [hi 130 (by decide) (by decide) (by decide) (by decide) (by decide)], rfl⟩) ?_ ⟨?_, fun y hy => ?_⟩ ?_ ?_
  · exact CS_e c (hi 110 (by decide) (by decide) (by decide) (by decide) (by decide)) (hi 111 (by decide) (by decide) (by decide) (by decide) (by decide)) (hi 112 (by decide) (by decide) (by decide) (by decide) (by decide)) (hi 118 (by decide) (by decide) (by decide) (by decide) (by decide)) (hj 110 (by decide) (by decide)) (hj 117 (by decide) (by decide))
  · rw [uI_at, if_pos ⟨rfl, rfl⟩]; rfl
  · cases hy
    exact CS_e f2 (hi2 120 (by decide)) (hi2 121 (by decide)) (hi2 122 (by decide)) (hi2 128 (by decide)) rfl rfl
  · rcases hr2 with hr2 | hr2
    · left
      rw [hi 112 (by decide) (by decide) (by decide) (by decide) (by decide), c.2.2.1.1, hr2]; rfl
    · exact Or.inr hr2
  · rcases hr with hr | hr
    · left
      rw [hi2 122 (by decide), f2.2.2.1.1, hr]; rfl
    · exact Or.inr hr
theorem AC_rs (h : AC g x sv k by' e1 e2 P f S I J R) (w : WF N g x sv k by') (hy : sv = some y) (hr : stK y = 0 ∨ R 112 1 = some 117) (hr2 : stK y = 0 ∨ R 122 1 = some 127) : AC g y sv k by' e1 e2 P f S (uI (fI110 I (stK y)) 130 1 0) (fJ110 J (stK y)) R := by
  have hi : ∀ o, o ≠ 130 → o ≠ 110 → o ≠ 111 → o ≠ 112 → o ≠ 118 → uI (fI110 I (stK y)) 130 1 0 o = I o := fun o q0 q1 q2 q3 q4 => by
    have e := fI110_o (I := I) (K := stK y) q1 q2 q3 q4
    rw [← e]
    funext j
    rw [uI_at, if_neg (fun e => q0 e.1)]
  have hi2 : ∀ o, o ≠ 130 → uI (fI110 I (stK y)) 130 1 0 o = fI110 I (stK y) o := fun o q0 => by
    funext j
    rw [uI_at, if_neg (fun e => q0 e.1)]
  have hj : ∀ o, o ≠ 110 → o ≠ 117 → fJ110 J (stK y) o = J o := fun o q1 q2 => fJ110_o q1 q2
  have c := h.2.2.2.1.2 y hy
  have f2 := fC110 c (gn_bd w.1).2.2.1
  refine AC_gen h (fun o q0 q1 q2 q3 q4 q5 q6 q7 q8 q9 q10 q11 => hi o q11 q3 q4 q5 q6) (fun j q => by rw [hi 100 (by decide) (by decide) (by decide) (by decide) (by decide)]) (fun j q => by rw [uI_at, if_neg (fun e => q e.2), fI110_o (by decide) (by decide) (by decide) (by decide)]) (fun o q1 q2 => hi o (by omega) (by omega) (by omega) (by omega) (by omega)) (hj 102 (by decide) (by decide)) (Or.inl (by rw [uI_at, if_pos ⟨rfl, rfl⟩])) ?_ ⟨?_, fun y' hy' => ?_⟩ ?_ ?_
  · exact CS_e f2 (hi2 110 (by decide)) (hi2 111 (by decide)) (hi2 112 (by decide)) (hi2 118 (by decide)) rfl rfl
  · rw [hi 100 (by decide) (by decide) (by decide) (by decide) (by decide)]; exact h.2.2.2.1.1
  · exact CS_e (h.2.2.2.1.2 y' hy') (hi 120 (by decide) (by decide) (by decide) (by decide) (by decide)) (hi 121 (by decide) (by decide) (by decide) (by decide) (by decide)) (hi 122 (by decide) (by decide) (by decide) (by decide) (by decide)) (hi 128 (by decide) (by decide) (by decide) (by decide) (by decide)) (hj 120 (by decide) (by decide)) (hj 127 (by decide) (by decide))
  · rcases hr with hr | hr
    · left
      rw [hi2 112 (by decide), f2.2.2.1.1, hr]; rfl
    · exact Or.inr hr
  · rcases hr2 with hr2 | hr2
    · left
      rw [hi 122 (by decide) (by decide) (by decide) (by decide) (by decide), c.2.2.1.1, hr2]; rfl
    · exact Or.inr hr2
theorem KC62 (w : WA N z) : CC 1 145 [(0, .ref 100)] z (zSv z) (fun r _ _ => r = some (.int (eG z.1 z.2.1 (stZ z.2.1).1))) := by
  intro P f S I J D R h hw hf
  obtain ⟨hL, hC, hG, ⟨i6, i7, i8, i9, i10, i11, j4, j5⟩, j102, i111, ⟨s1, s2, s3⟩, ⟨n0, n1, n2, n3⟩⟩ := AC_o h w
  refine ⟨rows120 P (stK z.2.1) R, rows120_le, fun e => absurd e (by decide), fun b Q b1 b2 kk => ?_⟩
  rw [e145_0]
  simp only [B145_0, xSeq, i_push, i_load, i_iload, i_lload, i_dload, i_aload, i_istore, i_astore, i_lstore, i_dstore, i_iinc, i_ii, i_iiz, i_ll, i_llz, i_lli, i_li, i_i, i_l, i_i2l, i_l2i, i_dup, i_dup2, i_dup2w, i_dupx1, i_pop, i_pop2, i_goto, i_ifc, i_icmp, i_getI, i_getL, i_getR, i_putI, i_putZ, i_putL, i_putR, i_aldI, i_aldB, i_aldL, i_aldD, i_astI, i_astL, i_astD, i_alen, i_ret, i_iret, i_zret, i_lret, i_fret, i_dret, i_aret, i_invS0, i_invV0, i_m2, i_m1, i_ml, i_obj, lk, lkp, stf1, stf2, Value.category, rV, xTo, lv_args, xCk, xCat, xRc, xAk, hg_S, hg_I, hg_J, hg_D, hg_R, hs_I, hs_J, hs_D, hs_R, uI_at, uJ_at, uD_at, uR_at, List.take_succ_cons, List.take_zero, List.drop_succ_cons, List.drop_zero, List.reverse_cons, List.reverse_nil, List.nil_append, List.cons_append, List.map_cons, List.map_nil, List.sum_cons, List.sum_nil, List.length_cons, List.length_nil, Option.toList_some, Option.toList_none, true_and, and_true, false_and, and_false, true_implies, false_implies, implies_true, not_true_eq_false, not_false_eq_true, ne_eq, if_true, if_false, Bool.and_true, Bool.true_and, decide_true, decide_false, reduceIte, reduceCtorEq, Bool.and_self, Bool.and_eq_true, decide_eq_true_eq, and_self, true_or, or_true, false_or, or_false, Nat.zero_add, Nat.add_zero, eq_self, Nat.reduceEqDiff, Nat.reduceLeDiff, Nat.reduceLT, Nat.reduceAdd, Nat.reduceSub, Nat.reduceMul, LC_out hL]
  refine w_invVA (mc := P - rows120 P (stK z.2.1) R) (ms := P - rows120 P (stK z.2.1) R) (by omega) (by omega) rfl (by simp only [xSeq, i_push, i_load, i_iload, i_lload, i_dload, i_aload, i_istore, i_astore, i_lstore, i_dstore, i_iinc, i_ii, i_iiz, i_ll, i_llz, i_lli, i_li, i_i, i_l, i_i2l, i_l2i, i_dup, i_dup2, i_dup2w, i_dupx1, i_pop, i_pop2, i_goto, i_ifc, i_icmp, i_getI, i_getL, i_getR, i_putI, i_putZ, i_putL, i_putR, i_aldI, i_aldB, i_aldL, i_aldD, i_astI, i_astL, i_astD, i_alen, i_ret, i_iret, i_zret, i_lret, i_fret, i_dret, i_aret, i_invS0, i_invV0, i_m2, i_m1, i_ml, i_obj, lk, lkp, stf1, stf2, Value.category, rV, xTo, lv_args, xCk, xCat, xRc, xAk, hg_S, hg_I, hg_J, hg_D, hg_R, hs_I, hs_J, hs_D, hs_R, uI_at, uJ_at, uD_at, uR_at, List.take_succ_cons, List.take_zero, List.drop_succ_cons, List.drop_zero, List.reverse_cons, List.reverse_nil, List.nil_append, List.cons_append, List.map_cons, List.map_nil, List.sum_cons, List.sum_nil, List.length_cons, List.length_nil, Option.toList_some, Option.toList_none, true_and, and_true, false_and, and_false, true_implies, false_implies, implies_true, not_true_eq_false, not_false_eq_true, ne_eq, if_true, if_false, Bool.and_true, Bool.true_and, decide_true, decide_false, reduceIte, reduceCtorEq, Bool.and_self, Bool.and_eq_true, decide_eq_true_eq, and_self, true_or, or_true, false_or, or_false, Nat.zero_add, Nat.add_zero, eq_self, Nat.reduceEqDiff, Nat.reduceLeDiff, Nat.reduceLT, Nat.reduceAdd, Nat.reduceSub, Nat.reduceMul, LC_out hL]) ?_
  simp only [xSeq, i_push, i_load, i_iload, i_lload, i_dload, i_aload, i_istore, i_astore, i_lstore, i_dstore, i_iinc, i_ii, i_iiz, i_ll, i_llz, i_lli, i_li, i_i, i_l, i_i2l, i_l2i, i_dup, i_dup2, i_dup2w, i_dupx1, i_pop, i_pop2, i_goto, i_ifc, i_icmp, i_getI, i_getL, i_getR, i_putI, i_putZ, i_putL, i_putR, i_aldI, i_aldB, i_aldL, i_aldD, i_astI, i_astL, i_astD, i_alen, i_ret, i_iret, i_zret, i_lret, i_fret, i_dret, i_aret, i_invS0, i_invV0, i_m2, i_m1, i_ml, i_obj, lk, lkp, stf1, stf2, Value.category, rV, xTo, lv_args, xCk, xCat, xRc, xAk, hg_S, hg_I, hg_J, hg_D, hg_R, hs_I, hs_J, hs_D, hs_R, uI_at, uJ_at, uD_at, uR_at, List.take_succ_cons, List.take_zero, List.drop_succ_cons, List.drop_zero, List.reverse_cons, List.reverse_nil, List.nil_append, List.cons_append, List.map_cons, List.map_nil, List.sum_cons, List.sum_nil, List.length_cons, List.length_nil, Option.toList_some, Option.toList_none, true_and, and_true, false_and, and_false, true_implies, false_implies, implies_true, not_true_eq_false, not_false_eq_true, ne_eq, if_true, if_false, Bool.and_true, Bool.true_and, decide_true, decide_false, reduceIte, reduceCtorEq, Bool.and_self, Bool.and_eq_true, decide_eq_true_eq, and_self, true_or, or_true, false_or, or_false, Nat.zero_add, Nat.add_zero, eq_self, Nat.reduceEqDiff, Nat.reduceLeDiff, Nat.reduceLT, Nat.reduceAdd, Nat.reduceSub, Nat.reduceMul]
  refine K80_120 h (Nat.le_refl _) (Nat.le_refl _) (fun S' I0 J0 D' R' b' h2 fr hr hr2 => ?_)
  have h3 := AC_sv h2 w hr hr2
  obtain ⟨hL3, hC3, hG3, ⟨-, -, -, -, -, -, t4, -⟩, -⟩ := AC_o h3 (show WF N z.1 z.2.1 (some z.2.1) z.2.2.2.1 z.2.2.2.2.1 from ⟨w.1, w.2.1, fun y hy => by cases hy; exact w.2.1, w.2.2.2⟩)
  simp only [xSeq, i_push, i_load, i_iload, i_lload, i_dload, i_aload, i_istore, i_astore, i_lstore, i_dstore, i_iinc, i_ii, i_iiz, i_ll, i_llz, i_lli, i_li, i_i, i_l, i_i2l, i_l2i, i_dup, i_dup2, i_dup2w, i_dupx1, i_pop, i_pop2, i_goto, i_ifc, i_icmp, i_getI, i_getL, i_getR, i_putI, i_putZ, i_putL, i_putR, i_aldI, i_aldB, i_aldL, i_aldD, i_astI, i_astL, i_astD, i_alen, i_ret, i_iret, i_zret, i_lret, i_fret, i_dret, i_aret, i_invS0, i_invV0, i_m2, i_m1, i_ml, i_obj, lk, lkp, stf1, stf2, Value.category, rV, xTo, lv_args, xCk, xCat, xRc, xAk, hg_S, hg_I, hg_J, hg_D, hg_R, hs_I, hs_J, hs_D, hs_R, uI_at, uJ_at, uD_at, uR_at, List.take_succ_cons, List.take_zero, List.drop_succ_cons, List.drop_zero, List.reverse_cons, List.reverse_nil, List.nil_append, List.cons_append, List.map_cons, List.map_nil, List.sum_cons, List.sum_nil, List.length_cons, List.length_nil, Option.toList_some, Option.toList_none, true_and, and_true, false_and, and_false, true_implies, false_implies, implies_true, not_true_eq_false, not_false_eq_true, ne_eq, if_true, if_false, Bool.and_true, Bool.true_and, decide_true, decide_false, reduceIte, reduceCtorEq, Bool.and_self, Bool.and_eq_true, decide_eq_true_eq, and_self, true_or, or_true, false_or, or_false, Nat.zero_add, Nat.add_zero, eq_self, Nat.reduceEqDiff, Nat.reduceLeDiff, Nat.reduceLT, Nat.reduceAdd, Nat.reduceSub, Nat.reduceMul, LC_out hL3]
  rw [R126 (I := uI (fI120 I0 (stK z.2.1)) 100 7 1) hL3 hG3 hC3 t4 s2 s1, AC_en h3]
  simp only [xSeq, i_push, i_load, i_iload, i_lload, i_dload, i_aload, i_istore, i_astore, i_lstore, i_dstore, i_iinc, i_ii, i_iiz, i_ll, i_llz, i_lli, i_li, i_i, i_l, i_i2l, i_l2i, i_dup, i_dup2, i_dup2w, i_dupx1, i_pop, i_pop2, i_goto, i_ifc, i_icmp, i_getI, i_getL, i_getR, i_putI, i_putZ, i_putL, i_putR, i_aldI, i_aldB, i_aldL, i_aldD, i_astI, i_astL, i_astD, i_alen, i_ret, i_iret, i_zret, i_lret, i_fret, i_dret, i_aret, i_invS0, i_invV0, i_m2, i_m1, i_ml, i_obj, lk, lkp, stf1, stf2, Value.category, rV, xTo, lv_args, xCk, xCat, xRc, xAk, hg_S, hg_I, hg_J, hg_D, hg_R, hs_I, hs_J, hs_D, hs_R, uI_at, uJ_at, uD_at, uR_at, List.take_succ_cons, List.take_zero, List.drop_succ_cons, List.drop_zero, List.reverse_cons, List.reverse_nil, List.nil_append, List.cons_append, List.map_cons, List.map_nil, List.sum_cons, List.sum_nil, List.length_cons, List.length_nil, Option.toList_some, Option.toList_none, true_and, and_true, false_and, and_false, true_implies, false_implies, implies_true, not_true_eq_false, not_false_eq_true, ne_eq, if_true, if_false, Bool.and_true, Bool.true_and, decide_true, decide_false, reduceIte, reduceCtorEq, Bool.and_self, Bool.and_eq_true, decide_eq_true_eq, and_self, true_or, or_true, false_or, or_false, Nat.zero_add, Nat.add_zero, eq_self, Nat.reduceEqDiff, Nat.reduceLeDiff, Nat.reduceLT, Nat.reduceAdd, Nat.reduceSub, Nat.reduceMul]
  exact kk _ S' _ _ D' R' f _ rfl h3 (frC_tr fr (frC_tr fr120 (fun o h1 => ⟨rfl, by funext j; rw [uI_at, if_neg (fun e => by omega)], rfl, fun _ => rfl⟩))) (by omega)
def gI302 (I : xI) (K : Nat) : xI := cpr (cpr (cpr I 300 302 144) 308 311 K) 309 312 K
def gJ302 (J : xJ) (K : Nat) : xJ := uJ (uJ (cpq J 310 313 K) 200 5 (J 200 3)) 200 6 (J 200 4)
theorem gI302_o {o : Nat} (h1 : o ≠ 302) (h2 : o ≠ 311) (h3 : o ≠ 312) : gI302 I K o = I o := by
  funext j
  unfold gI302
  simp only [cpr_at, h1, h2, h3, if_false]
theorem gI302_w {j : Nat} (hj : j < 144) : gI302 I K 302 j = I 300 j := by
  unfold gI302
  simp only [cpr_at, hj, true_and, and_true, false_and, and_false, true_implies, false_implies, implies_true, not_true_eq_false, not_false_eq_true, ne_eq, if_true, if_false, Bool.and_true, Bool.true_and, decide_true, decide_false, reduceIte, reduceCtorEq, Bool.and_self, Bool.and_eq_true, decide_eq_true_eq, and_self, true_or, or_true, false_or, or_false, Nat.zero_add, Nat.add_zero, eq_self, Nat.reduceEqDiff, Nat.reduceLeDiff, Nat.reduceLT, Nat.reduceAdd, Nat.reduceSub, Nat.reduceMul]
theorem gC302 (c : MS 300 3 308 n m y I J) (hm : m ≤ 128) : MS 302 5 311 n m y (gI302 I (stK y)) (gJ302 J (stK y)) := by
  obtain ⟨⟨c1, c2, c3, c4, c5, c6, c7, c8⟩, c9, ⟨c10, c11⟩, c12⟩ := c
  refine ⟨⟨?_, ?_, ?_, ?_, ?_, ?_, ?_, ?_⟩, fun j hj => ?_, ⟨?_, c11⟩, fun i hi => ?_⟩
  · rw [gI302_w (by decide)]; exact c1
  · rw [gI302_w (by decide)]; exact c2
  · rw [gI302_w (by decide)]; exact c3
  · rw [gI302_w (by decide)]; exact c4
  · rw [gI302_w (by decide)]; exact c5
  · rw [gI302_w (by decide)]; exact c6
  · unfold gJ302; simp only [uJ_at, cpq_at, true_and, and_true, false_and, and_false, true_implies, false_implies, implies_true, not_true_eq_false, not_false_eq_true, ne_eq, if_true, if_false, Bool.and_true, Bool.true_and, decide_true, decide_false, reduceIte, reduceCtorEq, Bool.and_self, Bool.and_eq_true, decide_eq_true_eq, and_self, true_or, or_true, false_or, or_false, Nat.zero_add, Nat.add_zero, eq_self, Nat.reduceEqDiff, Nat.reduceLeDiff, Nat.reduceLT, Nat.reduceAdd, Nat.reduceSub, Nat.reduceMul]; exact c7
  · unfold gJ302; simp only [uJ_at, cpq_at, true_and, and_true, false_and, and_false, true_implies, false_implies, implies_true, not_true_eq_false, not_false_eq_true, ne_eq, if_true, if_false, Bool.and_true, Bool.true_and, decide_true, decide_false, reduceIte, reduceCtorEq, Bool.and_self, Bool.and_eq_true, decide_eq_true_eq, and_self, true_or, or_true, false_or, or_false, Nat.zero_add, Nat.add_zero, eq_self, Nat.reduceEqDiff, Nat.reduceLeDiff, Nat.reduceLT, Nat.reduceAdd, Nat.reduceSub, Nat.reduceMul]; exact c8
  · rw [gI302_w (by omega)]; exact c9 j hj
  · rw [gI302_w (by decide)]; exact c10
  · obtain ⟨a1, a2, a3⟩ := c12 i hi
    refine ⟨?_, ?_, ?_⟩
    · unfold gI302; simp only [cpr_at, hi, true_and, and_true, false_and, and_false, true_implies, false_implies, implies_true, not_true_eq_false, not_false_eq_true, ne_eq, if_true, if_false, Bool.and_true, Bool.true_and, decide_true, decide_false, reduceIte, reduceCtorEq, Bool.and_self, Bool.and_eq_true, decide_eq_true_eq, and_self, true_or, or_true, false_or, or_false, Nat.zero_add, Nat.add_zero, eq_self, Nat.reduceEqDiff, Nat.reduceLeDiff, Nat.reduceLT, Nat.reduceAdd, Nat.reduceSub, Nat.reduceMul]; exact a1
    · unfold gI302; simp only [cpr_at, hi, true_and, and_true, false_and, and_false, true_implies, false_implies, implies_true, not_true_eq_false, not_false_eq_true, ne_eq, if_true, if_false, Bool.and_true, Bool.true_and, decide_true, decide_false, reduceIte, reduceCtorEq, Bool.and_self, Bool.and_eq_true, decide_eq_true_eq, and_self, true_or, or_true, false_or, or_false, Nat.zero_add, Nat.add_zero, eq_self, Nat.reduceEqDiff, Nat.reduceLeDiff, Nat.reduceLT, Nat.reduceAdd, Nat.reduceSub, Nat.reduceMul]; exact a2
    · unfold gJ302; simp only [uJ_at, cpq_at, hi, true_and, and_true, false_and, and_false, true_implies, false_implies, implies_true, not_true_eq_false, not_false_eq_true, ne_eq, if_true, if_false, Bool.and_true, Bool.true_and, decide_true, decide_false, reduceIte, reduceCtorEq, Bool.and_self, Bool.and_eq_true, decide_eq_true_eq, and_self, true_or, or_true, false_or, or_false, Nat.zero_add, Nat.add_zero, eq_self, Nat.reduceEqDiff, Nat.reduceLeDiff, Nat.reduceLT, Nat.reduceAdd, Nat.reduceSub, Nat.reduceMul]; exact a3
def gI300 (I : xI) (K : Nat) : xI := cpr (cpr (cpr I 302 300 144) 311 308 K) 312 309 K
def gJ300 (J : xJ) (K : Nat) : xJ := uJ (uJ (cpq J 313 310 K) 200 3 (J 200 5)) 200 4 (J 200 6)
theorem gI300_o {o : Nat} (h1 : o ≠ 300) (h2 : o ≠ 308) (h3 : o ≠ 309) : gI300 I K o = I o := by
  funext j
  unfold gI300
  simp only [cpr_at, h1, h2, h3, if_false]
theorem gI300_w {j : Nat} (hj : j < 144) : gI300 I K 300 j = I 302 j := by
  unfold gI300
  simp only [cpr_at, hj, true_and, and_true, false_and, and_false, true_implies, false_implies, implies_true, not_true_eq_false, not_false_eq_true, ne_eq, if_true, if_false, Bool.and_true, Bool.true_and, decide_true, decide_false, reduceIte, reduceCtorEq, Bool.and_self, Bool.and_eq_true, decide_eq_true_eq, and_self, true_or, or_true, false_or, or_false, Nat.zero_add, Nat.add_zero, eq_self, Nat.reduceEqDiff, Nat.reduceLeDiff, Nat.reduceLT, Nat.reduceAdd, Nat.reduceSub, Nat.reduceMul]
theorem gC300 (c : MS 302 5 311 n m y I J) (hm : m ≤ 128) : MS 300 3 308 n m y (gI300 I (stK y)) (gJ300 J (stK y)) := by
  obtain ⟨⟨c1, c2, c3, c4, c5, c6, c7, c8⟩, c9, ⟨c10, c11⟩, c12⟩ := c
  refine ⟨⟨?_, ?_, ?_, ?_, ?_, ?_, ?_, ?_⟩, fun j hj => ?_, ⟨?_, c11⟩, fun i hi => ?_⟩
  · rw [gI300_w (by decide)]; exact c1
  · rw [gI300_w (by decide)]; exact c2
  · rw [gI300_w (by decide)]; exact c3
  · rw [gI300_w (by decide)]; exact c4
  · rw [gI300_w (by decide)]; exact c5
  · rw [gI300_w (by decide)]; exact c6
  · unfold gJ300; simp only [uJ_at, cpq_at, true_and, and_true, false_and, and_false, true_implies, false_implies, implies_true, not_true_eq_false, not_false_eq_true, ne_eq, if_true, if_false, Bool.and_true, Bool.true_and, decide_true, decide_false, reduceIte, reduceCtorEq, Bool.and_self, Bool.and_eq_true, decide_eq_true_eq, and_self, true_or, or_true, false_or, or_false, Nat.zero_add, Nat.add_zero, eq_self, Nat.reduceEqDiff, Nat.reduceLeDiff, Nat.reduceLT, Nat.reduceAdd, Nat.reduceSub, Nat.reduceMul]; exact c7
  · unfold gJ300; simp only [uJ_at, cpq_at, true_and, and_true, false_and, and_false, true_implies, false_implies, implies_true, not_true_eq_false, not_false_eq_true, ne_eq, if_true, if_false, Bool.and_true, Bool.true_and, decide_true, decide_false, reduceIte, reduceCtorEq, Bool.and_self, Bool.and_eq_true, decide_eq_true_eq, and_self, true_or, or_true, false_or, or_false, Nat.zero_add, Nat.add_zero, eq_self, Nat.reduceEqDiff, Nat.reduceLeDiff, Nat.reduceLT, Nat.reduceAdd, Nat.reduceSub, Nat.reduceMul]; exact c8
  · rw [gI300_w (by omega)]; exact c9 j hj
  · rw [gI300_w (by decide)]; exact c10
  · obtain ⟨a1, a2, a3⟩ := c12 i hi
    refine ⟨?_, ?_, ?_⟩
    · unfold gI300; simp only [cpr_at, hi, true_and, and_true, false_and, and_false, true_implies, false_implies, implies_true, not_true_eq_false, not_false_eq_true, ne_eq, if_true, if_false, Bool.and_true, Bool.true_and, decide_true, decide_false, reduceIte, reduceCtorEq, Bool.and_self, Bool.and_eq_true, decide_eq_true_eq, and_self, true_or, or_true, false_or, or_false, Nat.zero_add, Nat.add_zero, eq_self, Nat.reduceEqDiff, Nat.reduceLeDiff, Nat.reduceLT, Nat.reduceAdd, Nat.reduceSub, Nat.reduceMul]; exact a1
    · unfold gI300; simp only [cpr_at, hi, true_and, and_true, false_and, and_false, true_implies, false_implies, implies_true, not_true_eq_false, not_false_eq_true, ne_eq, if_true, if_false, Bool.and_true, Bool.true_and, decide_true, decide_false, reduceIte, reduceCtorEq, Bool.and_self, Bool.and_eq_true, decide_eq_true_eq, and_self, true_or, or_true, false_or, or_false, Nat.zero_add, Nat.add_zero, eq_self, Nat.reduceEqDiff, Nat.reduceLeDiff, Nat.reduceLT, Nat.reduceAdd, Nat.reduceSub, Nat.reduceMul]; exact a2
    · unfold gJ300; simp only [uJ_at, cpq_at, hi, true_and, and_true, false_and, and_false, true_implies, false_implies, implies_true, not_true_eq_false, not_false_eq_true, ne_eq, if_true, if_false, Bool.and_true, Bool.true_and, decide_true, decide_false, reduceIte, reduceCtorEq, Bool.and_self, Bool.and_eq_true, decide_eq_true_eq, and_self, true_or, or_true, false_or, or_false, Nat.zero_add, Nat.add_zero, eq_self, Nat.reduceEqDiff, Nat.reduceLeDiff, Nat.reduceLT, Nat.reduceAdd, Nat.reduceSub, Nat.reduceMul]; exact a3
end
/-! ===== restoring, the model's copies: printed by a29.savem.py ===== -/
section
variable {g : xGd} {x x' y : xSt} {sv sv' : Option xSt} {k : Nat} {by' : Nat → Nat} {e1 e2 : Int32} {z : xA} {N P f : Nat} {S : xS} {I I' : xI} {J J' : xJ} {D : xDb} {R : xR} {b : Nat × Nat} {Q : xQ} {n m K : Nat}
theorem gJ302_o {o j : Nat} (h1 : o ≠ 313) (h2 : ¬ (o = 200 ∧ (j = 5 ∨ j = 6))) : gJ302 J K o j = J o j := by
  unfold gJ302
  simp only [uJ_at, cpq_at, h1, if_false]
  rw [if_neg (fun e => h2 ⟨e.1, Or.inr e.2⟩), if_neg (fun e => h2 ⟨e.1, Or.inl e.2⟩)]
theorem gJ300_o {o j : Nat} (h1 : o ≠ 310) (h2 : ¬ (o = 200 ∧ (j = 3 ∨ j = 4))) : gJ300 J K o j = J o j := by
  unfold gJ300
  simp only [uJ_at, cpq_at, h1, if_false]
  rw [if_neg (fun e => h2 ⟨e.1, Or.inr e.2⟩), if_neg (fun e => h2 ⟨e.1, Or.inl e.2⟩)]
theorem AM_sv (h : AM g x sv k by' e1 e2 S I J R) (w : WF N g x sv k by') : AM g x (some x) k by' e1 e2 S (uI (gI302 I (stK x)) 200 7 1) (gJ302 J (stK x)) R := by
  have hi : ∀ o, o ≠ 200 → uI (gI302 I (stK x)) 200 7 1 o = gI302 I (stK x) o := fun o q0 => by
    funext j
    rw [uI_at, if_neg (fun e => q0 e.1)]
  have hi2 : ∀ o, o ≠ 200 → o ≠ 302 → o ≠ 311 → o ≠ 312 → uI (gI302 I (stK x)) 200 7 1 o = I o := fun o q0 q1 q2 q3 => (hi o q0).trans (gI302_o q1 q2 q3)
  have c := h.2.2.1
  have hM := h.2.1
  have f2 := gC302 c (gn_bd w.1).2.2.1
  refine AM_gen h (fun o q0 q1 q2 q3 q4 q5 q6 => hi2 o (by unfold kr at q0; omega) q2 q5 q6) (fun j q1 q2 q3 => by rw [uI_at, if_neg (fun e => q3 e.2), gI302_o (by decide) (by decide) (by decide)]) (fun j q => by rw [hi2 300 (by decide) (by decide) (by decide) (by decide)]) (Or.inr ⟨by rw [uI_at, if_neg (by decide), gI302_o (by decide) (by decide) (by decide)], rfl⟩) ?_ ⟨?_, fun y hy => ?_⟩
  · exact MS_e c (hi2 300 (by decide) (by decide) (by decide) (by decide)) (hi2 308 (by decide) (by decide) (by decide) (by decide)) (hi2 309 (by decide) (by decide) (by decide) (by decide)) (gJ302_o (by decide) (by decide)) (gJ302_o (by decide) (by decide)) (funext fun j => gJ302_o (by decide) (by omega))
  · rw [uI_at, if_pos ⟨rfl, rfl⟩]; rfl
  · cases hy
    refine ⟨MS_e f2 (hi 302 (by decide)) (hi 311 (by decide)) (hi 312 (by decide)) rfl rfl rfl, ?_⟩
    rw [hi 302 (by decide), gI302_w (by decide), gI302_w (by decide), gI302_w (by decide), gI302_w (by decide)]
    exact ⟨hM.2.1, hM.2.2.1, hM.1.2.1, hM.1.1⟩
theorem AM_rs (h : AM g x sv k by' e1 e2 S I J R) (w : WF N g x sv k by') (hy : sv = some y) : AM g y sv k by' e1 e2 S (uI (gI300 I (stK y)) 200 51 0) (gJ300 J (stK y)) R := by
  have hi : ∀ o, o ≠ 200 → uI (gI300 I (stK y)) 200 51 0 o = gI300 I (stK y) o := fun o q0 => by
    funext j
    rw [uI_at, if_neg (fun e => q0 e.1)]
  have hi2 : ∀ o, o ≠ 200 → o ≠ 300 → o ≠ 308 → o ≠ 309 → uI (gI300 I (stK y)) 200 51 0 o = I o := fun o q0 q1 q2 q3 => (hi o q0).trans (gI300_o q1 q2 q3)
  have c := h.2.2.2.1.2 y hy
  have f2 := gC300 c.1 (gn_bd w.1).2.2.1
  have hw := h.2.1
  refine AM_gen h (fun o q0 q1 q2 q3 q4 q5 q6 => hi2 o (by unfold kr at q0; omega) q1 q3 q4) (fun j q1 q2 q3 => by rw [uI_at, if_neg (fun e => q2 e.2), gI300_o (by decide) (by decide) (by decide)]) (fun j q => ?_) (Or.inl (by rw [uI_at, if_pos ⟨rfl, rfl⟩])) ?_ ⟨?_, fun y' hy' => ?_⟩
  · rw [hi 300 (by decide), gI300_w (by omega)]
    rcases q with rfl | rfl | rfl | rfl
    · exact c.2.1.trans hw.2.1.symm
    · exact c.2.2.1.trans hw.2.2.1.symm
    · exact c.2.2.2.1.trans hw.1.2.1.symm
    · exact c.2.2.2.2.trans hw.1.1.symm
  · exact MS_e f2 (hi 300 (by decide)) (hi 308 (by decide)) (hi 309 (by decide)) rfl rfl rfl
  · rw [uI_at, if_neg (by decide), gI300_o (by decide) (by decide) (by decide)]; exact h.2.2.2.1.1
  · have c' := h.2.2.2.1.2 y' hy'
    rw [hi2 302 (by decide) (by decide) (by decide) (by decide)]
    exact ⟨MS_e c'.1 (hi2 302 (by decide) (by decide) (by decide) (by decide)) (hi2 311 (by decide) (by decide) (by decide) (by decide)) (hi2 312 (by decide) (by decide) (by decide) (by decide)) (gJ300_o (by decide) (by decide)) (gJ300_o (by decide) (by decide)) (funext fun j => gJ300_o (by decide) (by omega)), c'.2⟩
theorem frM_302 : frM I J (uI (gI302 I K) 200 7 1) (gJ302 J K) := fun o h1 => ⟨by
  rw [← gI302_o (I := I) (K := K) (o := o) (by omega) (by omega) (by omega)]
  funext j
  rw [uI_at, if_neg (fun e => by omega)], by funext j; exact gJ302_o (by omega) (by omega)⟩
theorem frM_300 : frM I J (uI (gI300 I K) 200 51 0) (gJ300 J K) := fun o h1 => ⟨by
  rw [← gI300_o (I := I) (K := K) (o := o) (by omega) (by omega) (by omega)]
  funext j
  rw [uI_at, if_neg (fun e => by omega)], by funext j; exact gJ300_o (by omega) (by omega)⟩
theorem KM62 (w : WA N z) : MC 331 [(0, .ref 200)] z (zSv z) (fun r I _ _ => r = some (.int (eG z.1 z.2.1 (stZ z.2.1).1)) ∧ I 200 19 = 0) := by
  intro S I J D R b Q h kk
  obtain ⟨hM, hD, hG, ⟨i2, i3, i4, i5, i6, i7, j3, j4⟩, i16, ⟨s1, s2, s3⟩, ⟨n0, n1, n2, n3⟩⟩ := AM_o h w
  have h9 := AM_19 h 0
  have hK := h.2.2.1.2.2.1.1
  have hK2 := h.2.2.1.2.2.1.2
  have r1 := fun (I : xI) (J : xJ) (D : xDb) (b : Nat × Nat) (Q : xQ) => R207 (S := S) (R := R) (I := I) (J := J) (D := D) (b := b) (Q := Q) (z := 300) (a := 302) (n := 144) (k := 144) (j := 144) (by simp only [LM_out hM]) (by simp only [LM_out hM]) (by decide) (by decide) (by decide) (by decide) (by decide)
  rw [show nI 144 = (144 : Int32) from rfl] at r1
  have r2 := fun (I : xI) (J : xJ) (D : xDb) (b : Nat × Nat) (Q : xQ) => R207 (S := S) (R := R) (I := I) (J := J) (D := D) (b := b) (Q := Q) (z := 308) (a := 311) (n := stK z.2.1) (k := 10000) (j := 10000) (by simp only [LM_out hM]) (by simp only [LM_out hM]) (by decide) (by omega) (by omega) (by decide) (by decide)
  have r3 := fun (I : xI) (J : xJ) (D : xDb) (b : Nat × Nat) (Q : xQ) => R207 (S := S) (R := R) (I := I) (J := J) (D := D) (b := b) (Q := Q) (z := 309) (a := 312) (n := stK z.2.1) (k := 10000) (j := 10000) (by simp only [LM_out hM]) (by simp only [LM_out hM]) (by decide) (by omega) (by omega) (by decide) (by decide)
  have r4 := fun (I : xI) (J : xJ) (D : xDb) (b : Nat × Nat) (Q : xQ) => R332 (S := S) (R := R) (I := I) (J := J) (D := D) (b := b) (Q := Q) (z := 310) (a := 313) (n := stK z.2.1) (k := 10000) (j := 10000) (by simp only [LM_out hM]) (by simp only [LM_out hM]) (by decide) (by omega) (by omega) (by decide) (by decide)
  have h3 := AM_sv h9 w
  obtain ⟨-, hD3, -, ⟨-, -, -, -, -, -, t3, -⟩, -⟩ := AM_o h3 (show WF N z.1 z.2.1 (some z.2.1) z.2.2.2.1 z.2.2.2.2.1 from ⟨w.1, w.2.1, fun y hy => by cases hy; exact w.2.1, w.2.2.2⟩)
  have r5 := fun (J : xJ) (b : Nat × Nat) (Q : xQ) => R250 (S := S) (R := R) (J := J) (D := D) (b := b) (Q := Q) (I := uI (gI302 (uI I 200 19 0) (stK z.2.1)) 200 7 1) hM hG hD3 s2
  rw [AM_en h3] at r5
  have kk2 := kk _ _ _ D ⟨rfl, show uI (gI302 (uI I 200 19 0) (stK z.2.1)) 200 7 1 200 19 = 0 from by rw [uI_at, if_neg (by decide), gI302_o (by decide) (by decide) (by decide)]; rfl⟩ h3 (frM_tr (frM_19 0) frM_302)
  rw [e331_0]
  unfold gI302 at r5 kk2
  unfold gJ302 at kk2
  simp only [B331_0, xSeq, i_push, i_load, i_iload, i_lload, i_dload, i_aload, i_istore, i_astore, i_lstore, i_dstore, i_iinc, i_ii, i_iiz, i_ll, i_llz, i_lli, i_li, i_i, i_l, i_i2l, i_l2i, i_dup, i_dup2, i_dup2w, i_dupx1, i_pop, i_pop2, i_goto, i_ifc, i_icmp, i_getI, i_getL, i_getR, i_putI, i_putZ, i_putL, i_putR, i_aldI, i_aldB, i_aldL, i_aldD, i_astI, i_astL, i_astD, i_alen, i_ret, i_iret, i_zret, i_lret, i_fret, i_dret, i_aret, i_invS0, i_invV0, i_m2, i_m1, i_ml, i_obj, lk, lkp, stf1, stf2, Value.category, rV, xTo, lv_args, xCk, xCat, xRc, xAk, hg_S, hg_I, hg_J, hg_D, hg_R, hs_I, hs_J, hs_D, hs_R, uI_at, uJ_at, uD_at, uR_at, List.take_succ_cons, List.take_zero, List.drop_succ_cons, List.drop_zero, List.reverse_cons, List.reverse_nil, List.nil_append, List.cons_append, List.map_cons, List.map_nil, List.sum_cons, List.sum_nil, List.length_cons, List.length_nil, Option.toList_some, Option.toList_none, true_and, and_true, false_and, and_false, true_implies, false_implies, implies_true, not_true_eq_false, not_false_eq_true, ne_eq, if_true, if_false, Bool.and_true, Bool.true_and, decide_true, decide_false, reduceIte, reduceCtorEq, Bool.and_self, Bool.and_eq_true, decide_eq_true_eq, and_self, true_or, or_true, false_or, or_false, Nat.zero_add, Nat.add_zero, eq_self, Nat.reduceEqDiff, Nat.reduceLeDiff, Nat.reduceLT, Nat.reduceAdd, Nat.reduceSub, Nat.reduceMul, LM_out hM, r1, cpr_at, cpq_at, xi144_0, ix_0, xi144_1, ix_1, xi144_2, ix_2, xi144_3, ix_3, xi144_4, ix_4, xi144_5, ix_5, xi144_6, ix_6, xi144_7, ix_7, xi144_8, ix_8, xi144_9, ix_9, xi144_10, ix_10, hK, r2, r3, r4, j3, j4, r5]
  simp only [j3, j4] at kk2
  exact kk2
theorem KM63a (w : WA N z) (hn : z.2.2.1 = none) : MC 333 [(0, .ref 200)] z z (fun r I _ _ => r = some (.int 0) ∧ I 200 19 = 1) := MC_q (c := 1) (fun _ _ _ e => ⟨rfl, e⟩) (fun S I J D R b Q h => by
  obtain ⟨hM, hD, hG, ⟨i2, i3, i4, i5, i6, i7, j3, j4⟩, i16, ⟨s1, s2, s3⟩, ⟨n0, n1, n2, n3⟩⟩ := AM_o h w
  have h7 : I 200 7 = 0 := by rw [h.2.2.2.1.1, hn]; rfl
  rw [e333_0]
  simp only [B333_0, xSeq, i_push, i_load, i_iload, i_lload, i_dload, i_aload, i_istore, i_astore, i_lstore, i_dstore, i_iinc, i_ii, i_iiz, i_ll, i_llz, i_lli, i_li, i_i, i_l, i_i2l, i_l2i, i_dup, i_dup2, i_dup2w, i_dupx1, i_pop, i_pop2, i_goto, i_ifc, i_icmp, i_getI, i_getL, i_getR, i_putI, i_putZ, i_putL, i_putR, i_aldI, i_aldB, i_aldL, i_aldD, i_astI, i_astL, i_astD, i_alen, i_ret, i_iret, i_zret, i_lret, i_fret, i_dret, i_aret, i_invS0, i_invV0, i_m2, i_m1, i_ml, i_obj, lk, lkp, stf1, stf2, Value.category, rV, xTo, lv_args, xCk, xCat, xRc, xAk, hg_S, hg_I, hg_J, hg_D, hg_R, hs_I, hs_J, hs_D, hs_R, uI_at, uJ_at, uD_at, uR_at, List.take_succ_cons, List.take_zero, List.drop_succ_cons, List.drop_zero, List.reverse_cons, List.reverse_nil, List.nil_append, List.cons_append, List.map_cons, List.map_nil, List.sum_cons, List.sum_nil, List.length_cons, List.length_nil, Option.toList_some, Option.toList_none, true_and, and_true, false_and, and_false, true_implies, false_implies, implies_true, not_true_eq_false, not_false_eq_true, ne_eq, if_true, if_false, Bool.and_true, Bool.true_and, decide_true, decide_false, reduceIte, reduceCtorEq, Bool.and_self, Bool.and_eq_true, decide_eq_true_eq, and_self, true_or, or_true, false_or, or_false, Nat.zero_add, Nat.add_zero, eq_self, Nat.reduceEqDiff, Nat.reduceLeDiff, Nat.reduceLT, Nat.reduceAdd, Nat.reduceSub, Nat.reduceMul, LM_out hM, h7, i1_0, i2_0, uI_uI, e333_18, B333_18, R234 hM (v := 1) (Or.inr rfl)])
theorem KM63b (w : WA N z) (hy : z.2.2.1 = some y) : MC 333 [(0, .ref 200)] z (zRs z y) (fun r I _ _ => r = some (.int (eG z.1 y (stZ y).1)) ∧ I 200 19 = 0) := by
  intro S I J D R b Q h kk
  obtain ⟨hM, hD, hG, ⟨i2, i3, i4, i5, i6, i7, j3, j4⟩, i16, ⟨s1, s2, s3⟩, ⟨n0, n1, n2, n3⟩⟩ := AM_o h w
  have h9 := AM_19 h 0
  have h7 : I 200 7 = 1 := by rw [h.2.2.2.1.1, hy]; rfl
  have c := (h.2.2.2.1.2 y hy).1
  have hK := c.2.2.1.1
  have hK2 := c.2.2.1.2
  have oky := w.2.2.1 y hy
  have sy1 := oky.2.1.1
  have sy2 : (stZ y).1 < 2 ^ 64 := Nat.lt_of_lt_of_le sy1 (Nat.pow_le_pow_right (by decide) n1)
  have r1 := fun (I : xI) (J : xJ) (D : xDb) (b : Nat × Nat) (Q : xQ) => R207 (S := S) (R := R) (I := I) (J := J) (D := D) (b := b) (Q := Q) (z := 302) (a := 300) (n := 144) (k := 144) (j := 144) (by simp only [LM_out hM]) (by simp only [LM_out hM]) (by decide) (by decide) (by decide) (by decide) (by decide)
  rw [show nI 144 = (144 : Int32) from rfl] at r1
  have r2 := fun (I : xI) (J : xJ) (D : xDb) (b : Nat × Nat) (Q : xQ) => R207 (S := S) (R := R) (I := I) (J := J) (D := D) (b := b) (Q := Q) (z := 311) (a := 308) (n := stK y) (k := 10000) (j := 10000) (by simp only [LM_out hM]) (by simp only [LM_out hM]) (by decide) (by omega) (by omega) (by decide) (by decide)
  have r3 := fun (I : xI) (J : xJ) (D : xDb) (b : Nat × Nat) (Q : xQ) => R207 (S := S) (R := R) (I := I) (J := J) (D := D) (b := b) (Q := Q) (z := 312) (a := 309) (n := stK y) (k := 10000) (j := 10000) (by simp only [LM_out hM]) (by simp only [LM_out hM]) (by decide) (by omega) (by omega) (by decide) (by decide)
  have r4 := fun (I : xI) (J : xJ) (D : xDb) (b : Nat × Nat) (Q : xQ) => R332 (S := S) (R := R) (I := I) (J := J) (D := D) (b := b) (Q := Q) (z := 313) (a := 310) (n := stK y) (k := 10000) (j := 10000) (by simp only [LM_out hM]) (by simp only [LM_out hM]) (by decide) (by omega) (by omega) (by decide) (by decide)
  have h3 := AM_rs h9 w hy
  have c7 := c.1.2.2.2.2.2.2.1
  have c8 := c.1.2.2.2.2.2.2.2
  obtain ⟨-, hD3, -, ⟨-, -, -, -, -, -, t3, -⟩, -⟩ := AM_o h3 (show WF N z.1 y z.2.2.1 z.2.2.2.1 z.2.2.2.2.1 from ⟨w.1, oky, w.2.2⟩)
  have r5 := fun (J : xJ) (b : Nat × Nat) (Q : xQ) => R250 (S := S) (R := R) (J := J) (D := D) (b := b) (Q := Q) (I := uI (gI300 (uI I 200 19 0) (stK y)) 200 51 0) hM hG hD3 sy2
  rw [AM_en h3] at r5
  have kk2 := kk _ _ _ D ⟨rfl, show uI (gI300 (uI I 200 19 0) (stK y)) 200 51 0 200 19 = 0 from by rw [uI_at, if_neg (by decide), gI300_o (by decide) (by decide) (by decide)]; rfl⟩ h3 (frM_tr (frM_19 0) frM_300)
  rw [e333_0]
  unfold gI300 at r5 kk2
  unfold gJ300 at kk2
  have z1 : ((1 : Int32) = 0) = False := eq_false (by decide)
  simp only [B333_0, xSeq, i_push, i_load, i_iload, i_lload, i_dload, i_aload, i_istore, i_astore, i_lstore, i_dstore, i_iinc, i_ii, i_iiz, i_ll, i_llz, i_lli, i_li, i_i, i_l, i_i2l, i_l2i, i_dup, i_dup2, i_dup2w, i_dupx1, i_pop, i_pop2, i_goto, i_ifc, i_icmp, i_getI, i_getL, i_getR, i_putI, i_putZ, i_putL, i_putR, i_aldI, i_aldB, i_aldL, i_aldD, i_astI, i_astL, i_astD, i_alen, i_ret, i_iret, i_zret, i_lret, i_fret, i_dret, i_aret, i_invS0, i_invV0, i_m2, i_m1, i_ml, i_obj, lk, lkp, stf1, stf2, Value.category, rV, xTo, lv_args, xCk, xCat, xRc, xAk, hg_S, hg_I, hg_J, hg_D, hg_R, hs_I, hs_J, hs_D, hs_R, uI_at, uJ_at, uD_at, uR_at, List.take_succ_cons, List.take_zero, List.drop_succ_cons, List.drop_zero, List.reverse_cons, List.reverse_nil, List.nil_append, List.cons_append, List.map_cons, List.map_nil, List.sum_cons, List.sum_nil, List.length_cons, List.length_nil, Option.toList_some, Option.toList_none, true_and, and_true, false_and, and_false, true_implies, false_implies, implies_true, not_true_eq_false, not_false_eq_true, ne_eq, if_true, if_false, Bool.and_true, Bool.true_and, decide_true, decide_false, reduceIte, reduceCtorEq, Bool.and_self, Bool.and_eq_true, decide_eq_true_eq, and_self, true_or, or_true, false_or, or_false, Nat.zero_add, Nat.add_zero, eq_self, Nat.reduceEqDiff, Nat.reduceLeDiff, Nat.reduceLT, Nat.reduceAdd, Nat.reduceSub, Nat.reduceMul, LM_out hM, h7, z1, i1_0, i2_0, e333_17, B333_17, e333_18, B333_18, R234 hM (v := 0) (Or.inl rfl), e333_27, B333_27, r1, cpr_at, cpq_at, xi144_0, ix_0, xi144_1, ix_1, xi144_2, ix_2, xi144_3, ix_3, xi144_4, ix_4, xi144_5, ix_5, xi144_6, ix_6, xi144_7, ix_7, xi144_8, ix_8, xi144_9, ix_9, xi144_10, ix_10, xi144_9, hK, r2, r3, r4, c7, c8, r5]
  simp only [c7, c8] at kk2
  exact kk2
theorem KC63a (w : WA N z) (hn : z.2.2.1 = none) : CC 1 374 [(0, .ref 100), (1, .ref 400)] z z (fun r _ _ => r = some (.int 1)) := by
  intro P f S I J D R h hw hf
  obtain ⟨s4, s5, s8, s9⟩ := hw
  obtain ⟨hL, hC, hG, ⟨i6, i7, i8, i9, i10, i11, j4, j5⟩, j102, i111, ⟨s1, s2, s3⟩, ⟨n0, n1, n2, n3⟩⟩ := AC_o h w
  have h7 : I 100 7 = 0 := by rw [h.2.2.2.1.1, hn]; rfl
  refine ⟨P, Nat.le_refl P, fun _ => rfl, fun b Q b1 b2 kk => ?_⟩
  rw [e374_0]
  simp only [B374_0, xSeq, i_push, i_load, i_iload, i_lload, i_dload, i_aload, i_istore, i_astore, i_lstore, i_dstore, i_iinc, i_ii, i_iiz, i_ll, i_llz, i_lli, i_li, i_i, i_l, i_i2l, i_l2i, i_dup, i_dup2, i_dup2w, i_dupx1, i_pop, i_pop2, i_goto, i_ifc, i_icmp, i_getI, i_getL, i_getR, i_putI, i_putZ, i_putL, i_putR, i_aldI, i_aldB, i_aldL, i_aldD, i_astI, i_astL, i_astD, i_alen, i_ret, i_iret, i_zret, i_lret, i_fret, i_dret, i_aret, i_invS0, i_invV0, i_m2, i_m1, i_ml, i_obj, lk, lkp, stf1, stf2, Value.category, rV, xTo, lv_args, xCk, xCat, xRc, xAk, hg_S, hg_I, hg_J, hg_D, hg_R, hs_I, hs_J, hs_D, hs_R, uI_at, uJ_at, uD_at, uR_at, List.take_succ_cons, List.take_zero, List.drop_succ_cons, List.drop_zero, List.reverse_cons, List.reverse_nil, List.nil_append, List.cons_append, List.map_cons, List.map_nil, List.sum_cons, List.sum_nil, List.length_cons, List.length_nil, Option.toList_some, Option.toList_none, true_and, and_true, false_and, and_false, true_implies, false_implies, implies_true, not_true_eq_false, not_false_eq_true, ne_eq, if_true, if_false, Bool.and_true, Bool.true_and, decide_true, decide_false, reduceIte, reduceCtorEq, Bool.and_self, Bool.and_eq_true, decide_eq_true_eq, and_self, true_or, or_true, false_or, or_false, Nat.zero_add, Nat.add_zero, eq_self, Nat.reduceEqDiff, Nat.reduceLeDiff, Nat.reduceLT, Nat.reduceAdd, Nat.reduceSub, Nat.reduceMul, LC_out hL]
  refine w_tryVA (mc := 10) (ms := 100) (by omega) (by omega) rfl (by simp only [xSeq, i_push, i_load, i_iload, i_lload, i_dload, i_aload, i_istore, i_astore, i_lstore, i_dstore, i_iinc, i_ii, i_iiz, i_ll, i_llz, i_lli, i_li, i_i, i_l, i_i2l, i_l2i, i_dup, i_dup2, i_dup2w, i_dupx1, i_pop, i_pop2, i_goto, i_ifc, i_icmp, i_getI, i_getL, i_getR, i_putI, i_putZ, i_putL, i_putR, i_aldI, i_aldB, i_aldL, i_aldD, i_astI, i_astL, i_astD, i_alen, i_ret, i_iret, i_zret, i_lret, i_fret, i_dret, i_aret, i_invS0, i_invV0, i_m2, i_m1, i_ml, i_obj, lk, lkp, stf1, stf2, Value.category, rV, xTo, lv_args, xCk, xCat, xRc, xAk, hg_S, hg_I, hg_J, hg_D, hg_R, hs_I, hs_J, hs_D, hs_R, uI_at, uJ_at, uD_at, uR_at, List.take_succ_cons, List.take_zero, List.drop_succ_cons, List.drop_zero, List.reverse_cons, List.reverse_nil, List.nil_append, List.cons_append, List.map_cons, List.map_nil, List.sum_cons, List.sum_nil, List.length_cons, List.length_nil, Option.toList_some, Option.toList_none, true_and, and_true, false_and, and_false, true_implies, false_implies, implies_true, not_true_eq_false, not_false_eq_true, ne_eq, if_true, if_false, Bool.and_true, Bool.true_and, decide_true, decide_false, reduceIte, reduceCtorEq, Bool.and_self, Bool.and_eq_true, decide_eq_true_eq, and_self, true_or, or_true, false_or, or_false, Nat.zero_add, Nat.add_zero, eq_self, Nat.reduceEqDiff, Nat.reduceLeDiff, Nat.reduceLT, Nat.reduceAdd, Nat.reduceSub, Nat.reduceMul, LC_out hL]) ?_
  simp only [xSeq, i_push, i_load, i_iload, i_lload, i_dload, i_aload, i_istore, i_astore, i_lstore, i_dstore, i_iinc, i_ii, i_iiz, i_ll, i_llz, i_lli, i_li, i_i, i_l, i_i2l, i_l2i, i_dup, i_dup2, i_dup2w, i_dupx1, i_pop, i_pop2, i_goto, i_ifc, i_icmp, i_getI, i_getL, i_getR, i_putI, i_putZ, i_putL, i_putR, i_aldI, i_aldB, i_aldL, i_aldD, i_astI, i_astL, i_astD, i_alen, i_ret, i_iret, i_zret, i_lret, i_fret, i_dret, i_aret, i_invS0, i_invV0, i_m2, i_m1, i_ml, i_obj, lk, lkp, stf1, stf2, Value.category, rV, xTo, lv_args, xCk, xCat, xRc, xAk, hg_S, hg_I, hg_J, hg_D, hg_R, hs_I, hs_J, hs_D, hs_R, uI_at, uJ_at, uD_at, uR_at, List.take_succ_cons, List.take_zero, List.drop_succ_cons, List.drop_zero, List.reverse_cons, List.reverse_nil, List.nil_append, List.cons_append, List.map_cons, List.map_nil, List.sum_cons, List.sum_nil, List.length_cons, List.length_nil, Option.toList_some, Option.toList_none, true_and, and_true, false_and, and_false, true_implies, false_implies, implies_true, not_true_eq_false, not_false_eq_true, ne_eq, if_true, if_false, Bool.and_true, Bool.true_and, decide_true, decide_false, reduceIte, reduceCtorEq, Bool.and_self, Bool.and_eq_true, decide_eq_true_eq, and_self, true_or, or_true, false_or, or_false, Nat.zero_add, Nat.add_zero, eq_self, Nat.reduceEqDiff, Nat.reduceLeDiff, Nat.reduceLT, Nat.reduceAdd, Nat.reduceSub, Nat.reduceMul]
  rw [e191_0]
  simp only [B191_0, xSeq, i_push, i_load, i_iload, i_lload, i_dload, i_aload, i_istore, i_astore, i_lstore, i_dstore, i_iinc, i_ii, i_iiz, i_ll, i_llz, i_lli, i_li, i_i, i_l, i_i2l, i_l2i, i_dup, i_dup2, i_dup2w, i_dupx1, i_pop, i_pop2, i_goto, i_ifc, i_icmp, i_getI, i_getL, i_getR, i_putI, i_putZ, i_putL, i_putR, i_aldI, i_aldB, i_aldL, i_aldD, i_astI, i_astL, i_astD, i_alen, i_ret, i_iret, i_zret, i_lret, i_fret, i_dret, i_aret, i_invS0, i_invV0, i_m2, i_m1, i_ml, i_obj, lk, lkp, stf1, stf2, Value.category, rV, xTo, lv_args, xCk, xCat, xRc, xAk, hg_S, hg_I, hg_J, hg_D, hg_R, hs_I, hs_J, hs_D, hs_R, uI_at, uJ_at, uD_at, uR_at, List.take_succ_cons, List.take_zero, List.drop_succ_cons, List.drop_zero, List.reverse_cons, List.reverse_nil, List.nil_append, List.cons_append, List.map_cons, List.map_nil, List.sum_cons, List.sum_nil, List.length_cons, List.length_nil, Option.toList_some, Option.toList_none, true_and, and_true, false_and, and_false, true_implies, false_implies, implies_true, not_true_eq_false, not_false_eq_true, ne_eq, if_true, if_false, Bool.and_true, Bool.true_and, decide_true, decide_false, reduceIte, reduceCtorEq, Bool.and_self, Bool.and_eq_true, decide_eq_true_eq, and_self, true_or, or_true, false_or, or_false, Nat.zero_add, Nat.add_zero, eq_self, Nat.reduceEqDiff, Nat.reduceLeDiff, Nat.reduceLT, Nat.reduceAdd, Nat.reduceSub, Nat.reduceMul, LC_out hL]
  simp only [h7, i_thr, xSeq, i_push, i_load, i_iload, i_lload, i_dload, i_aload, i_istore, i_astore, i_lstore, i_dstore, i_iinc, i_ii, i_iiz, i_ll, i_llz, i_lli, i_li, i_i, i_l, i_i2l, i_l2i, i_dup, i_dup2, i_dup2w, i_dupx1, i_pop, i_pop2, i_goto, i_ifc, i_icmp, i_getI, i_getL, i_getR, i_putI, i_putZ, i_putL, i_putR, i_aldI, i_aldB, i_aldL, i_aldD, i_astI, i_astL, i_astD, i_alen, i_ret, i_iret, i_zret, i_lret, i_fret, i_dret, i_aret, i_invS0, i_invV0, i_m2, i_m1, i_ml, i_obj, lk, lkp, stf1, stf2, Value.category, rV, xTo, lv_args, xCk, xCat, xRc, xAk, hg_S, hg_I, hg_J, hg_D, hg_R, hs_I, hs_J, hs_D, hs_R, uI_at, uJ_at, uD_at, uR_at, List.take_succ_cons, List.take_zero, List.drop_succ_cons, List.drop_zero, List.reverse_cons, List.reverse_nil, List.nil_append, List.cons_append, List.map_cons, List.map_nil, List.sum_cons, List.sum_nil, List.length_cons, List.length_nil, Option.toList_some, Option.toList_none, true_and, and_true, false_and, and_false, true_implies, false_implies, implies_true, not_true_eq_false, not_false_eq_true, ne_eq, if_true, if_false, Bool.and_true, Bool.true_and, decide_true, decide_false, reduceIte, reduceCtorEq, Bool.and_self, Bool.and_eq_true, decide_eq_true_eq, and_self, true_or, or_true, false_or, or_false, Nat.zero_add, Nat.add_zero, eq_self, Nat.reduceEqDiff, Nat.reduceLeDiff, Nat.reduceLT, Nat.reduceAdd, Nat.reduceSub, Nat.reduceMul]
  simp only [xSeq, i_push, i_load, i_iload, i_lload, i_dload, i_aload, i_istore, i_astore, i_lstore, i_dstore, i_iinc, i_ii, i_iiz, i_ll, i_llz, i_lli, i_li, i_i, i_l, i_i2l, i_l2i, i_dup, i_dup2, i_dup2w, i_dupx1, i_pop, i_pop2, i_goto, i_ifc, i_icmp, i_getI, i_getL, i_getR, i_putI, i_putZ, i_putL, i_putR, i_aldI, i_aldB, i_aldL, i_aldD, i_astI, i_astL, i_astD, i_alen, i_ret, i_iret, i_zret, i_lret, i_fret, i_dret, i_aret, i_invS0, i_invV0, i_m2, i_m1, i_ml, i_obj, lk, lkp, stf1, stf2, Value.category, rV, xTo, lv_args, xCk, xCat, xRc, xAk, hg_S, hg_I, hg_J, hg_D, hg_R, hs_I, hs_J, hs_D, hs_R, uI_at, uJ_at, uD_at, uR_at, List.take_succ_cons, List.take_zero, List.drop_succ_cons, List.drop_zero, List.reverse_cons, List.reverse_nil, List.nil_append, List.cons_append, List.map_cons, List.map_nil, List.sum_cons, List.sum_nil, List.length_cons, List.length_nil, Option.toList_some, Option.toList_none, true_and, and_true, false_and, and_false, true_implies, false_implies, implies_true, not_true_eq_false, not_false_eq_true, ne_eq, if_true, if_false, Bool.and_true, Bool.true_and, decide_true, decide_false, reduceIte, reduceCtorEq, Bool.and_self, Bool.and_eq_true, decide_eq_true_eq, and_self, true_or, or_true, false_or, or_false, Nat.zero_add, Nat.add_zero, eq_self, Nat.reduceEqDiff, Nat.reduceLeDiff, Nat.reduceLT, Nat.reduceAdd, Nat.reduceSub, Nat.reduceMul, xToT_ok, tE0_0, tE1_0, tE1_1, tE2_0, tE3_0, tE4_0, tE5_0, tE5_1, tE6_0, tE7_0, tE7_1, tE8_0, tE9_0, tE9_1, tE9_2, tE10_0, tE11_0, tE11_1, tE12_0, tE12_1, tE13_0, tE13_1, tE13_2, tE14_0, tE14_1, tE15_0, tE16_0, tE17_0, LC_out hL, s4, xi1, ix_0, i1_0, e374_14, B374_14, s4]
  exact kk _ S I J D R f _ rfl h frC_rfl (by omega)
theorem KC63b (w : WA N z) (hy : z.2.2.1 = some y) : CC 1 374 [(0, .ref 100), (1, .ref 400)] z (zRs z y) (fun r J _ => r = some (.int 0) ∧ J 400 0 = (eG z.1 y (stZ y).1).toInt64) := by
  intro P f S I J D R h hw hf
  obtain ⟨s4, s5, s8, s9⟩ := hw
  obtain ⟨hL, hC, hG, ⟨i6, i7, i8, i9, i10, i11, j4, j5⟩, j102, i111, ⟨s1, s2, s3⟩, ⟨n0, n1, n2, n3⟩⟩ := AC_o h w
  have h7 : I 100 7 = 1 := by rw [h.2.2.2.1.1, hy]; rfl
  have z1 : ((1 : Int32) = 0) = False := eq_false (by decide)
  have oky := w.2.2.1 y hy
  have sy1 := oky.2.1.1
  have sy2 : (stZ y).1 < 2 ^ 64 := Nat.lt_of_lt_of_le sy1 (Nat.pow_le_pow_right (by decide) n1)
  refine ⟨rows110 P (stK y) R, rows110_le, fun e => absurd e (by decide), fun b Q b1 b2 kk => ?_⟩
  rw [e374_0]
  simp only [B374_0, xSeq, i_push, i_load, i_iload, i_lload, i_dload, i_aload, i_istore, i_astore, i_lstore, i_dstore, i_iinc, i_ii, i_iiz, i_ll, i_llz, i_lli, i_li, i_i, i_l, i_i2l, i_l2i, i_dup, i_dup2, i_dup2w, i_dupx1, i_pop, i_pop2, i_goto, i_ifc, i_icmp, i_getI, i_getL, i_getR, i_putI, i_putZ, i_putL, i_putR, i_aldI, i_aldB, i_aldL, i_aldD, i_astI, i_astL, i_astD, i_alen, i_ret, i_iret, i_zret, i_lret, i_fret, i_dret, i_aret, i_invS0, i_invV0, i_m2, i_m1, i_ml, i_obj, lk, lkp, stf1, stf2, Value.category, rV, xTo, lv_args, xCk, xCat, xRc, xAk, hg_S, hg_I, hg_J, hg_D, hg_R, hs_I, hs_J, hs_D, hs_R, uI_at, uJ_at, uD_at, uR_at, List.take_succ_cons, List.take_zero, List.drop_succ_cons, List.drop_zero, List.reverse_cons, List.reverse_nil, List.nil_append, List.cons_append, List.map_cons, List.map_nil, List.sum_cons, List.sum_nil, List.length_cons, List.length_nil, Option.toList_some, Option.toList_none, true_and, and_true, false_and, and_false, true_implies, false_implies, implies_true, not_true_eq_false, not_false_eq_true, ne_eq, if_true, if_false, Bool.and_true, Bool.true_and, decide_true, decide_false, reduceIte, reduceCtorEq, Bool.and_self, Bool.and_eq_true, decide_eq_true_eq, and_self, true_or, or_true, false_or, or_false, Nat.zero_add, Nat.add_zero, eq_self, Nat.reduceEqDiff, Nat.reduceLeDiff, Nat.reduceLT, Nat.reduceAdd, Nat.reduceSub, Nat.reduceMul, LC_out hL]
  refine w_tryVA (mc := 10 + (P - rows110 P (stK y) R)) (ms := 100 + (P - rows110 P (stK y) R)) (by omega) (by omega) rfl (by simp only [xSeq, i_push, i_load, i_iload, i_lload, i_dload, i_aload, i_istore, i_astore, i_lstore, i_dstore, i_iinc, i_ii, i_iiz, i_ll, i_llz, i_lli, i_li, i_i, i_l, i_i2l, i_l2i, i_dup, i_dup2, i_dup2w, i_dupx1, i_pop, i_pop2, i_goto, i_ifc, i_icmp, i_getI, i_getL, i_getR, i_putI, i_putZ, i_putL, i_putR, i_aldI, i_aldB, i_aldL, i_aldD, i_astI, i_astL, i_astD, i_alen, i_ret, i_iret, i_zret, i_lret, i_fret, i_dret, i_aret, i_invS0, i_invV0, i_m2, i_m1, i_ml, i_obj, lk, lkp, stf1, stf2, Value.category, rV, xTo, lv_args, xCk, xCat, xRc, xAk, hg_S, hg_I, hg_J, hg_D, hg_R, hs_I, hs_J, hs_D, hs_R, uI_at, uJ_at, uD_at, uR_at, List.take_succ_cons, List.take_zero, List.drop_succ_cons, List.drop_zero, List.reverse_cons, List.reverse_nil, List.nil_append, List.cons_append, List.map_cons, List.map_nil, List.sum_cons, List.sum_nil, List.length_cons, List.length_nil, Option.toList_some, Option.toList_none, true_and, and_true, false_and, and_false, true_implies, false_implies, implies_true, not_true_eq_false, not_false_eq_true, ne_eq, if_true, if_false, Bool.and_true, Bool.true_and, decide_true, decide_false, reduceIte, reduceCtorEq, Bool.and_self, Bool.and_eq_true, decide_eq_true_eq, and_self, true_or, or_true, false_or, or_false, Nat.zero_add, Nat.add_zero, eq_self, Nat.reduceEqDiff, Nat.reduceLeDiff, Nat.reduceLT, Nat.reduceAdd, Nat.reduceSub, Nat.reduceMul, LC_out hL]) ?_
  simp only [xSeq, i_push, i_load, i_iload, i_lload, i_dload, i_aload, i_istore, i_astore, i_lstore, i_dstore, i_iinc, i_ii, i_iiz, i_ll, i_llz, i_lli, i_li, i_i, i_l, i_i2l, i_l2i, i_dup, i_dup2, i_dup2w, i_dupx1, i_pop, i_pop2, i_goto, i_ifc, i_icmp, i_getI, i_getL, i_getR, i_putI, i_putZ, i_putL, i_putR, i_aldI, i_aldB, i_aldL, i_aldD, i_astI, i_astL, i_astD, i_alen, i_ret, i_iret, i_zret, i_lret, i_fret, i_dret, i_aret, i_invS0, i_invV0, i_m2, i_m1, i_ml, i_obj, lk, lkp, stf1, stf2, Value.category, rV, xTo, lv_args, xCk, xCat, xRc, xAk, hg_S, hg_I, hg_J, hg_D, hg_R, hs_I, hs_J, hs_D, hs_R, uI_at, uJ_at, uD_at, uR_at, List.take_succ_cons, List.take_zero, List.drop_succ_cons, List.drop_zero, List.reverse_cons, List.reverse_nil, List.nil_append, List.cons_append, List.map_cons, List.map_nil, List.sum_cons, List.sum_nil, List.length_cons, List.length_nil, Option.toList_some, Option.toList_none, true_and, and_true, false_and, and_false, true_implies, false_implies, implies_true, not_true_eq_false, not_false_eq_true, ne_eq, if_true, if_false, Bool.and_true, Bool.true_and, decide_true, decide_false, reduceIte, reduceCtorEq, Bool.and_self, Bool.and_eq_true, decide_eq_true_eq, and_self, true_or, or_true, false_or, or_false, Nat.zero_add, Nat.add_zero, eq_self, Nat.reduceEqDiff, Nat.reduceLeDiff, Nat.reduceLT, Nat.reduceAdd, Nat.reduceSub, Nat.reduceMul]
  rw [e191_0]
  simp only [B191_0, xSeq, i_push, i_load, i_iload, i_lload, i_dload, i_aload, i_istore, i_astore, i_lstore, i_dstore, i_iinc, i_ii, i_iiz, i_ll, i_llz, i_lli, i_li, i_i, i_l, i_i2l, i_l2i, i_dup, i_dup2, i_dup2w, i_dupx1, i_pop, i_pop2, i_goto, i_ifc, i_icmp, i_getI, i_getL, i_getR, i_putI, i_putZ, i_putL, i_putR, i_aldI, i_aldB, i_aldL, i_aldD, i_astI, i_astL, i_astD, i_alen, i_ret, i_iret, i_zret, i_lret, i_fret, i_dret, i_aret, i_invS0, i_invV0, i_m2, i_m1, i_ml, i_obj, lk, lkp, stf1, stf2, Value.category, rV, xTo, lv_args, xCk, xCat, xRc, xAk, hg_S, hg_I, hg_J, hg_D, hg_R, hs_I, hs_J, hs_D, hs_R, uI_at, uJ_at, uD_at, uR_at, List.take_succ_cons, List.take_zero, List.drop_succ_cons, List.drop_zero, List.reverse_cons, List.reverse_nil, List.nil_append, List.cons_append, List.map_cons, List.map_nil, List.sum_cons, List.sum_nil, List.length_cons, List.length_nil, Option.toList_some, Option.toList_none, true_and, and_true, false_and, and_false, true_implies, false_implies, implies_true, not_true_eq_false, not_false_eq_true, ne_eq, if_true, if_false, Bool.and_true, Bool.true_and, decide_true, decide_false, reduceIte, reduceCtorEq, Bool.and_self, Bool.and_eq_true, decide_eq_true_eq, and_self, true_or, or_true, false_or, or_false, Nat.zero_add, Nat.add_zero, eq_self, Nat.reduceEqDiff, Nat.reduceLeDiff, Nat.reduceLT, Nat.reduceAdd, Nat.reduceSub, Nat.reduceMul, LC_out hL, h7, z1]
  rw [e191_18]
  simp only [B191_18, xSeq, i_push, i_load, i_iload, i_lload, i_dload, i_aload, i_istore, i_astore, i_lstore, i_dstore, i_iinc, i_ii, i_iiz, i_ll, i_llz, i_lli, i_li, i_i, i_l, i_i2l, i_l2i, i_dup, i_dup2, i_dup2w, i_dupx1, i_pop, i_pop2, i_goto, i_ifc, i_icmp, i_getI, i_getL, i_getR, i_putI, i_putZ, i_putL, i_putR, i_aldI, i_aldB, i_aldL, i_aldD, i_astI, i_astL, i_astD, i_alen, i_ret, i_iret, i_zret, i_lret, i_fret, i_dret, i_aret, i_invS0, i_invV0, i_m2, i_m1, i_ml, i_obj, lk, lkp, stf1, stf2, Value.category, rV, xTo, lv_args, xCk, xCat, xRc, xAk, hg_S, hg_I, hg_J, hg_D, hg_R, hs_I, hs_J, hs_D, hs_R, uI_at, uJ_at, uD_at, uR_at, List.take_succ_cons, List.take_zero, List.drop_succ_cons, List.drop_zero, List.reverse_cons, List.reverse_nil, List.nil_append, List.cons_append, List.map_cons, List.map_nil, List.sum_cons, List.sum_nil, List.length_cons, List.length_nil, Option.toList_some, Option.toList_none, true_and, and_true, false_and, and_false, true_implies, false_implies, implies_true, not_true_eq_false, not_false_eq_true, ne_eq, if_true, if_false, Bool.and_true, Bool.true_and, decide_true, decide_false, reduceIte, reduceCtorEq, Bool.and_self, Bool.and_eq_true, decide_eq_true_eq, and_self, true_or, or_true, false_or, or_false, Nat.zero_add, Nat.add_zero, eq_self, Nat.reduceEqDiff, Nat.reduceLeDiff, Nat.reduceLT, Nat.reduceAdd, Nat.reduceSub, Nat.reduceMul, LC_out hL]
  refine w_invVA (mc := P - rows110 P (stK y) R) (ms := P - rows110 P (stK y) R) (by first | omega | (simp; done) | (simp; omega)) (by first | omega | (simp; done) | (simp; omega)) rfl (by simp only [xSeq, i_push, i_load, i_iload, i_lload, i_dload, i_aload, i_istore, i_astore, i_lstore, i_dstore, i_iinc, i_ii, i_iiz, i_ll, i_llz, i_lli, i_li, i_i, i_l, i_i2l, i_l2i, i_dup, i_dup2, i_dup2w, i_dupx1, i_pop, i_pop2, i_goto, i_ifc, i_icmp, i_getI, i_getL, i_getR, i_putI, i_putZ, i_putL, i_putR, i_aldI, i_aldB, i_aldL, i_aldD, i_astI, i_astL, i_astD, i_alen, i_ret, i_iret, i_zret, i_lret, i_fret, i_dret, i_aret, i_invS0, i_invV0, i_m2, i_m1, i_ml, i_obj, lk, lkp, stf1, stf2, Value.category, rV, xTo, lv_args, xCk, xCat, xRc, xAk, hg_S, hg_I, hg_J, hg_D, hg_R, hs_I, hs_J, hs_D, hs_R, uI_at, uJ_at, uD_at, uR_at, List.take_succ_cons, List.take_zero, List.drop_succ_cons, List.drop_zero, List.reverse_cons, List.reverse_nil, List.nil_append, List.cons_append, List.map_cons, List.map_nil, List.sum_cons, List.sum_nil, List.length_cons, List.length_nil, Option.toList_some, Option.toList_none, true_and, and_true, false_and, and_false, true_implies, false_implies, implies_true, not_true_eq_false, not_false_eq_true, ne_eq, if_true, if_false, Bool.and_true, Bool.true_and, decide_true, decide_false, reduceIte, reduceCtorEq, Bool.and_self, Bool.and_eq_true, decide_eq_true_eq, and_self, true_or, or_true, false_or, or_false, Nat.zero_add, Nat.add_zero, eq_self, Nat.reduceEqDiff, Nat.reduceLeDiff, Nat.reduceLT, Nat.reduceAdd, Nat.reduceSub, Nat.reduceMul, LC_out hL]) ?_
  simp only [xSeq, i_push, i_load, i_iload, i_lload, i_dload, i_aload, i_istore, i_astore, i_lstore, i_dstore, i_iinc, i_ii, i_iiz, i_ll, i_llz, i_lli, i_li, i_i, i_l, i_i2l, i_l2i, i_dup, i_dup2, i_dup2w, i_dupx1, i_pop, i_pop2, i_goto, i_ifc, i_icmp, i_getI, i_getL, i_getR, i_putI, i_putZ, i_putL, i_putR, i_aldI, i_aldB, i_aldL, i_aldD, i_astI, i_astL, i_astD, i_alen, i_ret, i_iret, i_zret, i_lret, i_fret, i_dret, i_aret, i_invS0, i_invV0, i_m2, i_m1, i_ml, i_obj, lk, lkp, stf1, stf2, Value.category, rV, xTo, lv_args, xCk, xCat, xRc, xAk, hg_S, hg_I, hg_J, hg_D, hg_R, hs_I, hs_J, hs_D, hs_R, uI_at, uJ_at, uD_at, uR_at, List.take_succ_cons, List.take_zero, List.drop_succ_cons, List.drop_zero, List.reverse_cons, List.reverse_nil, List.nil_append, List.cons_append, List.map_cons, List.map_nil, List.sum_cons, List.sum_nil, List.length_cons, List.length_nil, Option.toList_some, Option.toList_none, true_and, and_true, false_and, and_false, true_implies, false_implies, implies_true, not_true_eq_false, not_false_eq_true, ne_eq, if_true, if_false, Bool.and_true, Bool.true_and, decide_true, decide_false, reduceIte, reduceCtorEq, Bool.and_self, Bool.and_eq_true, decide_eq_true_eq, and_self, true_or, or_true, false_or, or_false, Nat.zero_add, Nat.add_zero, eq_self, Nat.reduceEqDiff, Nat.reduceLeDiff, Nat.reduceLT, Nat.reduceAdd, Nat.reduceSub, Nat.reduceMul]
  refine K80_110 h hy (Nat.le_refl _) (Nat.le_refl _) (fun S' I0 J0 D' R' b' h2 fr hr hr2 => ?_)
  have h3 := AC_rs h2 w hy hr hr2
  obtain ⟨hL3, hC3, hG3, ⟨-, -, -, -, -, -, t4, -⟩, -⟩ := AC_o h3 (show WF N z.1 y z.2.2.1 z.2.2.2.1 z.2.2.2.2.1 from ⟨w.1, oky, w.2.2⟩)
  have s42 : S' 400 = (101, 1) := (fr 400 (Or.inl ⟨by decide, by decide⟩)).1.trans s4
  simp only [xSeq, i_push, i_load, i_iload, i_lload, i_dload, i_aload, i_istore, i_astore, i_lstore, i_dstore, i_iinc, i_ii, i_iiz, i_ll, i_llz, i_lli, i_li, i_i, i_l, i_i2l, i_l2i, i_dup, i_dup2, i_dup2w, i_dupx1, i_pop, i_pop2, i_goto, i_ifc, i_icmp, i_getI, i_getL, i_getR, i_putI, i_putZ, i_putL, i_putR, i_aldI, i_aldB, i_aldL, i_aldD, i_astI, i_astL, i_astD, i_alen, i_ret, i_iret, i_zret, i_lret, i_fret, i_dret, i_aret, i_invS0, i_invV0, i_m2, i_m1, i_ml, i_obj, lk, lkp, stf1, stf2, Value.category, rV, xTo, lv_args, xCk, xCat, xRc, xAk, hg_S, hg_I, hg_J, hg_D, hg_R, hs_I, hs_J, hs_D, hs_R, uI_at, uJ_at, uD_at, uR_at, List.take_succ_cons, List.take_zero, List.drop_succ_cons, List.drop_zero, List.reverse_cons, List.reverse_nil, List.nil_append, List.cons_append, List.map_cons, List.map_nil, List.sum_cons, List.sum_nil, List.length_cons, List.length_nil, Option.toList_some, Option.toList_none, true_and, and_true, false_and, and_false, true_implies, false_implies, implies_true, not_true_eq_false, not_false_eq_true, ne_eq, if_true, if_false, Bool.and_true, Bool.true_and, decide_true, decide_false, reduceIte, reduceCtorEq, Bool.and_self, Bool.and_eq_true, decide_eq_true_eq, and_self, true_or, or_true, false_or, or_false, Nat.zero_add, Nat.add_zero, eq_self, Nat.reduceEqDiff, Nat.reduceLeDiff, Nat.reduceLT, Nat.reduceAdd, Nat.reduceSub, Nat.reduceMul, LC_out hL3, e95_0, B95_0]
  rw [R126 (I := uI (fI110 I0 (stK y)) 130 1 0) hL3 hG3 hC3 t4 sy2 sy1, AC_en h3]
  simp only [xSeq, i_push, i_load, i_iload, i_lload, i_dload, i_aload, i_istore, i_astore, i_lstore, i_dstore, i_iinc, i_ii, i_iiz, i_ll, i_llz, i_lli, i_li, i_i, i_l, i_i2l, i_l2i, i_dup, i_dup2, i_dup2w, i_dupx1, i_pop, i_pop2, i_goto, i_ifc, i_icmp, i_getI, i_getL, i_getR, i_putI, i_putZ, i_putL, i_putR, i_aldI, i_aldB, i_aldL, i_aldD, i_astI, i_astL, i_astD, i_alen, i_ret, i_iret, i_zret, i_lret, i_fret, i_dret, i_aret, i_invS0, i_invV0, i_m2, i_m1, i_ml, i_obj, lk, lkp, stf1, stf2, Value.category, rV, xTo, lv_args, xCk, xCat, xRc, xAk, hg_S, hg_I, hg_J, hg_D, hg_R, hs_I, hs_J, hs_D, hs_R, uI_at, uJ_at, uD_at, uR_at, List.take_succ_cons, List.take_zero, List.drop_succ_cons, List.drop_zero, List.reverse_cons, List.reverse_nil, List.nil_append, List.cons_append, List.map_cons, List.map_nil, List.sum_cons, List.sum_nil, List.length_cons, List.length_nil, Option.toList_some, Option.toList_none, true_and, and_true, false_and, and_false, true_implies, false_implies, implies_true, not_true_eq_false, not_false_eq_true, ne_eq, if_true, if_false, Bool.and_true, Bool.true_and, decide_true, decide_false, reduceIte, reduceCtorEq, Bool.and_self, Bool.and_eq_true, decide_eq_true_eq, and_self, true_or, or_true, false_or, or_false, Nat.zero_add, Nat.add_zero, eq_self, Nat.reduceEqDiff, Nat.reduceLeDiff, Nat.reduceLT, Nat.reduceAdd, Nat.reduceSub, Nat.reduceMul, xToT_ok, tE0_0, tE1_0, tE1_1, tE2_0, tE3_0, tE4_0, tE5_0, tE5_1, tE6_0, tE7_0, tE7_1, tE8_0, tE9_0, tE9_1, tE9_2, tE10_0, tE11_0, tE11_1, tE12_0, tE12_1, tE13_0, tE13_1, tE13_2, tE14_0, tE14_1, tE15_0, tE16_0, tE17_0, LC_out hL3, s42, xi1, ix_0, i1_0, e374_14, B374_14]
  exact kk _ S' _ _ D' R' f _ ⟨rfl, (uJ_at _ _ _ _ _ _).trans (if_pos ⟨rfl, rfl⟩)⟩ (AC_out h3 _) (frC_tr fr (frC_tr fr110 (frC_tr (fun o h1 => ⟨rfl, by funext j; rw [uI_at, if_neg (fun e => by omega)], rfl, fun _ => rfl⟩) frC_out))) (by omega)
end
