/-! ===== printGrid: printed by a31.grid.py ===== -/
section
variable {g : xGd} {x x' : xSt} {sv : Option xSt} {k : Nat} {by' : Nat → Nat} {e1 e2 : Int32} {z : xA} {N P f : Nat} {S : xS} {I : xI} {J : xJ} {D : xDb} {R : xR} {b : Nat × Nat} {Q : xQ}
theorem frC_OS {S0 : xS} {I0 : xI} {J0 : xJ} {R0 : xR} {v cap cnt : Nat} (h : OS S0 I0 J0 R0 f v cap cnt S I J R) : frC S0 I0 J0 R0 S I J R := fun o h1 => by
  obtain ⟨-, -, -, f1, f2, f3, f4⟩ := h
  exact ⟨f1 o (by omega), funext fun j => f3 o j (by omega) (by omega) (by omega), funext fun j => f2 o j (by omega) (by omega), fun _ => funext fun j => f4 o j (by omega)⟩
/-- the output opened, and what stands after writing -/
theorem AC_ou (h : AC g x sv k by' e1 e2 P f S I J R) : ∃ v cap cnt, LO S I R v cap ∧ I 140 3 = nI cnt ∧ cnt < 65536 ∧ 16 ≤ cap ∧ (∀ c : Int32, OS S (uI (uI I 140 2 c) 140 3 0) J R f v cap 0 S (uI (uI I 140 2 c) 140 3 0) J R) ∧
    ∀ (c : Int32) S' I' J' R' f' v' cap' cnt', OS S (uI (uI I 140 2 c) 140 3 0) J R f' v' cap' cnt' S' I' J' R' → gw cap' ≤ gw cap → f' ≤ 900000 → AC g x sv k by' e1 e2 P f' S' I' J' R' ∧ frC S I J R S' I' J' R' := by
  obtain ⟨a1, ⟨a2, a3, a4, a5⟩, a6, ⟨a7, a8⟩, ⟨a9, a10, a11, a12⟩, a13, p1, p2, p3, p4, p5, q0, q1, q2, q3, q4, ⟨v, cap, cnt, t1, t2, t3, t4, t5, t6, t7, t8, t9, t10⟩, u1, u2, u3⟩ := h
  refine ⟨v, cap, cnt, ⟨t1, t2, t3, by omega⟩, t4, by omega, t7, fun c => ⟨⟨t1, t2, ?_, ?_, t5, Nat.zero_le _, t7, t8, fun k hk => ?_⟩, u1, u3, fun _ _ => rfl, fun _ _ _ _ => rfl, fun _ _ _ _ _ => rfl, fun _ _ _ => rfl⟩, fun c S' I' J' R' f' v' cap' cnt' hO hg hf => ?_⟩
  · rw [uI_at, if_neg (by omega), uI_at, if_neg (by omega)]; exact t3
  · rw [uI_at, if_pos ⟨rfl, rfl⟩]; rfl
  · rw [uI_at, if_neg (by omega), uI_at, if_neg (by omega)]; exact t9 k hk
  · have hO2 := hO
    obtain ⟨⟨o1, o2, o3, o4, o5, o6, o7, o8, o9⟩, o10, o11, f1, f2, f3, f4⟩ := hO2
    have ix : ∀ o, o ≠ 140 → uI (uI I 140 2 c) 140 3 0 o = I o := fun o ho => by
      funext j
      rw [uI_at, if_neg (fun e => ho e.1), uI_at, if_neg (fun e => ho e.1)]
    have i : ∀ o, (o < 402 ∨ 900000 ≤ o) ∧ o ≠ 140 ∧ o ≠ 160 → I' o = I o := fun o ho => (funext fun j => f3 o j ho.1 ho.2.2 (by omega)).trans (ix o ho.2.1)
    have j : ∀ o, (o < 402 ∨ 900000 ≤ o) → J' o = J o := fun o ho => funext fun j => f4 o j ho
    have r : ∀ o, (o < 402 ∨ 900000 ≤ o) ∧ o ≠ 140 → R' o = R o := fun o ho => funext fun j => f2 o j ho.1 (by omega)
    have hx0 : I 130 1 = 0 ∨ XL (gn g) (eG g x) S (uI (uI I 140 2 c) 140 3 0) R := a13.imp id (fun h => by
      unfold XL at *
      rw [ix 130 (by decide), ix 151 (by decide), ix 154 (by decide), ix 155 (by decide), ix 156 (by decide)]
      exact h)
    refine ⟨⟨LC_g a1 f1 f2, ⟨?_, ?_, ?_, ?_⟩, CS_e a6 (i 110 (by decide)) (i 111 (by decide)) (i 112 (by decide)) (i 118 (by decide)) (j 110 (by decide)) (j 117 (by decide)), ⟨?_, fun y hy => CS_e (a8 y hy) (i 120 (by decide)) (i 121 (by decide)) (i 122 (by decide)) (i 128 (by decide)) (j 120 (by decide)) (j 127 (by decide))⟩, ⟨?_, ?_, ?_, ?_⟩, ?_, p1, p2, p3, p4, p5, q0, SH_e q1 (fun a ha => f1 a (by omega)) (r 112 (by decide)) (fun _ e => by rw [i 112 (by decide)]; exact e), SH_e q2 (fun a ha => f1 a (by omega)) (r 122 (by decide)) (fun _ e => by rw [i 122 (by decide)]; exact e), ?_, ?_, ⟨v', cap', cnt', o1, o2, o3, o4, o5, o6, o7, o8, o9, by omega⟩, o10, hf, o11⟩, frC_tr (fun o h1 => ⟨rfl, ix o (by omega), rfl, fun _ => rfl⟩) (frC_OS hO)⟩
    · exact CL_k a2 (fun o j h1 h2 => by rw [i o (by omega)])
    · rw [i 102 (by decide)]; exact a3
    · rw [i 102 (by decide)]; exact a4
    · rw [j 102 (by decide)]; exact a5
    · rw [i 100 (by decide)]; exact a7
    · rw [i 100 (by decide)]; exact a9
    · rw [i 101 (by decide)]; exact a10
    · rw [i 100 (by decide)]; exact a11
    · rw [i 100 (by decide)]; exact a12
    · rcases hx0 with hx0 | hx0
      · left; rw [i 130 (by decide)]; exact hx0
      · exact Or.inr (OS_XL (LC_g a1 f1 f2) hO hx0)
    · unfold ST at *
      rw [f1 115 (by decide), f1 119 (by decide), r 112 (by decide)]
      exact q3
    · unfold SX LE at *
      rw [f1 131 (by decide), f1 151 (by decide), f1 152 (by decide), f1 153 (by decide), f1 154 (by decide), f1 155 (by decide), f1 156 (by decide), r 130 (by decide), i 130 (by decide)]
      rcases q4 with ⟨t1, t2, t3, t4, t5⟩ | t
      · exact Or.inl ⟨t1, t2, fun a b1 b2 => by rw [f1 a (by omega)]; exact t3 a b1 b2, t4, t5⟩
      · exact Or.inr t
theorem KC59 (w : WA N z) : CC 1 143 [(0, .ref 100)] z z (fun r _ _ => r = some (.int (nI (z.1.1 * (z.1.2.1 + 1))))) := by
  intro P f S I J D R h hw hf
  obtain ⟨hL, hC, hG, ⟨i6, i7, i8, i9, i10, i11, j4, j5⟩, j102, i111, ⟨s1, s2, s3⟩, ⟨n0, n1, n2, n3⟩⟩ := AC_o h w
  obtain ⟨-, g1, -, g2, -⟩ := w.1
  have r0 : I 102 0 = nI z.1.1 := h.2.1.2.1
  have r1 : I 102 1 = nI z.1.2.1 := h.2.1.2.2.1
  obtain ⟨v, cap, cnt, hO, t4, t5, t7, hS, hE⟩ := AC_ou h
  have hb := wq_bd cap
  have hm : z.1.1 * (z.1.2.1 + 1) ≤ 8 * 9 := Nat.mul_le_mul g1 (by omega)
  refine ⟨P, Nat.le_refl P, fun _ => rfl, fun b Q b1 b2 kk => ?_⟩
  rw [e143_0]
  simp only [B143_0, xSeq, i_push, i_load, i_iload, i_lload, i_dload, i_aload, i_istore, i_astore, i_lstore, i_dstore, i_iinc, i_ii, i_iiz, i_ll, i_llz, i_lli, i_li, i_i, i_l, i_i2l, i_l2i, i_dup, i_dup2, i_dup2w, i_dupx1, i_pop, i_pop2, i_goto, i_ifc, i_icmp, i_getI, i_getL, i_getR, i_putI, i_putZ, i_putL, i_putR, i_aldI, i_aldB, i_aldL, i_aldD, i_astI, i_astL, i_astD, i_alen, i_ret, i_iret, i_zret, i_lret, i_fret, i_dret, i_aret, i_invS0, i_invV0, i_m2, i_m1, i_ml, i_obj, lk, lkp, stf1, stf2, Value.category, rV, xTo, lv_args, xCk, xCat, xRc, xAk, hg_S, hg_I, hg_J, hg_D, hg_R, hs_I, hs_J, hs_D, hs_R, uI_at, uJ_at, uD_at, uR_at, List.take_succ_cons, List.take_zero, List.drop_succ_cons, List.drop_zero, List.reverse_cons, List.reverse_nil, List.nil_append, List.cons_append, List.map_cons, List.map_nil, List.sum_cons, List.sum_nil, List.length_cons, List.length_nil, Option.toList_some, Option.toList_none, true_and, and_true, false_and, and_false, true_implies, false_implies, implies_true, not_true_eq_false, not_false_eq_true, ne_eq, if_true, if_false, Bool.and_true, Bool.true_and, decide_true, decide_false, reduceIte, reduceCtorEq, Bool.and_self, Bool.and_eq_true, decide_eq_true_eq, and_self, true_or, or_true, false_or, or_false, Nat.zero_add, Nat.add_zero, eq_self, Nat.reduceEqDiff, Nat.reduceLeDiff, Nat.reduceLT, Nat.reduceAdd, Nat.reduceSub, Nat.reduceMul, LC_out hL]
  refine w_invVA (mc := 0) (ms := 0) (Nat.zero_le _) (Nat.zero_le _) rfl (by simp only [xSeq, i_push, i_load, i_iload, i_lload, i_dload, i_aload, i_istore, i_astore, i_lstore, i_dstore, i_iinc, i_ii, i_iiz, i_ll, i_llz, i_lli, i_li, i_i, i_l, i_i2l, i_l2i, i_dup, i_dup2, i_dup2w, i_dupx1, i_pop, i_pop2, i_goto, i_ifc, i_icmp, i_getI, i_getL, i_getR, i_putI, i_putZ, i_putL, i_putR, i_aldI, i_aldB, i_aldL, i_aldD, i_astI, i_astL, i_astD, i_alen, i_ret, i_iret, i_zret, i_lret, i_fret, i_dret, i_aret, i_invS0, i_invV0, i_m2, i_m1, i_ml, i_obj, lk, lkp, stf1, stf2, Value.category, rV, xTo, lv_args, xCk, xCat, xRc, xAk, hg_S, hg_I, hg_J, hg_D, hg_R, hs_I, hs_J, hs_D, hs_R, uI_at, uJ_at, uD_at, uR_at, List.take_succ_cons, List.take_zero, List.drop_succ_cons, List.drop_zero, List.reverse_cons, List.reverse_nil, List.nil_append, List.cons_append, List.map_cons, List.map_nil, List.sum_cons, List.sum_nil, List.length_cons, List.length_nil, Option.toList_some, Option.toList_none, true_and, and_true, false_and, and_false, true_implies, false_implies, implies_true, not_true_eq_false, not_false_eq_true, ne_eq, if_true, if_false, Bool.and_true, Bool.true_and, decide_true, decide_false, reduceIte, reduceCtorEq, Bool.and_self, Bool.and_eq_true, decide_eq_true_eq, and_self, true_or, or_true, false_or, or_false, Nat.zero_add, Nat.add_zero, eq_self, Nat.reduceEqDiff, Nat.reduceLeDiff, Nat.reduceLT, Nat.reduceAdd, Nat.reduceSub, Nat.reduceMul, LC_out hL]) ?_
  simp only [xSeq, i_push, i_load, i_iload, i_lload, i_dload, i_aload, i_istore, i_astore, i_lstore, i_dstore, i_iinc, i_ii, i_iiz, i_ll, i_llz, i_lli, i_li, i_i, i_l, i_i2l, i_l2i, i_dup, i_dup2, i_dup2w, i_dupx1, i_pop, i_pop2, i_goto, i_ifc, i_icmp, i_getI, i_getL, i_getR, i_putI, i_putZ, i_putL, i_putR, i_aldI, i_aldB, i_aldL, i_aldD, i_astI, i_astL, i_astD, i_alen, i_ret, i_iret, i_zret, i_lret, i_fret, i_dret, i_aret, i_invS0, i_invV0, i_m2, i_m1, i_ml, i_obj, lk, lkp, stf1, stf2, Value.category, rV, xTo, lv_args, xCk, xCat, xRc, xAk, hg_S, hg_I, hg_J, hg_D, hg_R, hs_I, hs_J, hs_D, hs_R, uI_at, uJ_at, uD_at, uR_at, List.take_succ_cons, List.take_zero, List.drop_succ_cons, List.drop_zero, List.reverse_cons, List.reverse_nil, List.nil_append, List.cons_append, List.map_cons, List.map_nil, List.sum_cons, List.sum_nil, List.length_cons, List.length_nil, Option.toList_some, Option.toList_none, true_and, and_true, false_and, and_false, true_implies, false_implies, implies_true, not_true_eq_false, not_false_eq_true, ne_eq, if_true, if_false, Bool.and_true, Bool.true_and, decide_true, decide_false, reduceIte, reduceCtorEq, Bool.and_self, Bool.and_eq_true, decide_eq_true_eq, and_self, true_or, or_true, false_or, or_false, Nat.zero_add, Nat.add_zero, eq_self, Nat.reduceEqDiff, Nat.reduceLeDiff, Nat.reduceLT, Nat.reduceAdd, Nat.reduceSub, Nat.reduceMul]
  refine L16 hL hO t4 t5 (fun c b' => ?_)
  simp only [xSeq, i_push, i_load, i_iload, i_lload, i_dload, i_aload, i_istore, i_astore, i_lstore, i_dstore, i_iinc, i_ii, i_iiz, i_ll, i_llz, i_lli, i_li, i_i, i_l, i_i2l, i_l2i, i_dup, i_dup2, i_dup2w, i_dupx1, i_pop, i_pop2, i_goto, i_ifc, i_icmp, i_getI, i_getL, i_getR, i_putI, i_putZ, i_putL, i_putR, i_aldI, i_aldB, i_aldL, i_aldD, i_astI, i_astL, i_astD, i_alen, i_ret, i_iret, i_zret, i_lret, i_fret, i_dret, i_aret, i_invS0, i_invV0, i_m2, i_m1, i_ml, i_obj, lk, lkp, stf1, stf2, Value.category, rV, xTo, lv_args, xCk, xCat, xRc, xAk, hg_S, hg_I, hg_J, hg_D, hg_R, hs_I, hs_J, hs_D, hs_R, uI_at, uJ_at, uD_at, uR_at, List.take_succ_cons, List.take_zero, List.drop_succ_cons, List.drop_zero, List.reverse_cons, List.reverse_nil, List.nil_append, List.cons_append, List.map_cons, List.map_nil, List.sum_cons, List.sum_nil, List.length_cons, List.length_nil, Option.toList_some, Option.toList_none, true_and, and_true, false_and, and_false, true_implies, false_implies, implies_true, not_true_eq_false, not_false_eq_true, ne_eq, if_true, if_false, Bool.and_true, Bool.true_and, decide_true, decide_false, reduceIte, reduceCtorEq, Bool.and_self, Bool.and_eq_true, decide_eq_true_eq, and_self, true_or, or_true, false_or, or_false, Nat.zero_add, Nat.add_zero, eq_self, Nat.reduceEqDiff, Nat.reduceLeDiff, Nat.reduceLT, Nat.reduceAdd, Nat.reduceSub, Nat.reduceMul]
  have hh := L143x_10 (S0 := S) (I0 := uI (uI I 140 2 c) 140 3 0) (J0 := J) (R0 := R) (Q := Q) (r := z.1.1) (c := z.1.2.1) (F := f + 72) (G := gw cap) hL g1 g2 (by rw [uI_at, if_neg (by decide), uI_at, if_neg (by decide)]; exact r0) (by rw [uI_at, if_neg (by decide), uI_at, if_neg (by decide)]; exact r1) j4 s2 (by omega) (fun S' I' J' D' R' f' v' cap' b' h' hf' hG' => by
    obtain ⟨h2, fr⟩ := hE c S' I' J' R' f' v' cap' _ h' hG' (by omega)
    exact kk _ S' I' J' D' R' f' b' rfl h2 fr (by omega)) z.1.1 0 S (uI (uI I 140 2 c) 140 3 0) J D R f v cap (b.1 - 0, b.2 - 0) (by omega) (by rw [Nat.zero_mul]; exact hS c) (by omega) (Nat.le_refl _) (by show gw cap ≤ b.1 - 0; omega) (by show wq cap ≤ b.2 - 0; omega)
  rw [nI_0] at hh
  exact hh
/-- the model has written -/
theorem AM_om {u : Nat} {I' : xI} (h : AM g x sv k by' e1 e2 S I J R) (hO : OM (uI I 200 59 0) u I') (hu : u ≤ 800) : AM g x sv k by' e1 e2 S I' J R ∧ frM I J I' J := by
  obtain ⟨a1, ⟨a2, a3, a4, a5⟩, a6, ⟨a7, a8⟩, ⟨a9, a10, a11, a12⟩, a13, u0, a14, a15⟩ := h
  obtain ⟨w1, w2⟩ := hO
  have i : ∀ o, o ≠ 358 ∧ o ≠ 200 → I' o = I o := fun o ho => by
    funext j
    rw [w2 o j ho.1 (by omega), uI_at, if_neg (fun e => ho.2 e.1)]
  have f : ∀ j, j ≠ 59 → I' 200 j = I 200 j := fun j hj => by rw [w2 200 j (by decide) (by omega), uI_at, if_neg (fun e => hj e.2)]
  refine ⟨⟨a1, ⟨?_, ?_, ?_, ?_⟩, MS_e a6 (i 300 (by decide)) (i 308 (by decide)) (i 309 (by decide)) rfl rfl rfl, ⟨?_, fun y hy => ?_⟩, ⟨?_, ?_, ?_, ?_⟩, ?_, u, w1, hu⟩, fun o h1 => ⟨i o (by omega), rfl⟩⟩
  · exact CM_k a2 (fun o j ho => by rw [i o (by omega)])
  · rw [i 300 (by decide)]; exact a3
  · rw [i 300 (by decide)]; exact a4
  · rw [f 18 (by decide)]; exact a5
  · rw [f 7 (by decide)]; exact a7
  · rw [i 302 (by decide)]
    exact ⟨MS_e (a8 y hy).1 (i 302 (by decide)) (i 311 (by decide)) (i 312 (by decide)) rfl rfl rfl, (a8 y hy).2⟩
  · rw [f 21 (by decide)]; exact a9
  · rw [i 320 (by decide)]; exact a10
  · rw [f 22 (by decide)]; exact a11
  · rw [f 23 (by decide)]; exact a12
  · rcases a13 with a13 | a13
    · left; rw [f 51 (by decide)]; exact a13
    · right
      exact XM_e a13 (fun j h1 h2 => f j (by omega)) (i 346 (by decide)) (i 347 (by decide)) (i 348 (by decide)) (i 343 (by decide))
theorem KM59 (w : WA N z) : MC 326 [(0, .ref 200)] z z (fun r I _ _ => r = some (.int (nI (z.1.1 * (z.1.2.1 + 1)))) ∧ I 200 19 = 0) := by
  intro S I J D R b Q h kk
  obtain ⟨hM, hD, hG, ⟨i2, i3, i4, i5, i6, i7, j3, j4⟩, i16, ⟨s1, s2, s3⟩, ⟨n0, n1, n2, n3⟩⟩ := AM_o h w
  have h9 := AM_19 h 0
  obtain ⟨-, g1, g3, g2, -⟩ := w.1
  have m1 : I 300 1 = nI z.1.2.1 := h.2.1.2.2.1
  have hq : gn z.1 + gn z.1 / z.1.2.1 = z.1.1 * (z.1.2.1 + 1) := by
    show z.1.1 * z.1.2.1 + z.1.1 * z.1.2.1 / z.1.2.1 = _
    rw [Nat.mul_div_cancel _ (by omega), Nat.mul_succ]
  have hm : z.1.1 * (z.1.2.1 + 1) ≤ 8 * 9 := Nat.mul_le_mul g1 (by omega)
  have hh := L326_12 (S := S) (R := R) (J := J) (D := D) (b := b) (Q := Q) (I0 := uI (uI I 200 19 0) 200 59 0) (n := gn z.1) (c := z.1.2.1) hM n1 (by omega) (by omega) hD.1 m1 j3 s2 (fun I2 h2 => by
    obtain ⟨h3, fr⟩ := AM_om h9 h2 (by omega)
    rw [hq]
    exact kk _ I2 J D ⟨rfl, h2.2 200 19 (by decide) (by decide)⟩ h3 (frM_tr (frM_19 0) fr)) (gn z.1) 0 _ (by omega) ⟨by rw [Nat.zero_div]; rfl, fun o j _ _ => rfl⟩
  rw [nI_0] at hh
  rw [e326_0]
  simp only [B326_0, xSeq, i_push, i_load, i_iload, i_lload, i_dload, i_aload, i_istore, i_astore, i_lstore, i_dstore, i_iinc, i_ii, i_iiz, i_ll, i_llz, i_lli, i_li, i_i, i_l, i_i2l, i_l2i, i_dup, i_dup2, i_dup2w, i_dupx1, i_pop, i_pop2, i_goto, i_ifc, i_icmp, i_getI, i_getL, i_getR, i_putI, i_putZ, i_putL, i_putR, i_aldI, i_aldB, i_aldL, i_aldD, i_astI, i_astL, i_astD, i_alen, i_ret, i_iret, i_zret, i_lret, i_fret, i_dret, i_aret, i_invS0, i_invV0, i_m2, i_m1, i_ml, i_obj, lk, lkp, stf1, stf2, Value.category, rV, xTo, lv_args, xCk, xCat, xRc, xAk, hg_S, hg_I, hg_J, hg_D, hg_R, hs_I, hs_J, hs_D, hs_R, uI_at, uJ_at, uD_at, uR_at, List.take_succ_cons, List.take_zero, List.drop_succ_cons, List.drop_zero, List.reverse_cons, List.reverse_nil, List.nil_append, List.cons_append, List.map_cons, List.map_nil, List.sum_cons, List.sum_nil, List.length_cons, List.length_nil, Option.toList_some, Option.toList_none, true_and, and_true, false_and, and_false, true_implies, false_implies, implies_true, not_true_eq_false, not_false_eq_true, ne_eq, if_true, if_false, Bool.and_true, Bool.true_and, decide_true, decide_false, reduceIte, reduceCtorEq, Bool.and_self, Bool.and_eq_true, decide_eq_true_eq, and_self, true_or, or_true, false_or, or_false, Nat.zero_add, Nat.add_zero, eq_self, Nat.reduceEqDiff, Nat.reduceLeDiff, Nat.reduceLT, Nat.reduceAdd, Nat.reduceSub, Nat.reduceMul, LM_out hM]
  exact hh
end
