/-! ===== the input: printed by a09.input.py ===== -/
section
variable {g : xGd} {x x' : xSt} {sv : Option xSt} {k : Nat} {by' : Nat → Nat} {e1 e2 : Int32} {N P f : Nat} {S : xS} {I : xI} {J : xJ} {D : xDb} {R : xR}
theorem AC_in (h : AC g x sv k by' e1 e2 P f S I J R) {I' : xI} {k' : Nat} {b'' : Nat → Nat} {e1' e2' : Int32} (hf : ∀ o j, ¬ (o = 101 ∨ (o = 100 ∧ 1 ≤ j ∧ j ≤ 3)) → I' o j = I o j) (h1 : I' 100 1 = nI k') (h2 : ∀ j, j < k' → I' 101 j = sB8 (b'' j)) (h3 : I' 100 2 = e1') (h4 : I' 100 3 = e2') : AC g x sv k' b'' e1' e2' P f S I' J R := by
  have i : ∀ o, o ≠ 100 → o ≠ 101 → I' o = I o := fun o q1 q2 => by funext j; exact hf o j (by omega)
  obtain ⟨a1, ⟨a2, a3, a4, a5⟩, a6, ⟨a7, a8⟩, ⟨a9, a10, a11, a12⟩, a13, p1, p2, p3, p4, p5, q0, q1, q2, q3, q4, q5⟩ := h
  have rS : ∀ o, o < 200 → S o = S o := fun _ _ => rfl
  have rR : ∀ o, o < 200 → R o = R o := fun _ _ => rfl
  refine ⟨a1, ⟨?_, ?_, ?_, a5⟩, CS_e a6 (i 110 (by decide) (by decide)) (i 111 (by decide) (by decide)) (i 112 (by decide) (by decide)) (i 118 (by decide) (by decide)) rfl rfl, ⟨?_, fun y hy => CS_e (a8 y hy) (i 120 (by decide) (by decide)) (i 121 (by decide) (by decide)) (i 122 (by decide) (by decide)) (i 128 (by decide) (by decide)) rfl rfl⟩, ⟨h1, h2, h3, h4⟩, ?_, p1, p2, p3, p4, p5, q0, SH_e q1 (fun _ _ => rfl) rfl (fun _ e => by rw [i 112 (by decide) (by decide)]; exact e), SH_e q2 (fun _ _ => rfl) rfl (fun _ e => by rw [i 122 (by decide) (by decide)]; exact e), q3, SX_e q4 rS rR (fun _ e => by rw [i 130 (by decide) (by decide)]; exact e), OU_e q5 rS (fun _ _ _ => rfl) rfl (i 140 (by decide) (by decide)) (i 160 (by decide) (by decide)) (fun o q _ => i o (by omega) (by omega))⟩
  · exact CL_k a2 (fun o j q r => by rw [i o (by omega) (by omega)])
  · rw [i 102 (by decide) (by decide)]; exact a3
  · rw [i 102 (by decide) (by decide)]; exact a4
  · rw [hf 100 7 (by omega)]; exact a7
  · rw [i 130 (by decide) (by decide)]
    rcases a13 with a13 | a13
    · exact Or.inl a13
    · exact Or.inr (XL_e a13 rS rR (fun j _ _ => by rw [i 130 (by decide) (by decide)]) (i 151 (by decide) (by decide)) (i 154 (by decide) (by decide)) (i 155 (by decide) (by decide)) (i 156 (by decide) (by decide)))
theorem AM_in (h : AM g x sv k by' e1 e2 S I J R) {I' : xI} {k' : Nat} {b'' : Nat → Nat} {e1' e2' : Int32} (hf : ∀ o j, ¬ (o = 320 ∨ (o = 200 ∧ (j = 19 ∨ 21 ≤ j ∧ j ≤ 30 ∨ j = 37))) → I' o j = I o j) (h1 : I' 200 21 = nI k') (h2 : ∀ j, j < k' → I' 320 j = nI (b'' j)) (h3 : I' 200 22 = e1') (h4 : I' 200 23 = e2') : AM g x sv k' b'' e1' e2' S I' J R := by
  have i : ∀ o, o ≠ 200 → o ≠ 320 → I' o = I o := fun o q1 q2 => by funext j; exact hf o j (by omega)
  obtain ⟨a1, ⟨a2, a3, a4, a5⟩, a6, ⟨a7, a8⟩, ⟨a9, a10, a11, a12⟩, a13, u, a14, a15⟩ := h
  refine ⟨a1, ⟨?_, ?_, ?_, ?_⟩, MS_e a6 (i 300 (by decide) (by decide)) (i 308 (by decide) (by decide)) (i 309 (by decide) (by decide)) rfl rfl rfl, ⟨?_, fun y hy => ?_⟩, ⟨h1, h2, h3, h4⟩, ?_, u, ?_, a15⟩
  · exact CM_k2 a2 (by rw [i 300 (by decide) (by decide)]) (by rw [i 300 (by decide) (by decide)]) (fun o j q r => by rw [i o (by omega) (by omega)])
  · rw [i 300 (by decide) (by decide)]; exact a3
  · rw [i 300 (by decide) (by decide)]; exact a4
  · rw [hf 200 18 (by omega)]; exact a5
  · rw [hf 200 7 (by omega)]; exact a7
  · rw [i 302 (by decide) (by decide)]
    exact ⟨MS_e (a8 y hy).1 (i 302 (by decide) (by decide)) (i 311 (by decide) (by decide)) (i 312 (by decide) (by decide)) rfl rfl rfl, (a8 y hy).2⟩
  · rw [hf 200 51 (by omega)]
    rcases a13 with a13 | a13
    · exact Or.inl a13
    · exact Or.inr (XM_e a13 (fun j q r => hf 200 j (by omega)) (i 346 (by decide) (by decide)) (i 347 (by decide) (by decide)) (i 348 (by decide) (by decide)) (i 343 (by decide) (by decide)))
  · rw [hf 200 59 (by omega)]; exact a14
theorem frC_in {I' : xI} (hf : ∀ o j, ¬ (o = 101 ∨ (o = 100 ∧ 1 ≤ j ∧ j ≤ 3)) → I' o j = I o j) : frC S I J R S I' J R := fun o h1 => ⟨rfl, by funext j; exact hf o j (by omega), rfl, fun _ => rfl⟩
theorem frM_in {I' : xI} (hf : ∀ o j, ¬ (o = 320 ∨ (o = 200 ∧ (j = 19 ∨ 21 ≤ j ∧ j ≤ 30 ∨ j = 37))) → I' o j = I o j) : frM I J I' J := fun o h1 => ⟨by funext j; exact hf o j (by omega), rfl⟩
/-- a byte of a word -/
def uB (w sh : Int32) : Nat := (cW w sh).toNatClampNeg
theorem uB_ok (w sh : Int32) : cW w sh = nI (uB w sh) ∧ uB w sh < 256 := by
  obtain ⟨j, h1, h2⟩ := pk_andE (jShr w sh) (m := 255) 8 (by decide)
  have e : uB w sh = j := by
    unfold uB cW
    rw [h2]
    exact nI_clamp (by omega)
  rw [e]
  exact ⟨h2, by omega⟩
theorem b8_all : ∀ j, j < 256 → vp_nar .byte (jI2b (nI j)) = sB8 j := by decide +kernel
theorem b8_low (v : Int32) : jI2b v = jI2b (v &&& 255) := by
  unfold jI2b
  show (Int32.toInt8 v).toInt32 = (Int32.toInt8 (v &&& 255)).toInt32
  congr 1
  apply Int8.toBitVec_inj.mp
  rw [Int32.toBitVec_toInt8, Int32.toBitVec_toInt8, Int32.toBitVec_and]
  apply BitVec.eq_of_getLsbD_eq
  intro i hi
  have h255 : ∀ i (h : i < 8), (255#8)[i] = true := by decide
  simp [hi]
  intro _
  exact h255 i hi
theorem bW_ok (w sh : Int32) : bW w sh = sB8 (uB w sh) := by
  unfold bW
  rw [b8_low]
  obtain ⟨h1, h2⟩ := uB_ok w sh
  unfold cW at h1
  rw [h1]
  exact b8_all _ h2
def upn (f : Nat → Nat) (k v : Nat) : Nat → Nat := fun j => if j = k then v else f j
def bN (f : Nat → Nat) (k : Nat) (w : Int32) : Nat → Nat := upn (upn (upn (upn f k (uB w 24)) (k + 1) (uB w (24 + -8))) (k + 1 + 1) (uB w (24 + -8 + -8))) (k + 1 + 1 + 1) (uB w (24 + -8 + -8 + -8))
def bNs (f : Nat → Nat) (k : Nat) (v w x y z : Int32) : Nat → Nat := bN (bN (bN (bN (bN f k v) (k + 4) w) (k + 4 + 4) x) (k + 4 + 4 + 4) y) (k + 4 + 4 + 4 + 4) z
theorem upn_lt {f : Nat → Nat} {k v : Nat} (h : ∀ j, j < k → f j < 256) (hv : v < 256) : ∀ j, j < k + 1 → upn f k v j < 256 := fun j hj => by
  unfold upn
  split
  · exact hv
  · exact h j (by omega)
theorem bN_lt {f : Nat → Nat} {k : Nat} (h : ∀ j, j < k → f j < 256) (w : Int32) : ∀ j, j < k + 4 → bN f k w j < 256 := upn_lt (upn_lt (upn_lt (upn_lt h (uB_ok _ _).2) (uB_ok _ _).2) (uB_ok _ _).2) (uB_ok _ _).2
theorem bNs_lt {f : Nat → Nat} {k : Nat} (h : ∀ j, j < k → f j < 256) (v w x y z : Int32) : ∀ j, j < k + 20 → bNs f k v w x y z j < 256 := bN_lt (bN_lt (bN_lt (bN_lt (bN_lt h v) w) x) y) z
theorem p1B_in {f : Nat → Nat} {w sh : Int32} (h : ∀ j, j < k → I 101 j = sB8 (f j)) : ∀ j, j < k + 1 → p1B I k (bW w sh) 101 j = sB8 (upn f k (uB w sh) j) := fun j hj => by
  rw [p1B_at, if_neg (by omega)]
  unfold upn
  by_cases e : j = k
  · rw [if_pos ⟨rfl, e⟩, if_pos e, bW_ok]
  · rw [if_neg (fun q => e q.2), if_neg e]; exact h j (by omega)
theorem pW_in {f : Nat → Nat} {w : Int32} (h : ∀ j, j < k → I 101 j = sB8 (f j)) : ∀ j, j < k + 4 → pW I k w 101 j = sB8 (bN f k w j) := p1B_in (p1B_in (p1B_in (p1B_in h)))
theorem q1B_in {f : Nat → Nat} {w sh : Int32} (h : ∀ j, j < k → I 320 j = nI (f j)) : ∀ j, j < k + 1 → q1B I k (cW w sh) 320 j = nI (upn f k (uB w sh) j) := fun j hj => by
  rw [q1B_at, if_neg (by omega)]
  unfold upn
  by_cases e : j = k
  · rw [if_pos ⟨rfl, e⟩, if_pos e, (uB_ok w sh).1]
  · rw [if_neg (fun q => e q.2), if_neg e]; exact h j (by omega)
theorem qW_in {f : Nat → Nat} {w : Int32} (h : ∀ j, j < k → I 320 j = nI (f j)) : ∀ j, j < k + 4 → qW I k w 320 j = nI (bN f k w j) := q1B_in (q1B_in (q1B_in (q1B_in h)))
theorem p1B_fr {v : Int32} {o j : Nat} (h : ¬ (o = 101 ∨ (o = 100 ∧ 1 ≤ j ∧ j ≤ 3))) : p1B I k v o j = I o j := by rw [p1B_at, if_neg (by omega), if_neg (by omega)]
theorem pWs_fr {v w y z u : Int32} {o j : Nat} (h : ¬ (o = 101 ∨ (o = 100 ∧ 1 ≤ j ∧ j ≤ 3))) : pWs I k v w y z u o j = I o j := by
  unfold pWs pW
  rw [p1B_fr h, p1B_fr h, p1B_fr h, p1B_fr h, p1B_fr h, p1B_fr h, p1B_fr h, p1B_fr h, p1B_fr h, p1B_fr h, p1B_fr h, p1B_fr h, p1B_fr h, p1B_fr h, p1B_fr h, p1B_fr h, p1B_fr h, p1B_fr h, p1B_fr h, p1B_fr h]
theorem p1B_e {v : Int32} {o j : Nat} (h : o = 100 ∧ (j = 2 ∨ j = 3)) : p1B I k v o j = I o j := by rw [p1B_at, if_neg (by omega), if_neg (by omega)]
theorem pWs_e {v w y z u : Int32} {o j : Nat} (h : o = 100 ∧ (j = 2 ∨ j = 3)) : pWs I k v w y z u o j = I o j := by
  unfold pWs pW
  rw [p1B_e h, p1B_e h, p1B_e h, p1B_e h, p1B_e h, p1B_e h, p1B_e h, p1B_e h, p1B_e h, p1B_e h, p1B_e h, p1B_e h, p1B_e h, p1B_e h, p1B_e h, p1B_e h, p1B_e h, p1B_e h, p1B_e h, p1B_e h]
theorem q1B_fr {v : Int32} {o j : Nat} (h : o ≠ 320 ∧ ¬ (o = 200 ∧ j = 21)) : q1B I k v o j = I o j := by rw [q1B_at, if_neg h.2, if_neg (fun e => h.1 e.1)]
theorem qWs_fr {v w y z u : Int32} {o j : Nat} (h : o ≠ 320 ∧ ¬ (o = 200 ∧ j = 21)) : qWs I k v w y z u o j = I o j := by
  unfold qWs qW
  rw [q1B_fr h, q1B_fr h, q1B_fr h, q1B_fr h, q1B_fr h, q1B_fr h, q1B_fr h, q1B_fr h, q1B_fr h, q1B_fr h, q1B_fr h, q1B_fr h, q1B_fr h, q1B_fr h, q1B_fr h, q1B_fr h, q1B_fr h, q1B_fr h, q1B_fr h, q1B_fr h]
theorem nI_580 {k : Nat} (h : k ≤ 600) : (nI k ≤ (580 : Int32)) = (k ≤ 580) := nI_leP (b := 580) (by omega) (by decide)
end
section
variable {z : xA} {N : Nat}
theorem KC0b (w : WA N z) {v u x y t : Int32} (hk : z.2.2.2.1 ≤ 580) : CC 0 118 [(0, .ref 100), (1, .int v), (2, .int u), (3, .int x), (4, .int y), (5, .int t)] z (z.1, z.2.1, z.2.2.1, z.2.2.2.1 + 20, bNs z.2.2.2.2.1 z.2.2.2.1 v u x y t, z.2.2.2.2.2) (fun r _ _ => r = some (.int (nI (z.2.2.2.1 + 20)))) := by
  intro P f S I J D R h hw hf
  obtain ⟨hL, hC, hG, ⟨i6, i7, i8, i9, i10, i11, j4, j5⟩, j102, i111, ⟨s1, s2, s3⟩, ⟨n0, n1, n2, n3⟩⟩ := AC_o h w
  refine ⟨P, Nat.le_refl P, fun _ => rfl, fun b Q b1 b2 kk => ?_⟩
  rw [R118 hL h.2.2.2.2.1.1 (show z.2.2.2.1 + 20 ≤ 600 by omega)]
  have fr : ∀ o j, ¬ (o = 101 ∨ (o = 100 ∧ 1 ≤ j ∧ j ≤ 3)) → pWs I z.2.2.2.1 v u x y t o j = I o j := fun o j q => pWs_fr q
  exact kk _ S _ J D R f _ rfl (AC_in h fr (pW_n _ _ _) (pW_in (pW_in (pW_in (pW_in (pW_in h.2.2.2.2.1.2.1))))) ((pWs_e (by decide)).trans h.2.2.2.2.1.2.2.1) ((pWs_e (by decide)).trans h.2.2.2.2.1.2.2.2)) (frC_in fr) (by omega)
theorem KC0a (w : WA N z) {v u x y t : Int32} (hk : ¬ z.2.2.2.1 ≤ 580) : CC 0 118 [(0, .ref 100), (1, .int v), (2, .int u), (3, .int x), (4, .int y), (5, .int t)] z z (fun r _ _ => r = some (.int (-1))) := CC_q (fun _ _ => rfl) (fun P f S I J D R b Q h => by
  obtain ⟨hL, hC, hG, ⟨i6, i7, i8, i9, i10, i11, j4, j5⟩, j102, i111, ⟨s1, s2, s3⟩, ⟨n0, n1, n2, n3⟩⟩ := AC_o h w
  rw [e118_0]
  simp only [B118_0, xSeq, i_push, i_load, i_iload, i_lload, i_dload, i_aload, i_istore, i_astore, i_lstore, i_dstore, i_iinc, i_ii, i_iiz, i_ll, i_llz, i_lli, i_li, i_i, i_l, i_i2l, i_l2i, i_dup, i_dup2, i_dup2w, i_dupx1, i_pop, i_pop2, i_goto, i_ifc, i_icmp, i_getI, i_getL, i_getR, i_putI, i_putZ, i_putL, i_putR, i_aldI, i_aldB, i_aldL, i_aldD, i_astI, i_astL, i_astD, i_alen, i_ret, i_iret, i_zret, i_lret, i_fret, i_dret, i_aret, i_invS0, i_invV0, i_m2, i_m1, i_ml, i_obj, lk, lkp, stf1, stf2, Value.category, rV, xTo, lv_args, xCk, xCat, xRc, xAk, hg_S, hg_I, hg_J, hg_D, hg_R, hs_I, hs_J, hs_D, hs_R, uI_at, uJ_at, uD_at, uR_at, List.take_succ_cons, List.take_zero, List.drop_succ_cons, List.drop_zero, List.reverse_cons, List.reverse_nil, List.nil_append, List.cons_append, List.map_cons, List.map_nil, List.sum_cons, List.sum_nil, List.length_cons, List.length_nil, Option.toList_some, Option.toList_none, true_and, and_true, false_and, and_false, true_implies, false_implies, implies_true, not_true_eq_false, not_false_eq_true, ne_eq, if_true, if_false, Bool.and_true, Bool.true_and, decide_true, decide_false, reduceIte, reduceCtorEq, Bool.and_self, Bool.and_eq_true, decide_eq_true_eq, and_self, true_or, or_true, false_or, or_false, Nat.zero_add, Nat.add_zero, eq_self, Nat.reduceEqDiff, Nat.reduceLeDiff, Nat.reduceLT, Nat.reduceAdd, Nat.reduceSub, Nat.reduceMul, LC_out hL]
  rw [h.2.2.2.2.1.1, nI_580 w.2.2.2.1]
  simp only [show (z.2.2.2.1 ≤ 580) = False from eq_false hk, xSeq, i_push, i_load, i_iload, i_lload, i_dload, i_aload, i_istore, i_astore, i_lstore, i_dstore, i_iinc, i_ii, i_iiz, i_ll, i_llz, i_lli, i_li, i_i, i_l, i_i2l, i_l2i, i_dup, i_dup2, i_dup2w, i_dupx1, i_pop, i_pop2, i_goto, i_ifc, i_icmp, i_getI, i_getL, i_getR, i_putI, i_putZ, i_putL, i_putR, i_aldI, i_aldB, i_aldL, i_aldD, i_astI, i_astL, i_astD, i_alen, i_ret, i_iret, i_zret, i_lret, i_fret, i_dret, i_aret, i_invS0, i_invV0, i_m2, i_m1, i_ml, i_obj, lk, lkp, stf1, stf2, Value.category, rV, xTo, lv_args, xCk, xCat, xRc, xAk, hg_S, hg_I, hg_J, hg_D, hg_R, hs_I, hs_J, hs_D, hs_R, uI_at, uJ_at, uD_at, uR_at, List.take_succ_cons, List.take_zero, List.drop_succ_cons, List.drop_zero, List.reverse_cons, List.reverse_nil, List.nil_append, List.cons_append, List.map_cons, List.map_nil, List.sum_cons, List.sum_nil, List.length_cons, List.length_nil, Option.toList_some, Option.toList_none, true_and, and_true, false_and, and_false, true_implies, false_implies, implies_true, not_true_eq_false, not_false_eq_true, ne_eq, if_true, if_false, Bool.and_true, Bool.true_and, decide_true, decide_false, reduceIte, reduceCtorEq, Bool.and_self, Bool.and_eq_true, decide_eq_true_eq, and_self, true_or, or_true, false_or, or_false, Nat.zero_add, Nat.add_zero, eq_self, Nat.reduceEqDiff, Nat.reduceLeDiff, Nat.reduceLT, Nat.reduceAdd, Nat.reduceSub, Nat.reduceMul])
theorem KM0b (w : WA N z) {v u x y t : Int32} (hk : z.2.2.2.1 ≤ 580) : MC 202 [(0, .ref 200), (1, .int v), (2, .int u), (3, .int x), (4, .int y), (5, .int t)] z (z.1, z.2.1, z.2.2.1, z.2.2.2.1 + 20, bNs z.2.2.2.2.1 z.2.2.2.1 v u x y t, z.2.2.2.2.2) (fun r I _ _ => r = some (.int (nI (z.2.2.2.1 + 20))) ∧ I 200 19 = 0) := by
  intro S I J D R b Q h kk
  obtain ⟨hM, hD, hG, ⟨i2, i3, i4, i5, i6, i7, j3, j4⟩, i16, ⟨s1, s2, s3⟩, ⟨n0, n1, n2, n3⟩⟩ := AM_o h w
  rw [R202 hM h.2.2.2.2.1.1 (show z.2.2.2.1 + 20 ≤ 600 by omega)]
  have h9 := AM_19 h 0
  have fr : ∀ o j, ¬ (o = 320 ∨ (o = 200 ∧ (j = 19 ∨ 21 ≤ j ∧ j ≤ 30 ∨ j = 37))) → qWs (uI I 200 19 0) z.2.2.2.1 v u x y t o j = I o j := fun o j q => by
    rw [qWs_fr (by omega), uI_at, if_neg (by omega)]
  exact kk _ _ J D ⟨rfl, by rw [qWs_fr (by decide), uI_at, if_pos ⟨rfl, rfl⟩]⟩ (AM_in h fr (qW_n _ _ _) (qW_in (qW_in (qW_in (qW_in (qW_in h9.2.2.2.2.1.2.1))))) ((qWs_fr (by decide)).trans h9.2.2.2.2.1.2.2.1) ((qWs_fr (by decide)).trans h9.2.2.2.2.1.2.2.2)) (frM_in fr)
theorem KM0a (w : WA N z) {v u x y t : Int32} (hk : ¬ z.2.2.2.1 ≤ 580) : MC 202 [(0, .ref 200), (1, .int v), (2, .int u), (3, .int x), (4, .int y), (5, .int t)] z z (fun r I _ _ => r = some (.int (-1)) ∧ I 200 19 = 0) := MC_q (c := 0) (fun _ _ _ e => ⟨rfl, e⟩) (fun S I J D R b Q h => by
  obtain ⟨hM, hD, hG, ⟨i2, i3, i4, i5, i6, i7, j3, j4⟩, i16, ⟨s1, s2, s3⟩, ⟨n0, n1, n2, n3⟩⟩ := AM_o h w
  have e1 : ((600 : Int32) < nI z.2.2.2.1 + 20) = True := by
    rw [show (20 : Int32) = nI 20 from rfl, nI_add, show (600 : Int32) = nI 600 from rfl, nI_ltP (by decide) (by have := w.2.2.2.1; have : z.2.2.2.1 ≤ 600 := this; omega)]
    exact eq_true (by omega)
  rw [e202_0]
  simp only [B202_0, xSeq, i_push, i_load, i_iload, i_lload, i_dload, i_aload, i_istore, i_astore, i_lstore, i_dstore, i_iinc, i_ii, i_iiz, i_ll, i_llz, i_lli, i_li, i_i, i_l, i_i2l, i_l2i, i_dup, i_dup2, i_dup2w, i_dupx1, i_pop, i_pop2, i_goto, i_ifc, i_icmp, i_getI, i_getL, i_getR, i_putI, i_putZ, i_putL, i_putR, i_aldI, i_aldB, i_aldL, i_aldD, i_astI, i_astL, i_astD, i_alen, i_ret, i_iret, i_zret, i_lret, i_fret, i_dret, i_aret, i_invS0, i_invV0, i_m2, i_m1, i_ml, i_obj, lk, lkp, stf1, stf2, Value.category, rV, xTo, lv_args, xCk, xCat, xRc, xAk, hg_S, hg_I, hg_J, hg_D, hg_R, hs_I, hs_J, hs_D, hs_R, uI_at, uJ_at, uD_at, uR_at, List.take_succ_cons, List.take_zero, List.drop_succ_cons, List.drop_zero, List.reverse_cons, List.reverse_nil, List.nil_append, List.cons_append, List.map_cons, List.map_nil, List.sum_cons, List.sum_nil, List.length_cons, List.length_nil, Option.toList_some, Option.toList_none, true_and, and_true, false_and, and_false, true_implies, false_implies, implies_true, not_true_eq_false, not_false_eq_true, ne_eq, if_true, if_false, Bool.and_true, Bool.true_and, decide_true, decide_false, reduceIte, reduceCtorEq, Bool.and_self, Bool.and_eq_true, decide_eq_true_eq, and_self, true_or, or_true, false_or, or_false, Nat.zero_add, Nat.add_zero, eq_self, Nat.reduceEqDiff, Nat.reduceLeDiff, Nat.reduceLT, Nat.reduceAdd, Nat.reduceSub, Nat.reduceMul, LM_out hM]
  rw [h.2.2.2.2.1.1]
  simp only [e1, i32_nl, xSeq, i_push, i_load, i_iload, i_lload, i_dload, i_aload, i_istore, i_astore, i_lstore, i_dstore, i_iinc, i_ii, i_iiz, i_ll, i_llz, i_lli, i_li, i_i, i_l, i_i2l, i_l2i, i_dup, i_dup2, i_dup2w, i_dupx1, i_pop, i_pop2, i_goto, i_ifc, i_icmp, i_getI, i_getL, i_getR, i_putI, i_putZ, i_putL, i_putR, i_aldI, i_aldB, i_aldL, i_aldD, i_astI, i_astL, i_astD, i_alen, i_ret, i_iret, i_zret, i_lret, i_fret, i_dret, i_aret, i_invS0, i_invV0, i_m2, i_m1, i_ml, i_obj, lk, lkp, stf1, stf2, Value.category, rV, xTo, lv_args, xCk, xCat, xRc, xAk, hg_S, hg_I, hg_J, hg_D, hg_R, hs_I, hs_J, hs_D, hs_R, uI_at, uJ_at, uD_at, uR_at, List.take_succ_cons, List.take_zero, List.drop_succ_cons, List.drop_zero, List.reverse_cons, List.reverse_nil, List.nil_append, List.cons_append, List.map_cons, List.map_nil, List.sum_cons, List.sum_nil, List.length_cons, List.length_nil, Option.toList_some, Option.toList_none, true_and, and_true, false_and, and_false, true_implies, false_implies, implies_true, not_true_eq_false, not_false_eq_true, ne_eq, if_true, if_false, Bool.and_true, Bool.true_and, decide_true, decide_false, reduceIte, reduceCtorEq, Bool.and_self, Bool.and_eq_true, decide_eq_true_eq, and_self, true_or, or_true, false_or, or_false, Nat.zero_add, Nat.add_zero, eq_self, Nat.reduceEqDiff, Nat.reduceLeDiff, Nat.reduceLT, Nat.reduceAdd, Nat.reduceSub, Nat.reduceMul])
theorem KC1a (w : WA N z) {v : Int32} (hv : v < 0 ∨ nI z.2.2.2.1 < v) : CC 0 120 [(0, .ref 100), (1, .int v)] z z (fun r _ _ => r = some (.int 0)) := CC_q (fun _ _ => rfl) (fun P f S I J D R b Q h => by
  obtain ⟨hL, hC, hG, ⟨i6, i7, i8, i9, i10, i11, j4, j5⟩, j102, i111, ⟨s1, s2, s3⟩, ⟨n0, n1, n2, n3⟩⟩ := AC_o h w
  rw [e120_0]
  simp only [B120_0, xSeq, i_push, i_load, i_iload, i_lload, i_dload, i_aload, i_istore, i_astore, i_lstore, i_dstore, i_iinc, i_ii, i_iiz, i_ll, i_llz, i_lli, i_li, i_i, i_l, i_i2l, i_l2i, i_dup, i_dup2, i_dup2w, i_dupx1, i_pop, i_pop2, i_goto, i_ifc, i_icmp, i_getI, i_getL, i_getR, i_putI, i_putZ, i_putL, i_putR, i_aldI, i_aldB, i_aldL, i_aldD, i_astI, i_astL, i_astD, i_alen, i_ret, i_iret, i_zret, i_lret, i_fret, i_dret, i_aret, i_invS0, i_invV0, i_m2, i_m1, i_ml, i_obj, lk, lkp, stf1, stf2, Value.category, rV, xTo, lv_args, xCk, xCat, xRc, xAk, hg_S, hg_I, hg_J, hg_D, hg_R, hs_I, hs_J, hs_D, hs_R, uI_at, uJ_at, uD_at, uR_at, List.take_succ_cons, List.take_zero, List.drop_succ_cons, List.drop_zero, List.reverse_cons, List.reverse_nil, List.nil_append, List.cons_append, List.map_cons, List.map_nil, List.sum_cons, List.sum_nil, List.length_cons, List.length_nil, Option.toList_some, Option.toList_none, true_and, and_true, false_and, and_false, true_implies, false_implies, implies_true, not_true_eq_false, not_false_eq_true, ne_eq, if_true, if_false, Bool.and_true, Bool.true_and, decide_true, decide_false, reduceIte, reduceCtorEq, Bool.and_self, Bool.and_eq_true, decide_eq_true_eq, and_self, true_or, or_true, false_or, or_false, Nat.zero_add, Nat.add_zero, eq_self, Nat.reduceEqDiff, Nat.reduceLeDiff, Nat.reduceLT, Nat.reduceAdd, Nat.reduceSub, Nat.reduceMul, LC_out hL]
  rw [h.2.2.2.2.1.1]
  by_cases e : v < 0
  · simp only [e, xSeq, i_push, i_load, i_iload, i_lload, i_dload, i_aload, i_istore, i_astore, i_lstore, i_dstore, i_iinc, i_ii, i_iiz, i_ll, i_llz, i_lli, i_li, i_i, i_l, i_i2l, i_l2i, i_dup, i_dup2, i_dup2w, i_dupx1, i_pop, i_pop2, i_goto, i_ifc, i_icmp, i_getI, i_getL, i_getR, i_putI, i_putZ, i_putL, i_putR, i_aldI, i_aldB, i_aldL, i_aldD, i_astI, i_astL, i_astD, i_alen, i_ret, i_iret, i_zret, i_lret, i_fret, i_dret, i_aret, i_invS0, i_invV0, i_m2, i_m1, i_ml, i_obj, lk, lkp, stf1, stf2, Value.category, rV, xTo, lv_args, xCk, xCat, xRc, xAk, hg_S, hg_I, hg_J, hg_D, hg_R, hs_I, hs_J, hs_D, hs_R, uI_at, uJ_at, uD_at, uR_at, List.take_succ_cons, List.take_zero, List.drop_succ_cons, List.drop_zero, List.reverse_cons, List.reverse_nil, List.nil_append, List.cons_append, List.map_cons, List.map_nil, List.sum_cons, List.sum_nil, List.length_cons, List.length_nil, Option.toList_some, Option.toList_none, true_and, and_true, false_and, and_false, true_implies, false_implies, implies_true, not_true_eq_false, not_false_eq_true, ne_eq, if_true, if_false, Bool.and_true, Bool.true_and, decide_true, decide_false, reduceIte, reduceCtorEq, Bool.and_self, Bool.and_eq_true, decide_eq_true_eq, and_self, true_or, or_true, false_or, or_false, Nat.zero_add, Nat.add_zero, eq_self, Nat.reduceEqDiff, Nat.reduceLeDiff, Nat.reduceLT, Nat.reduceAdd, Nat.reduceSub, Nat.reduceMul, e120_12, B120_12, i1_0]
  · have e2 : nI z.2.2.2.1 < v := hv.resolve_left e
    simp only [e, e2, xSeq, i_push, i_load, i_iload, i_lload, i_dload, i_aload, i_istore, i_astore, i_lstore, i_dstore, i_iinc, i_ii, i_iiz, i_ll, i_llz, i_lli, i_li, i_i, i_l, i_i2l, i_l2i, i_dup, i_dup2, i_dup2w, i_dupx1, i_pop, i_pop2, i_goto, i_ifc, i_icmp, i_getI, i_getL, i_getR, i_putI, i_putZ, i_putL, i_putR, i_aldI, i_aldB, i_aldL, i_aldD, i_astI, i_astL, i_astD, i_alen, i_ret, i_iret, i_zret, i_lret, i_fret, i_dret, i_aret, i_invS0, i_invV0, i_m2, i_m1, i_ml, i_obj, lk, lkp, stf1, stf2, Value.category, rV, xTo, lv_args, xCk, xCat, xRc, xAk, hg_S, hg_I, hg_J, hg_D, hg_R, hs_I, hs_J, hs_D, hs_R, uI_at, uJ_at, uD_at, uR_at, List.take_succ_cons, List.take_zero, List.drop_succ_cons, List.drop_zero, List.reverse_cons, List.reverse_nil, List.nil_append, List.cons_append, List.map_cons, List.map_nil, List.sum_cons, List.sum_nil, List.length_cons, List.length_nil, Option.toList_some, Option.toList_none, true_and, and_true, false_and, and_false, true_implies, false_implies, implies_true, not_true_eq_false, not_false_eq_true, ne_eq, if_true, if_false, Bool.and_true, Bool.true_and, decide_true, decide_false, reduceIte, reduceCtorEq, Bool.and_self, Bool.and_eq_true, decide_eq_true_eq, and_self, true_or, or_true, false_or, or_false, Nat.zero_add, Nat.add_zero, eq_self, Nat.reduceEqDiff, Nat.reduceLeDiff, Nat.reduceLT, Nat.reduceAdd, Nat.reduceSub, Nat.reduceMul, e120_12, B120_12, i32_nl, i1_0])
theorem KM1a (w : WA N z) {v : Int32} (hv : v < 0 ∨ nI z.2.2.2.1 < v) : MC 204 [(0, .ref 200), (1, .int v)] z z (fun r I _ _ => r = some (.int 0) ∧ I 200 19 = 0) := MC_q (c := 0) (fun _ _ _ e => ⟨rfl, e⟩) (fun S I J D R b Q h => by
  obtain ⟨hM, hD, hG, ⟨i2, i3, i4, i5, i6, i7, j3, j4⟩, i16, ⟨s1, s2, s3⟩, ⟨n0, n1, n2, n3⟩⟩ := AM_o h w
  have e205 := fun (I : xI) (J : xJ) (Q : xQ) => R205 (S := S) (I := I) (J := J) (D := D) (R := R) (b := (0, 0)) (Q := Q) (x := v) (l := 0) (h := nI z.2.2.2.1) (lo := 0) (hi := (nI z.2.2.2.1).toInt64) rfl rfl
  have w0 : rg v 0 (nI z.2.2.2.1) = false := by
    unfold rg
    rcases hv with q | q
    · rw [decide_eq_true q]; rfl
    · rw [decide_eq_true q, Bool.not_true, Bool.and_false]
  rw [e204_0]
  simp only [B204_0, xSeq, i_push, i_load, i_iload, i_lload, i_dload, i_aload, i_istore, i_astore, i_lstore, i_dstore, i_iinc, i_ii, i_iiz, i_ll, i_llz, i_lli, i_li, i_i, i_l, i_i2l, i_l2i, i_dup, i_dup2, i_dup2w, i_dupx1, i_pop, i_pop2, i_goto, i_ifc, i_icmp, i_getI, i_getL, i_getR, i_putI, i_putZ, i_putL, i_putR, i_aldI, i_aldB, i_aldL, i_aldD, i_astI, i_astL, i_astD, i_alen, i_ret, i_iret, i_zret, i_lret, i_fret, i_dret, i_aret, i_invS0, i_invV0, i_m2, i_m1, i_ml, i_obj, lk, lkp, stf1, stf2, Value.category, rV, xTo, lv_args, xCk, xCat, xRc, xAk, hg_S, hg_I, hg_J, hg_D, hg_R, hs_I, hs_J, hs_D, hs_R, uI_at, uJ_at, uD_at, uR_at, List.take_succ_cons, List.take_zero, List.drop_succ_cons, List.drop_zero, List.reverse_cons, List.reverse_nil, List.nil_append, List.cons_append, List.map_cons, List.map_nil, List.sum_cons, List.sum_nil, List.length_cons, List.length_nil, Option.toList_some, Option.toList_none, true_and, and_true, false_and, and_false, true_implies, false_implies, implies_true, not_true_eq_false, not_false_eq_true, ne_eq, if_true, if_false, Bool.and_true, Bool.true_and, decide_true, decide_false, reduceIte, reduceCtorEq, Bool.and_self, Bool.and_eq_true, decide_eq_true_eq, and_self, true_or, or_true, false_or, or_false, Nat.zero_add, Nat.add_zero, eq_self, Nat.reduceEqDiff, Nat.reduceLeDiff, Nat.reduceLT, Nat.reduceAdd, Nat.reduceSub, Nat.reduceMul, LM_out hM]
  rw [h.2.2.2.2.1.1]
  simp only [e205, w0, Bool.false_eq_true, xSeq, i_push, i_load, i_iload, i_lload, i_dload, i_aload, i_istore, i_astore, i_lstore, i_dstore, i_iinc, i_ii, i_iiz, i_ll, i_llz, i_lli, i_li, i_i, i_l, i_i2l, i_l2i, i_dup, i_dup2, i_dup2w, i_dupx1, i_pop, i_pop2, i_goto, i_ifc, i_icmp, i_getI, i_getL, i_getR, i_putI, i_putZ, i_putL, i_putR, i_aldI, i_aldB, i_aldL, i_aldD, i_astI, i_astL, i_astD, i_alen, i_ret, i_iret, i_zret, i_lret, i_fret, i_dret, i_aret, i_invS0, i_invV0, i_m2, i_m1, i_ml, i_obj, lk, lkp, stf1, stf2, Value.category, rV, xTo, lv_args, xCk, xCat, xRc, xAk, hg_S, hg_I, hg_J, hg_D, hg_R, hs_I, hs_J, hs_D, hs_R, uI_at, uJ_at, uD_at, uR_at, List.take_succ_cons, List.take_zero, List.drop_succ_cons, List.drop_zero, List.reverse_cons, List.reverse_nil, List.nil_append, List.cons_append, List.map_cons, List.map_nil, List.sum_cons, List.sum_nil, List.length_cons, List.length_nil, Option.toList_some, Option.toList_none, true_and, and_true, false_and, and_false, true_implies, false_implies, implies_true, not_true_eq_false, not_false_eq_true, ne_eq, if_true, if_false, Bool.and_true, Bool.true_and, decide_true, decide_false, reduceIte, reduceCtorEq, Bool.and_self, Bool.and_eq_true, decide_eq_true_eq, and_self, true_or, or_true, false_or, or_false, Nat.zero_add, Nat.add_zero, eq_self, Nat.reduceEqDiff, Nat.reduceLeDiff, Nat.reduceLT, Nat.reduceAdd, Nat.reduceSub, Nat.reduceMul, i1_0, e204_21, B204_21])
theorem KC1b (w : WA N z) {t : Nat} (ht : t ≤ z.2.2.2.1) : CC 0 120 [(0, .ref 100), (1, .int (nI t))] z (z.1, z.2.1, z.2.2.1, t, z.2.2.2.2) (fun r _ _ => r = some (.int 1)) := by
  intro P f S I J D R h hw hf
  obtain ⟨hL, hC, hG, ⟨i6, i7, i8, i9, i10, i11, j4, j5⟩, j102, i111, ⟨s1, s2, s3⟩, ⟨n0, n1, n2, n3⟩⟩ := AC_o h w
  have w1 : z.2.2.2.1 ≤ 600 := w.2.2.2.1
  have q1 : (nI t < 0) = False := nI_0P (by omega)
  have q2 : (nI t ≤ nI z.2.2.2.1) = True := by rw [nI_leP (by omega) (by omega)]; exact eq_true ht
  refine ⟨P, Nat.le_refl P, fun _ => rfl, fun b Q b1 b2 kk => ?_⟩
  rw [e120_0]
  simp only [B120_0, xSeq, i_push, i_load, i_iload, i_lload, i_dload, i_aload, i_istore, i_astore, i_lstore, i_dstore, i_iinc, i_ii, i_iiz, i_ll, i_llz, i_lli, i_li, i_i, i_l, i_i2l, i_l2i, i_dup, i_dup2, i_dup2w, i_dupx1, i_pop, i_pop2, i_goto, i_ifc, i_icmp, i_getI, i_getL, i_getR, i_putI, i_putZ, i_putL, i_putR, i_aldI, i_aldB, i_aldL, i_aldD, i_astI, i_astL, i_astD, i_alen, i_ret, i_iret, i_zret, i_lret, i_fret, i_dret, i_aret, i_invS0, i_invV0, i_m2, i_m1, i_ml, i_obj, lk, lkp, stf1, stf2, Value.category, rV, xTo, lv_args, xCk, xCat, xRc, xAk, hg_S, hg_I, hg_J, hg_D, hg_R, hs_I, hs_J, hs_D, hs_R, uI_at, uJ_at, uD_at, uR_at, List.take_succ_cons, List.take_zero, List.drop_succ_cons, List.drop_zero, List.reverse_cons, List.reverse_nil, List.nil_append, List.cons_append, List.map_cons, List.map_nil, List.sum_cons, List.sum_nil, List.length_cons, List.length_nil, Option.toList_some, Option.toList_none, true_and, and_true, false_and, and_false, true_implies, false_implies, implies_true, not_true_eq_false, not_false_eq_true, ne_eq, if_true, if_false, Bool.and_true, Bool.true_and, decide_true, decide_false, reduceIte, reduceCtorEq, Bool.and_self, Bool.and_eq_true, decide_eq_true_eq, and_self, true_or, or_true, false_or, or_false, Nat.zero_add, Nat.add_zero, eq_self, Nat.reduceEqDiff, Nat.reduceLeDiff, Nat.reduceLT, Nat.reduceAdd, Nat.reduceSub, Nat.reduceMul, LC_out hL]
  rw [h.2.2.2.2.1.1]
  simp only [q1, q2, xSeq, i_push, i_load, i_iload, i_lload, i_dload, i_aload, i_istore, i_astore, i_lstore, i_dstore, i_iinc, i_ii, i_iiz, i_ll, i_llz, i_lli, i_li, i_i, i_l, i_i2l, i_l2i, i_dup, i_dup2, i_dup2w, i_dupx1, i_pop, i_pop2, i_goto, i_ifc, i_icmp, i_getI, i_getL, i_getR, i_putI, i_putZ, i_putL, i_putR, i_aldI, i_aldB, i_aldL, i_aldD, i_astI, i_astL, i_astD, i_alen, i_ret, i_iret, i_zret, i_lret, i_fret, i_dret, i_aret, i_invS0, i_invV0, i_m2, i_m1, i_ml, i_obj, lk, lkp, stf1, stf2, Value.category, rV, xTo, lv_args, xCk, xCat, xRc, xAk, hg_S, hg_I, hg_J, hg_D, hg_R, hs_I, hs_J, hs_D, hs_R, uI_at, uJ_at, uD_at, uR_at, List.take_succ_cons, List.take_zero, List.drop_succ_cons, List.drop_zero, List.reverse_cons, List.reverse_nil, List.nil_append, List.cons_append, List.map_cons, List.map_nil, List.sum_cons, List.sum_nil, List.length_cons, List.length_nil, Option.toList_some, Option.toList_none, true_and, and_true, false_and, and_false, true_implies, false_implies, implies_true, not_true_eq_false, not_false_eq_true, ne_eq, if_true, if_false, Bool.and_true, Bool.true_and, decide_true, decide_false, reduceIte, reduceCtorEq, Bool.and_self, Bool.and_eq_true, decide_eq_true_eq, and_self, true_or, or_true, false_or, or_false, Nat.zero_add, Nat.add_zero, eq_self, Nat.reduceEqDiff, Nat.reduceLeDiff, Nat.reduceLT, Nat.reduceAdd, Nat.reduceSub, Nat.reduceMul, e120_14, B120_14, e120_12, B120_12, LC_out hL, i1_0]
  have fr : ∀ o j, ¬ (o = 101 ∨ (o = 100 ∧ 1 ≤ j ∧ j ≤ 3)) → uI I 100 1 (nI t) o j = I o j := fun o j q => by rw [uI_at, if_neg (by omega)]
  exact kk _ S _ J D R f _ rfl (AC_in h fr (by rw [uI_at, if_pos ⟨rfl, rfl⟩]) (fun j hj => by rw [uI_at, if_neg (by omega)]; exact h.2.2.2.2.1.2.1 j (Nat.lt_of_lt_of_le hj ht)) (by rw [uI_at, if_neg (by decide)]; exact h.2.2.2.2.1.2.2.1) (by rw [uI_at, if_neg (by decide)]; exact h.2.2.2.2.1.2.2.2)) (frC_in fr) (by omega)
theorem KM1b (w : WA N z) {t : Nat} (ht : t ≤ z.2.2.2.1) : MC 204 [(0, .ref 200), (1, .int (nI t))] z (z.1, z.2.1, z.2.2.1, t, z.2.2.2.2) (fun r I _ _ => r = some (.int 1) ∧ I 200 19 = 0) := by
  intro S I J D R b Q h kk
  obtain ⟨hM, hD, hG, ⟨i2, i3, i4, i5, i6, i7, j3, j4⟩, i16, ⟨s1, s2, s3⟩, ⟨n0, n1, n2, n3⟩⟩ := AM_o h w
  have w1 : z.2.2.2.1 ≤ 600 := w.2.2.2.1
  have e205 := fun (I : xI) (J : xJ) (Q : xQ) => R205 (S := S) (I := I) (J := J) (D := D) (R := R) (b := (0, 0)) (Q := Q) (x := nI t) (l := 0) (h := nI z.2.2.2.1) (lo := 0) (hi := (nI z.2.2.2.1).toInt64) rfl rfl
  have w0 : rg (nI t) 0 (nI z.2.2.2.1) = true := by
    unfold rg
    rw [decide_eq_false (nI_pos (by omega)), decide_eq_false (Int32.not_lt.mpr ((nI_leI (by omega) (by omega)).mpr ht))]
    rfl
  rw [e204_0]
  simp only [B204_0, xSeq, i_push, i_load, i_iload, i_lload, i_dload, i_aload, i_istore, i_astore, i_lstore, i_dstore, i_iinc, i_ii, i_iiz, i_ll, i_llz, i_lli, i_li, i_i, i_l, i_i2l, i_l2i, i_dup, i_dup2, i_dup2w, i_dupx1, i_pop, i_pop2, i_goto, i_ifc, i_icmp, i_getI, i_getL, i_getR, i_putI, i_putZ, i_putL, i_putR, i_aldI, i_aldB, i_aldL, i_aldD, i_astI, i_astL, i_astD, i_alen, i_ret, i_iret, i_zret, i_lret, i_fret, i_dret, i_aret, i_invS0, i_invV0, i_m2, i_m1, i_ml, i_obj, lk, lkp, stf1, stf2, Value.category, rV, xTo, lv_args, xCk, xCat, xRc, xAk, hg_S, hg_I, hg_J, hg_D, hg_R, hs_I, hs_J, hs_D, hs_R, uI_at, uJ_at, uD_at, uR_at, List.take_succ_cons, List.take_zero, List.drop_succ_cons, List.drop_zero, List.reverse_cons, List.reverse_nil, List.nil_append, List.cons_append, List.map_cons, List.map_nil, List.sum_cons, List.sum_nil, List.length_cons, List.length_nil, Option.toList_some, Option.toList_none, true_and, and_true, false_and, and_false, true_implies, false_implies, implies_true, not_true_eq_false, not_false_eq_true, ne_eq, if_true, if_false, Bool.and_true, Bool.true_and, decide_true, decide_false, reduceIte, reduceCtorEq, Bool.and_self, Bool.and_eq_true, decide_eq_true_eq, and_self, true_or, or_true, false_or, or_false, Nat.zero_add, Nat.add_zero, eq_self, Nat.reduceEqDiff, Nat.reduceLeDiff, Nat.reduceLT, Nat.reduceAdd, Nat.reduceSub, Nat.reduceMul, LM_out hM]
  rw [h.2.2.2.2.1.1]
  simp only [e205, w0, xSeq, i_push, i_load, i_iload, i_lload, i_dload, i_aload, i_istore, i_astore, i_lstore, i_dstore, i_iinc, i_ii, i_iiz, i_ll, i_llz, i_lli, i_li, i_i, i_l, i_i2l, i_l2i, i_dup, i_dup2, i_dup2w, i_dupx1, i_pop, i_pop2, i_goto, i_ifc, i_icmp, i_getI, i_getL, i_getR, i_putI, i_putZ, i_putL, i_putR, i_aldI, i_aldB, i_aldL, i_aldD, i_astI, i_astL, i_astD, i_alen, i_ret, i_iret, i_zret, i_lret, i_fret, i_dret, i_aret, i_invS0, i_invV0, i_m2, i_m1, i_ml, i_obj, lk, lkp, stf1, stf2, Value.category, rV, xTo, lv_args, xCk, xCat, xRc, xAk, hg_S, hg_I, hg_J, hg_D, hg_R, hs_I, hs_J, hs_D, hs_R, uI_at, uJ_at, uD_at, uR_at, List.take_succ_cons, List.take_zero, List.drop_succ_cons, List.drop_zero, List.reverse_cons, List.reverse_nil, List.nil_append, List.cons_append, List.map_cons, List.map_nil, List.sum_cons, List.sum_nil, List.length_cons, List.length_nil, Option.toList_some, Option.toList_none, true_and, and_true, false_and, and_false, true_implies, false_implies, implies_true, not_true_eq_false, not_false_eq_true, ne_eq, if_true, if_false, Bool.and_true, Bool.true_and, decide_true, decide_false, reduceIte, reduceCtorEq, Bool.and_self, Bool.and_eq_true, decide_eq_true_eq, and_self, true_or, or_true, false_or, or_false, Nat.zero_add, Nat.add_zero, eq_self, Nat.reduceEqDiff, Nat.reduceLeDiff, Nat.reduceLT, Nat.reduceAdd, Nat.reduceSub, Nat.reduceMul, LM_out hM, i1_0, e204_21, B204_21]
  have fr : ∀ o j, ¬ (o = 320 ∨ (o = 200 ∧ (j = 19 ∨ 21 ≤ j ∧ j ≤ 30 ∨ j = 37))) → uI (uI I 200 19 0) 200 21 (nI t) o j = I o j := fun o j q => by rw [uI_at, if_neg (by omega), uI_at, if_neg (by omega)]
  exact kk _ _ J D ⟨rfl, by simp only [uI_at, true_and, and_true, false_and, and_false, true_implies, false_implies, implies_true, not_true_eq_false, not_false_eq_true, ne_eq, if_true, if_false, Bool.and_true, Bool.true_and, decide_true, decide_false, reduceIte, reduceCtorEq, Bool.and_self, Bool.and_eq_true, decide_eq_true_eq, and_self, true_or, or_true, false_or, or_false, Nat.zero_add, Nat.add_zero, eq_self, Nat.reduceEqDiff, Nat.reduceLeDiff, Nat.reduceLT, Nat.reduceAdd, Nat.reduceSub, Nat.reduceMul]⟩ (AM_in h fr (by rw [uI_at, if_pos ⟨rfl, rfl⟩]) (fun j hj => by rw [uI_at, if_neg (by omega), uI_at, if_neg (by omega)]; exact h.2.2.2.2.1.2.1 j (Nat.lt_of_lt_of_le hj ht)) (by rw [uI_at, if_neg (by decide), uI_at, if_neg (by decide)]; exact h.2.2.2.2.1.2.2.1) (by rw [uI_at, if_neg (by decide), uI_at, if_neg (by decide)]; exact h.2.2.2.2.1.2.2.2)) (frM_in fr)
end
