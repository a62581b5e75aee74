/-! ===== correlations: numbers and the lab ===== -/
section
/-- configurations at a distance from the least energy; how two spins agree in them -/
def pc (E : Nat → Int32) (n i k : Nat) : Nat := ct (fun c => decide (ui E n c = k)) i
def am (E : Nat → Int32) (n s t k : Nat) : Nat → Int32
  | 0 => 0
  | i + 1 => am E n s t k i + (if ui E n i = k then (if i.testBit s = i.testBit t then 1 else -1) else 0)
def cT (E : Nat → Int32) (n s t : Nat) (r : UInt64) (k : Nat) : UInt64 := FP.dmul (FP.i2d (am E n s t k (2 ^ n))) (wP r k)
def cB (E : Nat → Int32) (n : Nat) (r : UInt64) (k : Nat) : UInt64 := FP.dmul (FP.i2d (nI (pc E n (2 ^ n) k))) (wP r k)
def cS (E : Nat → Int32) (n s t : Nat) (r : UInt64) : Nat → UInt64
  | 0 => FP.dconst0
  | k + 1 => FP.dadd (cS E n s t r k) (cT E n s t r k)
def cA (E : Nat → Int32) (n : Nat) (r : UInt64) : Nat → UInt64
  | 0 => FP.dconst0
  | k + 1 => FP.dadd (cA E n r k) (cB E n r k)
def co (E : Nat → Int32) (n s t : Nat) (r : UInt64) : UInt64 := FP.ddiv (cS E n s t r 289) (cA E n r 289)
variable {E : Nat → Int32} {n s t : Nat} {r : UInt64}
theorem am_bd (k : Nat) : ∀ i, i ≤ 65536 → -(pc E n i k : Int) ≤ (am E n s t k i).toInt ∧ (am E n s t k i).toInt ≤ (pc E n i k : Int)
  | 0, _ => by
    rw [am]
    exact ⟨by show -((0 : Nat) : Int) ≤ 0; omega, by show (0 : Int) ≤ ((0 : Nat) : Int); omega⟩
  | i + 1, hi => by
    have ih := am_bd k i (by omega)
    have hp : pc E n i k ≤ i := ct_le _ i
    have e : pc E n (i + 1) k = pc E n i k + if decide (ui E n i = k) = true then 1 else 0 := rfl
    rw [am, e]
    by_cases h : ui E n i = k
    · rw [if_pos h, if_pos (decide_eq_true h)]
      have h1 : -(1 : Int) ≤ (if i.testBit s = i.testBit t then (1 : Int32) else -1).toInt ∧ (if i.testBit s = i.testBit t then (1 : Int32) else -1).toInt ≤ 1 := by
        split
        · exact ⟨by decide, by decide⟩
        · exact ⟨by decide, by decide⟩
      rw [i32_addT ih h1 (by omega)]
      omega
    · rw [if_neg h, if_neg (by rw [decide_eq_false h]; decide), Int32.add_zero]
      omega
theorem pc_le (hB : EB E n) (k : Nat) : pc E n (2 ^ n) k ≤ 65536 := Nat.le_trans (ct_le _ _) (pow16 hB.1)
theorem am_0 (hB : EB E n) {k : Nat} (h : pc E n (2 ^ n) k = 0) : am E n s t k (2 ^ n) = 0 := by
  have h2 := am_bd (E := E) (n := n) (s := s) (t := t) k (2 ^ n) (pow16 hB.1)
  rw [h] at h2
  apply Int32.toInt_inj.mp
  show (am E n s t k (2 ^ n)).toInt = 0
  omega
theorem pc_no (hB : EB E n) {k : Nat} (h : ∀ c, c < 2 ^ n → ui E n c ≠ k) : pc E n (2 ^ n) k = 0 := by
  refine Classical.byContradiction (fun h2 => ?_)
  obtain ⟨c, hc, e⟩ := ct_pos.mp (Nat.pos_of_ne_zero h2)
  exact h c hc (of_decide_eq_true e)
theorem pc_pos (hB : EB E n) : 0 < pc E n (2 ^ n) 0 := by
  have h1 := (lv_get hB (lv_pos hB)).2.1
  obtain ⟨c, hc, e⟩ := ct_pos.mp h1
  have e2 := of_decide_eq_true e
  refine ct_pos.mpr ⟨c, hc, decide_eq_true ?_⟩
  obtain ⟨-, h2, -, -⟩ := yL_ok hB hc
  unfold ui
  rw [← e2, ← h2]
  omega
theorem cT_fb (hB : EB E n) (hr : gp 0 uo r) (k : Nat) : fb (65536 * uo) (cT E n s t r k) := by
  have h := am_bd (E := E) (n := n) (s := s) (t := t) k (2 ^ n) (pow16 hB.1)
  have h2 := pc_le hB k
  exact fb_mul (i2d_fb (K := 65536) (by omega) (by decide)) (gp_fb (wP_gp hr k)) (rp_n (by decide)) (Nat.le_refl _)
theorem cT_0 (hB : EB E n) (hr : gp 0 uo r) {k : Nat} (h : pc E n (2 ^ n) k = 0) : cT E n s t r k = FP.dconst0 := by
  unfold cT
  rw [am_0 hB h]
  have h0 := i2d_n (k := 0) (by decide)
  rw [Nat.zero_mul, nI_0] at h0
  exact gp_zero (gp_mul h0 (wP_gp hr k) rp_0 (by rw [Nat.zero_mul]; exact Nat.zero_le _) rp_0 (by rw [Nat.zero_mul]; exact Nat.zero_le _))
theorem cB_gp (hB : EB E n) (hr : gp 0 uo r) (k : Nat) : gp 0 (65536 * uo) (cB E n r k) := by
  have h2 := pc_le hB k
  exact gp_mul (i2d_n (k := pc E n (2 ^ n) k) (by omega)) (wP_gp hr k) (rp_n (by decide)) (Nat.mul_le_mul_right _ (Nat.mul_le_mul_right _ h2)) rp_0 (by rw [Nat.zero_mul]; exact Nat.zero_le _)
theorem cB_0 (hB : EB E n) (hr : gp 0 uo r) {k : Nat} (h : pc E n (2 ^ n) k = 0) : cB E n r k = FP.dconst0 := by
  unfold cB
  rw [h]
  have h0 := i2d_n (k := 0) (by decide)
  rw [Nat.zero_mul] at h0
  exact gp_zero (gp_mul h0 (wP_gp hr k) rp_0 (by rw [Nat.zero_mul]; exact Nat.zero_le _) rp_0 (by rw [Nat.zero_mul]; exact Nat.zero_le _))
theorem cB_1 (hB : EB E n) : gp uo (65536 * uo) (cB E n r 0) := by
  have h2 := pc_le hB 0
  have h3 := pc_pos hB
  have e : wP r 0 = FP.dconst1 := rfl
  unfold cB
  rw [e]
  exact gp_mul (i2d_n (k := pc E n (2 ^ n) 0) (by omega)) gp_1 (rp_n (by decide)) (Nat.mul_le_mul_right _ (Nat.mul_le_mul_right _ h2)) rp_u (by
    rw [Nat.mul_assoc]
    exact Nat.le_mul_of_pos_left _ h3)
theorem cS_ok (hB : EB E n) (hr : gp 0 uo r) : ∀ j, j ≤ 401 → fb (j * 65536 * uo) (cS E n s t r j) ∧ cS E n s t r j ≠ FP.Core.dzeroNeg
  | 0, _ => by
    simp only [Nat.zero_mul]
    exact ⟨gp_fb gp_0, c0_nz⟩
  | j + 1, hj => by
    obtain ⟨h1, h2⟩ := cS_ok hB hr j (by omega)
    have h3 := cT_fb (s := s) (t := t) hB hr j
    refine ⟨fb_add h1 h3 (rp_n (by omega)) ?_, nz_add h1 h2 h3⟩
    rw [← Nat.add_mul, Nat.add_mul j 1, Nat.one_mul]
    exact Nat.le_refl _
theorem cA_ok (hB : EB E n) (hr : gp 0 uo r) : ∀ j, j + 1 ≤ 401 → gp uo ((j + 1) * 65536 * uo) (cA E n r (j + 1))
  | 0, _ => by
    have h := cB_1 (r := r) hB
    rw [Nat.one_mul]
    exact gp_add gp_0 h (rp_n (by decide)) (by rw [Nat.zero_add]; exact Nat.le_refl _) rp_u (by rw [Nat.zero_add]; exact Nat.le_refl _)
  | j + 1, hj => by
    have h1 := cA_ok hB hr j (by omega)
    have h3 := cB_gp (E := E) hB hr (j + 1)
    refine gp_add h1 h3 (rp_n (by omega)) ?_ rp_u (Nat.le_add_right _ _)
    rw [← Nat.add_mul, Nat.add_mul (j + 1) 1, Nat.one_mul]
    exact Nat.le_refl _
theorem cA_n (hB : EB E n) (hr : gp 0 uo r) {j : Nat} (hj : j ≤ 401) : isNaN64 (cA E n r j) = false ∧ cA E n r j ≠ FP.Core.dzeroNeg ∧ ∃ N, fb N (cA E n r j) := by
  cases j with
  | zero => exact ⟨fb_n (gp_fb gp_0), c0_nz, _, gp_fb gp_0⟩
  | succ j =>
    have h := cA_ok (E := E) hB hr j hj
    exact ⟨fb_n (gp_fb h), gp_nz h, _, gp_fb h⟩
theorem c_skip (hB : EB E n) (hr : gp 0 uo r) {k : Nat} (hk : k ≤ 401) (h : pc E n (2 ^ n) k = 0) : cS E n s t r (k + 1) = cS E n s t r k ∧ cA E n r (k + 1) = cA E n r k := by
  obtain ⟨h1, h2⟩ := cS_ok (s := s) (t := t) hB hr k hk
  obtain ⟨h3, h4, N, h5⟩ := cA_n (E := E) hB hr hk
  rw [cS, cA, cT_0 hB hr h, cB_0 hB hr h]
  exact ⟨fb_add0 h1 h2, fb_add0 h5 h4⟩
theorem c_far (hB : EB E n) (hr : gp 0 uo r) : ∀ (d i : Nat), i + d ≤ 401 → (∀ k, i ≤ k → k < i + d → pc E n (2 ^ n) k = 0) → cS E n s t r (i + d) = cS E n s t r i ∧ cA E n r (i + d) = cA E n r i
  | 0, i, _, _ => ⟨rfl, rfl⟩
  | d + 1, i, hi, h => by
    obtain ⟨h1, h2⟩ := c_far hB hr d i (by omega) (fun k a b => h k a (by omega))
    obtain ⟨h3, h4⟩ := c_skip (s := s) (t := t) hB hr (k := i + d) (by omega) (h (i + d) (by omega) (by omega))
    rw [← Nat.add_assoc, h3, h4]
    exact ⟨h1, h2⟩
theorem co_fb (hB : EB E n) (hr : gp 0 uo r) : fb (289 * 65536 * uo) (co E n s t r) :=
  fb_div (cS_ok hB hr 289 (by decide)).1 (cA_ok hB hr 288 (by decide)) uo_pos (rp_n (by decide)) (Nat.le_refl _)
theorem xbit {c s t : Nat} : ((c / 2 ^ s ^^^ c / 2 ^ t) % 2 = 0) = (c.testBit s = c.testBit t) := by
  have h := Nat.testBit_xor (c / 2 ^ s) (c / 2 ^ t) 0
  rw [Nat.testBit_zero, Nat.testBit_div_two_pow, Nat.testBit_div_two_pow, Nat.zero_add, Nat.zero_add] at h
  apply propext
  constructor
  · intro e
    rw [e] at h
    have h2 : (c.testBit s ^^ c.testBit t) = false := h.symm
    cases h3 : c.testBit s <;> cases h4 : c.testBit t <;> rw [h3, h4] at h2 <;> first | rfl | exact absurd h2 (by decide)
  · intro e
    rw [e, Bool.xor_self] at h
    have := of_decide_eq_false h
    omega
variable {S : xS} {I : xI} {J : xJ} {D : xDb} {R : xR} {b : Nat × Nat} {Q : xQ} {x y : Nat}
/-- the rows of the lab -/
def GC (E : Nat → Int32) (n s t i : Nat) (I0 I : xI) : Prop := (∀ k, k < 289 → I 137 k = nI (pc E n i k) ∧ I 138 k = am E n s t k i) ∧ ∀ o k, o ≠ 137 → o ≠ 138 → I o k = I0 o k
theorem GC_XL {i : Nat} {I0 : xI} (h : GC E n s t i I0 I) (hX : XL n E S I0 R) : XL n E S I R := by
  obtain ⟨x1, x2, x3, x4, x5, x6, x7, x8⟩ := hX
  have f := h.2
  refine ⟨x1, ?_, ?_, ?_, ?_, ?_, ?_, fun c hc => ?_⟩
  · rw [f _ _ (by decide) (by decide)]; exact x2
  · rw [f _ _ (by decide) (by decide)]; exact x3
  · rw [f _ _ (by decide) (by decide)]; exact x4
  · rw [f _ _ (by decide) (by decide)]; exact x5
  · rw [f _ _ (by decide) (by decide)]; exact x6
  · intro i hi
    rw [f _ _ (by decide) (by decide), f _ _ (by decide) (by decide), f _ _ (by decide) (by decide)]
    exact x7 i hi
  · rw [f _ _ (by decide) (by decide)]; exact x8 c hc
theorem L111_18 {I0 : xI} (hL : LC S R) (hX0 : XL n E S I0 R) (hB : EB E n) (hs : s < 16) (ht : t < 16)
    (kk : ∀ I, GC E n s t (2 ^ n) I0 I → xRun xT 111 83 [(0, .ref 130)] [] (S, I, J, D, R) b Q) :
    ∀ (j i : Nat) (I : xI), i + j = 2 ^ n → GC E n s t i I0 I → xRun xT 111 18 [(0, .ref 130), (1, .int (nI s)), (2, .int (nI t)), (3, .int (nI i))] [] (S, I, J, D, R) b Q
  | 0, i, I, hi, h => by
    have hp := pow16 hB.1
    have hX := GC_XL h hX0
    have e : i = 2 ^ n := by omega
    subst e
    rw [e111_18]
    simp only [B111_18, xSeq, i_push, i_load, i_iload, i_lload, i_dload, i_aload, i_istore, i_astore, i_lstore, i_dstore, i_iinc, i_ii, i_iiz, i_ll, i_llz, i_lli, i_li, i_i, i_l, i_i2l, i_l2i, i_dup, i_dup2, i_dup2w, i_dupx1, i_pop, i_pop2, i_goto, i_ifc, i_icmp, i_getI, i_getL, i_getR, i_putI, i_putZ, i_putL, i_putR, i_aldI, i_aldB, i_aldL, i_aldD, i_astI, i_astL, i_astD, i_alen, i_ret, i_iret, i_zret, i_lret, i_fret, i_dret, i_aret, i_invS0, i_invV0, i_m2, i_m1, i_ml, i_obj, lk, lkp, stf1, stf2, Value.category, rV, xTo, lv_args, xCk, xCat, xRc, xAk, hg_S, hg_I, hg_J, hg_D, hg_R, hs_I, hs_J, hs_D, hs_R, uI_at, uJ_at, uD_at, uR_at, List.take_succ_cons, List.take_zero, List.drop_succ_cons, List.drop_zero, List.reverse_cons, List.reverse_nil, List.nil_append, List.cons_append, List.map_cons, List.map_nil, List.sum_cons, List.sum_nil, List.length_cons, List.length_nil, Option.toList_some, Option.toList_none, true_and, and_true, false_and, and_false, true_implies, false_implies, implies_true, not_true_eq_false, not_false_eq_true, ne_eq, if_true, if_false, Bool.and_true, Bool.true_and, decide_true, decide_false, reduceIte, reduceCtorEq, Bool.and_self, Bool.and_eq_true, decide_eq_true_eq, and_self, true_or, or_true, false_or, or_false, Nat.zero_add, Nat.add_zero, eq_self, Nat.reduceEqDiff, Nat.reduceLeDiff, Nat.reduceLT, Nat.reduceAdd, Nat.reduceSub, Nat.reduceMul, LC_out hL, hX.2.2.2.1, nI_leP (show 2 ^ n < 2147483648 by omega) (show 2 ^ n < 2147483648 by omega), Nat.le_refl]
    exact kk I h
  | j + 1, i, I, hi, h => by
    have hp := pow16 hB.1
    have hX := GC_XL h hX0
    have hc : i < 2 ^ n := by omega
    obtain ⟨u1, u2⟩ := ui_ok hB hc
    have nx := fun I => L111_18 hL hX0 hB hs ht kk j (i + 1) I (by omega)
    obtain ⟨u, hu⟩ : ∃ u, u = ui E n i := ⟨_, rfl⟩
    rw [← hu] at u1 u2
    obtain ⟨g1, g2⟩ := h.1 u u2
    have eb : (jRem (nI (i / 2 ^ s) ^^^ nI (i / 2 ^ t)) 2 = 0) = (i.testBit s = i.testBit t) := by
      have hd1 := Nat.div_le_self i (2 ^ s)
      have hd2 := Nat.div_le_self i (2 ^ t)
      have hx : i / 2 ^ s ^^^ i / 2 ^ t < 2 ^ 31 := Nat.xor_lt_two_pow (by omega) (by omega)
      rw [i_xorN, show (2 : Int32) = nI 2 from rfl, q_rem hx (by decide) (by decide), show (0 : Int32) = nI 0 from rfl, nI_iff (by omega) (by decide), xbit]
    have fin : ∀ v : Int32, v = (if i.testBit s = i.testBit t then 1 else -1) → GC E n s t (i + 1) I0 (uI (uI I 137 u (nI (pc E n i u + 1))) 138 u (am E n s t u i + v)) := fun v hv => by
      refine ⟨fun k hk => ?_, fun o k h1 h2 => ?_⟩
      · have e1 : pc E n (i + 1) k = pc E n i k + if decide (ui E n i = k) = true then 1 else 0 := rfl
        have e2 : am E n s t k (i + 1) = am E n s t k i + (if ui E n i = k then (if i.testBit s = i.testBit t then 1 else -1) else 0) := rfl
        rw [e1, e2, ← hu, ← hv]
        obtain ⟨k1, k2⟩ := h.1 k hk
        by_cases e : k = u
        · subst e
          simp only [uI_at, true_and, and_true, false_and, and_false, true_implies, false_implies, implies_true, not_true_eq_false, not_false_eq_true, ne_eq, if_true, if_false, Bool.and_true, Bool.true_and, decide_true, decide_false, reduceIte, reduceCtorEq, Bool.and_self, Bool.and_eq_true, decide_eq_true_eq, and_self, true_or, or_true, false_or, or_false, Nat.zero_add, Nat.add_zero, eq_self, Nat.reduceEqDiff, Nat.reduceLeDiff, Nat.reduceLT, Nat.reduceAdd, Nat.reduceSub, Nat.reduceMul, if_true, decide_true]
        · have e' : ¬ u = k := fun h => e h.symm
          simp only [uI_at, true_and, and_true, false_and, and_false, true_implies, false_implies, implies_true, not_true_eq_false, not_false_eq_true, ne_eq, if_true, if_false, Bool.and_true, Bool.true_and, decide_true, decide_false, reduceIte, reduceCtorEq, Bool.and_self, Bool.and_eq_true, decide_eq_true_eq, and_self, true_or, or_true, false_or, or_false, Nat.zero_add, Nat.add_zero, eq_self, Nat.reduceEqDiff, Nat.reduceLeDiff, Nat.reduceLT, Nat.reduceAdd, Nat.reduceSub, Nat.reduceMul, e, e', if_false, decide_false, Nat.add_zero, Int32.add_zero, and_false]
          exact ⟨k1, k2⟩
      · rw [uI_at, if_neg (fun e => h2 e.1), uI_at, if_neg (fun e => h1 e.1)]
        exact h.2 o k h1 h2
    rw [e111_18]
    simp only [B111_18, xSeq, i_push, i_load, i_iload, i_lload, i_dload, i_aload, i_istore, i_astore, i_lstore, i_dstore, i_iinc, i_ii, i_iiz, i_ll, i_llz, i_lli, i_li, i_i, i_l, i_i2l, i_l2i, i_dup, i_dup2, i_dup2w, i_dupx1, i_pop, i_pop2, i_goto, i_ifc, i_icmp, i_getI, i_getL, i_getR, i_putI, i_putZ, i_putL, i_putR, i_aldI, i_aldB, i_aldL, i_aldD, i_astI, i_astL, i_astD, i_alen, i_ret, i_iret, i_zret, i_lret, i_fret, i_dret, i_aret, i_invS0, i_invV0, i_m2, i_m1, i_ml, i_obj, lk, lkp, stf1, stf2, Value.category, rV, xTo, lv_args, xCk, xCat, xRc, xAk, hg_S, hg_I, hg_J, hg_D, hg_R, hs_I, hs_J, hs_D, hs_R, uI_at, uJ_at, uD_at, uR_at, List.take_succ_cons, List.take_zero, List.drop_succ_cons, List.drop_zero, List.reverse_cons, List.reverse_nil, List.nil_append, List.cons_append, List.map_cons, List.map_nil, List.sum_cons, List.sum_nil, List.length_cons, List.length_nil, Option.toList_some, Option.toList_none, true_and, and_true, false_and, and_false, true_implies, false_implies, implies_true, not_true_eq_false, not_false_eq_true, ne_eq, if_true, if_false, Bool.and_true, Bool.true_and, decide_true, decide_false, reduceIte, reduceCtorEq, Bool.and_self, Bool.and_eq_true, decide_eq_true_eq, and_self, true_or, or_true, false_or, or_false, Nat.zero_add, Nat.add_zero, eq_self, Nat.reduceEqDiff, Nat.reduceLeDiff, Nat.reduceLT, Nat.reduceAdd, Nat.reduceSub, Nat.reduceMul, LC_out hL, LE_out hX.1, hX.2.2.2.1, hX.2.2.2.2.1, nI_leP (show 2 ^ n < 2147483648 by omega) (show i < 2147483648 by omega), show (2 ^ n ≤ i) = False from eq_false (by omega), nI_inP (show i < 65536 by omega) (by decide), nI_ix (show i < 2147483648 by omega), hX.2.2.2.2.2.2.2 i hc, u1, nI_inP u2 (by decide), nI_ix (show u < 2147483648 by omega), g1, g2, i_shr (show i < 2147483648 by omega) (show s < 31 by omega), i_shr (show i < 2147483648 by omega) (show t < 31 by omega), eb, e111_74, B111_74, e111_75, B111_75, nI_1]
    by_cases hb : i.testBit s = i.testBit t
    · simp only [hb, true_and, and_true, false_and, and_false, true_implies, false_implies, implies_true, not_true_eq_false, not_false_eq_true, ne_eq, if_true, if_false, Bool.and_true, Bool.true_and, decide_true, decide_false, reduceIte, reduceCtorEq, Bool.and_self, Bool.and_eq_true, decide_eq_true_eq, and_self, true_or, or_true, false_or, or_false, Nat.zero_add, Nat.add_zero, eq_self, Nat.reduceEqDiff, Nat.reduceLeDiff, Nat.reduceLT, Nat.reduceAdd, Nat.reduceSub, Nat.reduceMul]
      exact ⟨by decide, nx _ (fin 1 (by rw [if_pos hb]))⟩
    · simp only [hb, true_and, and_true, false_and, and_false, true_implies, false_implies, implies_true, not_true_eq_false, not_false_eq_true, ne_eq, if_true, if_false, Bool.and_true, Bool.true_and, decide_true, decide_false, reduceIte, reduceCtorEq, Bool.and_self, Bool.and_eq_true, decide_eq_true_eq, and_self, true_or, or_true, false_or, or_false, Nat.zero_add, Nat.add_zero, eq_self, Nat.reduceEqDiff, Nat.reduceLeDiff, Nat.reduceLT, Nat.reduceAdd, Nat.reduceSub, Nat.reduceMul]
      exact ⟨by decide, nx _ (fin (-1) (by rw [if_neg hb]))⟩
theorem R111_91 (hL : LC S R) (hB : EB E n) (h : AB x y) (hI : ∀ k, k < 289 → I 137 k = nI (pc E n (2 ^ n) k) ∧ I 138 k = am E n s t k (2 ^ n)) (hD : ∀ k, k < 289 → D 139 k = wP (rtP x y) k) : ∀ (j i : Nat) (p q : UInt64), i + j = 289 → p = cS E n s t (rtP x y) i → q = cA E n (rtP x y) i → xRun xT 111 91 [(0, .ref 130), (3, .double p), (5, .double q), (7, .int (nI i))] [] (S, I, J, D, R) b Q = Q (.ok (some (.double (co E n s t (rtP x y))))) (S, I, J, D, R) b
  | 0, i, p, q, hi, hp, hq => by
    have hr := rtP_gp h
    have e : i = 289 := by omega
    subst e
    have e2 : FP.ddiv p q = co E n s t (rtP x y) := by rw [hp, hq]; rfl
    have h1 : FP.dcmp q FP.dconst0 = some .gt := by rw [hq]; exact gp_cmp (cA_ok hB hr 288 (by decide)) uo_pos
    have h2 : isNaN64 (FP.ddiv p q) = false := by rw [e2]; exact fb_n (co_fb (s := s) (t := t) hB hr)
    rw [e111_91]
    simp only [B111_91, xSeq, i_push, i_load, i_iload, i_lload, i_dload, i_aload, i_istore, i_astore, i_lstore, i_dstore, i_iinc, i_ii, i_iiz, i_ll, i_llz, i_lli, i_li, i_i, i_l, i_i2l, i_l2i, i_dup, i_dup2, i_dup2w, i_dupx1, i_pop, i_pop2, i_goto, i_ifc, i_icmp, i_getI, i_getL, i_getR, i_putI, i_putZ, i_putL, i_putR, i_aldI, i_aldB, i_aldL, i_aldD, i_astI, i_astL, i_astD, i_alen, i_ret, i_iret, i_zret, i_lret, i_fret, i_dret, i_aret, i_invS0, i_invV0, i_m2, i_m1, i_ml, i_obj, lk, lkp, stf1, stf2, Value.category, rV, xTo, lv_args, xCk, xCat, xRc, xAk, hg_S, hg_I, hg_J, hg_D, hg_R, hs_I, hs_J, hs_D, hs_R, uI_at, uJ_at, uD_at, uR_at, List.take_succ_cons, List.take_zero, List.drop_succ_cons, List.drop_zero, List.reverse_cons, List.reverse_nil, List.nil_append, List.cons_append, List.map_cons, List.map_nil, List.sum_cons, List.sum_nil, List.length_cons, List.length_nil, Option.toList_some, Option.toList_none, true_and, and_true, false_and, and_false, true_implies, false_implies, implies_true, not_true_eq_false, not_false_eq_true, ne_eq, if_true, if_false, Bool.and_true, Bool.true_and, decide_true, decide_false, reduceIte, reduceCtorEq, Bool.and_self, Bool.and_eq_true, decide_eq_true_eq, and_self, true_or, or_true, false_or, or_false, Nat.zero_add, Nat.add_zero, eq_self, Nat.reduceEqDiff, Nat.reduceLeDiff, Nat.reduceLT, Nat.reduceAdd, Nat.reduceSub, Nat.reduceMul, LC_out hL, show ((289 : Int32) ≤ nI 289) = True from eq_true (by decide), e111_145, B111_145]
    rw [R108 h1 h2, e2]
    simp only [xSeq, i_push, i_load, i_iload, i_lload, i_dload, i_aload, i_istore, i_astore, i_lstore, i_dstore, i_iinc, i_ii, i_iiz, i_ll, i_llz, i_lli, i_li, i_i, i_l, i_i2l, i_l2i, i_dup, i_dup2, i_dup2w, i_dupx1, i_pop, i_pop2, i_goto, i_ifc, i_icmp, i_getI, i_getL, i_getR, i_putI, i_putZ, i_putL, i_putR, i_aldI, i_aldB, i_aldL, i_aldD, i_astI, i_astL, i_astD, i_alen, i_ret, i_iret, i_zret, i_lret, i_fret, i_dret, i_aret, i_invS0, i_invV0, i_m2, i_m1, i_ml, i_obj, lk, lkp, stf1, stf2, Value.category, rV, xTo, lv_args, xCk, xCat, xRc, xAk, hg_S, hg_I, hg_J, hg_D, hg_R, hs_I, hs_J, hs_D, hs_R, uI_at, uJ_at, uD_at, uR_at, List.take_succ_cons, List.take_zero, List.drop_succ_cons, List.drop_zero, List.reverse_cons, List.reverse_nil, List.nil_append, List.cons_append, List.map_cons, List.map_nil, List.sum_cons, List.sum_nil, List.length_cons, List.length_nil, Option.toList_some, Option.toList_none, true_and, and_true, false_and, and_false, true_implies, false_implies, implies_true, not_true_eq_false, not_false_eq_true, ne_eq, if_true, if_false, Bool.and_true, Bool.true_and, decide_true, decide_false, reduceIte, reduceCtorEq, Bool.and_self, Bool.and_eq_true, decide_eq_true_eq, and_self, true_or, or_true, false_or, or_false, Nat.zero_add, Nat.add_zero, eq_self, Nat.reduceEqDiff, Nat.reduceLeDiff, Nat.reduceLT, Nat.reduceAdd, Nat.reduceSub, Nat.reduceMul]
  | j + 1, i, p, q, hi, hp, hq => by
    have hr := rtP_gp h
    obtain ⟨g1, g2⟩ := hI i (by omega)
    have g3 := hD i (by omega)
    have e0 : ((289 : Int32) ≤ nI i) = False := by rw [show (289 : Int32) = nI 289 from rfl, nI_leP (by decide) (show i < 2147483648 by omega)]; exact eq_false (by omega)
    obtain ⟨a, ha⟩ : ∃ a, a = am E n s t i (2 ^ n) := ⟨_, rfl⟩
    obtain ⟨c, hc⟩ : ∃ c, c = nI (pc E n (2 ^ n) i) := ⟨_, rfl⟩
    obtain ⟨w, hw⟩ : ∃ w, w = wP (rtP x y) i := ⟨_, rfl⟩
    obtain ⟨v1, h1⟩ : ∃ v, v = cT E n s t (rtP x y) i := ⟨_, rfl⟩
    obtain ⟨v2, h2⟩ : ∃ v, v = cB E n (rtP x y) i := ⟨_, rfl⟩
    obtain ⟨v3, h3⟩ : ∃ v, v = cS E n s t (rtP x y) (i + 1) := ⟨_, rfl⟩
    obtain ⟨v4, h4⟩ : ∃ v, v = cA E n (rtP x y) (i + 1) := ⟨_, rfl⟩
    have ih := R111_91 hL hB h hI hD j (i + 1) v3 v4 (by omega) h3 h4
    rw [← ha] at g2
    rw [← hc] at g1
    rw [← hw] at g3
    have e1 : FP.dmul (FP.i2d a) w = v1 := by rw [ha, hw, h1]; rfl
    have e2 : FP.dmul (FP.i2d c) w = v2 := by rw [hc, hw, h2]; rfl
    have e3 : FP.dadd p v1 = v3 := by rw [hp, h1, h3]; rfl
    have e4 : FP.dadd q v2 = v4 := by rw [hq, h2, h4]; rfl
    have n1 : isNaN64 v1 = false := by rw [h1]; exact fb_n (cT_fb hB hr i)
    have n2 : isNaN64 v2 = false := by rw [h2]; exact fb_n (gp_fb (cB_gp hB hr i))
    have n3 : isNaN64 v3 = false := by rw [h3]; exact fb_n (cS_ok hB hr (i + 1) (by omega)).1
    have n4 : isNaN64 v4 = false := by rw [h4]; exact (cA_n hB hr (by omega)).1
    rw [e111_91]
    simp only [B111_91, xSeq, i_push, i_load, i_iload, i_lload, i_dload, i_aload, i_istore, i_astore, i_lstore, i_dstore, i_iinc, i_ii, i_iiz, i_ll, i_llz, i_lli, i_li, i_i, i_l, i_i2l, i_l2i, i_dup, i_dup2, i_dup2w, i_dupx1, i_pop, i_pop2, i_goto, i_ifc, i_icmp, i_getI, i_getL, i_getR, i_putI, i_putZ, i_putL, i_putR, i_aldI, i_aldB, i_aldL, i_aldD, i_astI, i_astL, i_astD, i_alen, i_ret, i_iret, i_zret, i_lret, i_fret, i_dret, i_aret, i_invS0, i_invV0, i_m2, i_m1, i_ml, i_obj, lk, lkp, stf1, stf2, Value.category, rV, xTo, lv_args, xCk, xCat, xRc, xAk, hg_S, hg_I, hg_J, hg_D, hg_R, hs_I, hs_J, hs_D, hs_R, uI_at, uJ_at, uD_at, uR_at, List.take_succ_cons, List.take_zero, List.drop_succ_cons, List.drop_zero, List.reverse_cons, List.reverse_nil, List.nil_append, List.cons_append, List.map_cons, List.map_nil, List.sum_cons, List.sum_nil, List.length_cons, List.length_nil, Option.toList_some, Option.toList_none, true_and, and_true, false_and, and_false, true_implies, false_implies, implies_true, not_true_eq_false, not_false_eq_true, ne_eq, if_true, if_false, Bool.and_true, Bool.true_and, decide_true, decide_false, reduceIte, reduceCtorEq, Bool.and_self, Bool.and_eq_true, decide_eq_true_eq, and_self, true_or, or_true, false_or, or_false, Nat.zero_add, Nat.add_zero, eq_self, Nat.reduceEqDiff, Nat.reduceLeDiff, Nat.reduceLT, Nat.reduceAdd, Nat.reduceSub, Nat.reduceMul, LC_out hL, e0, nI_inP (show i < 289 by omega) (by decide), nI_ix (show i < 2147483648 by omega), g1, g2, g3, i_i2d, i_dd, e1, al_eq n1, e3, al_eq n3, e2, al_eq n2, e4, al_eq n4, nI_1, ih]
theorem L111 (hL : LC S R) (hX : XL n E S I R) (hB : EB E n) (h : AB x y) (hs : s < 16) (ht : t < 16) (hD : ∀ k, k < 289 → D 139 k = wP (rtP x y) k)
    (kk : ∀ I', (∀ o k, o ≠ 137 → o ≠ 138 → I' o k = I o k) → Q (.ok (some (.double (co E n s t (rtP x y))))) (S, I', J, D, R) b) : xRun xT 111 0 [(0, .ref 130), (1, .int (nI s)), (2, .int (nI t))] [] (S, I, J, D, R) b Q := by
  have s137 : S 137 = (100, 289) := by simp only [LC_out hL]
  have s138 : S 138 = (100, 289) := by simp only [LC_out hL]
  have y1 := fun (I : xI) (b : Nat × Nat) (Q : xQ) => Y6 (S := S) (I := I) (J := J) (D := D) (R := R) (b := b) (Q := Q) (v := 0) s137 (by decide)
  have y2 := fun (I : xI) (b : Nat × Nat) (Q : xQ) => Y6 (S := S) (I := I) (J := J) (D := D) (R := R) (b := b) (Q := Q) (v := 0) s138 (by decide)
  rw [e111_0]
  simp only [B111_0, xSeq, i_push, i_load, i_iload, i_lload, i_dload, i_aload, i_istore, i_astore, i_lstore, i_dstore, i_iinc, i_ii, i_iiz, i_ll, i_llz, i_lli, i_li, i_i, i_l, i_i2l, i_l2i, i_dup, i_dup2, i_dup2w, i_dupx1, i_pop, i_pop2, i_goto, i_ifc, i_icmp, i_getI, i_getL, i_getR, i_putI, i_putZ, i_putL, i_putR, i_aldI, i_aldB, i_aldL, i_aldD, i_astI, i_astL, i_astD, i_alen, i_ret, i_iret, i_zret, i_lret, i_fret, i_dret, i_aret, i_invS0, i_invV0, i_m2, i_m1, i_ml, i_obj, lk, lkp, stf1, stf2, Value.category, rV, xTo, lv_args, xCk, xCat, xRc, xAk, hg_S, hg_I, hg_J, hg_D, hg_R, hs_I, hs_J, hs_D, hs_R, uI_at, uJ_at, uD_at, uR_at, List.take_succ_cons, List.take_zero, List.drop_succ_cons, List.drop_zero, List.reverse_cons, List.reverse_nil, List.nil_append, List.cons_append, List.map_cons, List.map_nil, List.sum_cons, List.sum_nil, List.length_cons, List.length_nil, Option.toList_some, Option.toList_none, true_and, and_true, false_and, and_false, true_implies, false_implies, implies_true, not_true_eq_false, not_false_eq_true, ne_eq, if_true, if_false, Bool.and_true, Bool.true_and, decide_true, decide_false, reduceIte, reduceCtorEq, Bool.and_self, Bool.and_eq_true, decide_eq_true_eq, and_self, true_or, or_true, false_or, or_false, Nat.zero_add, Nat.add_zero, eq_self, Nat.reduceEqDiff, Nat.reduceLeDiff, Nat.reduceLT, Nat.reduceAdd, Nat.reduceSub, Nat.reduceMul, LC_out hL, y1, y2]
  refine L111_18 (I0 := I) hL hX hB hs ht (fun I' h' => ?_) (2 ^ n) 0 _ (by omega) ⟨fun k hk => ?_, fun o k h1 h2 => ?_⟩
  · have h5 := R111_91 (S := S) (R := R) (J := J) (D := D) (b := b) (Q := Q) hL hB h h'.1 hD 289 0 FP.dconst0 FP.dconst0 (by omega) rfl rfl
    rw [nI_0] at h5
    rw [e111_83]
    simp only [B111_83, xSeq, i_push, i_load, i_iload, i_lload, i_dload, i_aload, i_istore, i_astore, i_lstore, i_dstore, i_iinc, i_ii, i_iiz, i_ll, i_llz, i_lli, i_li, i_i, i_l, i_i2l, i_l2i, i_dup, i_dup2, i_dup2w, i_dupx1, i_pop, i_pop2, i_goto, i_ifc, i_icmp, i_getI, i_getL, i_getR, i_putI, i_putZ, i_putL, i_putR, i_aldI, i_aldB, i_aldL, i_aldD, i_astI, i_astL, i_astD, i_alen, i_ret, i_iret, i_zret, i_lret, i_fret, i_dret, i_aret, i_invS0, i_invV0, i_m2, i_m1, i_ml, i_obj, lk, lkp, stf1, stf2, Value.category, rV, xTo, lv_args, xCk, xCat, xRc, xAk, hg_S, hg_I, hg_J, hg_D, hg_R, hs_I, hs_J, hs_D, hs_R, uI_at, uJ_at, uD_at, uR_at, List.take_succ_cons, List.take_zero, List.drop_succ_cons, List.drop_zero, List.reverse_cons, List.reverse_nil, List.nil_append, List.cons_append, List.map_cons, List.map_nil, List.sum_cons, List.sum_nil, List.length_cons, List.length_nil, Option.toList_some, Option.toList_none, true_and, and_true, false_and, and_false, true_implies, false_implies, implies_true, not_true_eq_false, not_false_eq_true, ne_eq, if_true, if_false, Bool.and_true, Bool.true_and, decide_true, decide_false, reduceIte, reduceCtorEq, Bool.and_self, Bool.and_eq_true, decide_eq_true_eq, and_self, true_or, or_true, false_or, or_false, Nat.zero_add, Nat.add_zero, eq_self, Nat.reduceEqDiff, Nat.reduceLeDiff, Nat.reduceLT, Nat.reduceAdd, Nat.reduceSub, Nat.reduceMul]
    rw [h5]
    exact kk I' h'.2
  · refine ⟨?_, ?_⟩
    · rw [rI_at, if_neg (by decide), rI_at, if_pos rfl, fill_at, if_pos hk]; rfl
    · rw [rI_at, if_pos rfl, fill_at, if_pos hk]; rfl
  · rw [rI_at, if_neg h2, rI_at, if_neg h1]
end
