/-! ===== correlations: the model ===== -/
section
variable {E : Nat → Int32} {n s t : Nat} {S : xS} {I : xI} {J : xJ} {D : xDb} {R : xR} {b : Nat × Nat} {Q : xQ} {x y : Nat}
/-- where the least energy lies in the model's rows -/
def gd (E : Nat → Int32) (n : Nat) : Nat := (lv E n).getD 0 0 / 17 + 56
theorem gd_ok (hB : EB E n) : gE ((lv E n).getD 0 0) + 200 = nI (gd E n) ∧ gd E n ≤ 344 := by
  have h := (lv_get hB (lv_pos hB)).1
  refine ⟨?_, by unfold gd; omega⟩
  unfold gE gd
  rw [← nI_add]
  show nI _ - 144 + 200 = nI _ + 56
  grind
theorem gd_c (hB : EB E n) {c : Nat} (hc : c < 2 ^ n) : E c + 200 = nI (gd E n + ui E n c) ∧ gd E n + ui E n c ≤ 344 := by
  have h0 := lv_min hB hc
  obtain ⟨h1, h2, h3, h4⟩ := yL_ok hB hc
  obtain ⟨-, h5, h6, -⟩ := eN_ok hB hc
  have h7 : (lv E n).getD 0 0 / 17 ≤ eN E c := by
    rw [← h2]
    exact Nat.div_le_div_right h0
  have e : gd E n + ui E n c = eN E c + 56 := by unfold gd ui; omega
  rw [e]
  exact ⟨h5, by omega⟩
/-- the rows of the model -/
def GM (E : Nat → Int32) (n s t i : Nat) (I0 I : xI) : Prop := (∀ k, gd E n + k < 401 → I 354 (gd E n + k) = nI (pc E n i k) ∧ I 353 (gd E n + k) = am E n s t k i) ∧ ∀ o k, o ≠ 353 → o ≠ 354 → I o k = I0 o k
theorem L321_55 {I0 : xI} {l1 l2 l3 l4 : Int32} (hL : LM S R)
    (kk : ∀ I, (∀ k, k < 401 → I 353 k = 0 ∧ I 354 k = 0) → (∀ o k, o ≠ 353 → o ≠ 354 → I o k = I0 o k) → xRun xT 321 85 [(0, .ref 200), (1, .int l1), (2, .int l2), (3, .int l3), (4, .int l4)] [] (S, I, J, D, R) b Q) :
    ∀ (j i : Nat) (I : xI), i + j = 401 → (∀ k, k < i → I 353 k = 0 ∧ I 354 k = 0) → (∀ o k, o ≠ 353 → o ≠ 354 → I o k = I0 o k) → xRun xT 321 55 [(0, .ref 200), (1, .int l1), (2, .int l2), (3, .int l3), (4, .int l4), (5, .int (nI i))] [] (S, I, J, D, R) b Q
  | 0, i, I, hi, h1, h2 => by
    have e : i = 401 := by omega
    subst e
    rw [e321_55]
    simp only [B321_55, xSeq, i_push, i_load, i_iload, i_lload, i_dload, i_aload, i_istore, i_astore, i_lstore, i_dstore, i_iinc, i_ii, i_iiz, i_ll, i_llz, i_lli, i_li, i_i, i_l, i_i2l, i_l2i, i_dup, i_dup2, i_dup2w, i_dupx1, i_pop, i_pop2, i_goto, i_ifc, i_icmp, i_getI, i_getL, i_getR, i_putI, i_putZ, i_putL, i_putR, i_aldI, i_aldB, i_aldL, i_aldD, i_astI, i_astL, i_astD, i_alen, i_ret, i_iret, i_zret, i_lret, i_fret, i_dret, i_aret, i_invS0, i_invV0, i_m2, i_m1, i_ml, i_obj, lk, lkp, stf1, stf2, Value.category, rV, xTo, lv_args, xCk, xCat, xRc, xAk, hg_S, hg_I, hg_J, hg_D, hg_R, hs_I, hs_J, hs_D, hs_R, uI_at, uJ_at, uD_at, uR_at, List.take_succ_cons, List.take_zero, List.drop_succ_cons, List.drop_zero, List.reverse_cons, List.reverse_nil, List.nil_append, List.cons_append, List.map_cons, List.map_nil, List.sum_cons, List.sum_nil, List.length_cons, List.length_nil, Option.toList_some, Option.toList_none, true_and, and_true, false_and, and_false, true_implies, false_implies, implies_true, not_true_eq_false, not_false_eq_true, ne_eq, if_true, if_false, Bool.and_true, Bool.true_and, decide_true, decide_false, reduceIte, reduceCtorEq, Bool.and_self, Bool.and_eq_true, decide_eq_true_eq, and_self, true_or, or_true, false_or, or_false, Nat.zero_add, Nat.add_zero, eq_self, Nat.reduceEqDiff, Nat.reduceLeDiff, Nat.reduceLT, Nat.reduceAdd, Nat.reduceSub, Nat.reduceMul, LM_out hL, show ((401 : Int32) ≤ nI 401) = True from eq_true (by decide)]
    exact kk I h1 h2
  | j + 1, i, I, hi, h1, h2 => by
    have e0 : ((401 : Int32) ≤ nI i) = False := by rw [show (401 : Int32) = nI 401 from rfl, nI_leP (by decide) (show i < 2147483648 by omega)]; exact eq_false (by omega)
    rw [e321_55]
    simp only [B321_55, xSeq, i_push, i_load, i_iload, i_lload, i_dload, i_aload, i_istore, i_astore, i_lstore, i_dstore, i_iinc, i_ii, i_iiz, i_ll, i_llz, i_lli, i_li, i_i, i_l, i_i2l, i_l2i, i_dup, i_dup2, i_dup2w, i_dupx1, i_pop, i_pop2, i_goto, i_ifc, i_icmp, i_getI, i_getL, i_getR, i_putI, i_putZ, i_putL, i_putR, i_aldI, i_aldB, i_aldL, i_aldD, i_astI, i_astL, i_astD, i_alen, i_ret, i_iret, i_zret, i_lret, i_fret, i_dret, i_aret, i_invS0, i_invV0, i_m2, i_m1, i_ml, i_obj, lk, lkp, stf1, stf2, Value.category, rV, xTo, lv_args, xCk, xCat, xRc, xAk, hg_S, hg_I, hg_J, hg_D, hg_R, hs_I, hs_J, hs_D, hs_R, uI_at, uJ_at, uD_at, uR_at, List.take_succ_cons, List.take_zero, List.drop_succ_cons, List.drop_zero, List.reverse_cons, List.reverse_nil, List.nil_append, List.cons_append, List.map_cons, List.map_nil, List.sum_cons, List.sum_nil, List.length_cons, List.length_nil, Option.toList_some, Option.toList_none, true_and, and_true, false_and, and_false, true_implies, false_implies, implies_true, not_true_eq_false, not_false_eq_true, ne_eq, if_true, if_false, Bool.and_true, Bool.true_and, decide_true, decide_false, reduceIte, reduceCtorEq, Bool.and_self, Bool.and_eq_true, decide_eq_true_eq, and_self, true_or, or_true, false_or, or_false, Nat.zero_add, Nat.add_zero, eq_self, Nat.reduceEqDiff, Nat.reduceLeDiff, Nat.reduceLT, Nat.reduceAdd, Nat.reduceSub, Nat.reduceMul, LM_out hL, e0, nI_inP (show i < 401 by omega) (by decide), nI_ix (show i < 2147483648 by omega), nI_1]
    refine L321_55 hL kk j (i + 1) _ (by omega) (fun k hk => ?_) (fun o k a c => ?_)
    · by_cases e : k = i
      · simp only [uI_at, true_and, and_true, false_and, and_false, true_implies, false_implies, implies_true, not_true_eq_false, not_false_eq_true, ne_eq, if_true, if_false, Bool.and_true, Bool.true_and, decide_true, decide_false, reduceIte, reduceCtorEq, Bool.and_self, Bool.and_eq_true, decide_eq_true_eq, and_self, true_or, or_true, false_or, or_false, Nat.zero_add, Nat.add_zero, eq_self, Nat.reduceEqDiff, Nat.reduceLeDiff, Nat.reduceLT, Nat.reduceAdd, Nat.reduceSub, Nat.reduceMul, e]
      · simp only [uI_at, true_and, and_true, false_and, and_false, true_implies, false_implies, implies_true, not_true_eq_false, not_false_eq_true, ne_eq, if_true, if_false, Bool.and_true, Bool.true_and, decide_true, decide_false, reduceIte, reduceCtorEq, Bool.and_self, Bool.and_eq_true, decide_eq_true_eq, and_self, true_or, or_true, false_or, or_false, Nat.zero_add, Nat.add_zero, eq_self, Nat.reduceEqDiff, Nat.reduceLeDiff, Nat.reduceLT, Nat.reduceAdd, Nat.reduceSub, Nat.reduceMul, e, and_false, if_false]
        exact h1 k (by omega)
    · rw [uI_at, if_neg (fun e => c e.1), uI_at, if_neg (fun e => a e.1)]
      exact h2 o k a c
theorem GM_XM {i : Nat} {I0 : xI} (h : GM E n s t i I0 I) (hX : XM n E I0) : XM n E I := by
  obtain ⟨x1, x2, x3, x4, x5⟩ := hX
  have f := h.2
  refine ⟨?_, ?_, ?_, ?_, fun c hc => ?_⟩
  · rw [f _ _ (by decide) (by decide)]; exact x1
  · rw [f _ _ (by decide) (by decide)]; exact x2
  · rw [f _ _ (by decide) (by decide)]; exact x3
  · intro i hi
    rw [f _ _ (by decide) (by decide), f _ _ (by decide) (by decide), f _ _ (by decide) (by decide)]
    exact x4 i hi
  · rw [f _ _ (by decide) (by decide)]; exact x5 c hc
theorem L321_88 {I0 : xI} {u v : Int32} (hL : LM S R) (hX0 : XM n E I0) (h10 : I0 300 10 = nI n) (hB : EB E n) (hs : s < 16) (ht : t < 16)
    (kk : ∀ I, GM E n s t (2 ^ n) I0 I → xRun xT 321 157 [(0, .ref 200), (3, .int u), (4, .int v)] [] (S, I, J, D, R) b Q) :
    ∀ (j i : Nat) (I : xI), i + j = 2 ^ n → GM E n s t i I0 I → xRun xT 321 88 [(0, .ref 200), (1, .int (nI s)), (2, .int (nI t)), (3, .int u), (4, .int v), (5, .int (nI i))] [] (S, I, J, D, R) b Q
  | 0, i, I, hi, h => by
    have hp := pow16 hB.1
    have hn := hB.1
    have h10' : I 300 10 = nI n := (h.2 _ _ (by decide) (by decide)).trans h10
    have e : i = 2 ^ n := by omega
    subst e
    rw [e321_88]
    simp only [B321_88, xSeq, i_push, i_load, i_iload, i_lload, i_dload, i_aload, i_istore, i_astore, i_lstore, i_dstore, i_iinc, i_ii, i_iiz, i_ll, i_llz, i_lli, i_li, i_i, i_l, i_i2l, i_l2i, i_dup, i_dup2, i_dup2w, i_dupx1, i_pop, i_pop2, i_goto, i_ifc, i_icmp, i_getI, i_getL, i_getR, i_putI, i_putZ, i_putL, i_putR, i_aldI, i_aldB, i_aldL, i_aldD, i_astI, i_astL, i_astD, i_alen, i_ret, i_iret, i_zret, i_lret, i_fret, i_dret, i_aret, i_invS0, i_invV0, i_m2, i_m1, i_ml, i_obj, lk, lkp, stf1, stf2, Value.category, rV, xTo, lv_args, xCk, xCat, xRc, xAk, hg_S, hg_I, hg_J, hg_D, hg_R, hs_I, hs_J, hs_D, hs_R, uI_at, uJ_at, uD_at, uR_at, List.take_succ_cons, List.take_zero, List.drop_succ_cons, List.drop_zero, List.reverse_cons, List.reverse_nil, List.nil_append, List.cons_append, List.map_cons, List.map_nil, List.sum_cons, List.sum_nil, List.length_cons, List.length_nil, Option.toList_some, Option.toList_none, true_and, and_true, false_and, and_false, true_implies, false_implies, implies_true, not_true_eq_false, not_false_eq_true, ne_eq, if_true, if_false, Bool.and_true, Bool.true_and, decide_true, decide_false, reduceIte, reduceCtorEq, Bool.and_self, Bool.and_eq_true, decide_eq_true_eq, and_self, true_or, or_true, false_or, or_false, Nat.zero_add, Nat.add_zero, eq_self, Nat.reduceEqDiff, Nat.reduceLeDiff, Nat.reduceLT, Nat.reduceAdd, Nat.reduceSub, Nat.reduceMul, LM_out hL, R303 hL h10' (show n < 31 by omega), nI_leP (show 2 ^ n < 2147483648 by omega) (show 2 ^ n < 2147483648 by omega), Nat.le_refl]
    exact kk I h
  | j + 1, i, I, hi, h => by
    have hp := pow16 hB.1
    have hn := hB.1
    have h10' : I 300 10 = nI n := (h.2 _ _ (by decide) (by decide)).trans h10
    have hX := GM_XM h hX0
    have hc : i < 2 ^ n := by omega
    obtain ⟨u1, u2⟩ := gd_c hB hc
    have nx := fun I => L321_88 hL hX0 h10 hB hs ht kk j (i + 1) I (by omega)
    obtain ⟨g1, g2⟩ := h.1 (ui E n i) (by omega)
    obtain ⟨z, hz⟩ : ∃ z, z = gd E n + ui E n i := ⟨_, rfl⟩
    rw [← hz] at u1 u2 g1 g2
    have h238 := fun (k : Nat) (hk : k < 16) (b : Nat × Nat) (Q : xQ) => R238 (S := S) (I := I) (J := J) (D := D) (R := R) (b := b) (Q := Q) (s := i) (i := k) (by omega) (by omega)
    have h238' := fun (I : xI) (k : Nat) (hk : k < 16) (b : Nat × Nat) (Q : xQ) => R238 (S := S) (I := I) (J := J) (D := D) (R := R) (b := b) (Q := Q) (s := i) (i := k) (by omega) (by omega)
    have ev : sg (i.testBit s) * sg (i.testBit t) = (if i.testBit s = i.testBit t then 1 else -1) := by
      cases i.testBit s <;> cases i.testBit t <;> rfl
    have fin : GM E n s t (i + 1) I0 (uI (uI I 353 z (am E n s t (ui E n i) i + (if i.testBit s = i.testBit t then 1 else -1))) 354 z (nI (pc E n i (ui E n i) + 1))) := by
      refine ⟨fun k hk => ?_, fun o k h1 h2 => ?_⟩
      · have e1 : pc E n (i + 1) k = pc E n i k + if decide (ui E n i = k) = true then 1 else 0 := rfl
        have e2 : am E n s t k (i + 1) = am E n s t k i + (if ui E n i = k then (if i.testBit s = i.testBit t then 1 else -1) else 0) := rfl
        rw [e1, e2]
        obtain ⟨k1, k2⟩ := h.1 k hk
        by_cases e : ui E n i = k
        · have e3 : gd E n + k = z := by omega
          simp only [uI_at, true_and, and_true, false_and, and_false, true_implies, false_implies, implies_true, not_true_eq_false, not_false_eq_true, ne_eq, if_true, if_false, Bool.and_true, Bool.true_and, decide_true, decide_false, reduceIte, reduceCtorEq, Bool.and_self, Bool.and_eq_true, decide_eq_true_eq, and_self, true_or, or_true, false_or, or_false, Nat.zero_add, Nat.add_zero, eq_self, Nat.reduceEqDiff, Nat.reduceLeDiff, Nat.reduceLT, Nat.reduceAdd, Nat.reduceSub, Nat.reduceMul, e, e3, if_true, decide_true]
        · have e3 : ¬ gd E n + k = z := by omega
          simp only [uI_at, true_and, and_true, false_and, and_false, true_implies, false_implies, implies_true, not_true_eq_false, not_false_eq_true, ne_eq, if_true, if_false, Bool.and_true, Bool.true_and, decide_true, decide_false, reduceIte, reduceCtorEq, Bool.and_self, Bool.and_eq_true, decide_eq_true_eq, and_self, true_or, or_true, false_or, or_false, Nat.zero_add, Nat.add_zero, eq_self, Nat.reduceEqDiff, Nat.reduceLeDiff, Nat.reduceLT, Nat.reduceAdd, Nat.reduceSub, Nat.reduceMul, e, e3, if_false, decide_false, Nat.add_zero, Int32.add_zero, and_false]
          exact ⟨k1, k2⟩
      · rw [uI_at, if_neg (fun e => h2 e.1), uI_at, if_neg (fun e => h1 e.1)]
        exact h.2 o k h1 h2
    rw [e321_88]
    simp only [B321_88, xSeq, i_push, i_load, i_iload, i_lload, i_dload, i_aload, i_istore, i_astore, i_lstore, i_dstore, i_iinc, i_ii, i_iiz, i_ll, i_llz, i_lli, i_li, i_i, i_l, i_i2l, i_l2i, i_dup, i_dup2, i_dup2w, i_dupx1, i_pop, i_pop2, i_goto, i_ifc, i_icmp, i_getI, i_getL, i_getR, i_putI, i_putZ, i_putL, i_putR, i_aldI, i_aldB, i_aldL, i_aldD, i_astI, i_astL, i_astD, i_alen, i_ret, i_iret, i_zret, i_lret, i_fret, i_dret, i_aret, i_invS0, i_invV0, i_m2, i_m1, i_ml, i_obj, lk, lkp, stf1, stf2, Value.category, rV, xTo, lv_args, xCk, xCat, xRc, xAk, hg_S, hg_I, hg_J, hg_D, hg_R, hs_I, hs_J, hs_D, hs_R, uI_at, uJ_at, uD_at, uR_at, List.take_succ_cons, List.take_zero, List.drop_succ_cons, List.drop_zero, List.reverse_cons, List.reverse_nil, List.nil_append, List.cons_append, List.map_cons, List.map_nil, List.sum_cons, List.sum_nil, List.length_cons, List.length_nil, Option.toList_some, Option.toList_none, true_and, and_true, false_and, and_false, true_implies, false_implies, implies_true, not_true_eq_false, not_false_eq_true, ne_eq, if_true, if_false, Bool.and_true, Bool.true_and, decide_true, decide_false, reduceIte, reduceCtorEq, Bool.and_self, Bool.and_eq_true, decide_eq_true_eq, and_self, true_or, or_true, false_or, or_false, Nat.zero_add, Nat.add_zero, eq_self, Nat.reduceEqDiff, Nat.reduceLeDiff, Nat.reduceLT, Nat.reduceAdd, Nat.reduceSub, Nat.reduceMul, LM_out hL, R303 hL h10' (show n < 31 by omega), nI_leP (show 2 ^ n < 2147483648 by omega) (show i < 2147483648 by omega), show (2 ^ n ≤ i) = False from eq_false (by omega), nI_inP (show i < 65536 by omega) (by decide), nI_ix (show i < 2147483648 by omega), hX.2.2.2.2 i hc, u1, nI_inP (show z < 401 by omega) (by decide), nI_ix (show z < 2147483648 by omega), g1, g2, nI_l (show i < 2147483648 by omega), h238 s hs, h238 t ht, ev, nI_1]
    exact nx _ fin
/-- a double from the weights -/
theorem R321_180 (hL : LM S R) (hB : EB E n) (h : AB x y) (hX : XM n E I) (hI : ∀ k, gd E n + k < 401 → I 354 (gd E n + k) = nI (pc E n (2 ^ n) k) ∧ I 353 (gd E n + k) = am E n s t k (2 ^ n)) (hD : ∀ k, k < 401 → D 352 k = wP (rtP x y) k) : ∀ (j i : Nat) (p q : UInt64), gd E n + i + j = 401 → p = cS E n s t (rtP x y) i → q = cA E n (rtP x y) i → xRun xT 321 180 [(0, .ref 200), (5, .double p), (7, .double q), (9, .int (nI (gd E n + i)))] [] (S, I, J, D, R) b Q = Q (.ok (some (.double (co E n s t (rtP x y))))) (S, I, J, D, R) b
  | 0, i, p, q, hi, hp, hq => by
    have hr := rtP_gp h
    obtain ⟨d1, d2⟩ := gd_ok hB
    have e2 : FP.ddiv p q = co E n s t (rtP x y) := by
      have hz : ∀ k, i ≤ k → pc E n (2 ^ n) k = 0 := fun k hk => pc_no hB (fun c hc e => by
        have := (gd_c hB hc).2
        omega)
      have hz2 : ∀ k, 289 ≤ k → pc E n (2 ^ n) k = 0 := fun k hk => pc_no hB (fun c hc e => by
        have := (ui_ok hB hc).2
        omega)
      have ee : cS E n s t (rtP x y) i = cS E n s t (rtP x y) 289 ∧ cA E n (rtP x y) i = cA E n (rtP x y) 289 := by
        by_cases hle : i ≤ 289
        · obtain ⟨f1, f2⟩ := c_far (s := s) (t := t) hB hr (289 - i) i (by omega) (fun k a _ => hz k a)
          rw [show i + (289 - i) = 289 by omega] at f1 f2
          exact ⟨f1.symm, f2.symm⟩
        · obtain ⟨f1, f2⟩ := c_far (s := s) (t := t) hB hr (i - 289) 289 (by omega) (fun k a _ => hz2 k a)
          rw [show 289 + (i - 289) = i by omega] at f1 f2
          exact ⟨f1, f2⟩
      rw [hp, hq, ee.1, ee.2]
      rfl
    have h2 : isNaN64 (co E n s t (rtP x y)) = false := fb_n (co_fb (s := s) (t := t) hB hr)
    have e1 : gd E n + i = 401 := by omega
    rw [e321_180, e1]
    simp only [B321_180, xSeq, i_push, i_load, i_iload, i_lload, i_dload, i_aload, i_istore, i_astore, i_lstore, i_dstore, i_iinc, i_ii, i_iiz, i_ll, i_llz, i_lli, i_li, i_i, i_l, i_i2l, i_l2i, i_dup, i_dup2, i_dup2w, i_dupx1, i_pop, i_pop2, i_goto, i_ifc, i_icmp, i_getI, i_getL, i_getR, i_putI, i_putZ, i_putL, i_putR, i_aldI, i_aldB, i_aldL, i_aldD, i_astI, i_astL, i_astD, i_alen, i_ret, i_iret, i_zret, i_lret, i_fret, i_dret, i_aret, i_invS0, i_invV0, i_m2, i_m1, i_ml, i_obj, lk, lkp, stf1, stf2, Value.category, rV, xTo, lv_args, xCk, xCat, xRc, xAk, hg_S, hg_I, hg_J, hg_D, hg_R, hs_I, hs_J, hs_D, hs_R, uI_at, uJ_at, uD_at, uR_at, List.take_succ_cons, List.take_zero, List.drop_succ_cons, List.drop_zero, List.reverse_cons, List.reverse_nil, List.nil_append, List.cons_append, List.map_cons, List.map_nil, List.sum_cons, List.sum_nil, List.length_cons, List.length_nil, Option.toList_some, Option.toList_none, true_and, and_true, false_and, and_false, true_implies, false_implies, implies_true, not_true_eq_false, not_false_eq_true, ne_eq, if_true, if_false, Bool.and_true, Bool.true_and, decide_true, decide_false, reduceIte, reduceCtorEq, Bool.and_self, Bool.and_eq_true, decide_eq_true_eq, and_self, true_or, or_true, false_or, or_false, Nat.zero_add, Nat.add_zero, eq_self, Nat.reduceEqDiff, Nat.reduceLeDiff, Nat.reduceLT, Nat.reduceAdd, Nat.reduceSub, Nat.reduceMul, LM_out hL, show ((401 : Int32) ≤ nI 401) = True from eq_true (by decide), e321_257, B321_257, i_dd, e2, al_eq h2]
  | j + 1, i, p, q, hi, hp, hq => by
    have hr := rtP_gp h
    obtain ⟨d1, d2⟩ := gd_ok hB
    obtain ⟨g1, g2⟩ := hI i (by omega)
    have g3 := hD i (by omega)
    have hpl := pc_le (n := n) hB i
    have e0 : ((401 : Int32) ≤ nI (gd E n + i)) = False := by rw [show (401 : Int32) = nI 401 from rfl, nI_leP (by decide) (show gd E n + i < 2147483648 by omega)]; exact eq_false (by omega)
    have ei : nI (gd E n + i) - 200 - I 200 50 = nI i := by
      rw [hX.2.2.1, ← nI_add, ← d1]
      grind
    have ez : (nI (pc E n (2 ^ n) i) = 0) = (pc E n (2 ^ n) i = 0) := by
      rw [show (0 : Int32) = nI 0 from rfl, nI_iff (by omega) (by decide)]
    obtain ⟨a, ha⟩ : ∃ a, a = am E n s t i (2 ^ n) := ⟨_, rfl⟩
    obtain ⟨c, hc⟩ : ∃ c, c = nI (pc E n (2 ^ n) i) := ⟨_, rfl⟩
    obtain ⟨w, hw⟩ : ∃ w, w = wP (rtP x y) i := ⟨_, rfl⟩
    obtain ⟨v1, h1⟩ : ∃ v, v = cT E n s t (rtP x y) i := ⟨_, rfl⟩
    obtain ⟨v2, h2⟩ : ∃ v, v = cB E n (rtP x y) i := ⟨_, rfl⟩
    obtain ⟨v3, h3⟩ : ∃ v, v = cS E n s t (rtP x y) (i + 1) := ⟨_, rfl⟩
    obtain ⟨v4, h4⟩ : ∃ v, v = cA E n (rtP x y) (i + 1) := ⟨_, rfl⟩
    have ih := fun p q => R321_180 hL hB h hX hI hD j (i + 1) p q (by omega)
    rw [← Nat.add_assoc] at ih
    rw [← ha] at g2
    rw [← hc] at g1 ez
    rw [← hw] at g3
    have e1 : FP.dmul (FP.i2d a) w = v1 := by rw [ha, hw, h1]; rfl
    have e2 : FP.dmul (FP.i2d c) w = v2 := by rw [hc, hw, h2]; rfl
    have e3 : FP.dadd p v1 = v3 := by rw [hp, h1, h3]; rfl
    have e4 : FP.dadd q v2 = v4 := by rw [hq, h2, h4]; rfl
    have n1 : isNaN64 v1 = false := by rw [h1]; exact fb_n (cT_fb hB hr i)
    have n2 : isNaN64 v2 = false := by rw [h2]; exact fb_n (gp_fb (cB_gp hB hr i))
    have n3 : isNaN64 v3 = false := by rw [h3]; exact fb_n (cS_ok hB hr (i + 1) (by omega)).1
    have n4 : isNaN64 v4 = false := by rw [h4]; exact (cA_n hB hr (by omega)).1
    obtain ⟨z, hz⟩ : ∃ z, z = gd E n + i := ⟨_, rfl⟩
    rw [← hz] at g1 g2 e0 ei ih ⊢
    rw [e321_180]
    simp only [B321_180, xSeq, i_push, i_load, i_iload, i_lload, i_dload, i_aload, i_istore, i_astore, i_lstore, i_dstore, i_iinc, i_ii, i_iiz, i_ll, i_llz, i_lli, i_li, i_i, i_l, i_i2l, i_l2i, i_dup, i_dup2, i_dup2w, i_dupx1, i_pop, i_pop2, i_goto, i_ifc, i_icmp, i_getI, i_getL, i_getR, i_putI, i_putZ, i_putL, i_putR, i_aldI, i_aldB, i_aldL, i_aldD, i_astI, i_astL, i_astD, i_alen, i_ret, i_iret, i_zret, i_lret, i_fret, i_dret, i_aret, i_invS0, i_invV0, i_m2, i_m1, i_ml, i_obj, lk, lkp, stf1, stf2, Value.category, rV, xTo, lv_args, xCk, xCat, xRc, xAk, hg_S, hg_I, hg_J, hg_D, hg_R, hs_I, hs_J, hs_D, hs_R, uI_at, uJ_at, uD_at, uR_at, List.take_succ_cons, List.take_zero, List.drop_succ_cons, List.drop_zero, List.reverse_cons, List.reverse_nil, List.nil_append, List.cons_append, List.map_cons, List.map_nil, List.sum_cons, List.sum_nil, List.length_cons, List.length_nil, Option.toList_some, Option.toList_none, true_and, and_true, false_and, and_false, true_implies, false_implies, implies_true, not_true_eq_false, not_false_eq_true, ne_eq, if_true, if_false, Bool.and_true, Bool.true_and, decide_true, decide_false, reduceIte, reduceCtorEq, Bool.and_self, Bool.and_eq_true, decide_eq_true_eq, and_self, true_or, or_true, false_or, or_false, Nat.zero_add, Nat.add_zero, eq_self, Nat.reduceEqDiff, Nat.reduceLeDiff, Nat.reduceLT, Nat.reduceAdd, Nat.reduceSub, Nat.reduceMul, LM_out hL, e0, nI_inP (show z < 401 by omega) (by decide), nI_ix (show z < 2147483648 by omega), g1, ez, e321_201, B321_201, g2, ei, nI_inP (show i < 401 by omega) (by decide), nI_ix (show i < 2147483648 by omega), g3, i_i2d, i_dd, e1, al_eq n1, e3, al_eq n3, e2, al_eq n2, e4, al_eq n4, e321_251, B321_251, nI_1]
    by_cases h0 : pc E n (2 ^ n) i = 0
    · obtain ⟨f1, f2⟩ := c_skip (s := s) (t := t) hB hr (k := i) (by omega) h0
      simp only [h0, true_and, and_true, false_and, and_false, true_implies, false_implies, implies_true, not_true_eq_false, not_false_eq_true, ne_eq, if_true, if_false, Bool.and_true, Bool.true_and, decide_true, decide_false, reduceIte, reduceCtorEq, Bool.and_self, Bool.and_eq_true, decide_eq_true_eq, and_self, true_or, or_true, false_or, or_false, Nat.zero_add, Nat.add_zero, eq_self, Nat.reduceEqDiff, Nat.reduceLeDiff, Nat.reduceLT, Nat.reduceAdd, Nat.reduceSub, Nat.reduceMul]
      exact ih p q (by rw [f1]; exact hp) (by rw [f2]; exact hq)
    · simp only [h0, true_and, and_true, false_and, and_false, true_implies, false_implies, implies_true, not_true_eq_false, not_false_eq_true, ne_eq, if_true, if_false, Bool.and_true, Bool.true_and, decide_true, decide_false, reduceIte, reduceCtorEq, Bool.and_self, Bool.and_eq_true, decide_eq_true_eq, and_self, true_or, or_true, false_or, or_false, Nat.zero_add, Nat.add_zero, eq_self, Nat.reduceEqDiff, Nat.reduceLeDiff, Nat.reduceLT, Nat.reduceAdd, Nat.reduceSub, Nat.reduceMul]
      exact ih v3 v4 h3 h4
theorem L321_48 (hL : LM S R) (hX : XM n E I) (h10 : I 300 10 = nI n) (hB : EB E n) (h : AB x y) (hs : s < 16) (ht : t < 16)
    (kk : ∀ I' D', (∀ o k, o ≠ 353 → o ≠ 354 → I' o k = I o k) → (∀ o k, o ≠ 352 → D' o k = D o k) → Q (.ok (some (.double (co E n s t (rtP x y))))) (S, I', J, D', R) b) : xRun xT 321 55 [(0, .ref 200), (1, .int (nI s)), (2, .int (nI t)), (3, .int (nI x)), (4, .int (nI y)), (5, .int 0)] [] (S, I, J, D, R) b Q := by
  have h55 := L321_55 (S := S) (R := R) (J := J) (D := D) (b := b) (Q := Q) (I0 := I) (l1 := nI s) (l2 := nI t) (l3 := nI x) (l4 := nI y) hL (fun I1 z1 z2 => by
    rw [e321_85]
    simp only [B321_85, xSeq, i_push, i_load, i_iload, i_lload, i_dload, i_aload, i_istore, i_astore, i_lstore, i_dstore, i_iinc, i_ii, i_iiz, i_ll, i_llz, i_lli, i_li, i_i, i_l, i_i2l, i_l2i, i_dup, i_dup2, i_dup2w, i_dupx1, i_pop, i_pop2, i_goto, i_ifc, i_icmp, i_getI, i_getL, i_getR, i_putI, i_putZ, i_putL, i_putR, i_aldI, i_aldB, i_aldL, i_aldD, i_astI, i_astL, i_astD, i_alen, i_ret, i_iret, i_zret, i_lret, i_fret, i_dret, i_aret, i_invS0, i_invV0, i_m2, i_m1, i_ml, i_obj, lk, lkp, stf1, stf2, Value.category, rV, xTo, lv_args, xCk, xCat, xRc, xAk, hg_S, hg_I, hg_J, hg_D, hg_R, hs_I, hs_J, hs_D, hs_R, uI_at, uJ_at, uD_at, uR_at, List.take_succ_cons, List.take_zero, List.drop_succ_cons, List.drop_zero, List.reverse_cons, List.reverse_nil, List.nil_append, List.cons_append, List.map_cons, List.map_nil, List.sum_cons, List.sum_nil, List.length_cons, List.length_nil, Option.toList_some, Option.toList_none, true_and, and_true, false_and, and_false, true_implies, false_implies, implies_true, not_true_eq_false, not_false_eq_true, ne_eq, if_true, if_false, Bool.and_true, Bool.true_and, decide_true, decide_false, reduceIte, reduceCtorEq, Bool.and_self, Bool.and_eq_true, decide_eq_true_eq, and_self, true_or, or_true, false_or, or_false, Nat.zero_add, Nat.add_zero, eq_self, Nat.reduceEqDiff, Nat.reduceLeDiff, Nat.reduceLT, Nat.reduceAdd, Nat.reduceSub, Nat.reduceMul]
    refine L321_88 (I0 := I) hL hX h10 hB hs ht (fun I2 h2 => ?_) (2 ^ n) 0 I1 (by omega) ⟨fun k hk => ?_, z2⟩
    · have hX2 := GM_XM h2 hX
      obtain ⟨d1, d2⟩ := gd_ok hB
      rw [e321_157]
      simp only [B321_157, xSeq, i_push, i_load, i_iload, i_lload, i_dload, i_aload, i_istore, i_astore, i_lstore, i_dstore, i_iinc, i_ii, i_iiz, i_ll, i_llz, i_lli, i_li, i_i, i_l, i_i2l, i_l2i, i_dup, i_dup2, i_dup2w, i_dupx1, i_pop, i_pop2, i_goto, i_ifc, i_icmp, i_getI, i_getL, i_getR, i_putI, i_putZ, i_putL, i_putR, i_aldI, i_aldB, i_aldL, i_aldD, i_astI, i_astL, i_astD, i_alen, i_ret, i_iret, i_zret, i_lret, i_fret, i_dret, i_aret, i_invS0, i_invV0, i_m2, i_m1, i_ml, i_obj, lk, lkp, stf1, stf2, Value.category, rV, xTo, lv_args, xCk, xCat, xRc, xAk, hg_S, hg_I, hg_J, hg_D, hg_R, hs_I, hs_J, hs_D, hs_R, uI_at, uJ_at, uD_at, uR_at, List.take_succ_cons, List.take_zero, List.drop_succ_cons, List.drop_zero, List.reverse_cons, List.reverse_nil, List.nil_append, List.cons_append, List.map_cons, List.map_nil, List.sum_cons, List.sum_nil, List.length_cons, List.length_nil, Option.toList_some, Option.toList_none, true_and, and_true, false_and, and_false, true_implies, false_implies, implies_true, not_true_eq_false, not_false_eq_true, ne_eq, if_true, if_false, Bool.and_true, Bool.true_and, decide_true, decide_false, reduceIte, reduceCtorEq, Bool.and_self, Bool.and_eq_true, decide_eq_true_eq, and_self, true_or, or_true, false_or, or_false, Nat.zero_add, Nat.add_zero, eq_self, Nat.reduceEqDiff, Nat.reduceLeDiff, Nat.reduceLT, Nat.reduceAdd, Nat.reduceSub, Nat.reduceMul, LM_out hL]
      refine L316 hL h (fun D2 w1 w2 => ?_)
      simp only [xSeq, i_push, i_load, i_iload, i_lload, i_dload, i_aload, i_istore, i_astore, i_lstore, i_dstore, i_iinc, i_ii, i_iiz, i_ll, i_llz, i_lli, i_li, i_i, i_l, i_i2l, i_l2i, i_dup, i_dup2, i_dup2w, i_dupx1, i_pop, i_pop2, i_goto, i_ifc, i_icmp, i_getI, i_getL, i_getR, i_putI, i_putZ, i_putL, i_putR, i_aldI, i_aldB, i_aldL, i_aldD, i_astI, i_astL, i_astD, i_alen, i_ret, i_iret, i_zret, i_lret, i_fret, i_dret, i_aret, i_invS0, i_invV0, i_m2, i_m1, i_ml, i_obj, lk, lkp, stf1, stf2, Value.category, rV, xTo, lv_args, xCk, xCat, xRc, xAk, hg_S, hg_I, hg_J, hg_D, hg_R, hs_I, hs_J, hs_D, hs_R, uI_at, uJ_at, uD_at, uR_at, List.take_succ_cons, List.take_zero, List.drop_succ_cons, List.drop_zero, List.reverse_cons, List.reverse_nil, List.nil_append, List.cons_append, List.map_cons, List.map_nil, List.sum_cons, List.sum_nil, List.length_cons, List.length_nil, Option.toList_some, Option.toList_none, true_and, and_true, false_and, and_false, true_implies, false_implies, implies_true, not_true_eq_false, not_false_eq_true, ne_eq, if_true, if_false, Bool.and_true, Bool.true_and, decide_true, decide_false, reduceIte, reduceCtorEq, Bool.and_self, Bool.and_eq_true, decide_eq_true_eq, and_self, true_or, or_true, false_or, or_false, Nat.zero_add, Nat.add_zero, eq_self, Nat.reduceEqDiff, Nat.reduceLeDiff, Nat.reduceLT, Nat.reduceAdd, Nat.reduceSub, Nat.reduceMul, LM_out hL, hX2.2.2.1, d1]
      have h5 := R321_180 (S := S) (R := R) (I := I2) (J := J) (D := D2) (b := b) (Q := Q) hL hB h hX2 h2.1 w1 (401 - gd E n) 0 FP.dconst0 FP.dconst0 (by omega) rfl rfl
      rw [Nat.add_zero] at h5
      rw [h5]
      exact kk I2 D2 h2.2 w2
    · obtain ⟨k1, k2⟩ := z1 (gd E n + k) hk
      exact ⟨k2, k1⟩) 401 0 I (by omega) (fun k hk => absurd hk (Nat.not_lt_zero _)) (fun _ _ _ _ => rfl)
  exact h55
end
