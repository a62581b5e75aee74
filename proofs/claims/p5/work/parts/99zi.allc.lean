/-! ===== all clusters ===== -/
section
/-- places that lead down, and where they end -/
def WR (n : Nat) (p r : Nat → Nat) : Prop := ∀ k, k < n → p k ≤ k ∧ r (p k) = r k ∧ (p k = k → r k = k)
theorem WR_root {n : Nat} {p r : Nat → Nat} (h : WR n p r) : ∀ (j k : Nat), k ≤ j → k < n → r k ≤ k ∧ p (r k) = r k ∧ r (r k) = r k
  | 0, k, hj, hk => by
    obtain ⟨h1, h2, h3⟩ := h k hk
    have e : p k = k := by omega
    have e2 := h3 e
    rw [e2]
    exact ⟨Nat.le_refl _, e, e2⟩
  | j + 1, k, hj, hk => by
    obtain ⟨h1, h2, h3⟩ := h k hk
    by_cases e : p k = k
    · have e2 := h3 e
      rw [e2]
      exact ⟨Nat.le_refl _, e, e2⟩
    · obtain ⟨i1, i2, i3⟩ := WR_root h j (p k) (by omega) (by omega)
      rw [h2] at i1 i2 i3
      exact ⟨by omega, i2, i3⟩
theorem WR_join {n : Nat} {p r : Nat → Nat} (h : WR n p r) {a c : Nat} (ha : a < n) (hc : c < n) : WR n (fun k => if k = max (r a) (r c) then min (r a) (r c) else p k) (jn r a c) := by
  obtain ⟨a1, a2, a3⟩ := WR_root h a a (Nat.le_refl _) ha
  obtain ⟨c1, c2, c3⟩ := WR_root h c c (Nat.le_refl _) hc
  have hr : r (max (r a) (r c)) = max (r a) (r c) ∧ r (min (r a) (r c)) = min (r a) (r c) := by
    rcases Nat.le_total (r a) (r c) with e | e
    · rw [Nat.max_eq_right e, Nat.min_eq_left e]; exact ⟨c3, a3⟩
    · rw [Nat.max_eq_left e, Nat.min_eq_right e]; exact ⟨a3, c3⟩
  have hle : min (r a) (r c) ≤ max (r a) (r c) := Nat.le_trans (Nat.min_le_left _ _) (Nat.le_max_left _ _)
  obtain ⟨hi, hhi⟩ : ∃ hi, hi = max (r a) (r c) := ⟨_, rfl⟩
  obtain ⟨lo, hlo⟩ : ∃ lo, lo = min (r a) (r c) := ⟨_, rfl⟩
  intro k hk
  obtain ⟨h1, h2, h3⟩ := h k hk
  unfold jn
  rw [← hhi, ← hlo] at hr hle ⊢
  simp only
  by_cases e : k = hi
  · subst e
    rw [if_pos rfl, hr.1, if_pos rfl, hr.2]
    refine ⟨hle, ?_, fun e2 => e2⟩
    by_cases e2 : lo = k
    · rw [if_pos e2]
    · rw [if_neg e2]
  · rw [if_neg e, h2]
    refine ⟨h1, rfl, fun e2 => ?_⟩
    rw [h3 e2, if_neg e]
theorem WR_congr {n : Nat} {p r r' : Nat → Nat} (h : WR n p r) (e : ∀ k, k < n → r' k = r k) : WR n p r' := by
  intro k hk
  obtain ⟨h1, h2, h3⟩ := h k hk
  rw [e k hk, e (p k) (by omega)]
  exact ⟨h1, h2, h3⟩
/-- bonds drawn: the groups, the generator -/
def jd (n a bb : Nat) (st : Nat → Nat) (fi se : Nat → Nat) (x g : Nat) : Nat → List Nat × Nat
  | 0 => (List.range n, g)
  | k + 1 => if x.testBit (fi k) = x.testBit (se k) then
      (if (pd a bb (2 * st k) (jd n a bb st fi se x g k).2).1 = true then ((jd n a bb st fi se x g k).1, (pd a bb (2 * st k) (jd n a bb st fi se x g k).2).2)
       else (jl (jd n a bb st fi se x g k).1 (fi k) (se k), (pd a bb (2 * st k) (jd n a bb st fi se x g k).2).2))
    else jd n a bb st fi se x g k
theorem jd_ok {n m a bb : Nat} {st fi se dg : Nat → Nat} {sb : Nat → Nat → Nat} (hG : GR n m fi se dg sb) {x g : Nat} (hg : g < 2147483648) : ∀ k, k ≤ m → (jd n a bb st fi se x g k).1.length = n ∧ (∀ i, i < n → (jd n a bb st fi se x g k).1.getD i 0 < n) ∧ (jd n a bb st fi se x g k).2 < 2147483648
  | 0, _ => by
    refine ⟨List.length_range, fun i hi => ?_, hg⟩
    show (List.range n).getD i 0 < n
    rw [← List.getElem_eq_getD (h := by rw [List.length_range]; exact hi) 0, List.getElem_range]
    exact hi
  | k + 1, hk => by
    obtain ⟨h1, h2, h3⟩ := jd_ok (a := a) (bb := bb) (st := st) (x := x) hG hg k (by omega)
    have hp := pd_lt a bb (2 * st k) _ h3
    rw [jd]
    split
    · split
      · exact ⟨h1, h2, hp⟩
      · exact ⟨by rw [jl_len]; exact h1, jl_lt h1 h2 (hG.2.2.2.1 k (by omega)) (hG.2.2.2.2.1 k (by omega)), hp⟩
    · exact ⟨h1, h2, h3⟩
/-- a row of places -/
def PO (I0 : xI) (r : Nat → Nat) (n : Nat) (I : xI) : Prop := (∃ p, (∀ k, k < n → I 116 k = nI (p k)) ∧ WR n p r) ∧ ∀ o k, o ≠ 116 → I o k = I0 o k
/-- spins and generator of an owner as they may be, all else as before -/
def FJ (o k1 k2 : Nat) (J0 J : xJ) : Prop := (∃ x, x < 2 ^ 64 ∧ J o k1 = lN x) ∧ (∃ g, g < 2147483648 ∧ J o k2 = lN g) ∧ ∀ p k, ¬ (p = o ∧ (k = k1 ∨ k = k2)) → J p k = J0 p k
variable {S : xS} {I : xI} {J : xJ} {D : xDb} {R : xR} {b : Nat × Nat} {Q : xQ} {n m : Nat} {fi se dg : Nat → Nat} {sb : Nat → Nat → Nat}
theorem PO_CL {I0 : xI} {r : Nat → Nat} (h : PO I0 r n I) (hC : CL I0 n m fi se dg sb) : CL I n m fi se dg sb := CL_k hC (fun o k _ ho => h.2 o k (by omega))
theorem R90_4 (hL : LC S R) (hn : n ≤ 64) {p r : Nat → Nat} (hp : ∀ k, k < n → I 116 k = nI (p k)) (hW : WR n p r) : ∀ (j v i : Nat), v ≤ j → i + v < 64 → v < n → xRun xT 90 4 [(0, .ref 110), (2, .int (nI v)), (3, .int (nI i))] [] (S, I, J, D, R) b Q = Q (.ok (some (.int (nI (r v))))) (S, I, J, D, R) b
  | 0, v, i, hj, hi, hv => by
    obtain ⟨h1, h2, h3⟩ := hW v hv
    have e64 : ((64 : Int32) ≤ nI i) = False := by rw [show (64 : Int32) = nI 64 from rfl, nI_leP (by decide) (show i < 2147483648 by omega)]; exact eq_false (by omega)
    have e : p v = v := by omega
    rw [e90_4]
    simp only [B90_4, xSeq, i_push, i_load, i_iload, i_lload, i_dload, i_aload, i_istore, i_astore, i_lstore, i_dstore, i_iinc, i_ii, i_iiz, i_ll, i_llz, i_lli, i_li, i_i, i_l, i_i2l, i_l2i, i_dup, i_dup2, i_dup2w, i_dupx1, i_pop, i_pop2, i_goto, i_ifc, i_icmp, i_getI, i_getL, i_getR, i_putI, i_putZ, i_putL, i_putR, i_aldI, i_aldB, i_aldL, i_aldD, i_astI, i_astL, i_astD, i_alen, i_ret, i_iret, i_zret, i_lret, i_fret, i_dret, i_aret, i_invS0, i_invV0, i_m2, i_m1, i_ml, i_obj, lk, lkp, stf1, stf2, Value.category, rV, xTo, lv_args, xCk, xCat, xRc, xAk, hg_S, hg_I, hg_J, hg_D, hg_R, hs_I, hs_J, hs_D, hs_R, uI_at, uJ_at, uD_at, uR_at, List.take_succ_cons, List.take_zero, List.drop_succ_cons, List.drop_zero, List.reverse_cons, List.reverse_nil, List.nil_append, List.cons_append, List.map_cons, List.map_nil, List.sum_cons, List.sum_nil, List.length_cons, List.length_nil, Option.toList_some, Option.toList_none, true_and, and_true, false_and, and_false, true_implies, false_implies, implies_true, not_true_eq_false, not_false_eq_true, ne_eq, if_true, if_false, Bool.and_true, Bool.true_and, decide_true, decide_false, reduceIte, reduceCtorEq, Bool.and_self, Bool.and_eq_true, decide_eq_true_eq, and_self, true_or, or_true, false_or, or_false, Nat.zero_add, Nat.add_zero, eq_self, Nat.reduceEqDiff, Nat.reduceLeDiff, Nat.reduceLT, Nat.reduceAdd, Nat.reduceSub, Nat.reduceMul, LC_out hL, e64, nI_inP (show v < 64 by omega) (by decide), nI_ix (show v < 2147483648 by omega), hp v hv, e, e90_33, B90_33, h3 e]
  | j + 1, v, i, hj, hi, hv => by
    obtain ⟨h1, h2, h3⟩ := hW v hv
    have e64 : ((64 : Int32) ≤ nI i) = False := by rw [show (64 : Int32) = nI 64 from rfl, nI_leP (by decide) (show i < 2147483648 by omega)]; exact eq_false (by omega)
    rw [e90_4]
    by_cases e : p v = v
    · simp only [B90_4, xSeq, i_push, i_load, i_iload, i_lload, i_dload, i_aload, i_istore, i_astore, i_lstore, i_dstore, i_iinc, i_ii, i_iiz, i_ll, i_llz, i_lli, i_li, i_i, i_l, i_i2l, i_l2i, i_dup, i_dup2, i_dup2w, i_dupx1, i_pop, i_pop2, i_goto, i_ifc, i_icmp, i_getI, i_getL, i_getR, i_putI, i_putZ, i_putL, i_putR, i_aldI, i_aldB, i_aldL, i_aldD, i_astI, i_astL, i_astD, i_alen, i_ret, i_iret, i_zret, i_lret, i_fret, i_dret, i_aret, i_invS0, i_invV0, i_m2, i_m1, i_ml, i_obj, lk, lkp, stf1, stf2, Value.category, rV, xTo, lv_args, xCk, xCat, xRc, xAk, hg_S, hg_I, hg_J, hg_D, hg_R, hs_I, hs_J, hs_D, hs_R, uI_at, uJ_at, uD_at, uR_at, List.take_succ_cons, List.take_zero, List.drop_succ_cons, List.drop_zero, List.reverse_cons, List.reverse_nil, List.nil_append, List.cons_append, List.map_cons, List.map_nil, List.sum_cons, List.sum_nil, List.length_cons, List.length_nil, Option.toList_some, Option.toList_none, true_and, and_true, false_and, and_false, true_implies, false_implies, implies_true, not_true_eq_false, not_false_eq_true, ne_eq, if_true, if_false, Bool.and_true, Bool.true_and, decide_true, decide_false, reduceIte, reduceCtorEq, Bool.and_self, Bool.and_eq_true, decide_eq_true_eq, and_self, true_or, or_true, false_or, or_false, Nat.zero_add, Nat.add_zero, eq_self, Nat.reduceEqDiff, Nat.reduceLeDiff, Nat.reduceLT, Nat.reduceAdd, Nat.reduceSub, Nat.reduceMul, LC_out hL, e64, nI_inP (show v < 64 by omega) (by decide), nI_ix (show v < 2147483648 by omega), hp v hv, e, e90_33, B90_33, h3 e]
    · have ne : (nI (p v) = nI v) = False := by rw [nI_iff (show p v < 2147483648 by omega) (show v < 2147483648 by omega)]; exact eq_false e
      have hr := R90_4 hL hn hp hW j (p v) (i + 1) (by omega) (by omega) (by omega)
      rw [h2] at hr
      simp only [B90_4, xSeq, i_push, i_load, i_iload, i_lload, i_dload, i_aload, i_istore, i_astore, i_lstore, i_dstore, i_iinc, i_ii, i_iiz, i_ll, i_llz, i_lli, i_li, i_i, i_l, i_i2l, i_l2i, i_dup, i_dup2, i_dup2w, i_dupx1, i_pop, i_pop2, i_goto, i_ifc, i_icmp, i_getI, i_getL, i_getR, i_putI, i_putZ, i_putL, i_putR, i_aldI, i_aldB, i_aldL, i_aldD, i_astI, i_astL, i_astD, i_alen, i_ret, i_iret, i_zret, i_lret, i_fret, i_dret, i_aret, i_invS0, i_invV0, i_m2, i_m1, i_ml, i_obj, lk, lkp, stf1, stf2, Value.category, rV, xTo, lv_args, xCk, xCat, xRc, xAk, hg_S, hg_I, hg_J, hg_D, hg_R, hs_I, hs_J, hs_D, hs_R, uI_at, uJ_at, uD_at, uR_at, List.take_succ_cons, List.take_zero, List.drop_succ_cons, List.drop_zero, List.reverse_cons, List.reverse_nil, List.nil_append, List.cons_append, List.map_cons, List.map_nil, List.sum_cons, List.sum_nil, List.length_cons, List.length_nil, Option.toList_some, Option.toList_none, true_and, and_true, false_and, and_false, true_implies, false_implies, implies_true, not_true_eq_false, not_false_eq_true, ne_eq, if_true, if_false, Bool.and_true, Bool.true_and, decide_true, decide_false, reduceIte, reduceCtorEq, Bool.and_self, Bool.and_eq_true, decide_eq_true_eq, and_self, true_or, or_true, false_or, or_false, Nat.zero_add, Nat.add_zero, eq_self, Nat.reduceEqDiff, Nat.reduceLeDiff, Nat.reduceLT, Nat.reduceAdd, Nat.reduceSub, Nat.reduceMul, LC_out hL, e64, nI_inP (show v < 64 by omega) (by decide), nI_ix (show v < 2147483648 by omega), hp v hv, ne, nI_1]
      exact hr
theorem R90 (hL : LC S R) (hn : n ≤ 64) {p r : Nat → Nat} (hp : ∀ k, k < n → I 116 k = nI (p k)) (hW : WR n p r) {v : Nat} (hv : v < n) : xRun xT 90 0 [(0, .ref 110), (1, .int (nI v))] [] (S, I, J, D, R) b Q = Q (.ok (some (.int (nI (r v))))) (S, I, J, D, R) b := by
  have h := R90_4 (J := J) (D := D) (b := b) (Q := Q) hL hn hp hW v v 0 (Nat.le_refl _) (by omega) hv
  rw [e90_0]
  simp only [B90_0, xSeq, i_push, i_load, i_iload, i_lload, i_dload, i_aload, i_istore, i_astore, i_lstore, i_dstore, i_iinc, i_ii, i_iiz, i_ll, i_llz, i_lli, i_li, i_i, i_l, i_i2l, i_l2i, i_dup, i_dup2, i_dup2w, i_dupx1, i_pop, i_pop2, i_goto, i_ifc, i_icmp, i_getI, i_getL, i_getR, i_putI, i_putZ, i_putL, i_putR, i_aldI, i_aldB, i_aldL, i_aldD, i_astI, i_astL, i_astD, i_alen, i_ret, i_iret, i_zret, i_lret, i_fret, i_dret, i_aret, i_invS0, i_invV0, i_m2, i_m1, i_ml, i_obj, lk, lkp, stf1, stf2, Value.category, rV, xTo, lv_args, xCk, xCat, xRc, xAk, hg_S, hg_I, hg_J, hg_D, hg_R, hs_I, hs_J, hs_D, hs_R, uI_at, uJ_at, uD_at, uR_at, List.take_succ_cons, List.take_zero, List.drop_succ_cons, List.drop_zero, List.reverse_cons, List.reverse_nil, List.nil_append, List.cons_append, List.map_cons, List.map_nil, List.sum_cons, List.sum_nil, List.length_cons, List.length_nil, Option.toList_some, Option.toList_none, true_and, and_true, false_and, and_false, true_implies, false_implies, implies_true, not_true_eq_false, not_false_eq_true, ne_eq, if_true, if_false, Bool.and_true, Bool.true_and, decide_true, decide_false, reduceIte, reduceCtorEq, Bool.and_self, Bool.and_eq_true, decide_eq_true_eq, and_self, true_or, or_true, false_or, or_false, Nat.zero_add, Nat.add_zero, eq_self, Nat.reduceEqDiff, Nat.reduceLeDiff, Nat.reduceLT, Nat.reduceAdd, Nat.reduceSub, Nat.reduceMul]
  exact h
theorem L89_2 {I0 : xI} (hL : LC S R) (h2 : I0 102 2 = nI n) (hn : n ≤ 64) (kk : ∀ I, HQ 116 I0 (List.range n) I → xRun xT 89 26 [(0, .ref 110)] [] (S, I, J, D, R) b Q) : ∀ (j i : Nat) (I : xI), i + j = n → HQ 116 I0 (List.range i) I → xRun xT 89 2 [(0, .ref 110), (1, .int (nI i))] [] (S, I, J, D, R) b Q
  | 0, i, I, hi, h => by
    have e : i = n := by omega
    subst e
    rw [e89_2]
    simp only [B89_2, xSeq, i_push, i_load, i_iload, i_lload, i_dload, i_aload, i_istore, i_astore, i_lstore, i_dstore, i_iinc, i_ii, i_iiz, i_ll, i_llz, i_lli, i_li, i_i, i_l, i_i2l, i_l2i, i_dup, i_dup2, i_dup2w, i_dupx1, i_pop, i_pop2, i_goto, i_ifc, i_icmp, i_getI, i_getL, i_getR, i_putI, i_putZ, i_putL, i_putR, i_aldI, i_aldB, i_aldL, i_aldD, i_astI, i_astL, i_astD, i_alen, i_ret, i_iret, i_zret, i_lret, i_fret, i_dret, i_aret, i_invS0, i_invV0, i_m2, i_m1, i_ml, i_obj, lk, lkp, stf1, stf2, Value.category, rV, xTo, lv_args, xCk, xCat, xRc, xAk, hg_S, hg_I, hg_J, hg_D, hg_R, hs_I, hs_J, hs_D, hs_R, uI_at, uJ_at, uD_at, uR_at, List.take_succ_cons, List.take_zero, List.drop_succ_cons, List.drop_zero, List.reverse_cons, List.reverse_nil, List.nil_append, List.cons_append, List.map_cons, List.map_nil, List.sum_cons, List.sum_nil, List.length_cons, List.length_nil, Option.toList_some, Option.toList_none, true_and, and_true, false_and, and_false, true_implies, false_implies, implies_true, not_true_eq_false, not_false_eq_true, ne_eq, if_true, if_false, Bool.and_true, Bool.true_and, decide_true, decide_false, reduceIte, reduceCtorEq, Bool.and_self, Bool.and_eq_true, decide_eq_true_eq, and_self, true_or, or_true, false_or, or_false, Nat.zero_add, Nat.add_zero, eq_self, Nat.reduceEqDiff, Nat.reduceLeDiff, Nat.reduceLT, Nat.reduceAdd, Nat.reduceSub, Nat.reduceMul, LC_out hL, (h.2 _ _ (by decide)).trans h2, nI_leP (show i < 2147483648 by omega) (show i < 2147483648 by omega), Nat.le_refl]
    exact kk I h
  | j + 1, i, I, hi, h => by
    have h3 := HQ_add h i
    rw [List.length_range, ← List.range_succ] at h3
    rw [e89_2]
    simp only [B89_2, xSeq, i_push, i_load, i_iload, i_lload, i_dload, i_aload, i_istore, i_astore, i_lstore, i_dstore, i_iinc, i_ii, i_iiz, i_ll, i_llz, i_lli, i_li, i_i, i_l, i_i2l, i_l2i, i_dup, i_dup2, i_dup2w, i_dupx1, i_pop, i_pop2, i_goto, i_ifc, i_icmp, i_getI, i_getL, i_getR, i_putI, i_putZ, i_putL, i_putR, i_aldI, i_aldB, i_aldL, i_aldD, i_astI, i_astL, i_astD, i_alen, i_ret, i_iret, i_zret, i_lret, i_fret, i_dret, i_aret, i_invS0, i_invV0, i_m2, i_m1, i_ml, i_obj, lk, lkp, stf1, stf2, Value.category, rV, xTo, lv_args, xCk, xCat, xRc, xAk, hg_S, hg_I, hg_J, hg_D, hg_R, hs_I, hs_J, hs_D, hs_R, uI_at, uJ_at, uD_at, uR_at, List.take_succ_cons, List.take_zero, List.drop_succ_cons, List.drop_zero, List.reverse_cons, List.reverse_nil, List.nil_append, List.cons_append, List.map_cons, List.map_nil, List.sum_cons, List.sum_nil, List.length_cons, List.length_nil, Option.toList_some, Option.toList_none, true_and, and_true, false_and, and_false, true_implies, false_implies, implies_true, not_true_eq_false, not_false_eq_true, ne_eq, if_true, if_false, Bool.and_true, Bool.true_and, decide_true, decide_false, reduceIte, reduceCtorEq, Bool.and_self, Bool.and_eq_true, decide_eq_true_eq, and_self, true_or, or_true, false_or, or_false, Nat.zero_add, Nat.add_zero, eq_self, Nat.reduceEqDiff, Nat.reduceLeDiff, Nat.reduceLT, Nat.reduceAdd, Nat.reduceSub, Nat.reduceMul, LC_out hL, (h.2 _ _ (by decide)).trans h2, nI_leP (show n < 2147483648 by omega) (show i < 2147483648 by omega), show (n ≤ i) = False from eq_false (by omega), nI_inP (show i < 64 by omega) (by decide), nI_ix (show i < 2147483648 by omega), nI_1]
    exact L89_2 hL h2 hn kk j (i + 1) _ (by omega) h3
theorem L89_28 {I0 : xI} {J0 : xJ} (hL : LC S R) (hG : GR n m fi se dg sb) (hC0 : CL I0 n m fi se dg sb) {a bb : Nat} (hA : I0 110 7 = nI a) (hB : I0 110 8 = nI bb) (ha : a < 2147483648) (h0 : 0 < bb) (hb : bb < 2147483648)
    {st : Nat → Nat} (hst : ∀ k, k < m → I0 111 k = nI (st k)) (hs3 : ∀ k, k < m → st k < 1000000) {x g : Nat} (hx : x < 2 ^ 64) (hJ : J0 110 4 = lN x) (hg : g < 2147483648)
    (kk : ∀ I, PO I0 (fun k => (jd n a bb st fi se x g m).1.getD k 0) n I → Q (.ok none) (S, I, uJ J0 110 5 (lN (jd n a bb st fi se x g m).2), D, R) b) :
    ∀ (j i : Nat) (I : xI), i + j = m → PO I0 (fun k => (jd n a bb st fi se x g i).1.getD k 0) n I → xRun xT 89 28 [(0, .ref 110), (1, .int (nI i))] [] (S, I, uJ J0 110 5 (lN (jd n a bb st fi se x g i).2), D, R) b Q
  | 0, i, I, hi, h => by
    have hC := PO_CL h hC0
    have g2 := hG.2.2.1
    have e : i = m := by omega
    subst e
    rw [e89_28]
    simp only [B89_28, xSeq, i_push, i_load, i_iload, i_lload, i_dload, i_aload, i_istore, i_astore, i_lstore, i_dstore, i_iinc, i_ii, i_iiz, i_ll, i_llz, i_lli, i_li, i_i, i_l, i_i2l, i_l2i, i_dup, i_dup2, i_dup2w, i_dupx1, i_pop, i_pop2, i_goto, i_ifc, i_icmp, i_getI, i_getL, i_getR, i_putI, i_putZ, i_putL, i_putR, i_aldI, i_aldB, i_aldL, i_aldD, i_astI, i_astL, i_astD, i_alen, i_ret, i_iret, i_zret, i_lret, i_fret, i_dret, i_aret, i_invS0, i_invV0, i_m2, i_m1, i_ml, i_obj, lk, lkp, stf1, stf2, Value.category, rV, xTo, lv_args, xCk, xCat, xRc, xAk, hg_S, hg_I, hg_J, hg_D, hg_R, hs_I, hs_J, hs_D, hs_R, uI_at, uJ_at, uD_at, uR_at, List.take_succ_cons, List.take_zero, List.drop_succ_cons, List.drop_zero, List.reverse_cons, List.reverse_nil, List.nil_append, List.cons_append, List.map_cons, List.map_nil, List.sum_cons, List.sum_nil, List.length_cons, List.length_nil, Option.toList_some, Option.toList_none, true_and, and_true, false_and, and_false, true_implies, false_implies, implies_true, not_true_eq_false, not_false_eq_true, ne_eq, if_true, if_false, Bool.and_true, Bool.true_and, decide_true, decide_false, reduceIte, reduceCtorEq, Bool.and_self, Bool.and_eq_true, decide_eq_true_eq, and_self, true_or, or_true, false_or, or_false, Nat.zero_add, Nat.add_zero, eq_self, Nat.reduceEqDiff, Nat.reduceLeDiff, Nat.reduceLT, Nat.reduceAdd, Nat.reduceSub, Nat.reduceMul, LC_out hL, hC.2.1, nI_leP (show i < 2147483648 by omega) (show i < 2147483648 by omega), Nat.le_refl, e89_118, B89_118]
    exact kk I h
  | j + 1, k, I, hi, h => by
    have hC := PO_CL h hC0
    have hk : k < m := by omega
    have hG' := hG
    have hC' := hC
    obtain ⟨g0, g1, g2, g3, g4, g5, g6⟩ := hG'
    obtain ⟨c1, c2, c3, c4, c5, c6⟩ := hC'
    have h3 := g3 k hk
    have h4 := g4 k hk
    obtain ⟨y1, y2, y3⟩ := jd_ok (a := a) (bb := bb) (st := st) (x := x) hG hg k (by omega)
    have nx := fun I => L89_28 hL hG hC0 hA hB ha h0 hb hst hs3 hx hJ hg kk j (k + 1) I (by omega)
    rw [jd] at nx
    obtain ⟨y, hy⟩ : ∃ y, y = jd n a bb st fi se x g k := ⟨_, rfl⟩
    rw [← hy] at h y1 y2 y3 nx ⊢
    have hst' := hst k hk
    have hs3' := hs3 k hk
    have f7 : I 110 7 = nI a := (h.2 _ _ (by decide)).trans hA
    have f8 : I 110 8 = nI bb := (h.2 _ _ (by decide)).trans hB
    have f1 : I 111 k = nI (st k) := (h.2 _ _ (by decide)).trans hst'
    have e83 := fun (b : Nat × Nat) (Q : xQ) => R83 (S := S) (R := R) (I := I) (J := uJ J0 110 5 (lN y.2)) (D := D) (b := b) (Q := Q) hL f7 f8 ha h0 hb (show 2 * st k < 2147483648 by omega) y3 rfl
    obtain ⟨d, hd⟩ : ∃ d, d = pd a bb (2 * st k) y.2 := ⟨_, rfl⟩
    rw [← hd] at e83 nx
    obtain ⟨⟨p, hp, hW⟩, hf⟩ := h
    have e90 := fun (v : Nat) (hv : v < n) (J : xJ) (b : Nat × Nat) (Q : xQ) => R90 (S := S) (R := R) (I := I) (J := J) (D := D) (b := b) (Q := Q) hL g1 hp hW hv
    have r1 := y2 (fi k) h3
    have r2 := y2 (se k) h4
    rw [e89_28]
    simp only [B89_28, xSeq, i_push, i_load, i_iload, i_lload, i_dload, i_aload, i_istore, i_astore, i_lstore, i_dstore, i_iinc, i_ii, i_iiz, i_ll, i_llz, i_lli, i_li, i_i, i_l, i_i2l, i_l2i, i_dup, i_dup2, i_dup2w, i_dupx1, i_pop, i_pop2, i_goto, i_ifc, i_icmp, i_getI, i_getL, i_getR, i_putI, i_putZ, i_putL, i_putR, i_aldI, i_aldB, i_aldL, i_aldD, i_astI, i_astL, i_astD, i_alen, i_ret, i_iret, i_zret, i_lret, i_fret, i_dret, i_aret, i_invS0, i_invV0, i_m2, i_m1, i_ml, i_obj, lk, lkp, stf1, stf2, Value.category, rV, xTo, lv_args, xCk, xCat, xRc, xAk, hg_S, hg_I, hg_J, hg_D, hg_R, hs_I, hs_J, hs_D, hs_R, uI_at, uJ_at, uD_at, uR_at, List.take_succ_cons, List.take_zero, List.drop_succ_cons, List.drop_zero, List.reverse_cons, List.reverse_nil, List.nil_append, List.cons_append, List.map_cons, List.map_nil, List.sum_cons, List.sum_nil, List.length_cons, List.length_nil, Option.toList_some, Option.toList_none, true_and, and_true, false_and, and_false, true_implies, false_implies, implies_true, not_true_eq_false, not_false_eq_true, ne_eq, if_true, if_false, Bool.and_true, Bool.true_and, decide_true, decide_false, reduceIte, reduceCtorEq, Bool.and_self, Bool.and_eq_true, decide_eq_true_eq, and_self, true_or, or_true, false_or, or_false, Nat.zero_add, Nat.add_zero, eq_self, Nat.reduceEqDiff, Nat.reduceLeDiff, Nat.reduceLT, Nat.reduceAdd, Nat.reduceSub, Nat.reduceMul, LC_out hL, c2, nI_leP (show m < 2147483648 by omega) (show k < 2147483648 by omega), show (m ≤ k) = False from eq_false (by omega), hJ, R53 hL hG hC hx hk, nI_inP (show k < 128 by omega) (by decide), nI_ix (show k < 2147483648 by omega), f1, dbl, e83, uJ_uJ, c3 k hk, c4 k hk, e90 _ h3, e90 _ h4, e89_112, B89_112, nI_1, jMax_nI (show y.1.getD (fi k) 0 < 2147483648 by omega) (show y.1.getD (se k) 0 < 2147483648 by omega), jMin_nI (show y.1.getD (fi k) 0 < 2147483648 by omega) (show y.1.getD (se k) 0 < 2147483648 by omega)]
    by_cases hb2 : x.testBit (fi k) = x.testBit (se k)
    · rw [if_pos hb2] at nx
      simp only [hb2, true_and, and_true, false_and, and_false, true_implies, false_implies, implies_true, not_true_eq_false, not_false_eq_true, ne_eq, if_true, if_false, Bool.and_true, Bool.true_and, decide_true, decide_false, reduceIte, reduceCtorEq, Bool.and_self, Bool.and_eq_true, decide_eq_true_eq, and_self, true_or, or_true, false_or, or_false, Nat.zero_add, Nat.add_zero, eq_self, Nat.reduceEqDiff, Nat.reduceLeDiff, Nat.reduceLT, Nat.reduceAdd, Nat.reduceSub, Nat.reduceMul, i1_0]
      cases hd1 : d.1
      · rw [hd1, if_neg (by decide)] at nx
        have hm : max (y.1.getD (fi k) 0) (y.1.getD (se k) 0) < n := Nat.max_lt.mpr ⟨r1, r2⟩
        simp only [true_and, and_true, false_and, and_false, true_implies, false_implies, implies_true, not_true_eq_false, not_false_eq_true, ne_eq, if_true, if_false, Bool.and_true, Bool.true_and, decide_true, decide_false, reduceIte, reduceCtorEq, Bool.and_self, Bool.and_eq_true, decide_eq_true_eq, and_self, true_or, or_true, false_or, or_false, Nat.zero_add, Nat.add_zero, eq_self, Nat.reduceEqDiff, Nat.reduceLeDiff, Nat.reduceLT, Nat.reduceAdd, Nat.reduceSub, Nat.reduceMul, nI_inP (show max (y.1.getD (fi k) 0) (y.1.getD (se k) 0) < 64 by omega) (by decide), nI_ix (show max (y.1.getD (fi k) 0) (y.1.getD (se k) 0) < 2147483648 by omega)]
        refine nx _ ⟨⟨fun i => if i = max (y.1.getD (fi k) 0) (y.1.getD (se k) 0) then min (y.1.getD (fi k) 0) (y.1.getD (se k) 0) else p i, fun i hi => ?_, ?_⟩, fun o k ho => ?_⟩
        · rw [uI_at]
          by_cases e : i = max (y.1.getD (fi k) 0) (y.1.getD (se k) 0)
          · rw [if_pos ⟨rfl, e⟩]
            simp only [e, if_true]
          · rw [if_neg (fun h => e h.2), hp i hi]
            simp only [e, if_false]
        · exact WR_congr (WR_join hW h3 h4) (fun i hi => jl_at (by omega))
        · rw [uI_at, if_neg (fun e => ho e.1)]
          exact hf o k ho
      · rw [hd1, if_pos rfl] at nx
        simp only [true_and, and_true, false_and, and_false, true_implies, false_implies, implies_true, not_true_eq_false, not_false_eq_true, ne_eq, if_true, if_false, Bool.and_true, Bool.true_and, decide_true, decide_false, reduceIte, reduceCtorEq, Bool.and_self, Bool.and_eq_true, decide_eq_true_eq, and_self, true_or, or_true, false_or, or_false, Nat.zero_add, Nat.add_zero, eq_self, Nat.reduceEqDiff, Nat.reduceLeDiff, Nat.reduceLT, Nat.reduceAdd, Nat.reduceSub, Nat.reduceMul, i1_0]
        exact nx _ ⟨⟨p, hp, hW⟩, hf⟩
    · rw [if_neg hb2] at nx
      simp only [hb2, true_and, and_true, false_and, and_false, true_implies, false_implies, implies_true, not_true_eq_false, not_false_eq_true, ne_eq, if_true, if_false, Bool.and_true, Bool.true_and, decide_true, decide_false, reduceIte, reduceCtorEq, Bool.and_self, Bool.and_eq_true, decide_eq_true_eq, and_self, true_or, or_true, false_or, or_false, Nat.zero_add, Nat.add_zero, eq_self, Nat.reduceEqDiff, Nat.reduceLeDiff, Nat.reduceLT, Nat.reduceAdd, Nat.reduceSub, Nat.reduceMul]
      exact nx _ ⟨⟨p, hp, hW⟩, hf⟩
theorem L89 {J : xJ} (hL : LC S R) (hG : GR n m fi se dg sb) (hC : CL I n m fi se dg sb) {a bb : Nat} (hA : I 110 7 = nI a) (hB : I 110 8 = nI bb) (ha : a < 2147483648) (h0 : 0 < bb) (hb : bb < 2147483648)
    {st : Nat → Nat} (hst : ∀ k, k < m → I 111 k = nI (st k)) (hs3 : ∀ k, k < m → st k < 1000000) {x g : Nat} (hx : x < 2 ^ 64) (hJ : J 110 4 = lN x) (hg : g < 2147483648) (hJ2 : J 110 5 = lN g)
    (kk : ∀ I', PO I (fun k => (jd n a bb st fi se x g m).1.getD k 0) n I' → Q (.ok none) (S, I', uJ J 110 5 (lN (jd n a bb st fi se x g m).2), D, R) b) :
    xRun xT 89 0 [(0, .ref 110)] [] (S, I, J, D, R) b Q := by
  have e5 : uJ J 110 5 (lN (jd n a bb st fi se x g 0).2) = J := uJ_same hJ2
  rw [e89_0]
  simp only [B89_0, xSeq, i_push, i_load, i_iload, i_lload, i_dload, i_aload, i_istore, i_astore, i_lstore, i_dstore, i_iinc, i_ii, i_iiz, i_ll, i_llz, i_lli, i_li, i_i, i_l, i_i2l, i_l2i, i_dup, i_dup2, i_dup2w, i_dupx1, i_pop, i_pop2, i_goto, i_ifc, i_icmp, i_getI, i_getL, i_getR, i_putI, i_putZ, i_putL, i_putR, i_aldI, i_aldB, i_aldL, i_aldD, i_astI, i_astL, i_astD, i_alen, i_ret, i_iret, i_zret, i_lret, i_fret, i_dret, i_aret, i_invS0, i_invV0, i_m2, i_m1, i_ml, i_obj, lk, lkp, stf1, stf2, Value.category, rV, xTo, lv_args, xCk, xCat, xRc, xAk, hg_S, hg_I, hg_J, hg_D, hg_R, hs_I, hs_J, hs_D, hs_R, uI_at, uJ_at, uD_at, uR_at, List.take_succ_cons, List.take_zero, List.drop_succ_cons, List.drop_zero, List.reverse_cons, List.reverse_nil, List.nil_append, List.cons_append, List.map_cons, List.map_nil, List.sum_cons, List.sum_nil, List.length_cons, List.length_nil, Option.toList_some, Option.toList_none, true_and, and_true, false_and, and_false, true_implies, false_implies, implies_true, not_true_eq_false, not_false_eq_true, ne_eq, if_true, if_false, Bool.and_true, Bool.true_and, decide_true, decide_false, reduceIte, reduceCtorEq, Bool.and_self, Bool.and_eq_true, decide_eq_true_eq, and_self, true_or, or_true, false_or, or_false, Nat.zero_add, Nat.add_zero, eq_self, Nat.reduceEqDiff, Nat.reduceLeDiff, Nat.reduceLT, Nat.reduceAdd, Nat.reduceSub, Nat.reduceMul]
  refine L89_2 hL hC.1 hG.2.1 (fun I' h' => ?_) n 0 I (by omega) ⟨fun j hj => absurd hj (Nat.not_lt_zero _), fun _ _ _ => rfl⟩
  have hr := L89_28 (S := S) (R := R) (D := D) (b := b) (Q := Q) hL hG hC hA hB ha h0 hb hst hs3 hx hJ hg kk m 0 I' (by omega) ⟨⟨fun k => k, fun k hk => ?_, fun k hk => ⟨Nat.le_refl _, rfl, fun _ => ?_⟩⟩, h'.2⟩
  · rw [e5] at hr
    rw [e89_26]
    simp only [B89_26, xSeq, i_push, i_load, i_iload, i_lload, i_dload, i_aload, i_istore, i_astore, i_lstore, i_dstore, i_iinc, i_ii, i_iiz, i_ll, i_llz, i_lli, i_li, i_i, i_l, i_i2l, i_l2i, i_dup, i_dup2, i_dup2w, i_dupx1, i_pop, i_pop2, i_goto, i_ifc, i_icmp, i_getI, i_getL, i_getR, i_putI, i_putZ, i_putL, i_putR, i_aldI, i_aldB, i_aldL, i_aldD, i_astI, i_astL, i_astD, i_alen, i_ret, i_iret, i_zret, i_lret, i_fret, i_dret, i_aret, i_invS0, i_invV0, i_m2, i_m1, i_ml, i_obj, lk, lkp, stf1, stf2, Value.category, rV, xTo, lv_args, xCk, xCat, xRc, xAk, hg_S, hg_I, hg_J, hg_D, hg_R, hs_I, hs_J, hs_D, hs_R, uI_at, uJ_at, uD_at, uR_at, List.take_succ_cons, List.take_zero, List.drop_succ_cons, List.drop_zero, List.reverse_cons, List.reverse_nil, List.nil_append, List.cons_append, List.map_cons, List.map_nil, List.sum_cons, List.sum_nil, List.length_cons, List.length_nil, Option.toList_some, Option.toList_none, true_and, and_true, false_and, and_false, true_implies, false_implies, implies_true, not_true_eq_false, not_false_eq_true, ne_eq, if_true, if_false, Bool.and_true, Bool.true_and, decide_true, decide_false, reduceIte, reduceCtorEq, Bool.and_self, Bool.and_eq_true, decide_eq_true_eq, and_self, true_or, or_true, false_or, or_false, Nat.zero_add, Nat.add_zero, eq_self, Nat.reduceEqDiff, Nat.reduceLeDiff, Nat.reduceLT, Nat.reduceAdd, Nat.reduceSub, Nat.reduceMul]
    exact hr
  · have e := h'.1 k (by rw [List.length_range]; exact hk)
    rw [e, ← List.getElem_eq_getD (h := by rw [List.length_range]; exact hk) 0, List.getElem_range]
  · show (List.range n).getD k 0 = k
    rw [← List.getElem_eq_getD (h := by rw [List.length_range]; exact hk) 0, List.getElem_range]
theorem FJ_g {J0 J : xJ} {o k1 k2 : Nat} (h : FJ o k1 k2 J0 J) {g : Nat} (hg : g < 2147483648) (hk : k1 ≠ k2) : FJ o k1 k2 J0 (uJ J o k2 (lN g)) := by
  obtain ⟨⟨x, hx, h1⟩, h2, h3⟩ := h
  refine ⟨⟨x, hx, ?_⟩, ⟨g, hg, ?_⟩, fun p k hp => ?_⟩
  · rw [uJ_at, if_neg (fun e => hk e.2)]; exact h1
  · rw [uJ_at, if_pos ⟨rfl, rfl⟩]
  · rw [uJ_at, if_neg (fun e => hp ⟨e.1, Or.inr e.2⟩)]; exact h3 p k hp
theorem FJ_x {J0 J : xJ} {o k1 k2 : Nat} (h : FJ o k1 k2 J0 J) {x : Nat} (hx : x < 2 ^ 64) (hk : k1 ≠ k2) : FJ o k1 k2 J0 (uJ J o k1 (lN x)) := by
  obtain ⟨h1, ⟨g, hg, h2⟩, h3⟩ := h
  refine ⟨⟨x, hx, ?_⟩, ⟨g, hg, ?_⟩, fun p k hp => ?_⟩
  · rw [uJ_at, if_pos ⟨rfl, rfl⟩]
  · rw [uJ_at, if_neg (fun e => hk e.2.symm)]; exact h2
  · rw [uJ_at, if_neg (fun e => hp ⟨e.1, Or.inl e.2⟩)]; exact h3 p k hp
theorem L88_11 {J0 : xJ} (hL : LC S R) (h2 : I 102 2 = nI n) (hn : n ≤ 64) {r : Nat → Nat} (hr : ∀ k, k < n → r k < n) {p : Nat → Nat} (hp : ∀ k, k < n → I 116 k = nI (p k)) (hW : WR n p r)
    (kk : ∀ J, FJ 110 4 5 J0 J → Q (.ok (some (.int (nI (ct (fun s => decide (r s = s)) n))))) (S, I, J, D, R) b) :
    ∀ (j i f : Nat) (J : xJ), i + j = n → f < 2 ^ 64 → FJ 110 4 5 J0 J → xRun xT 88 11 [(0, .ref 110), (1, .long (lN f)), (3, .int (nI (ct (fun s => decide (r s = s)) i))), (4, .int (nI i))] [] (S, I, J, D, R) b Q
  | 0, i, f, J, hi, hf, h => by
    have e : i = n := by omega
    subst e
    obtain ⟨⟨x, hx, h1⟩, h3⟩ := h
    have h4 := FJ_x ⟨⟨x, hx, h1⟩, h3⟩ (Nat.xor_lt_two_pow hx hf) (by decide)
    rw [e88_11]
    simp only [B88_11, xSeq, i_push, i_load, i_iload, i_lload, i_dload, i_aload, i_istore, i_astore, i_lstore, i_dstore, i_iinc, i_ii, i_iiz, i_ll, i_llz, i_lli, i_li, i_i, i_l, i_i2l, i_l2i, i_dup, i_dup2, i_dup2w, i_dupx1, i_pop, i_pop2, i_goto, i_ifc, i_icmp, i_getI, i_getL, i_getR, i_putI, i_putZ, i_putL, i_putR, i_aldI, i_aldB, i_aldL, i_aldD, i_astI, i_astL, i_astD, i_alen, i_ret, i_iret, i_zret, i_lret, i_fret, i_dret, i_aret, i_invS0, i_invV0, i_m2, i_m1, i_ml, i_obj, lk, lkp, stf1, stf2, Value.category, rV, xTo, lv_args, xCk, xCat, xRc, xAk, hg_S, hg_I, hg_J, hg_D, hg_R, hs_I, hs_J, hs_D, hs_R, uI_at, uJ_at, uD_at, uR_at, List.take_succ_cons, List.take_zero, List.drop_succ_cons, List.drop_zero, List.reverse_cons, List.reverse_nil, List.nil_append, List.cons_append, List.map_cons, List.map_nil, List.sum_cons, List.sum_nil, List.length_cons, List.length_nil, Option.toList_some, Option.toList_none, true_and, and_true, false_and, and_false, true_implies, false_implies, implies_true, not_true_eq_false, not_false_eq_true, ne_eq, if_true, if_false, Bool.and_true, Bool.true_and, decide_true, decide_false, reduceIte, reduceCtorEq, Bool.and_self, Bool.and_eq_true, decide_eq_true_eq, and_self, true_or, or_true, false_or, or_false, Nat.zero_add, Nat.add_zero, eq_self, Nat.reduceEqDiff, Nat.reduceLeDiff, Nat.reduceLT, Nat.reduceAdd, Nat.reduceSub, Nat.reduceMul, LC_out hL, h2, nI_leP (show i < 2147483648 by omega) (show i < 2147483648 by omega), Nat.le_refl, e88_74, B88_74, h1, q_xor]
    exact kk _ h4
  | j + 1, i, f, J, hi, hf, h => by
    have e90 := fun (J : xJ) (b : Nat × Nat) (Q : xQ) => R90 (S := S) (R := R) (I := I) (J := J) (D := D) (b := b) (Q := Q) hL hn hp hW (show i < n by omega)
    have hri := hr i (by omega)
    obtain ⟨g, hg, h1⟩ := h.2.1
    have h4 := FJ_g h (nx_lt g) (by decide)
    have hd := dw_lt g (show 0 < 2 by decide)
    have nx := fun f J => L88_11 hL h2 hn hr hp hW kk j (i + 1) f J (by omega)
    rw [ct] at nx
    have e84 := fun (b : Nat × Nat) (Q : xQ) => R84 (S := S) (R := R) (I := I) (J := J) (D := D) (b := b) (Q := Q) (k := 2) hL hg h1 (by decide) (by decide)
    rw [show nI 2 = (2 : Int32) from rfl] at e84
    have hw : 2 ^ i ≤ 2 ^ 63 := Nat.pow_le_pow_right (by decide) (by omega)
    have hb1 : dw g 2 * 2 ^ i < 2 ^ 64 := by
      have : dw g 2 * 2 ^ i ≤ 1 * 2 ^ i := Nat.mul_le_mul_right _ (by omega)
      omega
    have hb2 : f / 2 ^ r i % 2 * 2 ^ i < 2 ^ 64 := by
      have : f / 2 ^ r i % 2 * 2 ^ i ≤ 1 * 2 ^ i := Nat.mul_le_mul_right _ (by omega)
      omega
    have hq : f / 2 ^ r i < 2 ^ 64 := Nat.lt_of_le_of_lt (Nat.div_le_self _ _) hf
    rw [e88_11]
    simp only [B88_11, xSeq, i_push, i_load, i_iload, i_lload, i_dload, i_aload, i_istore, i_astore, i_lstore, i_dstore, i_iinc, i_ii, i_iiz, i_ll, i_llz, i_lli, i_li, i_i, i_l, i_i2l, i_l2i, i_dup, i_dup2, i_dup2w, i_dupx1, i_pop, i_pop2, i_goto, i_ifc, i_icmp, i_getI, i_getL, i_getR, i_putI, i_putZ, i_putL, i_putR, i_aldI, i_aldB, i_aldL, i_aldD, i_astI, i_astL, i_astD, i_alen, i_ret, i_iret, i_zret, i_lret, i_fret, i_dret, i_aret, i_invS0, i_invV0, i_m2, i_m1, i_ml, i_obj, lk, lkp, stf1, stf2, Value.category, rV, xTo, lv_args, xCk, xCat, xRc, xAk, hg_S, hg_I, hg_J, hg_D, hg_R, hs_I, hs_J, hs_D, hs_R, uI_at, uJ_at, uD_at, uR_at, List.take_succ_cons, List.take_zero, List.drop_succ_cons, List.drop_zero, List.reverse_cons, List.reverse_nil, List.nil_append, List.cons_append, List.map_cons, List.map_nil, List.sum_cons, List.sum_nil, List.length_cons, List.length_nil, Option.toList_some, Option.toList_none, true_and, and_true, false_and, and_false, true_implies, false_implies, implies_true, not_true_eq_false, not_false_eq_true, ne_eq, if_true, if_false, Bool.and_true, Bool.true_and, decide_true, decide_false, reduceIte, reduceCtorEq, Bool.and_self, Bool.and_eq_true, decide_eq_true_eq, and_self, true_or, or_true, false_or, or_false, Nat.zero_add, Nat.add_zero, eq_self, Nat.reduceEqDiff, Nat.reduceLeDiff, Nat.reduceLT, Nat.reduceAdd, Nat.reduceSub, Nat.reduceMul, LC_out hL, h2, nI_leP (show n < 2147483648 by omega) (show i < 2147483648 by omega), show (n ≤ i) = False from eq_false (by omega), e90, nI_iff (show r i < 2147483648 by omega) (show i < 2147483648 by omega), e84, nI_l (show dw g 2 < 2147483648 by omega), q_shl (dw g 2) (show i < 64 by omega), q_or hf hb1, e88_68, B88_68, e88_56, B88_56, q_ushr hf (show r i < 64 by omega), q_a1 hq, q_shl (f / 2 ^ r i % 2) (show i < 64 by omega), q_or hf hb2, nI_1]
    by_cases e : r i = i
    · simp only [e, true_and, and_true, false_and, and_false, true_implies, false_implies, implies_true, not_true_eq_false, not_false_eq_true, ne_eq, if_true, if_false, Bool.and_true, Bool.true_and, decide_true, decide_false, reduceIte, reduceCtorEq, Bool.and_self, Bool.and_eq_true, decide_eq_true_eq, and_self, true_or, or_true, false_or, or_false, Nat.zero_add, Nat.add_zero, eq_self, Nat.reduceEqDiff, Nat.reduceLeDiff, Nat.reduceLT, Nat.reduceAdd, Nat.reduceSub, Nat.reduceMul] at nx ⊢
      exact nx _ _ (Nat.or_lt_two_pow hf hb1) h4
    · simp only [e, true_and, and_true, false_and, and_false, true_implies, false_implies, implies_true, not_true_eq_false, not_false_eq_true, ne_eq, if_true, if_false, Bool.and_true, Bool.true_and, decide_true, decide_false, reduceIte, reduceCtorEq, Bool.and_self, Bool.and_eq_true, decide_eq_true_eq, and_self, true_or, or_true, false_or, or_false, Nat.zero_add, Nat.add_zero, eq_self, Nat.reduceEqDiff, Nat.reduceLeDiff, Nat.reduceLT, Nat.reduceAdd, Nat.reduceSub, Nat.reduceMul] at nx ⊢
      exact nx _ _ (Nat.or_lt_two_pow hf hb2) h
theorem L88 {J : xJ} (hL : LC S R) (hG : GR n m fi se dg sb) (hC : CL I n m fi se dg sb) {a bb : Nat} (hA : I 110 7 = nI a) (hB : I 110 8 = nI bb) (ha : a < 2147483648) (h0 : 0 < bb) (hb : bb < 2147483648)
    {st : Nat → Nat} (hst : ∀ k, k < m → I 111 k = nI (st k)) (hs3 : ∀ k, k < m → st k < 1000000) {x g : Nat} (hx : x < 2 ^ 64) (hJ : J 110 4 = lN x) (hg : g < 2147483648) (hJ2 : J 110 5 = lN g)
    (kk : ∀ I' J', (∀ o k, o ≠ 116 → I' o k = I o k) → FJ 110 4 5 J J' → Q (.ok (some (.int (nI (ct (fun s => decide ((jd n a bb st fi se x g m).1.getD s 0 = s)) n))))) (S, I', J', D, R) b) :
    xRun xT 88 0 [(0, .ref 110)] [] (S, I, J, D, R) b Q := by
  obtain ⟨y1, y2, y3⟩ := jd_ok (a := a) (bb := bb) (st := st) (x := x) hG hg m (Nat.le_refl _)
  rw [e88_0]
  simp only [B88_0, xSeq, i_push, i_load, i_iload, i_lload, i_dload, i_aload, i_istore, i_astore, i_lstore, i_dstore, i_iinc, i_ii, i_iiz, i_ll, i_llz, i_lli, i_li, i_i, i_l, i_i2l, i_l2i, i_dup, i_dup2, i_dup2w, i_dupx1, i_pop, i_pop2, i_goto, i_ifc, i_icmp, i_getI, i_getL, i_getR, i_putI, i_putZ, i_putL, i_putR, i_aldI, i_aldB, i_aldL, i_aldD, i_astI, i_astL, i_astD, i_alen, i_ret, i_iret, i_zret, i_lret, i_fret, i_dret, i_aret, i_invS0, i_invV0, i_m2, i_m1, i_ml, i_obj, lk, lkp, stf1, stf2, Value.category, rV, xTo, lv_args, xCk, xCat, xRc, xAk, hg_S, hg_I, hg_J, hg_D, hg_R, hs_I, hs_J, hs_D, hs_R, uI_at, uJ_at, uD_at, uR_at, List.take_succ_cons, List.take_zero, List.drop_succ_cons, List.drop_zero, List.reverse_cons, List.reverse_nil, List.nil_append, List.cons_append, List.map_cons, List.map_nil, List.sum_cons, List.sum_nil, List.length_cons, List.length_nil, Option.toList_some, Option.toList_none, true_and, and_true, false_and, and_false, true_implies, false_implies, implies_true, not_true_eq_false, not_false_eq_true, ne_eq, if_true, if_false, Bool.and_true, Bool.true_and, decide_true, decide_false, reduceIte, reduceCtorEq, Bool.and_self, Bool.and_eq_true, decide_eq_true_eq, and_self, true_or, or_true, false_or, or_false, Nat.zero_add, Nat.add_zero, eq_self, Nat.reduceEqDiff, Nat.reduceLeDiff, Nat.reduceLT, Nat.reduceAdd, Nat.reduceSub, Nat.reduceMul, LC_out hL]
  refine L89 hL hG hC hA hB ha h0 hb hst hs3 hx hJ hg hJ2 (fun I' h' => ?_)
  obtain ⟨⟨p, hp, hW⟩, hf⟩ := h'
  simp only [xSeq, i_push, i_load, i_iload, i_lload, i_dload, i_aload, i_istore, i_astore, i_lstore, i_dstore, i_iinc, i_ii, i_iiz, i_ll, i_llz, i_lli, i_li, i_i, i_l, i_i2l, i_l2i, i_dup, i_dup2, i_dup2w, i_dupx1, i_pop, i_pop2, i_goto, i_ifc, i_icmp, i_getI, i_getL, i_getR, i_putI, i_putZ, i_putL, i_putR, i_aldI, i_aldB, i_aldL, i_aldD, i_astI, i_astL, i_astD, i_alen, i_ret, i_iret, i_zret, i_lret, i_fret, i_dret, i_aret, i_invS0, i_invV0, i_m2, i_m1, i_ml, i_obj, lk, lkp, stf1, stf2, Value.category, rV, xTo, lv_args, xCk, xCat, xRc, xAk, hg_S, hg_I, hg_J, hg_D, hg_R, hs_I, hs_J, hs_D, hs_R, uI_at, uJ_at, uD_at, uR_at, List.take_succ_cons, List.take_zero, List.drop_succ_cons, List.drop_zero, List.reverse_cons, List.reverse_nil, List.nil_append, List.cons_append, List.map_cons, List.map_nil, List.sum_cons, List.sum_nil, List.length_cons, List.length_nil, Option.toList_some, Option.toList_none, true_and, and_true, false_and, and_false, true_implies, false_implies, implies_true, not_true_eq_false, not_false_eq_true, ne_eq, if_true, if_false, Bool.and_true, Bool.true_and, decide_true, decide_false, reduceIte, reduceCtorEq, Bool.and_self, Bool.and_eq_true, decide_eq_true_eq, and_self, true_or, or_true, false_or, or_false, Nat.zero_add, Nat.add_zero, eq_self, Nat.reduceEqDiff, Nat.reduceLeDiff, Nat.reduceLT, Nat.reduceAdd, Nat.reduceSub, Nat.reduceMul]
  have h2 : I' 102 2 = nI n := (hf _ _ (by decide)).trans hC.1
  have hj : FJ 110 4 5 J (uJ J 110 5 (lN (jd n a bb st fi se x g m).2)) := FJ_g ⟨⟨x, hx, hJ⟩, ⟨g, hg, hJ2⟩, fun _ _ _ => rfl⟩ y3 (by decide)
  exact L88_11 hL h2 hG.2.1 (fun k hk => y2 k hk) hp hW (fun J' h' => kk I' J' hf h') n 0 0 _ (by omega) (by decide) hj
end
