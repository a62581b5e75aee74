/-! ===== case of one cluster: printed by 99zh.ccase.py ===== -/
section
theorem cq_B4 {x g s : Nat} (hs : s < 16) (hg : g < 2147483648) {a bb : Nat} {st : Nat → Nat} (g1 : GR 16 32 (fE B4) (sE B4) (dE B4) (bE B4)) : cq (fun s z => mb a bb st (fE B4) (sE B4) x s z 32) 64 0 (2 ^ s, [s], g) = cq (fun s z => lb a bb st (fE B4) (sE B4) (bE B4) x s z (dE B4 s)) 64 0 (2 ^ s, [s], g) :=
  cq_congr (n := 16) (fun _ _ _ hz => mb_VC g1 hz 32 (Nat.le_refl _)) (fun s z _ => (lb_mb a bb st B4 x s z).symm) 64 0 _ (VC_0 hs hg)
end
/-! ===== all clusters ===== -/
section
/-- places that lead down, and where they end -/
def WR (n : Nat) (p r : Nat → Nat) : Prop := ∀ k, k < n → p k ≤ k ∧ r (p k) = r k ∧ (p k = k → r k = k)
theorem WR_root {n : Nat} {p r : Nat → Nat} (h : WR n p r) : ∀ (j k : Nat), k ≤ j → k < n → r k ≤ k ∧ p (r k) = r k ∧ r (r k) = r k
  | 0, k, hj, hk => by
    obtain ⟨h1, h2, h3⟩ := h k hk
    have e : p k = k := by omega
    have e2 := h3 e
    rw [e2]
    exact ⟨Nat.le_refl _, e, e2⟩
  | j + 1, k, hj, hk => by
    obtain ⟨h1, h2, h3⟩ := h k hk
    by_cases e : p k = k
    · have e2 := h3 e
      rw [e2]
      exact ⟨Nat.le_refl _, e, e2⟩
    · obtain ⟨i1, i2, i3⟩ := WR_root h j (p k) (by omega) (by omega)
      rw [h2] at i1 i2 i3
      exact ⟨by omega, i2, i3⟩
theorem WR_join {n : Nat} {p r : Nat → Nat} (h : WR n p r) {a c : Nat} (ha : a < n) (hc : c < n) : WR n (fun k => if k = max (r a) (r c) then min (r a) (r c) else p k) (jn r a c) := by
  obtain ⟨a1, a2, a3⟩ := WR_root h a a (Nat.le_refl _) ha
  obtain ⟨c1, c2, c3⟩ := WR_root h c c (Nat.le_refl _) hc
  have hr : r (max (r a) (r c)) = max (r a) (r c) ∧ r (min (r a) (r c)) = min (r a) (r c) := by
    rcases Nat.le_total (r a) (r c) with e | e
    · rw [Nat.max_eq_right e, Nat.min_eq_left e]; exact ⟨c3, a3⟩
    · rw [Nat.max_eq_left e, Nat.min_eq_right e]; exact ⟨a3, c3⟩
  have hle : min (r a) (r c) ≤ max (r a) (r c) := Nat.le_trans (Nat.min_le_left _ _) (Nat.le_max_left _ _)
  obtain ⟨hi, hhi⟩ : ∃ hi, hi = max (r a) (r c) := ⟨_, rfl⟩
  obtain ⟨lo, hlo⟩ : ∃ lo, lo = min (r a) (r c) := ⟨_, rfl⟩
  intro k hk
  obtain ⟨h1, h2, h3⟩ := h k hk
  unfold jn
  rw [← hhi, ← hlo] at hr hle ⊢
  simp only
  by_cases e : k = hi
  · subst e
    rw [if_pos rfl, hr.1, if_pos rfl, hr.2]
    refine ⟨hle, ?_, fun e2 => e2⟩
    by_cases e2 : lo = k
    · rw [if_pos e2]
    · rw [if_neg e2]
  · rw [if_neg e, h2]
    refine ⟨h1, rfl, fun e2 => ?_⟩
    rw [h3 e2, if_neg e]
theorem WR_congr {n : Nat} {p r r' : Nat → Nat} (h : WR n p r) (e : ∀ k, k < n → r' k = r k) : WR n p r' := by
  intro k hk
  obtain ⟨h1, h2, h3⟩ := h k hk
  rw [e k hk, e (p k) (by omega)]
  exact ⟨h1, h2, h3⟩
/-- bonds drawn: the groups, the generator -/
def jd (n a bb : Nat) (st : Nat → Nat) (fi se : Nat → Nat) (x g : Nat) : Nat → List Nat × Nat
  | 0 => (List.range n, g)
  | k + 1 => if x.testBit (fi k) = x.testBit (se k) then
      (if (pd a bb (2 * st k) (jd n a bb st fi se x g k).2).1 = true then ((jd n a bb st fi se x g k).1, (pd a bb (2 * st k) (jd n a bb st fi se x g k).2).2)
       else (jl (jd n a bb st fi se x g k).1 (fi k) (se k), (pd a bb (2 * st k) (jd n a bb st fi se x g k).2).2))
    else jd n a bb st fi se x g k
theorem jd_ok {n m a bb : Nat} {st fi se dg : Nat → Nat} {sb : Nat → Nat → Nat} (hG : GR n m fi se dg sb) {x g : Nat} (hg : g < 2147483648) : ∀ k, k ≤ m → (jd n a bb st fi se x g k).1.length = n ∧ (∀ i, i < n → (jd n a bb st fi se x g k).1.getD i 0 < n) ∧ (jd n a bb st fi se x g k).2 < 2147483648
  | 0, _ => by
    refine ⟨List.length_range, fun i hi => ?_, hg⟩
    show (List.range n).getD i 0 < n
    rw [← List.getElem_eq_getD (h := by rw [List.length_range]; exact hi) 0, List.getElem_range]
    exact hi
  | k + 1, hk => by
    obtain ⟨h1, h2, h3⟩ := jd_ok (a := a) (bb := bb) (st := st) (x := x) hG hg k (by omega)
    have hp := pd_lt a bb (2 * st k) _ h3
    rw [jd]
    split
    · split
      · exact ⟨h1, h2, hp⟩
      · exact ⟨by rw [jl_len]; exact h1, jl_lt h1 h2 (hG.2.2.2.1 k (by omega)) (hG.2.2.2.2.1 k (by omega)), hp⟩
    · exact ⟨h1, h2, h3⟩
/-- a row of places -/
def PO (I0 : xI) (r : Nat → Nat) (n : Nat) (I : xI) : Prop := (∃ p, (∀ k, k < n → I 116 k = nI (p k)) ∧ WR n p r) ∧ ∀ o k, o ≠ 116 → I o k = I0 o k
/-- spins and generator of an owner as they may be, all else as before -/
def FJ (o k1 k2 : Nat) (J0 J : xJ) : Prop := (∃ x, x < 2 ^ 64 ∧ J o k1 = lN x) ∧ (∃ g, g < 2147483648 ∧ J o k2 = lN g) ∧ ∀ p k, ¬ (p = o ∧ (k = k1 ∨ k = k2)) → J p k = J0 p k
variable {S : xS} {I : xI} {J : xJ} {D : xDb} {R : xR} {b : Nat × Nat} {Q : xQ} {n m : Nat} {fi se dg : Nat → Nat} {sb : Nat → Nat → Nat}
theorem PO_CL {I0 : xI} {r : Nat → Nat} (h : PO I0 r n I) (hC : CL I0 n m fi se dg sb) : CL I n m fi se dg sb := CL_k hC (fun o k _ ho => h.2 o k (by omega))
theorem R90_4 (hL : LC S R) (hn : n ≤ 64) {p r : Nat → Nat} (hp : ∀ k, k < n → I 116 k = nI (p k)) (hW : WR n p r) : ∀ (j v i : Nat), v ≤ j → i + v < 64 → v < n → xRun xT 90 4 [(0, .ref 110), (2, .int (nI v)), (3, .int (nI i))] [] (S, I, J, D, R) b Q = Q (.ok (some (.int (nI (r v))))) (S, I, J, D, R) b
  | 0, v, i, hj, hi, hv => by
    obtain ⟨h1, h2, h3⟩ := hW v hv
    have e64 : ((64 : Int32) ≤ nI i) = False := by rw [show (64 : Int32) = nI 64 from rfl, nI_leP (by decide) (show i < 2147483648 by omega)]; exact eq_false (by omega)
    have e : p v = v := by omega
    rw [e90_4]
    simp only [B90_4, xSeq, i_push, i_load, i_iload, i_lload, i_dload, i_aload, i_istore, i_astore, i_lstore, i_dstore, i_iinc, i_ii, i_iiz, i_ll, i_llz, i_lli, i_li, i_i, i_l, i_i2l, i_l2i, i_dup, i_dup2, i_dup2w, i_dupx1, i_pop, i_pop2, i_goto, i_ifc, i_icmp, i_getI, i_getL, i_getR, i_putI, i_putZ, i_putL, i_putR, i_aldI, i_aldB, i_aldL, i_aldD, i_astI, i_astL, i_astD, i_alen, i_ret, i_iret, i_zret, i_lret, i_fret, i_dret, i_aret, i_invS0, i_invV0, i_m2, i_m1, i_ml, i_obj, lk, lkp, stf1, stf2, Value.category, rV, xTo, lv_args, xCk, xCat, xRc, xAk, hg_S, hg_I, hg_J, hg_D, hg_R, hs_I, hs_J, hs_D, hs_R, uI_at, uJ_at, uD_at, uR_at, List.take_succ_cons, List.take_zero, List.drop_succ_cons, List.drop_zero, List.reverse_cons, List.reverse_nil, List.nil_append, List.cons_append, List.map_cons, List.map_nil, List.sum_cons, List.sum_nil, List.length_cons, List.length_nil, Option.toList_some, Option.toList_none, true_and, and_true, false_and, and_false, true_implies, false_implies, implies_true, not_true_eq_false, not_false_eq_true, ne_eq, if_true, if_false, Bool.and_true, Bool.true_and, decide_true, decide_false, reduceIte, reduceCtorEq, Bool.and_self, Bool.and_eq_true, decide_eq_true_eq, and_self, true_or, or_true, false_or, or_false, Nat.zero_add, Nat.add_zero, eq_self, Nat.reduceEqDiff, Nat.reduceLeDiff, Nat.reduceLT, Nat.reduceAdd, Nat.reduceSub, Nat.reduceMul, LC_out hL, e64, nI_inP (show v < 64 by omega) (by decide), nI_ix (show v < 2147483648 by omega), hp v hv, e, e90_33, B90_33, h3 e]
  | j + 1, v, i, hj, hi, hv => by
    obtain ⟨h1, h2, h3⟩ := hW v hv
    have e64 : ((64 : Int32) ≤ nI i) = False := by rw [show (64 : Int32) = nI 64 from rfl, nI_leP (by decide) (show i < 2147483648 by omega)]; exact eq_false (by omega)
    rw [e90_4]
    by_cases e : p v = v
    · simp only [B90_4, xSeq, i_push, i_load, i_iload, i_lload, i_dload, i_aload, i_istore, i_astore, i_lstore, i_dstore, i_iinc, i_ii, i_iiz, i_ll, i_llz, i_lli, i_li, i_i, i_l, i_i2l, i_l2i, i_dup, i_dup2, i_dup2w, i_dupx1, i_pop, i_pop2, i_goto, i_ifc, i_icmp, i_getI, i_getL, i_getR, i_putI, i_putZ, i_putL, i_putR, i_aldI, i_aldB, i_aldL, i_aldD, i_astI, i_astL, i_astD, i_alen, i_ret, i_iret, i_zret, i_lret, i_fret, i_dret, i_aret, i_invS0, i_invV0, i_m2, i_m1, i_ml, i_obj, lk, lkp, stf1, stf2, Value.category, rV, xTo, lv_args, xCk, xCat, xRc, xAk, hg_S, hg_I, hg_J, hg_D, hg_R, hs_I, hs_J, hs_D, hs_R, uI_at, uJ_at, uD_at, uR_at, List.take_succ_cons, List.take_zero, List.drop_succ_cons, List.drop_zero, List.reverse_cons, List.reverse_nil, List.nil_append, List.cons_append, List.map_cons, List.map_nil, List.sum_cons, List.sum_nil, List.length_cons, List.length_nil, Option.toList_some, Option.toList_none, true_and, and_true, false_and, and_false, true_implies, false_implies, implies_true, not_true_eq_false, not_false_eq_true, ne_eq, if_true, if_false, Bool.and_true, Bool.true_and, decide_true, decide_false, reduceIte, reduceCtorEq, Bool.and_self, Bool.and_eq_true, decide_eq_true_eq, and_self, true_or, or_true, false_or, or_false, Nat.zero_add, Nat.add_zero, eq_self, Nat.reduceEqDiff, Nat.reduceLeDiff, Nat.reduceLT, Nat.reduceAdd, Nat.reduceSub, Nat.reduceMul, LC_out hL, e64, nI_inP (show v < 64 by omega) (by decide), nI_ix (show v < 2147483648 by omega), hp v hv, e, e90_33, B90_33, h3 e]
    · have ne : (nI (p v) = nI v) = False := by rw [nI_iff (show p v < 2147483648 by omega) (show v < 2147483648 by omega)]; exact eq_false e
      have hr := R90_4 hL hn hp hW j (p v) (i + 1) (by omega) (by omega) (by omega)
      rw [h2] at hr
      simp only [B90_4, xSeq, i_push, i_load, i_iload, i_lload, i_dload, i_aload, i_istore, i_astore, i_lstore, i_dstore, i_iinc, i_ii, i_iiz, i_ll, i_llz, i_lli, i_li, i_i, i_l, i_i2l, i_l2i, i_dup, i_dup2, i_dup2w, i_dupx1, i_pop, i_pop2, i_goto, i_ifc, i_icmp, i_getI, i_getL, i_getR, i_putI, i_putZ, i_putL, i_putR, i_aldI, i_aldB, i_aldL, i_aldD, i_astI, i_astL, i_astD, i_alen, i_ret, i_iret, i_zret, i_lret, i_fret, i_dret, i_aret, i_invS0, i_invV0, i_m2, i_m1, i_ml, i_obj, lk, lkp, stf1, stf2, Value.category, rV, xTo, lv_args, xCk, xCat, xRc, xAk, hg_S, hg_I, hg_J, hg_D, hg_R, hs_I, hs_J, hs_D, hs_R, uI_at, uJ_at, uD_at, uR_at, List.take_succ_cons, List.take_zero, List.drop_succ_cons, List.drop_zero, List.reverse_cons, List.reverse_nil, List.nil_append, List.cons_append, List.map_cons, List.map_nil, List.sum_cons, List.sum_nil, List.length_cons, List.length_nil, Option.toList_some, Option.toList_none, true_and, and_true, false_and, and_false, true_implies, false_implies, implies_true, not_true_eq_false, not_false_eq_true, ne_eq, if_true, if_false, Bool.and_true, Bool.true_and, decide_true, decide_false, reduceIte, reduceCtorEq, Bool.and_self, Bool.and_eq_true, decide_eq_true_eq, and_self, true_or, or_true, false_or, or_false, Nat.zero_add, Nat.add_zero, eq_self, Nat.reduceEqDiff, Nat.reduceLeDiff, Nat.reduceLT, Nat.reduceAdd, Nat.reduceSub, Nat.reduceMul, LC_out hL, e64, nI_inP (show v < 64 by omega) (by decide), nI_ix (show v < 2147483648 by omega), hp v hv, ne, nI_1]
      exact hr
theorem R90 (hL : LC S R) (hn : n ≤ 64) {p r : Nat → Nat} (hp : ∀ k, k < n → I 116 k = nI (p k)) (hW : WR n p r) {v : Nat} (hv : v < n) : xRun xT 90 0 [(0, .ref 110), (1, .int (nI v))] [] (S, I, J, D, R) b Q = Q (.ok (some (.int (nI (r v))))) (S, I, J, D, R) b := by
  have h := R90_4 (J := J) (D := D) (b := b) (Q := Q) hL hn hp hW v v 0 (Nat.le_refl _) (by omega) hv
  rw [e90_0]
  simp only [B90_0, xSeq, i_push, i_load, i_iload, i_lload, i_dload, i_aload, i_istore, i_astore, i_lstore, i_dstore, i_iinc, i_ii, i_iiz, i_ll, i_llz, i_lli, i_li, i_i, i_l, i_i2l, i_l2i, i_dup, i_dup2, i_dup2w, i_dupx1, i_pop, i_pop2, i_goto, i_ifc, i_icmp, i_getI, i_getL, i_getR, i_putI, i_putZ, i_putL, i_putR, i_aldI, i_aldB, i_aldL, i_aldD, i_astI, i_astL, i_astD, i_alen, i_ret, i_iret, i_zret, i_lret, i_fret, i_dret, i_aret, i_invS0, i_invV0, i_m2, i_m1, i_ml, i_obj, lk, lkp, stf1, stf2, Value.category, rV, xTo, lv_args, xCk, xCat, xRc, xAk, hg_S, hg_I, hg_J, hg_D, hg_R, hs_I, hs_J, hs_D, hs_R, uI_at, uJ_at, uD_at, uR_at, List.take_succ_cons, List.take_zero, List.drop_succ_cons, List.drop_zero, List.reverse_cons, List.reverse_nil, List.nil_append, List.cons_append, List.map_cons, List.map_nil, List.sum_cons, List.sum_nil, List.length_cons, List.length_nil, Option.toList_some, Option.toList_none, true_and, and_true, false_and, and_false, true_implies, false_implies, implies_true, not_true_eq_false, not_false_eq_true, ne_eq, if_true, if_false, Bool.and_true, Bool.true_and, decide_true, decide_false, reduceIte, reduceCtorEq, Bool.and_self, Bool.and_eq_true, decide_eq_true_eq, and_self, true_or, or_true, false_or, or_false, Nat.zero_add, Nat.add_zero, eq_self, Nat.reduceEqDiff, Nat.reduceLeDiff, Nat.reduceLT, Nat.reduceAdd, Nat.reduceSub, Nat.reduceMul]
  exact h
theorem L89_2 {I0 : xI} (hL : LC S R) (h2 : I0 102 2 = nI n) (hn : n ≤ 64) (kk : ∀ I, HQ 116 I0 (List.range n) I → xRun xT 89 26 [(0, .ref 110)] [] (S, I, J, D, R) b Q) : ∀ (j i : Nat) (I : xI), i + j = n → HQ 116 I0 (List.range i) I → xRun xT 89 2 [(0, .ref 110), (1, .int (nI i))] [] (S, I, J, D, R) b Q
  | 0, i, I, hi, h => by
    have e : i = n := by omega
    subst e
    rw [e89_2]
    simp only [B89_2, xSeq, i_push, i_load, i_iload, i_lload, i_dload, i_aload, i_istore, i_astore, i_lstore, i_dstore, i_iinc, i_ii, i_iiz, i_ll, i_llz, i_lli, i_li, i_i, i_l, i_i2l, i_l2i, i_dup, i_dup2, i_dup2w, i_dupx1, i_pop, i_pop2, i_goto, i_ifc, i_icmp, i_getI, i_getL, i_getR, i_putI, i_putZ, i_putL, i_putR, i_aldI, i_aldB, i_aldL, i_aldD, i_astI, i_astL, i_astD, i_alen, i_ret, i_iret, i_zret, i_lret, i_fret, i_dret, i_aret, i_invS0, i_invV0, i_m2, i_m1, i_ml, i_obj, lk, lkp, stf1, stf2, Value.category, rV, xTo, lv_args, xCk, xCat, xRc, xAk, hg_S, hg_I, hg_J, hg_D, hg_R, hs_I, hs_J, hs_D, hs_R, uI_at, uJ_at, uD_at, uR_at, List.take_succ_cons, List.take_zero, List.drop_succ_cons, List.drop_zero, List.reverse_cons, List.reverse_nil, List.nil_append, List.cons_append, List.map_cons, List.map_nil, List.sum_cons, List.sum_nil, List.length_cons, List.length_nil, Option.toList_some, Option.toList_none, true_and, and_true, false_and, and_false, true_implies, false_implies, implies_true, not_true_eq_false, not_false_eq_true, ne_eq, if_true, if_false, Bool.and_true, Bool.true_and, decide_true, decide_false, reduceIte, reduceCtorEq, Bool.and_self, Bool.and_eq_true, decide_eq_true_eq, and_self, true_or, or_true, false_or, or_false, Nat.zero_add, Nat.add_zero, eq_self, Nat.reduceEqDiff, Nat.reduceLeDiff, Nat.reduceLT, Nat.reduceAdd, Nat.reduceSub, Nat.reduceMul, LC_out hL, (h.2 _ _ (by decide)).trans h2, nI_leP (show i < 2147483648 by omega) (show i < 2147483648 by omega), Nat.le_refl]
    exact kk I h
  | j + 1, i, I, hi, h => by
    have h3 := HQ_add h i
    rw [List.length_range, ← List.range_succ] at h3
    rw [e89_2]
    simp only [B89_2, xSeq, i_push, i_load, i_iload, i_lload, i_dload, i_aload, i_istore, i_astore, i_lstore, i_dstore, i_iinc, i_ii, i_iiz, i_ll, i_llz, i_lli, i_li, i_i, i_l, i_i2l, i_l2i, i_dup, i_dup2, i_dup2w, i_dupx1, i_pop, i_pop2, i_goto, i_ifc, i_icmp, i_getI, i_getL, i_getR, i_putI, i_putZ, i_putL, i_putR, i_aldI, i_aldB, i_aldL, i_aldD, i_astI, i_astL, i_astD, i_alen, i_ret, i_iret, i_zret, i_lret, i_fret, i_dret, i_aret, i_invS0, i_invV0, i_m2, i_m1, i_ml, i_obj, lk, lkp, stf1, stf2, Value.category, rV, xTo, lv_args, xCk, xCat, xRc, xAk, hg_S, hg_I, hg_J, hg_D, hg_R, hs_I, hs_J, hs_D, hs_R, uI_at, uJ_at, uD_at, uR_at, List.take_succ_cons, List.take_zero, List.drop_succ_cons, List.drop_zero, List.reverse_cons, List.reverse_nil, List.nil_append, List.cons_append, List.map_cons, List.map_nil, List.sum_cons, List.sum_nil, List.length_cons, List.length_nil, Option.toList_some, Option.toList_none, true_and, and_true, false_and, and_false, true_implies, false_implies, implies_true, not_true_eq_false, not_false_eq_true, ne_eq, if_true, if_false, Bool.and_true, Bool.true_and, decide_true, decide_false, reduceIte, reduceCtorEq, Bool.and_self, Bool.and_eq_true, decide_eq_true_eq, and_self, true_or, or_true, false_or, or_false, Nat.zero_add, Nat.add_zero, eq_self, Nat.reduceEqDiff, Nat.reduceLeDiff, Nat.reduceLT, Nat.reduceAdd, Nat.reduceSub, Nat.reduceMul, LC_out hL, (h.2 _ _ (by decide)).trans h2, nI_leP (show n < 2147483648 by omega) (show i < 2147483648 by omega), show (n ≤ i) = False from eq_false (by omega), nI_inP (show i < 64 by omega) (by decide), nI_ix (show i < 2147483648 by omega), nI_1]
    exact L89_2 hL h2 hn kk j (i + 1) _ (by omega) h3
theorem L89_28 {I0 : xI} {J0 : xJ} (hL : LC S R) (hG : GR n m fi se dg sb) (hC0 : CL I0 n m fi se dg sb) {a bb : Nat} (hA : I0 110 7 = nI a) (hB : I0 110 8 = nI bb) (ha : a < 2147483648) (h0 : 0 < bb) (hb : bb < 2147483648)
    {st : Nat → Nat} (hst : ∀ k, k < m → I0 111 k = nI (st k)) (hs3 : ∀ k, k < m → st k < 1000000) {x g : Nat} (hx : x < 2 ^ 64) (hJ : J0 110 4 = lN x) (hg : g < 2147483648)
    (kk : ∀ I, PO I0 (fun k => (jd n a bb st fi se x g m).1.getD k 0) n I → Q (.ok none) (S, I, uJ J0 110 5 (lN (jd n a bb st fi se x g m).2), D, R) b) :
    ∀ (j i : Nat) (I : xI), i + j = m → PO I0 (fun k => (jd n a bb st fi se x g i).1.getD k 0) n I → xRun xT 89 28 [(0, .ref 110), (1, .int (nI i))] [] (S, I, uJ J0 110 5 (lN (jd n a bb st fi se x g i).2), D, R) b Q
  | 0, i, I, hi, h => by
    have hC := PO_CL h hC0
    have g2 := hG.2.2.1
    have e : i = m := by omega
    subst e
    rw [e89_28]
    simp only [B89_28, xSeq, i_push, i_load, i_iload, i_lload, i_dload, i_aload, i_istore, i_astore, i_lstore, i_dstore, i_iinc, i_ii, i_iiz, i_ll, i_llz, i_lli, i_li, i_i, i_l, i_i2l, i_l2i, i_dup, i_dup2, i_dup2w, i_dupx1, i_pop, i_pop2, i_goto, i_ifc, i_icmp, i_getI, i_getL, i_getR, i_putI, i_putZ, i_putL, i_putR, i_aldI, i_aldB, i_aldL, i_aldD, i_astI, i_astL, i_astD, i_alen, i_ret, i_iret, i_zret, i_lret, i_fret, i_dret, i_aret, i_invS0, i_invV0, i_m2, i_m1, i_ml, i_obj, lk, lkp, stf1, stf2, Value.category, rV, xTo, lv_args, xCk, xCat, xRc, xAk, hg_S, hg_I, hg_J, hg_D, hg_R, hs_I, hs_J, hs_D, hs_R, uI_at, uJ_at, uD_at, uR_at, List.take_succ_cons, List.take_zero, List.drop_succ_cons, List.drop_zero, List.reverse_cons, List.reverse_nil, List.nil_append, List.cons_append, List.map_cons, List.map_nil, List.sum_cons, List.sum_nil, List.length_cons, List.length_nil, Option.toList_some, Option.toList_none, true_and, and_true, false_and, and_false, true_implies, false_implies, implies_true, not_true_eq_false, not_false_eq_true, ne_eq, if_true, if_false, Bool.and_true, Bool.true_and, decide_true, decide_false, reduceIte, reduceCtorEq, Bool.and_self, Bool.and_eq_true, decide_eq_true_eq, and_self, true_or, or_true, false_or, or_false, Nat.zero_add, Nat.add_zero, eq_self, Nat.reduceEqDiff, Nat.reduceLeDiff, Nat.reduceLT, Nat.reduceAdd, Nat.reduceSub, Nat.reduceMul, LC_out hL, hC.2.1, nI_leP (show i < 2147483648 by omega) (show i < 2147483648 by omega), Nat.le_refl, e89_118, B89_118]
    exact kk I h
  | j + 1, k, I, hi, h => by
    have hC := PO_CL h hC0
    have hk : k < m := by omega
    have hG' := hG
    have hC' := hC
    obtain ⟨g0, g1, g2, g3, g4, g5, g6⟩ := hG'
    obtain ⟨c1, c2, c3, c4, c5, c6⟩ := hC'
    have h3 := g3 k hk
    have h4 := g4 k hk
    obtain ⟨y1, y2, y3⟩ := jd_ok (a := a) (bb := bb) (st := st) (x := x) hG hg k (by omega)
    have nx := fun I => L89_28 hL hG hC0 hA hB ha h0 hb hst hs3 hx hJ hg kk j (k + 1) I (by omega)
    rw [jd] at nx
    obtain ⟨y, hy⟩ : ∃ y, y = jd n a bb st fi se x g k := ⟨_, rfl⟩
    rw [← hy] at h y1 y2 y3 nx ⊢
    have hst' := hst k hk
    have hs3' := hs3 k hk
    have f7 : I 110 7 = nI a := (h.2 _ _ (by decide)).trans hA
    have f8 : I 110 8 = nI bb := (h.2 _ _ (by decide)).trans hB
    have f1 : I 111 k = nI (st k) := (h.2 _ _ (by decide)).trans hst'
    have e83 := fun (b : Nat × Nat) (Q : xQ) => R83 (S := S) (R := R) (I := I) (J := uJ J0 110 5 (lN y.2)) (D := D) (b := b) (Q := Q) hL f7 f8 ha h0 hb (show 2 * st k < 2147483648 by omega) y3 rfl
    obtain ⟨d, hd⟩ : ∃ d, d = pd a bb (2 * st k) y.2 := ⟨_, rfl⟩
    rw [← hd] at e83 nx
    obtain ⟨⟨p, hp, hW⟩, hf⟩ := h
    have e90 := fun (v : Nat) (hv : v < n) (J : xJ) (b : Nat × Nat) (Q : xQ) => R90 (S := S) (R := R) (I := I) (J := J) (D := D) (b := b) (Q := Q) hL g1 hp hW hv
    have r1 := y2 (fi k) h3
    have r2 := y2 (se k) h4
    rw [e89_28]
    simp only [B89_28, xSeq, i_push, i_load, i_iload, i_lload, i_dload, i_aload, i_istore, i_astore, i_lstore, i_dstore, i_iinc, i_ii, i_iiz, i_ll, i_llz, i_lli, i_li, i_i, i_l, i_i2l, i_l2i, i_dup, i_dup2, i_dup2w, i_dupx1, i_pop, i_pop2, i_goto, i_ifc, i_icmp, i_getI, i_getL, i_getR, i_putI, i_putZ, i_putL, i_putR, i_aldI, i_aldB, i_aldL, i_aldD, i_astI, i_astL, i_astD, i_alen, i_ret, i_iret, i_zret, i_lret, i_fret, i_dret, i_aret, i_invS0, i_invV0, i_m2, i_m1, i_ml, i_obj, lk, lkp, stf1, stf2, Value.category, rV, xTo, lv_args, xCk, xCat, xRc, xAk, hg_S, hg_I, hg_J, hg_D, hg_R, hs_I, hs_J, hs_D, hs_R, uI_at, uJ_at, uD_at, uR_at, List.take_succ_cons, List.take_zero, List.drop_succ_cons, List.drop_zero, List.reverse_cons, List.reverse_nil, List.nil_append, List.cons_append, List.map_cons, List.map_nil, List.sum_cons, List.sum_nil, List.length_cons, List.length_nil, Option.toList_some, Option.toList_none, true_and, and_true, false_and, and_false, true_implies, false_implies, implies_true, not_true_eq_false, not_false_eq_true, ne_eq, if_true, if_false, Bool.and_true, Bool.true_and, decide_true, decide_false, reduceIte, reduceCtorEq, Bool.and_self, Bool.and_eq_true, decide_eq_true_eq, and_self, true_or, or_true, false_or, or_false, Nat.zero_add, Nat.add_zero, eq_self, Nat.reduceEqDiff, Nat.reduceLeDiff, Nat.reduceLT, Nat.reduceAdd, Nat.reduceSub, Nat.reduceMul, LC_out hL, c2, nI_leP (show m < 2147483648 by omega) (show k < 2147483648 by omega), show (m ≤ k) = False from eq_false (by omega), hJ, R53 hL hG hC hx hk, nI_inP (show k < 128 by omega) (by decide), nI_ix (show k < 2147483648 by omega), f1, dbl, e83, uJ_uJ, c3 k hk, c4 k hk, e90 _ h3, e90 _ h4, e89_112, B89_112, nI_1, jMax_nI (show y.1.getD (fi k) 0 < 2147483648 by omega) (show y.1.getD (se k) 0 < 2147483648 by omega), jMin_nI (show y.1.getD (fi k) 0 < 2147483648 by omega) (show y.1.getD (se k) 0 < 2147483648 by omega)]
    by_cases hb2 : x.testBit (fi k) = x.testBit (se k)
    · rw [if_pos hb2] at nx
      simp only [hb2, true_and, and_true, false_and, and_false, true_implies, false_implies, implies_true, not_true_eq_false, not_false_eq_true, ne_eq, if_true, if_false, Bool.and_true, Bool.true_and, decide_true, decide_false, reduceIte, reduceCtorEq, Bool.and_self, Bool.and_eq_true, decide_eq_true_eq, and_self, true_or, or_true, false_or, or_false, Nat.zero_add, Nat.add_zero, eq_self, Nat.reduceEqDiff, Nat.reduceLeDiff, Nat.reduceLT, Nat.reduceAdd, Nat.reduceSub, Nat.reduceMul, i1_0]
      cases hd1 : d.1
      · rw [hd1, if_neg (by decide)] at nx
        have hm : max (y.1.getD (fi k) 0) (y.1.getD (se k) 0) < n := Nat.max_lt.mpr ⟨r1, r2⟩
        simp only [true_and, and_true, false_and, and_false, true_implies, false_implies, implies_true, not_true_eq_false, not_false_eq_true, ne_eq, if_true, if_false, Bool.and_true, Bool.true_and, decide_true, decide_false, reduceIte, reduceCtorEq, Bool.and_self, Bool.and_eq_true, decide_eq_true_eq, and_self, true_or, or_true, false_or, or_false, Nat.zero_add, Nat.add_zero, eq_self, Nat.reduceEqDiff, Nat.reduceLeDiff, Nat.reduceLT, Nat.reduceAdd, Nat.reduceSub, Nat.reduceMul, nI_inP (show max (y.1.getD (fi k) 0) (y.1.getD (se k) 0) < 64 by omega) (by decide), nI_ix (show max (y.1.getD (fi k) 0) (y.1.getD (se k) 0) < 2147483648 by omega)]
        refine nx _ ⟨⟨fun i => if i = max (y.1.getD (fi k) 0) (y.1.getD (se k) 0) then min (y.1.getD (fi k) 0) (y.1.getD (se k) 0) else p i, fun i hi => ?_, ?_⟩, fun o k ho => ?_⟩
        · rw [uI_at]
          by_cases e : i = max (y.1.getD (fi k) 0) (y.1.getD (se k) 0)
          · rw [if_pos ⟨rfl, e⟩]
            simp only [e, if_true]
          · rw [if_neg (fun h => e h.2), hp i hi]
            simp only [e, if_false]
        · exact WR_congr (WR_join hW h3 h4) (fun i hi => jl_at (by omega))
        · rw [uI_at, if_neg (fun e => ho e.1)]
          exact hf o k ho
      · rw [hd1, if_pos rfl] at nx
        simp only [true_and, and_true, false_and, and_false, true_implies, false_implies, implies_true, not_true_eq_false, not_false_eq_true, ne_eq, if_true, if_false, Bool.and_true, Bool.true_and, decide_true, decide_false, reduceIte, reduceCtorEq, Bool.and_self, Bool.and_eq_true, decide_eq_true_eq, and_self, true_or, or_true, false_or, or_false, Nat.zero_add, Nat.add_zero, eq_self, Nat.reduceEqDiff, Nat.reduceLeDiff, Nat.reduceLT, Nat.reduceAdd, Nat.reduceSub, Nat.reduceMul, i1_0]
        exact nx _ ⟨⟨p, hp, hW⟩, hf⟩
    · rw [if_neg hb2] at nx
      simp only [hb2, true_and, and_true, false_and, and_false, true_implies, false_implies, implies_true, not_true_eq_false, not_false_eq_true, ne_eq, if_true, if_false, Bool.and_true, Bool.true_and, decide_true, decide_false, reduceIte, reduceCtorEq, Bool.and_self, Bool.and_eq_true, decide_eq_true_eq, and_self, true_or, or_true, false_or, or_false, Nat.zero_add, Nat.add_zero, eq_self, Nat.reduceEqDiff, Nat.reduceLeDiff, Nat.reduceLT, Nat.reduceAdd, Nat.reduceSub, Nat.reduceMul]
      exact nx _ ⟨⟨p, hp, hW⟩, hf⟩
theorem L89 {J : xJ} (hL : LC S R) (hG : GR n m fi se dg sb) (hC : CL I n m fi se dg sb) {a bb : Nat} (hA : I 110 7 = nI a) (hB : I 110 8 = nI bb) (ha : a < 2147483648) (h0 : 0 < bb) (hb : bb < 2147483648)
    {st : Nat → Nat} (hst : ∀ k, k < m → I 111 k = nI (st k)) (hs3 : ∀ k, k < m → st k < 1000000) {x g : Nat} (hx : x < 2 ^ 64) (hJ : J 110 4 = lN x) (hg : g < 2147483648) (hJ2 : J 110 5 = lN g)
    (kk : ∀ I', PO I (fun k => (jd n a bb st fi se x g m).1.getD k 0) n I' → Q (.ok none) (S, I', uJ J 110 5 (lN (jd n a bb st fi se x g m).2), D, R) b) :
    xRun xT 89 0 [(0, .ref 110)] [] (S, I, J, D, R) b Q := by
  have e5 : uJ J 110 5 (lN (jd n a bb st fi se x g 0).2) = J := uJ_same hJ2
  rw [e89_0]
  simp only [B89_0, xSeq, i_push, i_load, i_iload, i_lload, i_dload, i_aload, i_istore, i_astore, i_lstore, i_dstore, i_iinc, i_ii, i_iiz, i_ll, i_llz, i_lli, i_li, i_i, i_l, i_i2l, i_l2i, i_dup, i_dup2, i_dup2w, i_dupx1, i_pop, i_pop2, i_goto, i_ifc, i_icmp, i_getI, i_getL, i_getR, i_putI, i_putZ, i_putL, i_putR, i_aldI, i_aldB, i_aldL, i_aldD, i_astI, i_astL, i_astD, i_alen, i_ret, i_iret, i_zret, i_lret, i_fret, i_dret, i_aret, i_invS0, i_invV0, i_m2, i_m1, i_ml, i_obj, lk, lkp, stf1, stf2, Value.category, rV, xTo, lv_args, xCk, xCat, xRc, xAk, hg_S, hg_I, hg_J, hg_D, hg_R, hs_I, hs_J, hs_D, hs_R, uI_at, uJ_at, uD_at, uR_at, List.take_succ_cons, List.take_zero, List.drop_succ_cons, List.drop_zero, List.reverse_cons, List.reverse_nil, List.nil_append, List.cons_append, List.map_cons, List.map_nil, List.sum_cons, List.sum_nil, List.length_cons, List.length_nil, Option.toList_some, Option.toList_none, true_and, and_true, false_and, and_false, true_implies, false_implies, implies_true, not_true_eq_false, not_false_eq_true, ne_eq, if_true, if_false, Bool.and_true, Bool.true_and, decide_true, decide_false, reduceIte, reduceCtorEq, Bool.and_self, Bool.and_eq_true, decide_eq_true_eq, and_self, true_or, or_true, false_or, or_false, Nat.zero_add, Nat.add_zero, eq_self, Nat.reduceEqDiff, Nat.reduceLeDiff, Nat.reduceLT, Nat.reduceAdd, Nat.reduceSub, Nat.reduceMul]
  refine L89_2 hL hC.1 hG.2.1 (fun I' h' => ?_) n 0 I (by omega) ⟨fun j hj => absurd hj (Nat.not_lt_zero _), fun _ _ _ => rfl⟩
  have hr := L89_28 (S := S) (R := R) (D := D) (b := b) (Q := Q) hL hG hC hA hB ha h0 hb hst hs3 hx hJ hg kk m 0 I' (by omega) ⟨⟨fun k => k, fun k hk => ?_, fun k hk => ⟨Nat.le_refl _, rfl, fun _ => ?_⟩⟩, h'.2⟩
  · rw [e5] at hr
    rw [e89_26]
    simp only [B89_26, xSeq, i_push, i_load, i_iload, i_lload, i_dload, i_aload, i_istore, i_astore, i_lstore, i_dstore, i_iinc, i_ii, i_iiz, i_ll, i_llz, i_lli, i_li, i_i, i_l, i_i2l, i_l2i, i_dup, i_dup2, i_dup2w, i_dupx1, i_pop, i_pop2, i_goto, i_ifc, i_icmp, i_getI, i_getL, i_getR, i_putI, i_putZ, i_putL, i_putR, i_aldI, i_aldB, i_aldL, i_aldD, i_astI, i_astL, i_astD, i_alen, i_ret, i_iret, i_zret, i_lret, i_fret, i_dret, i_aret, i_invS0, i_invV0, i_m2, i_m1, i_ml, i_obj, lk, lkp, stf1, stf2, Value.category, rV, xTo, lv_args, xCk, xCat, xRc, xAk, hg_S, hg_I, hg_J, hg_D, hg_R, hs_I, hs_J, hs_D, hs_R, uI_at, uJ_at, uD_at, uR_at, List.take_succ_cons, List.take_zero, List.drop_succ_cons, List.drop_zero, List.reverse_cons, List.reverse_nil, List.nil_append, List.cons_append, List.map_cons, List.map_nil, List.sum_cons, List.sum_nil, List.length_cons, List.length_nil, Option.toList_some, Option.toList_none, true_and, and_true, false_and, and_false, true_implies, false_implies, implies_true, not_true_eq_false, not_false_eq_true, ne_eq, if_true, if_false, Bool.and_true, Bool.true_and, decide_true, decide_false, reduceIte, reduceCtorEq, Bool.and_self, Bool.and_eq_true, decide_eq_true_eq, and_self, true_or, or_true, false_or, or_false, Nat.zero_add, Nat.add_zero, eq_self, Nat.reduceEqDiff, Nat.reduceLeDiff, Nat.reduceLT, Nat.reduceAdd, Nat.reduceSub, Nat.reduceMul]
    exact hr
  · have e := h'.1 k (by rw [List.length_range]; exact hk)
    rw [e, ← List.getElem_eq_getD (h := by rw [List.length_range]; exact hk) 0, List.getElem_range]
  · show (List.range n).getD k 0 = k
    rw [← List.getElem_eq_getD (h := by rw [List.length_range]; exact hk) 0, List.getElem_range]
theorem FJ_g {J0 J : xJ} {o k1 k2 : Nat} (h : FJ o k1 k2 J0 J) {g : Nat} (hg : g < 2147483648) (hk : k1 ≠ k2) : FJ o k1 k2 J0 (uJ J o k2 (lN g)) := by
  obtain ⟨⟨x, hx, h1⟩, h2, h3⟩ := h
  refine ⟨⟨x, hx, ?_⟩, ⟨g, hg, ?_⟩, fun p k hp => ?_⟩
  · rw [uJ_at, if_neg (fun e => hk e.2)]; exact h1
  · rw [uJ_at, if_pos ⟨rfl, rfl⟩]
  · rw [uJ_at, if_neg (fun e => hp ⟨e.1, Or.inr e.2⟩)]; exact h3 p k hp
theorem FJ_x {J0 J : xJ} {o k1 k2 : Nat} (h : FJ o k1 k2 J0 J) {x : Nat} (hx : x < 2 ^ 64) (hk : k1 ≠ k2) : FJ o k1 k2 J0 (uJ J o k1 (lN x)) := by
  obtain ⟨h1, ⟨g, hg, h2⟩, h3⟩ := h
  refine ⟨⟨x, hx, ?_⟩, ⟨g, hg, ?_⟩, fun p k hp => ?_⟩
  · rw [uJ_at, if_pos ⟨rfl, rfl⟩]
  · rw [uJ_at, if_neg (fun e => hk e.2.symm)]; exact h2
  · rw [uJ_at, if_neg (fun e => hp ⟨e.1, Or.inl e.2⟩)]; exact h3 p k hp
theorem L88_11 {J0 : xJ} (hL : LC S R) (h2 : I 102 2 = nI n) (hn : n ≤ 64) {r : Nat → Nat} (hr : ∀ k, k < n → r k < n) {p : Nat → Nat} (hp : ∀ k, k < n → I 116 k = nI (p k)) (hW : WR n p r)
    (kk : ∀ J, FJ 110 4 5 J0 J → Q (.ok (some (.int (nI (ct (fun s => decide (r s = s)) n))))) (S, I, J, D, R) b) :
    ∀ (j i f : Nat) (J : xJ), i + j = n → f < 2 ^ 64 → FJ 110 4 5 J0 J → xRun xT 88 11 [(0, .ref 110), (1, .long (lN f)), (3, .int (nI (ct (fun s => decide (r s = s)) i))), (4, .int (nI i))] [] (S, I, J, D, R) b Q
  | 0, i, f, J, hi, hf, h => by
    have e : i = n := by omega
    subst e
    obtain ⟨⟨x, hx, h1⟩, h3⟩ := h
    have h4 := FJ_x ⟨⟨x, hx, h1⟩, h3⟩ (Nat.xor_lt_two_pow hx hf) (by decide)
    rw [e88_11]
    simp only [B88_11, xSeq, i_push, i_load, i_iload, i_lload, i_dload, i_aload, i_istore, i_astore, i_lstore, i_dstore, i_iinc, i_ii, i_iiz, i_ll, i_llz, i_lli, i_li, i_i, i_l, i_i2l, i_l2i, i_dup, i_dup2, i_dup2w, i_dupx1, i_pop, i_pop2, i_goto, i_ifc, i_icmp, i_getI, i_getL, i_getR, i_putI, i_putZ, i_putL, i_putR, i_aldI, i_aldB, i_aldL, i_aldD, i_astI, i_astL, i_astD, i_alen, i_ret, i_iret, i_zret, i_lret, i_fret, i_dret, i_aret, i_invS0, i_invV0, i_m2, i_m1, i_ml, i_obj, lk, lkp, stf1, stf2, Value.category, rV, xTo, lv_args, xCk, xCat, xRc, xAk, hg_S, hg_I, hg_J, hg_D, hg_R, hs_I, hs_J, hs_D, hs_R, uI_at, uJ_at, uD_at, uR_at, List.take_succ_cons, List.take_zero, List.drop_succ_cons, List.drop_zero, List.reverse_cons, List.reverse_nil, List.nil_append, List.cons_append, List.map_cons, List.map_nil, List.sum_cons, List.sum_nil, List.length_cons, List.length_nil, Option.toList_some, Option.toList_none, true_and, and_true, false_and, and_false, true_implies, false_implies, implies_true, not_true_eq_false, not_false_eq_true, ne_eq, if_true, if_false, Bool.and_true, Bool.true_and, decide_true, decide_false, reduceIte, reduceCtorEq, Bool.and_self, Bool.and_eq_true, decide_eq_true_eq, and_self, true_or, or_true, false_or, or_false, Nat.zero_add, Nat.add_zero, eq_self, Nat.reduceEqDiff, Nat.reduceLeDiff, Nat.reduceLT, Nat.reduceAdd, Nat.reduceSub, Nat.reduceMul, LC_out hL, h2, nI_leP (show i < 2147483648 by omega) (show i < 2147483648 by omega), Nat.le_refl, e88_74, B88_74, h1, q_xor]
    exact kk _ h4
  | j + 1, i, f, J, hi, hf, h => by
    have e90 := fun (J : xJ) (b : Nat × Nat) (Q : xQ) => R90 (S := S) (R := R) (I := I) (J := J) (D := D) (b := b) (Q := Q) hL hn hp hW (show i < n by omega)
    have hri := hr i (by omega)
    obtain ⟨g, hg, h1⟩ := h.2.1
    have h4 := FJ_g h (nx_lt g) (by decide)
    have hd := dw_lt g (show 0 < 2 by decide)
    have nx := fun f J => L88_11 hL h2 hn hr hp hW kk j (i + 1) f J (by omega)
    rw [ct] at nx
    have e84 := fun (b : Nat × Nat) (Q : xQ) => R84 (S := S) (R := R) (I := I) (J := J) (D := D) (b := b) (Q := Q) (k := 2) hL hg h1 (by decide) (by decide)
    rw [show nI 2 = (2 : Int32) from rfl] at e84
    have hw : 2 ^ i ≤ 2 ^ 63 := Nat.pow_le_pow_right (by decide) (by omega)
    have hb1 : dw g 2 * 2 ^ i < 2 ^ 64 := by
      have : dw g 2 * 2 ^ i ≤ 1 * 2 ^ i := Nat.mul_le_mul_right _ (by omega)
      omega
    have hb2 : f / 2 ^ r i % 2 * 2 ^ i < 2 ^ 64 := by
      have : f / 2 ^ r i % 2 * 2 ^ i ≤ 1 * 2 ^ i := Nat.mul_le_mul_right _ (by omega)
      omega
    have hq : f / 2 ^ r i < 2 ^ 64 := Nat.lt_of_le_of_lt (Nat.div_le_self _ _) hf
    rw [e88_11]
    simp only [B88_11, xSeq, i_push, i_load, i_iload, i_lload, i_dload, i_aload, i_istore, i_astore, i_lstore, i_dstore, i_iinc, i_ii, i_iiz, i_ll, i_llz, i_lli, i_li, i_i, i_l, i_i2l, i_l2i, i_dup, i_dup2, i_dup2w, i_dupx1, i_pop, i_pop2, i_goto, i_ifc, i_icmp, i_getI, i_getL, i_getR, i_putI, i_putZ, i_putL, i_putR, i_aldI, i_aldB, i_aldL, i_aldD, i_astI, i_astL, i_astD, i_alen, i_ret, i_iret, i_zret, i_lret, i_fret, i_dret, i_aret, i_invS0, i_invV0, i_m2, i_m1, i_ml, i_obj, lk, lkp, stf1, stf2, Value.category, rV, xTo, lv_args, xCk, xCat, xRc, xAk, hg_S, hg_I, hg_J, hg_D, hg_R, hs_I, hs_J, hs_D, hs_R, uI_at, uJ_at, uD_at, uR_at, List.take_succ_cons, List.take_zero, List.drop_succ_cons, List.drop_zero, List.reverse_cons, List.reverse_nil, List.nil_append, List.cons_append, List.map_cons, List.map_nil, List.sum_cons, List.sum_nil, List.length_cons, List.length_nil, Option.toList_some, Option.toList_none, true_and, and_true, false_and, and_false, true_implies, false_implies, implies_true, not_true_eq_false, not_false_eq_true, ne_eq, if_true, if_false, Bool.and_true, Bool.true_and, decide_true, decide_false, reduceIte, reduceCtorEq, Bool.and_self, Bool.and_eq_true, decide_eq_true_eq, and_self, true_or, or_true, false_or, or_false, Nat.zero_add, Nat.add_zero, eq_self, Nat.reduceEqDiff, Nat.reduceLeDiff, Nat.reduceLT, Nat.reduceAdd, Nat.reduceSub, Nat.reduceMul, LC_out hL, h2, nI_leP (show n < 2147483648 by omega) (show i < 2147483648 by omega), show (n ≤ i) = False from eq_false (by omega), e90, nI_iff (show r i < 2147483648 by omega) (show i < 2147483648 by omega), e84, nI_l (show dw g 2 < 2147483648 by omega), q_shl (dw g 2) (show i < 64 by omega), q_or hf hb1, e88_68, B88_68, e88_56, B88_56, q_ushr hf (show r i < 64 by omega), q_a1 hq, q_shl (f / 2 ^ r i % 2) (show i < 64 by omega), q_or hf hb2, nI_1]
    by_cases e : r i = i
    · simp only [e, true_and, and_true, false_and, and_false, true_implies, false_implies, implies_true, not_true_eq_false, not_false_eq_true, ne_eq, if_true, if_false, Bool.and_true, Bool.true_and, decide_true, decide_false, reduceIte, reduceCtorEq, Bool.and_self, Bool.and_eq_true, decide_eq_true_eq, and_self, true_or, or_true, false_or, or_false, Nat.zero_add, Nat.add_zero, eq_self, Nat.reduceEqDiff, Nat.reduceLeDiff, Nat.reduceLT, Nat.reduceAdd, Nat.reduceSub, Nat.reduceMul] at nx ⊢
      exact nx _ _ (Nat.or_lt_two_pow hf hb1) h4
    · simp only [e, true_and, and_true, false_and, and_false, true_implies, false_implies, implies_true, not_true_eq_false, not_false_eq_true, ne_eq, if_true, if_false, Bool.and_true, Bool.true_and, decide_true, decide_false, reduceIte, reduceCtorEq, Bool.and_self, Bool.and_eq_true, decide_eq_true_eq, and_self, true_or, or_true, false_or, or_false, Nat.zero_add, Nat.add_zero, eq_self, Nat.reduceEqDiff, Nat.reduceLeDiff, Nat.reduceLT, Nat.reduceAdd, Nat.reduceSub, Nat.reduceMul] at nx ⊢
      exact nx _ _ (Nat.or_lt_two_pow hf hb2) h
theorem L88 {J : xJ} (hL : LC S R) (hG : GR n m fi se dg sb) (hC : CL I n m fi se dg sb) {a bb : Nat} (hA : I 110 7 = nI a) (hB : I 110 8 = nI bb) (ha : a < 2147483648) (h0 : 0 < bb) (hb : bb < 2147483648)
    {st : Nat → Nat} (hst : ∀ k, k < m → I 111 k = nI (st k)) (hs3 : ∀ k, k < m → st k < 1000000) {x g : Nat} (hx : x < 2 ^ 64) (hJ : J 110 4 = lN x) (hg : g < 2147483648) (hJ2 : J 110 5 = lN g)
    (kk : ∀ I' J', (∀ o k, o ≠ 116 → I' o k = I o k) → FJ 110 4 5 J J' → Q (.ok (some (.int (nI (ct (fun s => decide ((jd n a bb st fi se x g m).1.getD s 0 = s)) n))))) (S, I', J', D, R) b) :
    xRun xT 88 0 [(0, .ref 110)] [] (S, I, J, D, R) b Q := by
  obtain ⟨y1, y2, y3⟩ := jd_ok (a := a) (bb := bb) (st := st) (x := x) hG hg m (Nat.le_refl _)
  rw [e88_0]
  simp only [B88_0, xSeq, i_push, i_load, i_iload, i_lload, i_dload, i_aload, i_istore, i_astore, i_lstore, i_dstore, i_iinc, i_ii, i_iiz, i_ll, i_llz, i_lli, i_li, i_i, i_l, i_i2l, i_l2i, i_dup, i_dup2, i_dup2w, i_dupx1, i_pop, i_pop2, i_goto, i_ifc, i_icmp, i_getI, i_getL, i_getR, i_putI, i_putZ, i_putL, i_putR, i_aldI, i_aldB, i_aldL, i_aldD, i_astI, i_astL, i_astD, i_alen, i_ret, i_iret, i_zret, i_lret, i_fret, i_dret, i_aret, i_invS0, i_invV0, i_m2, i_m1, i_ml, i_obj, lk, lkp, stf1, stf2, Value.category, rV, xTo, lv_args, xCk, xCat, xRc, xAk, hg_S, hg_I, hg_J, hg_D, hg_R, hs_I, hs_J, hs_D, hs_R, uI_at, uJ_at, uD_at, uR_at, List.take_succ_cons, List.take_zero, List.drop_succ_cons, List.drop_zero, List.reverse_cons, List.reverse_nil, List.nil_append, List.cons_append, List.map_cons, List.map_nil, List.sum_cons, List.sum_nil, List.length_cons, List.length_nil, Option.toList_some, Option.toList_none, true_and, and_true, false_and, and_false, true_implies, false_implies, implies_true, not_true_eq_false, not_false_eq_true, ne_eq, if_true, if_false, Bool.and_true, Bool.true_and, decide_true, decide_false, reduceIte, reduceCtorEq, Bool.and_self, Bool.and_eq_true, decide_eq_true_eq, and_self, true_or, or_true, false_or, or_false, Nat.zero_add, Nat.add_zero, eq_self, Nat.reduceEqDiff, Nat.reduceLeDiff, Nat.reduceLT, Nat.reduceAdd, Nat.reduceSub, Nat.reduceMul, LC_out hL]
  refine L89 hL hG hC hA hB ha h0 hb hst hs3 hx hJ hg hJ2 (fun I' h' => ?_)
  obtain ⟨⟨p, hp, hW⟩, hf⟩ := h'
  simp only [xSeq, i_push, i_load, i_iload, i_lload, i_dload, i_aload, i_istore, i_astore, i_lstore, i_dstore, i_iinc, i_ii, i_iiz, i_ll, i_llz, i_lli, i_li, i_i, i_l, i_i2l, i_l2i, i_dup, i_dup2, i_dup2w, i_dupx1, i_pop, i_pop2, i_goto, i_ifc, i_icmp, i_getI, i_getL, i_getR, i_putI, i_putZ, i_putL, i_putR, i_aldI, i_aldB, i_aldL, i_aldD, i_astI, i_astL, i_astD, i_alen, i_ret, i_iret, i_zret, i_lret, i_fret, i_dret, i_aret, i_invS0, i_invV0, i_m2, i_m1, i_ml, i_obj, lk, lkp, stf1, stf2, Value.category, rV, xTo, lv_args, xCk, xCat, xRc, xAk, hg_S, hg_I, hg_J, hg_D, hg_R, hs_I, hs_J, hs_D, hs_R, uI_at, uJ_at, uD_at, uR_at, List.take_succ_cons, List.take_zero, List.drop_succ_cons, List.drop_zero, List.reverse_cons, List.reverse_nil, List.nil_append, List.cons_append, List.map_cons, List.map_nil, List.sum_cons, List.sum_nil, List.length_cons, List.length_nil, Option.toList_some, Option.toList_none, true_and, and_true, false_and, and_false, true_implies, false_implies, implies_true, not_true_eq_false, not_false_eq_true, ne_eq, if_true, if_false, Bool.and_true, Bool.true_and, decide_true, decide_false, reduceIte, reduceCtorEq, Bool.and_self, Bool.and_eq_true, decide_eq_true_eq, and_self, true_or, or_true, false_or, or_false, Nat.zero_add, Nat.add_zero, eq_self, Nat.reduceEqDiff, Nat.reduceLeDiff, Nat.reduceLT, Nat.reduceAdd, Nat.reduceSub, Nat.reduceMul]
  have h2 : I' 102 2 = nI n := (hf _ _ (by decide)).trans hC.1
  have hj : FJ 110 4 5 J (uJ J 110 5 (lN (jd n a bb st fi se x g m).2)) := FJ_g ⟨⟨x, hx, hJ⟩, ⟨g, hg, hJ2⟩, fun _ _ _ => rfl⟩ y3 (by decide)
  exact L88_11 hL h2 hG.2.1 (fun k hk => y2 k hk) hp hW (fun J' h' => kk I' J' hf h') n 0 0 _ (by omega) (by decide) hj
end
/-! ===== all clusters of the model ===== -/
section
variable {S : xS} {I : xI} {J : xJ} {D : xDb} {R : xR} {b : Nat × Nat} {Q : xQ} {n m : Nat} {fi se dg : Nat → Nat} {sb : Nat → Nat → Nat}
theorem L281_25 {I0 : xI} {J0 : xJ} (hL : LM S R) (hG : GR n m fi se dg sb) (hC0 : CM I0 n m fi se dg sb) {a bb : Nat} (hA : I0 300 2 = nI a) (hB : I0 300 3 = nI bb) (ha : a < 2147483648) (h0 : 0 < bb) (hb : bb < 2147483648)
    {st : Nat → Nat} (hst : ∀ k, k < m → I0 300 (16 + k) = nI (st k)) (hs3 : ∀ k, k < m → st k < 1000000) {x g : Nat} (hx : x < 2 ^ 64) (hJ : J0 200 3 = lN x) (hg : g < 2147483648)
    (kk : ∀ I, GO I0 (fun k => (jd n a bb st fi se x g m).1.getD k 0) n I → xRun xT 281 84 [(0, .ref 200)] [] (S, I, uJ J0 200 4 (lN (jd n a bb st fi se x g m).2), D, R) b Q) :
    ∀ (j i : Nat) (I : xI), i + j = m → GO I0 (fun k => (jd n a bb st fi se x g i).1.getD k 0) n I → xRun xT 281 25 [(0, .ref 200), (1, .int (nI i))] [] (S, I, uJ J0 200 4 (lN (jd n a bb st fi se x g i).2), D, R) b Q
  | 0, i, I, hi, h => by
    have hC := GO_CM h hC0
    have g2 := hG.2.2.1
    have e : i = m := by omega
    subst e
    rw [e281_25]
    simp only [B281_25, xSeq, i_push, i_load, i_iload, i_lload, i_dload, i_aload, i_istore, i_astore, i_lstore, i_dstore, i_iinc, i_ii, i_iiz, i_ll, i_llz, i_lli, i_li, i_i, i_l, i_i2l, i_l2i, i_dup, i_dup2, i_dup2w, i_dupx1, i_pop, i_pop2, i_goto, i_ifc, i_icmp, i_getI, i_getL, i_getR, i_putI, i_putZ, i_putL, i_putR, i_aldI, i_aldB, i_aldL, i_aldD, i_astI, i_astL, i_astD, i_alen, i_ret, i_iret, i_zret, i_lret, i_fret, i_dret, i_aret, i_invS0, i_invV0, i_m2, i_m1, i_ml, i_obj, lk, lkp, stf1, stf2, Value.category, rV, xTo, lv_args, xCk, xCat, xRc, xAk, hg_S, hg_I, hg_J, hg_D, hg_R, hs_I, hs_J, hs_D, hs_R, uI_at, uJ_at, uD_at, uR_at, List.take_succ_cons, List.take_zero, List.drop_succ_cons, List.drop_zero, List.reverse_cons, List.reverse_nil, List.nil_append, List.cons_append, List.map_cons, List.map_nil, List.sum_cons, List.sum_nil, List.length_cons, List.length_nil, Option.toList_some, Option.toList_none, true_and, and_true, false_and, and_false, true_implies, false_implies, implies_true, not_true_eq_false, not_false_eq_true, ne_eq, if_true, if_false, Bool.and_true, Bool.true_and, decide_true, decide_false, reduceIte, reduceCtorEq, Bool.and_self, Bool.and_eq_true, decide_eq_true_eq, and_self, true_or, or_true, false_or, or_false, Nat.zero_add, Nat.add_zero, eq_self, Nat.reduceEqDiff, Nat.reduceLeDiff, Nat.reduceLT, Nat.reduceAdd, Nat.reduceSub, Nat.reduceMul, xi144_0, ix_0, xi144_1, ix_1, xi144_2, ix_2, xi144_3, ix_3, xi144_4, ix_4, xi144_5, ix_5, xi144_6, ix_6, xi144_7, ix_7, xi144_8, ix_8, xi144_9, ix_9, xi144_10, ix_10, LM_out hL, hC.2.1, nI_leP (show i < 2147483648 by omega) (show i < 2147483648 by omega), Nat.le_refl]
    exact kk I h
  | j + 1, k, I, hi, h => by
    have hC := GO_CM h hC0
    have hk : k < m := by omega
    have hG' := hG
    have hC' := hC
    obtain ⟨g0, g1, g2, g3, g4, g5, g6⟩ := hG'
    obtain ⟨c1, c2, c3, c4, c5, c6⟩ := hC'
    have h3 := g3 k hk
    have h4 := g4 k hk
    obtain ⟨y1, y2, y3⟩ := jd_ok (a := a) (bb := bb) (st := st) (x := x) hG hg k (by omega)
    have nx := fun I => L281_25 hL hG hC0 hA hB ha h0 hb hst hs3 hx hJ hg kk j (k + 1) I (by omega)
    rw [jd] at nx
    obtain ⟨y, hy⟩ : ∃ y, y = jd n a bb st fi se x g k := ⟨_, rfl⟩
    rw [← hy] at h y1 y2 y3 nx ⊢
    have hst' := hst k hk
    have hs3' := hs3 k hk
    have f7 : I 300 2 = nI a := (h.2 _ _ (by decide)).trans hA
    have f8 : I 300 3 = nI bb := (h.2 _ _ (by decide)).trans hB
    have f1 : I 300 (16 + k) = nI (st k) := (h.2 _ _ (by decide)).trans hst'
    have e272 := fun (b : Nat × Nat) (Q : xQ) => R272 (S := S) (R := R) (I := I) (J := uJ J0 200 4 (lN y.2)) (D := D) (b := b) (Q := Q) hL f7 f8 ha h0 hb (show 2 * st k < 2147483648 by omega) y3 rfl
    have e280 := fun (b : Nat × Nat) (Q : xQ) => R280 (S := S) (R := R) (I := I) (J := uJ J0 200 4 (lN y.2)) (D := D) (b := b) (Q := Q) hL hG hC hx hJ hk
    obtain ⟨d, hd⟩ : ∃ d, d = pd a bb (2 * st k) y.2 := ⟨_, rfl⟩
    rw [← hd] at e272 nx
    rw [e281_25]
    simp only [B281_25, xSeq, i_push, i_load, i_iload, i_lload, i_dload, i_aload, i_istore, i_astore, i_lstore, i_dstore, i_iinc, i_ii, i_iiz, i_ll, i_llz, i_lli, i_li, i_i, i_l, i_i2l, i_l2i, i_dup, i_dup2, i_dup2w, i_dupx1, i_pop, i_pop2, i_goto, i_ifc, i_icmp, i_getI, i_getL, i_getR, i_putI, i_putZ, i_putL, i_putR, i_aldI, i_aldB, i_aldL, i_aldD, i_astI, i_astL, i_astD, i_alen, i_ret, i_iret, i_zret, i_lret, i_fret, i_dret, i_aret, i_invS0, i_invV0, i_m2, i_m1, i_ml, i_obj, lk, lkp, stf1, stf2, Value.category, rV, xTo, lv_args, xCk, xCat, xRc, xAk, hg_S, hg_I, hg_J, hg_D, hg_R, hs_I, hs_J, hs_D, hs_R, uI_at, uJ_at, uD_at, uR_at, List.take_succ_cons, List.take_zero, List.drop_succ_cons, List.drop_zero, List.reverse_cons, List.reverse_nil, List.nil_append, List.cons_append, List.map_cons, List.map_nil, List.sum_cons, List.sum_nil, List.length_cons, List.length_nil, Option.toList_some, Option.toList_none, true_and, and_true, false_and, and_false, true_implies, false_implies, implies_true, not_true_eq_false, not_false_eq_true, ne_eq, if_true, if_false, Bool.and_true, Bool.true_and, decide_true, decide_false, reduceIte, reduceCtorEq, Bool.and_self, Bool.and_eq_true, decide_eq_true_eq, and_self, true_or, or_true, false_or, or_false, Nat.zero_add, Nat.add_zero, eq_self, Nat.reduceEqDiff, Nat.reduceLeDiff, Nat.reduceLT, Nat.reduceAdd, Nat.reduceSub, Nat.reduceMul, xi144_0, ix_0, xi144_1, ix_1, xi144_2, ix_2, xi144_3, ix_3, xi144_4, ix_4, xi144_5, ix_5, xi144_6, ix_6, xi144_7, ix_7, xi144_8, ix_8, xi144_9, ix_9, xi144_10, ix_10, LM_out hL, c2, nI_leP (show m < 2147483648 by omega) (show k < 2147483648 by omega), show (m ≤ k) = False from eq_false (by omega), e280, nI_c16, nI_inP (show 16 + k < 144 by omega) (by decide), nI_ix (show 16 + k < 2147483648 by omega), nI_inP (show k < 128 by omega) (by decide), nI_ix (show k < 2147483648 by omega), f1, dbl, e272, uJ_uJ, c3 k hk, c4 k hk, e281_78, B281_78, nI_1]
    by_cases hb2 : x.testBit (fi k) = x.testBit (se k)
    · rw [if_pos hb2] at nx
      simp only [hb2, true_and, and_true, false_and, and_false, true_implies, false_implies, implies_true, not_true_eq_false, not_false_eq_true, ne_eq, if_true, if_false, Bool.and_true, Bool.true_and, decide_true, decide_false, reduceIte, reduceCtorEq, Bool.and_self, Bool.and_eq_true, decide_eq_true_eq, and_self, true_or, or_true, false_or, or_false, Nat.zero_add, Nat.add_zero, eq_self, Nat.reduceEqDiff, Nat.reduceLeDiff, Nat.reduceLT, Nat.reduceAdd, Nat.reduceSub, Nat.reduceMul, i1_0]
      cases hd1 : d.1
      · rw [hd1, if_neg (by decide)] at nx
        simp only [true_and, and_true, false_and, and_false, true_implies, false_implies, implies_true, not_true_eq_false, not_false_eq_true, ne_eq, if_true, if_false, Bool.and_true, Bool.true_and, decide_true, decide_false, reduceIte, reduceCtorEq, Bool.and_self, Bool.and_eq_true, decide_eq_true_eq, and_self, true_or, or_true, false_or, or_false, Nat.zero_add, Nat.add_zero, eq_self, Nat.reduceEqDiff, Nat.reduceLeDiff, Nat.reduceLT, Nat.reduceAdd, Nat.reduceSub, Nat.reduceMul]
        refine L283 hL hC0.1 g1 (fun k hk => Nat.lt_of_lt_of_le (y2 k hk) g1) h3 h4 h (fun I' h' => ?_)
        simp only [xSeq, i_push, i_load, i_iload, i_lload, i_dload, i_aload, i_istore, i_astore, i_lstore, i_dstore, i_iinc, i_ii, i_iiz, i_ll, i_llz, i_lli, i_li, i_i, i_l, i_i2l, i_l2i, i_dup, i_dup2, i_dup2w, i_dupx1, i_pop, i_pop2, i_goto, i_ifc, i_icmp, i_getI, i_getL, i_getR, i_putI, i_putZ, i_putL, i_putR, i_aldI, i_aldB, i_aldL, i_aldD, i_astI, i_astL, i_astD, i_alen, i_ret, i_iret, i_zret, i_lret, i_fret, i_dret, i_aret, i_invS0, i_invV0, i_m2, i_m1, i_ml, i_obj, lk, lkp, stf1, stf2, Value.category, rV, xTo, lv_args, xCk, xCat, xRc, xAk, hg_S, hg_I, hg_J, hg_D, hg_R, hs_I, hs_J, hs_D, hs_R, uI_at, uJ_at, uD_at, uR_at, List.take_succ_cons, List.take_zero, List.drop_succ_cons, List.drop_zero, List.reverse_cons, List.reverse_nil, List.nil_append, List.cons_append, List.map_cons, List.map_nil, List.sum_cons, List.sum_nil, List.length_cons, List.length_nil, Option.toList_some, Option.toList_none, true_and, and_true, false_and, and_false, true_implies, false_implies, implies_true, not_true_eq_false, not_false_eq_true, ne_eq, if_true, if_false, Bool.and_true, Bool.true_and, decide_true, decide_false, reduceIte, reduceCtorEq, Bool.and_self, Bool.and_eq_true, decide_eq_true_eq, and_self, true_or, or_true, false_or, or_false, Nat.zero_add, Nat.add_zero, eq_self, Nat.reduceEqDiff, Nat.reduceLeDiff, Nat.reduceLT, Nat.reduceAdd, Nat.reduceSub, Nat.reduceMul, e281_78, B281_78, nI_1]
        exact nx I' (GO_jl y1 h')
      · rw [hd1, if_pos rfl] at nx
        simp only [true_and, and_true, false_and, and_false, true_implies, false_implies, implies_true, not_true_eq_false, not_false_eq_true, ne_eq, if_true, if_false, Bool.and_true, Bool.true_and, decide_true, decide_false, reduceIte, reduceCtorEq, Bool.and_self, Bool.and_eq_true, decide_eq_true_eq, and_self, true_or, or_true, false_or, or_false, Nat.zero_add, Nat.add_zero, eq_self, Nat.reduceEqDiff, Nat.reduceLeDiff, Nat.reduceLT, Nat.reduceAdd, Nat.reduceSub, Nat.reduceMul, i1_0, e281_78, B281_78, nI_1, xSeq, i_push, i_load, i_iload, i_lload, i_dload, i_aload, i_istore, i_astore, i_lstore, i_dstore, i_iinc, i_ii, i_iiz, i_ll, i_llz, i_lli, i_li, i_i, i_l, i_i2l, i_l2i, i_dup, i_dup2, i_dup2w, i_dupx1, i_pop, i_pop2, i_goto, i_ifc, i_icmp, i_getI, i_getL, i_getR, i_putI, i_putZ, i_putL, i_putR, i_aldI, i_aldB, i_aldL, i_aldD, i_astI, i_astL, i_astD, i_alen, i_ret, i_iret, i_zret, i_lret, i_fret, i_dret, i_aret, i_invS0, i_invV0, i_m2, i_m1, i_ml, i_obj, lk, lkp, stf1, stf2, Value.category, rV, xTo, lv_args, xCk, xCat, xRc, xAk, hg_S, hg_I, hg_J, hg_D, hg_R, hs_I, hs_J, hs_D, hs_R, uI_at, uJ_at, uD_at, uR_at, List.take_succ_cons, List.take_zero, List.drop_succ_cons, List.drop_zero, List.reverse_cons, List.reverse_nil, List.nil_append, List.cons_append, List.map_cons, List.map_nil, List.sum_cons, List.sum_nil, List.length_cons, List.length_nil, Option.toList_some, Option.toList_none, true_and, and_true, false_and, and_false, true_implies, false_implies, implies_true, not_true_eq_false, not_false_eq_true, ne_eq, if_true, if_false, Bool.and_true, Bool.true_and, decide_true, decide_false, reduceIte, reduceCtorEq, Bool.and_self, Bool.and_eq_true, decide_eq_true_eq, and_self, true_or, or_true, false_or, or_false, Nat.zero_add, Nat.add_zero, eq_self, Nat.reduceEqDiff, Nat.reduceLeDiff, Nat.reduceLT, Nat.reduceAdd, Nat.reduceSub, Nat.reduceMul]
        exact nx I h
    · rw [if_neg hb2] at nx
      simp only [hb2, true_and, and_true, false_and, and_false, true_implies, false_implies, implies_true, not_true_eq_false, not_false_eq_true, ne_eq, if_true, if_false, Bool.and_true, Bool.true_and, decide_true, decide_false, reduceIte, reduceCtorEq, Bool.and_self, Bool.and_eq_true, decide_eq_true_eq, and_self, true_or, or_true, false_or, or_false, Nat.zero_add, Nat.add_zero, eq_self, Nat.reduceEqDiff, Nat.reduceLeDiff, Nat.reduceLT, Nat.reduceAdd, Nat.reduceSub, Nat.reduceMul, e281_78, B281_78, nI_1, xSeq, i_push, i_load, i_iload, i_lload, i_dload, i_aload, i_istore, i_astore, i_lstore, i_dstore, i_iinc, i_ii, i_iiz, i_ll, i_llz, i_lli, i_li, i_i, i_l, i_i2l, i_l2i, i_dup, i_dup2, i_dup2w, i_dupx1, i_pop, i_pop2, i_goto, i_ifc, i_icmp, i_getI, i_getL, i_getR, i_putI, i_putZ, i_putL, i_putR, i_aldI, i_aldB, i_aldL, i_aldD, i_astI, i_astL, i_astD, i_alen, i_ret, i_iret, i_zret, i_lret, i_fret, i_dret, i_aret, i_invS0, i_invV0, i_m2, i_m1, i_ml, i_obj, lk, lkp, stf1, stf2, Value.category, rV, xTo, lv_args, xCk, xCat, xRc, xAk, hg_S, hg_I, hg_J, hg_D, hg_R, hs_I, hs_J, hs_D, hs_R, uI_at, uJ_at, uD_at, uR_at, List.take_succ_cons, List.take_zero, List.drop_succ_cons, List.drop_zero, List.reverse_cons, List.reverse_nil, List.nil_append, List.cons_append, List.map_cons, List.map_nil, List.sum_cons, List.sum_nil, List.length_cons, List.length_nil, Option.toList_some, Option.toList_none, true_and, and_true, false_and, and_false, true_implies, false_implies, implies_true, not_true_eq_false, not_false_eq_true, ne_eq, if_true, if_false, Bool.and_true, Bool.true_and, decide_true, decide_false, reduceIte, reduceCtorEq, Bool.and_self, Bool.and_eq_true, decide_eq_true_eq, and_self, true_or, or_true, false_or, or_false, Nat.zero_add, Nat.add_zero, eq_self, Nat.reduceEqDiff, Nat.reduceLeDiff, Nat.reduceLT, Nat.reduceAdd, Nat.reduceSub, Nat.reduceMul]
      exact nx I h
theorem L281_121 {J0 : xJ} {r : Nat → Nat} (hL : LM S R) (h10 : I 300 10 = nI n) (hn : n ≤ 64) (hI : ∀ k, k < n → I 341 k = nI (r k)) (hr : ∀ k, k < n → r k < 64) {s : Nat} (hs : s < 64)
    (kk : ∀ J, FJ 200 3 4 J0 J → xRun xT 281 160 [(0, .ref 200), (1, .int (nI s))] [] (S, I, J, D, R) b Q) :
    ∀ (j i : Nat) (J : xJ), i + j = n → FJ 200 3 4 J0 J → xRun xT 281 121 [(0, .ref 200), (1, .int (nI s)), (2, .int (nI i))] [] (S, I, J, D, R) b Q
  | 0, i, J, hi, h => by
    have e : i = n := by omega
    subst e
    rw [e281_121]
    simp only [B281_121, xSeq, i_push, i_load, i_iload, i_lload, i_dload, i_aload, i_istore, i_astore, i_lstore, i_dstore, i_iinc, i_ii, i_iiz, i_ll, i_llz, i_lli, i_li, i_i, i_l, i_i2l, i_l2i, i_dup, i_dup2, i_dup2w, i_dupx1, i_pop, i_pop2, i_goto, i_ifc, i_icmp, i_getI, i_getL, i_getR, i_putI, i_putZ, i_putL, i_putR, i_aldI, i_aldB, i_aldL, i_aldD, i_astI, i_astL, i_astD, i_alen, i_ret, i_iret, i_zret, i_lret, i_fret, i_dret, i_aret, i_invS0, i_invV0, i_m2, i_m1, i_ml, i_obj, lk, lkp, stf1, stf2, Value.category, rV, xTo, lv_args, xCk, xCat, xRc, xAk, hg_S, hg_I, hg_J, hg_D, hg_R, hs_I, hs_J, hs_D, hs_R, uI_at, uJ_at, uD_at, uR_at, List.take_succ_cons, List.take_zero, List.drop_succ_cons, List.drop_zero, List.reverse_cons, List.reverse_nil, List.nil_append, List.cons_append, List.map_cons, List.map_nil, List.sum_cons, List.sum_nil, List.length_cons, List.length_nil, Option.toList_some, Option.toList_none, true_and, and_true, false_and, and_false, true_implies, false_implies, implies_true, not_true_eq_false, not_false_eq_true, ne_eq, if_true, if_false, Bool.and_true, Bool.true_and, decide_true, decide_false, reduceIte, reduceCtorEq, Bool.and_self, Bool.and_eq_true, decide_eq_true_eq, and_self, true_or, or_true, false_or, or_false, Nat.zero_add, Nat.add_zero, eq_self, Nat.reduceEqDiff, Nat.reduceLeDiff, Nat.reduceLT, Nat.reduceAdd, Nat.reduceSub, Nat.reduceMul, xi144_0, ix_0, xi144_1, ix_1, xi144_2, ix_2, xi144_3, ix_3, xi144_4, ix_4, xi144_5, ix_5, xi144_6, ix_6, xi144_7, ix_7, xi144_8, ix_8, xi144_9, ix_9, xi144_10, ix_10, LM_out hL, h10, nI_leP (show i < 2147483648 by omega) (show i < 2147483648 by omega), Nat.le_refl]
    exact kk J h
  | j + 1, i, J, hi, h => by
    have h1 := hr i (by omega)
    obtain ⟨x, hx, h3⟩ := h.1
    have h4 := FJ_x h (Nat.xor_lt_two_pow hx (Nat.pow_lt_pow_right (show 1 < 2 by decide) (show i < 64 by omega))) (by decide)
    have nx := fun J => L281_121 hL h10 hn hI hr hs kk j (i + 1) J (by omega)
    rw [e281_121]
    simp only [B281_121, xSeq, i_push, i_load, i_iload, i_lload, i_dload, i_aload, i_istore, i_astore, i_lstore, i_dstore, i_iinc, i_ii, i_iiz, i_ll, i_llz, i_lli, i_li, i_i, i_l, i_i2l, i_l2i, i_dup, i_dup2, i_dup2w, i_dupx1, i_pop, i_pop2, i_goto, i_ifc, i_icmp, i_getI, i_getL, i_getR, i_putI, i_putZ, i_putL, i_putR, i_aldI, i_aldB, i_aldL, i_aldD, i_astI, i_astL, i_astD, i_alen, i_ret, i_iret, i_zret, i_lret, i_fret, i_dret, i_aret, i_invS0, i_invV0, i_m2, i_m1, i_ml, i_obj, lk, lkp, stf1, stf2, Value.category, rV, xTo, lv_args, xCk, xCat, xRc, xAk, hg_S, hg_I, hg_J, hg_D, hg_R, hs_I, hs_J, hs_D, hs_R, uI_at, uJ_at, uD_at, uR_at, List.take_succ_cons, List.take_zero, List.drop_succ_cons, List.drop_zero, List.reverse_cons, List.reverse_nil, List.nil_append, List.cons_append, List.map_cons, List.map_nil, List.sum_cons, List.sum_nil, List.length_cons, List.length_nil, Option.toList_some, Option.toList_none, true_and, and_true, false_and, and_false, true_implies, false_implies, implies_true, not_true_eq_false, not_false_eq_true, ne_eq, if_true, if_false, Bool.and_true, Bool.true_and, decide_true, decide_false, reduceIte, reduceCtorEq, Bool.and_self, Bool.and_eq_true, decide_eq_true_eq, and_self, true_or, or_true, false_or, or_false, Nat.zero_add, Nat.add_zero, eq_self, Nat.reduceEqDiff, Nat.reduceLeDiff, Nat.reduceLT, Nat.reduceAdd, Nat.reduceSub, Nat.reduceMul, xi144_0, ix_0, xi144_1, ix_1, xi144_2, ix_2, xi144_3, ix_3, xi144_4, ix_4, xi144_5, ix_5, xi144_6, ix_6, xi144_7, ix_7, xi144_8, ix_8, xi144_9, ix_9, xi144_10, ix_10, LM_out hL, h10, nI_leP (show n < 2147483648 by omega) (show i < 2147483648 by omega), show (n ≤ i) = False from eq_false (by omega), nI_inP (show i < 64 by omega) (by decide), nI_ix (show i < 2147483648 by omega), hI i (by omega), nI_iff (show r i < 2147483648 by omega) (show s < 2147483648 by omega), h3, q_1shlL (show i < 64 by omega), q_xor, e281_154, B281_154, nI_1]
    by_cases e : r i = s
    · simp only [e, true_and, and_true, false_and, and_false, true_implies, false_implies, implies_true, not_true_eq_false, not_false_eq_true, ne_eq, if_true, if_false, Bool.and_true, Bool.true_and, decide_true, decide_false, reduceIte, reduceCtorEq, Bool.and_self, Bool.and_eq_true, decide_eq_true_eq, and_self, true_or, or_true, false_or, or_false, Nat.zero_add, Nat.add_zero, eq_self, Nat.reduceEqDiff, Nat.reduceLeDiff, Nat.reduceLT, Nat.reduceAdd, Nat.reduceSub, Nat.reduceMul]
      exact nx _ h4
    · simp only [e, true_and, and_true, false_and, and_false, true_implies, false_implies, implies_true, not_true_eq_false, not_false_eq_true, ne_eq, if_true, if_false, Bool.and_true, Bool.true_and, decide_true, decide_false, reduceIte, reduceCtorEq, Bool.and_self, Bool.and_eq_true, decide_eq_true_eq, and_self, true_or, or_true, false_or, or_false, Nat.zero_add, Nat.add_zero, eq_self, Nat.reduceEqDiff, Nat.reduceLeDiff, Nat.reduceLT, Nat.reduceAdd, Nat.reduceSub, Nat.reduceMul]
      exact nx _ h
theorem L281_86 {J0 : xJ} {r : Nat → Nat} (hL : LM S R) (h10 : I 300 10 = nI n) (hn : n ≤ 64) (hI : ∀ k, k < n → I 341 k = nI (r k)) (hr : ∀ k, k < n → r k < 64)
    (kk : ∀ J, FJ 200 3 4 J0 J → xRun xT 281 166 [(0, .ref 200)] [] (S, I, J, D, R) b Q) :
    ∀ (j i : Nat) (J : xJ), i + j = n → FJ 200 3 4 J0 J → xRun xT 281 86 [(0, .ref 200), (1, .int (nI i))] [] (S, I, J, D, R) b Q
  | 0, i, J, hi, h => by
    have e : i = n := by omega
    subst e
    rw [e281_86]
    simp only [B281_86, xSeq, i_push, i_load, i_iload, i_lload, i_dload, i_aload, i_istore, i_astore, i_lstore, i_dstore, i_iinc, i_ii, i_iiz, i_ll, i_llz, i_lli, i_li, i_i, i_l, i_i2l, i_l2i, i_dup, i_dup2, i_dup2w, i_dupx1, i_pop, i_pop2, i_goto, i_ifc, i_icmp, i_getI, i_getL, i_getR, i_putI, i_putZ, i_putL, i_putR, i_aldI, i_aldB, i_aldL, i_aldD, i_astI, i_astL, i_astD, i_alen, i_ret, i_iret, i_zret, i_lret, i_fret, i_dret, i_aret, i_invS0, i_invV0, i_m2, i_m1, i_ml, i_obj, lk, lkp, stf1, stf2, Value.category, rV, xTo, lv_args, xCk, xCat, xRc, xAk, hg_S, hg_I, hg_J, hg_D, hg_R, hs_I, hs_J, hs_D, hs_R, uI_at, uJ_at, uD_at, uR_at, List.take_succ_cons, List.take_zero, List.drop_succ_cons, List.drop_zero, List.reverse_cons, List.reverse_nil, List.nil_append, List.cons_append, List.map_cons, List.map_nil, List.sum_cons, List.sum_nil, List.length_cons, List.length_nil, Option.toList_some, Option.toList_none, true_and, and_true, false_and, and_false, true_implies, false_implies, implies_true, not_true_eq_false, not_false_eq_true, ne_eq, if_true, if_false, Bool.and_true, Bool.true_and, decide_true, decide_false, reduceIte, reduceCtorEq, Bool.and_self, Bool.and_eq_true, decide_eq_true_eq, and_self, true_or, or_true, false_or, or_false, Nat.zero_add, Nat.add_zero, eq_self, Nat.reduceEqDiff, Nat.reduceLeDiff, Nat.reduceLT, Nat.reduceAdd, Nat.reduceSub, Nat.reduceMul, xi144_0, ix_0, xi144_1, ix_1, xi144_2, ix_2, xi144_3, ix_3, xi144_4, ix_4, xi144_5, ix_5, xi144_6, ix_6, xi144_7, ix_7, xi144_8, ix_8, xi144_9, ix_9, xi144_10, ix_10, LM_out hL, h10, nI_leP (show i < 2147483648 by omega) (show i < 2147483648 by omega), Nat.le_refl]
    exact kk J h
  | j + 1, i, J, hi, h => by
    have h1 := hr i (by omega)
    obtain ⟨g, hg, h3⟩ := h.2.1
    have h4 := FJ_g h (nx_lt g) (by decide)
    have nx := fun J => L281_86 hL h10 hn hI hr kk j (i + 1) J (by omega)
    have e273 := fun (b : Nat × Nat) (Q : xQ) => R273 (S := S) (R := R) (I := I) (J := J) (D := D) (b := b) (Q := Q) (k := 2) hL hg h3 (by decide) (by decide)
    rw [show nI 2 = (2 : Int32) from rfl] at e273
    rw [e281_86]
    simp only [B281_86, xSeq, i_push, i_load, i_iload, i_lload, i_dload, i_aload, i_istore, i_astore, i_lstore, i_dstore, i_iinc, i_ii, i_iiz, i_ll, i_llz, i_lli, i_li, i_i, i_l, i_i2l, i_l2i, i_dup, i_dup2, i_dup2w, i_dupx1, i_pop, i_pop2, i_goto, i_ifc, i_icmp, i_getI, i_getL, i_getR, i_putI, i_putZ, i_putL, i_putR, i_aldI, i_aldB, i_aldL, i_aldD, i_astI, i_astL, i_astD, i_alen, i_ret, i_iret, i_zret, i_lret, i_fret, i_dret, i_aret, i_invS0, i_invV0, i_m2, i_m1, i_ml, i_obj, lk, lkp, stf1, stf2, Value.category, rV, xTo, lv_args, xCk, xCat, xRc, xAk, hg_S, hg_I, hg_J, hg_D, hg_R, hs_I, hs_J, hs_D, hs_R, uI_at, uJ_at, uD_at, uR_at, List.take_succ_cons, List.take_zero, List.drop_succ_cons, List.drop_zero, List.reverse_cons, List.reverse_nil, List.nil_append, List.cons_append, List.map_cons, List.map_nil, List.sum_cons, List.sum_nil, List.length_cons, List.length_nil, Option.toList_some, Option.toList_none, true_and, and_true, false_and, and_false, true_implies, false_implies, implies_true, not_true_eq_false, not_false_eq_true, ne_eq, if_true, if_false, Bool.and_true, Bool.true_and, decide_true, decide_false, reduceIte, reduceCtorEq, Bool.and_self, Bool.and_eq_true, decide_eq_true_eq, and_self, true_or, or_true, false_or, or_false, Nat.zero_add, Nat.add_zero, eq_self, Nat.reduceEqDiff, Nat.reduceLeDiff, Nat.reduceLT, Nat.reduceAdd, Nat.reduceSub, Nat.reduceMul, xi144_0, ix_0, xi144_1, ix_1, xi144_2, ix_2, xi144_3, ix_3, xi144_4, ix_4, xi144_5, ix_5, xi144_6, ix_6, xi144_7, ix_7, xi144_8, ix_8, xi144_9, ix_9, xi144_10, ix_10, LM_out hL, h10, nI_leP (show n < 2147483648 by omega) (show i < 2147483648 by omega), show (n ≤ i) = False from eq_false (by omega), nI_inP (show i < 64 by omega) (by decide), nI_ix (show i < 2147483648 by omega), hI i (by omega), nI_iff (show r i < 2147483648 by omega) (show i < 2147483648 by omega), e273, e281_160, B281_160, e281_119, B281_119, nI_1]
    by_cases e : r i = i
    · by_cases e2 : nI (dw g 2) = 1
      · simp only [e, e2, true_and, and_true, false_and, and_false, true_implies, false_implies, implies_true, not_true_eq_false, not_false_eq_true, ne_eq, if_true, if_false, Bool.and_true, Bool.true_and, decide_true, decide_false, reduceIte, reduceCtorEq, Bool.and_self, Bool.and_eq_true, decide_eq_true_eq, and_self, true_or, or_true, false_or, or_false, Nat.zero_add, Nat.add_zero, eq_self, Nat.reduceEqDiff, Nat.reduceLeDiff, Nat.reduceLT, Nat.reduceAdd, Nat.reduceSub, Nat.reduceMul]
        refine L281_121 hL h10 hn hI hr (show i < 64 by omega) (fun J' h' => ?_) n 0 _ (by omega) h4
        rw [e281_160]
        simp only [B281_160, xSeq, i_push, i_load, i_iload, i_lload, i_dload, i_aload, i_istore, i_astore, i_lstore, i_dstore, i_iinc, i_ii, i_iiz, i_ll, i_llz, i_lli, i_li, i_i, i_l, i_i2l, i_l2i, i_dup, i_dup2, i_dup2w, i_dupx1, i_pop, i_pop2, i_goto, i_ifc, i_icmp, i_getI, i_getL, i_getR, i_putI, i_putZ, i_putL, i_putR, i_aldI, i_aldB, i_aldL, i_aldD, i_astI, i_astL, i_astD, i_alen, i_ret, i_iret, i_zret, i_lret, i_fret, i_dret, i_aret, i_invS0, i_invV0, i_m2, i_m1, i_ml, i_obj, lk, lkp, stf1, stf2, Value.category, rV, xTo, lv_args, xCk, xCat, xRc, xAk, hg_S, hg_I, hg_J, hg_D, hg_R, hs_I, hs_J, hs_D, hs_R, uI_at, uJ_at, uD_at, uR_at, List.take_succ_cons, List.take_zero, List.drop_succ_cons, List.drop_zero, List.reverse_cons, List.reverse_nil, List.nil_append, List.cons_append, List.map_cons, List.map_nil, List.sum_cons, List.sum_nil, List.length_cons, List.length_nil, Option.toList_some, Option.toList_none, true_and, and_true, false_and, and_false, true_implies, false_implies, implies_true, not_true_eq_false, not_false_eq_true, ne_eq, if_true, if_false, Bool.and_true, Bool.true_and, decide_true, decide_false, reduceIte, reduceCtorEq, Bool.and_self, Bool.and_eq_true, decide_eq_true_eq, and_self, true_or, or_true, false_or, or_false, Nat.zero_add, Nat.add_zero, eq_self, Nat.reduceEqDiff, Nat.reduceLeDiff, Nat.reduceLT, Nat.reduceAdd, Nat.reduceSub, Nat.reduceMul, nI_1]
        exact nx _ h'
      · simp only [e, e2, true_and, and_true, false_and, and_false, true_implies, false_implies, implies_true, not_true_eq_false, not_false_eq_true, ne_eq, if_true, if_false, Bool.and_true, Bool.true_and, decide_true, decide_false, reduceIte, reduceCtorEq, Bool.and_self, Bool.and_eq_true, decide_eq_true_eq, and_self, true_or, or_true, false_or, or_false, Nat.zero_add, Nat.add_zero, eq_self, Nat.reduceEqDiff, Nat.reduceLeDiff, Nat.reduceLT, Nat.reduceAdd, Nat.reduceSub, Nat.reduceMul]
        exact nx _ h4
    · simp only [e, true_and, and_true, false_and, and_false, true_implies, false_implies, implies_true, not_true_eq_false, not_false_eq_true, ne_eq, if_true, if_false, Bool.and_true, Bool.true_and, decide_true, decide_false, reduceIte, reduceCtorEq, Bool.and_self, Bool.and_eq_true, decide_eq_true_eq, and_self, true_or, or_true, false_or, or_false, Nat.zero_add, Nat.add_zero, eq_self, Nat.reduceEqDiff, Nat.reduceLeDiff, Nat.reduceLT, Nat.reduceAdd, Nat.reduceSub, Nat.reduceMul]
      exact nx _ h
theorem L281_19 {J : xJ} (hL : LM S R) (hG : GR n m fi se dg sb) (hC : CM I n m fi se dg sb) {a bb : Nat} (hA : I 300 2 = nI a) (hB : I 300 3 = nI bb) (ha : a < 2147483648) (h0 : 0 < bb) (hb : bb < 2147483648)
    {st : Nat → Nat} (hst : ∀ k, k < m → I 300 (16 + k) = nI (st k)) (hs3 : ∀ k, k < m → st k < 1000000) {x g : Nat} (hx : x < 2 ^ 64) (hJ : J 200 3 = lN x) (hg : g < 2147483648) (hJ2 : J 200 4 = lN g)
    (kk : ∀ I' J', (∀ o k, o ≠ 341 → I' o k = I o k) → FJ 200 3 4 J J' → Q (.ok (some (.int (nI (ct (fun s => decide ((jd n a bb st fi se x g m).1.getD s 0 = s)) n))))) (S, I', J', D, R) b) :
    xRun xT 281 19 [(0, .ref 200)] [] (S, I, J, D, R) b Q := by
  obtain ⟨y1, y2, y3⟩ := jd_ok (a := a) (bb := bb) (st := st) (x := x) hG hg m (Nat.le_refl _)
  have g1 := hG.2.1
  have e5 : uJ J 200 4 (lN (jd n a bb st fi se x g 0).2) = J := uJ_same hJ2
  have y64 : ∀ k, k < n → (jd n a bb st fi se x g m).1.getD k 0 < 64 := fun k hk => Nat.lt_of_lt_of_le (y2 k hk) g1
  rw [e281_19]
  simp only [B281_19, xSeq, i_push, i_load, i_iload, i_lload, i_dload, i_aload, i_istore, i_astore, i_lstore, i_dstore, i_iinc, i_ii, i_iiz, i_ll, i_llz, i_lli, i_li, i_i, i_l, i_i2l, i_l2i, i_dup, i_dup2, i_dup2w, i_dupx1, i_pop, i_pop2, i_goto, i_ifc, i_icmp, i_getI, i_getL, i_getR, i_putI, i_putZ, i_putL, i_putR, i_aldI, i_aldB, i_aldL, i_aldD, i_astI, i_astL, i_astD, i_alen, i_ret, i_iret, i_zret, i_lret, i_fret, i_dret, i_aret, i_invS0, i_invV0, i_m2, i_m1, i_ml, i_obj, lk, lkp, stf1, stf2, Value.category, rV, xTo, lv_args, xCk, xCat, xRc, xAk, hg_S, hg_I, hg_J, hg_D, hg_R, hs_I, hs_J, hs_D, hs_R, uI_at, uJ_at, uD_at, uR_at, List.take_succ_cons, List.take_zero, List.drop_succ_cons, List.drop_zero, List.reverse_cons, List.reverse_nil, List.nil_append, List.cons_append, List.map_cons, List.map_nil, List.sum_cons, List.sum_nil, List.length_cons, List.length_nil, Option.toList_some, Option.toList_none, true_and, and_true, false_and, and_false, true_implies, false_implies, implies_true, not_true_eq_false, not_false_eq_true, ne_eq, if_true, if_false, Bool.and_true, Bool.true_and, decide_true, decide_false, reduceIte, reduceCtorEq, Bool.and_self, Bool.and_eq_true, decide_eq_true_eq, and_self, true_or, or_true, false_or, or_false, Nat.zero_add, Nat.add_zero, eq_self, Nat.reduceEqDiff, Nat.reduceLeDiff, Nat.reduceLT, Nat.reduceAdd, Nat.reduceSub, Nat.reduceMul, LM_out hL]
  refine L282 hL hC.1 g1 (fun I' h' => ?_)
  simp only [xSeq, i_push, i_load, i_iload, i_lload, i_dload, i_aload, i_istore, i_astore, i_lstore, i_dstore, i_iinc, i_ii, i_iiz, i_ll, i_llz, i_lli, i_li, i_i, i_l, i_i2l, i_l2i, i_dup, i_dup2, i_dup2w, i_dupx1, i_pop, i_pop2, i_goto, i_ifc, i_icmp, i_getI, i_getL, i_getR, i_putI, i_putZ, i_putL, i_putR, i_aldI, i_aldB, i_aldL, i_aldD, i_astI, i_astL, i_astD, i_alen, i_ret, i_iret, i_zret, i_lret, i_fret, i_dret, i_aret, i_invS0, i_invV0, i_m2, i_m1, i_ml, i_obj, lk, lkp, stf1, stf2, Value.category, rV, xTo, lv_args, xCk, xCat, xRc, xAk, hg_S, hg_I, hg_J, hg_D, hg_R, hs_I, hs_J, hs_D, hs_R, uI_at, uJ_at, uD_at, uR_at, List.take_succ_cons, List.take_zero, List.drop_succ_cons, List.drop_zero, List.reverse_cons, List.reverse_nil, List.nil_append, List.cons_append, List.map_cons, List.map_nil, List.sum_cons, List.sum_nil, List.length_cons, List.length_nil, Option.toList_some, Option.toList_none, true_and, and_true, false_and, and_false, true_implies, false_implies, implies_true, not_true_eq_false, not_false_eq_true, ne_eq, if_true, if_false, Bool.and_true, Bool.true_and, decide_true, decide_false, reduceIte, reduceCtorEq, Bool.and_self, Bool.and_eq_true, decide_eq_true_eq, and_self, true_or, or_true, false_or, or_false, Nat.zero_add, Nat.add_zero, eq_self, Nat.reduceEqDiff, Nat.reduceLeDiff, Nat.reduceLT, Nat.reduceAdd, Nat.reduceSub, Nat.reduceMul]
  have hr := L281_25 (S := S) (R := R) (D := D) (b := b) (Q := Q) hL hG hC hA hB ha h0 hb hst hs3 hx hJ hg (fun I2 h2 => by
    have hj : FJ 200 3 4 J (uJ J 200 4 (lN (jd n a bb st fi se x g m).2)) := FJ_g ⟨⟨x, hx, hJ⟩, ⟨g, hg, hJ2⟩, fun _ _ _ => rfl⟩ y3 (by decide)
    have h10 := (GO_CM h2 hC).1
    rw [e281_84]
    simp only [B281_84, xSeq, i_push, i_load, i_iload, i_lload, i_dload, i_aload, i_istore, i_astore, i_lstore, i_dstore, i_iinc, i_ii, i_iiz, i_ll, i_llz, i_lli, i_li, i_i, i_l, i_i2l, i_l2i, i_dup, i_dup2, i_dup2w, i_dupx1, i_pop, i_pop2, i_goto, i_ifc, i_icmp, i_getI, i_getL, i_getR, i_putI, i_putZ, i_putL, i_putR, i_aldI, i_aldB, i_aldL, i_aldD, i_astI, i_astL, i_astD, i_alen, i_ret, i_iret, i_zret, i_lret, i_fret, i_dret, i_aret, i_invS0, i_invV0, i_m2, i_m1, i_ml, i_obj, lk, lkp, stf1, stf2, Value.category, rV, xTo, lv_args, xCk, xCat, xRc, xAk, hg_S, hg_I, hg_J, hg_D, hg_R, hs_I, hs_J, hs_D, hs_R, uI_at, uJ_at, uD_at, uR_at, List.take_succ_cons, List.take_zero, List.drop_succ_cons, List.drop_zero, List.reverse_cons, List.reverse_nil, List.nil_append, List.cons_append, List.map_cons, List.map_nil, List.sum_cons, List.sum_nil, List.length_cons, List.length_nil, Option.toList_some, Option.toList_none, true_and, and_true, false_and, and_false, true_implies, false_implies, implies_true, not_true_eq_false, not_false_eq_true, ne_eq, if_true, if_false, Bool.and_true, Bool.true_and, decide_true, decide_false, reduceIte, reduceCtorEq, Bool.and_self, Bool.and_eq_true, decide_eq_true_eq, and_self, true_or, or_true, false_or, or_false, Nat.zero_add, Nat.add_zero, eq_self, Nat.reduceEqDiff, Nat.reduceLeDiff, Nat.reduceLT, Nat.reduceAdd, Nat.reduceSub, Nat.reduceMul]
    refine L281_86 hL h10 g1 h2.1 y64 (fun J3 h3 => ?_) n 0 _ (by omega) hj
    rw [e281_166]
    simp only [B281_166, xSeq, i_push, i_load, i_iload, i_lload, i_dload, i_aload, i_istore, i_astore, i_lstore, i_dstore, i_iinc, i_ii, i_iiz, i_ll, i_llz, i_lli, i_li, i_i, i_l, i_i2l, i_l2i, i_dup, i_dup2, i_dup2w, i_dupx1, i_pop, i_pop2, i_goto, i_ifc, i_icmp, i_getI, i_getL, i_getR, i_putI, i_putZ, i_putL, i_putR, i_aldI, i_aldB, i_aldL, i_aldD, i_astI, i_astL, i_astD, i_alen, i_ret, i_iret, i_zret, i_lret, i_fret, i_dret, i_aret, i_invS0, i_invV0, i_m2, i_m1, i_ml, i_obj, lk, lkp, stf1, stf2, Value.category, rV, xTo, lv_args, xCk, xCat, xRc, xAk, hg_S, hg_I, hg_J, hg_D, hg_R, hs_I, hs_J, hs_D, hs_R, uI_at, uJ_at, uD_at, uR_at, List.take_succ_cons, List.take_zero, List.drop_succ_cons, List.drop_zero, List.reverse_cons, List.reverse_nil, List.nil_append, List.cons_append, List.map_cons, List.map_nil, List.sum_cons, List.sum_nil, List.length_cons, List.length_nil, Option.toList_some, Option.toList_none, true_and, and_true, false_and, and_false, true_implies, false_implies, implies_true, not_true_eq_false, not_false_eq_true, ne_eq, if_true, if_false, Bool.and_true, Bool.true_and, decide_true, decide_false, reduceIte, reduceCtorEq, Bool.and_self, Bool.and_eq_true, decide_eq_true_eq, and_self, true_or, or_true, false_or, or_false, Nat.zero_add, Nat.add_zero, eq_self, Nat.reduceEqDiff, Nat.reduceLeDiff, Nat.reduceLT, Nat.reduceAdd, Nat.reduceSub, Nat.reduceMul, LM_out hL]
    rw [R284 hL h10 g1 h2.1 y64]
    simp only [xSeq, i_push, i_load, i_iload, i_lload, i_dload, i_aload, i_istore, i_astore, i_lstore, i_dstore, i_iinc, i_ii, i_iiz, i_ll, i_llz, i_lli, i_li, i_i, i_l, i_i2l, i_l2i, i_dup, i_dup2, i_dup2w, i_dupx1, i_pop, i_pop2, i_goto, i_ifc, i_icmp, i_getI, i_getL, i_getR, i_putI, i_putZ, i_putL, i_putR, i_aldI, i_aldB, i_aldL, i_aldD, i_astI, i_astL, i_astD, i_alen, i_ret, i_iret, i_zret, i_lret, i_fret, i_dret, i_aret, i_invS0, i_invV0, i_m2, i_m1, i_ml, i_obj, lk, lkp, stf1, stf2, Value.category, rV, xTo, lv_args, xCk, xCat, xRc, xAk, hg_S, hg_I, hg_J, hg_D, hg_R, hs_I, hs_J, hs_D, hs_R, uI_at, uJ_at, uD_at, uR_at, List.take_succ_cons, List.take_zero, List.drop_succ_cons, List.drop_zero, List.reverse_cons, List.reverse_nil, List.nil_append, List.cons_append, List.map_cons, List.map_nil, List.sum_cons, List.sum_nil, List.length_cons, List.length_nil, Option.toList_some, Option.toList_none, true_and, and_true, false_and, and_false, true_implies, false_implies, implies_true, not_true_eq_false, not_false_eq_true, ne_eq, if_true, if_false, Bool.and_true, Bool.true_and, decide_true, decide_false, reduceIte, reduceCtorEq, Bool.and_self, Bool.and_eq_true, decide_eq_true_eq, and_self, true_or, or_true, false_or, or_false, Nat.zero_add, Nat.add_zero, eq_self, Nat.reduceEqDiff, Nat.reduceLeDiff, Nat.reduceLT, Nat.reduceAdd, Nat.reduceSub, Nat.reduceMul]
    exact kk I2 J3 h2.2 h3) m 0 I' (by omega) ⟨fun k hk => ?_, h'.2⟩
  · rw [e5] at hr
    exact hr
  · have e : (List.range n).getD k 0 = k := by rw [← List.getElem_eq_getD (h := by rw [List.length_range]; exact hk) 0, List.getElem_range]
    exact (h'.1 k hk).trans (congrArg nI e.symm)
end
/-! ===== sums that are never -0 ===== -/
section
theorem rp_1 : rp 1 := by
  have h : FP.Core.val64 1 = .fin false 1 FP.Core.b64.qmin := by decide +kernel
  refine rp_val (x := 1) (N := 1) ⟨⟨_, _, _, h⟩, ?_⟩ ?_
  · unfold fz
    rw [h]
    decide +kernel
  · unfold fz
    rw [h]
    decide +kernel
theorem nz_dat {a : UInt64} {s : Bool} {c : Nat} {q : Int} (ea : FP.Core.val64 a = .fin s c q) (hz : a ≠ FP.Core.dzeroNeg) (h0 : c = 0) : s = false := by
  subst h0
  cases s
  · rfl
  · refine absurd (FP.Core.val64_inj (by rw [ea]; exact FP.Core.Datum.noConfusion) ?_) hz
    have hq := FP.Core.fits_zero_q FP.Core.good_b64 (ea ▸ FP.Core.val64_fits a)
    rw [ea, hq, FP.Core.val64_dzeroNeg]
theorem nz_add {N M : Nat} {a b : UInt64} (ha : fb N a) (hz : a ≠ FP.Core.dzeroNeg) (hb : fb M b) : FP.dadd a b ≠ FP.Core.dzeroNeg := by
  obtain ⟨⟨s, c, q, ea⟩, la⟩ := ha
  obtain ⟨⟨t, d, r, eb⟩, lb⟩ := hb
  have fa := FP.Core.val64_fits a
  have f2 := FP.Core.val64_fits b
  rw [ea] at fa
  rw [eb] at f2
  have hq := fa.2.1
  have hr := f2.2.1
  intro e
  have h : FP.Core.val64 (FP.dadd a b) = _ := FP.Core.val64_dadd a b
  rw [e, ea, eb, FP.Core.val64_dzeroNeg] at h
  have h2 : FP.Core.Datum.fin true 0 FP.Core.b64.qmin = FP.Core.roundRatio FP.Core.b64 (FP.Core.sumSign s t (FP.Core.sumUnits s c q t d r (min q r))) (FP.Core.sumUnits s c q t d r (min q r)).natAbs 1 (min q r) := h
  by_cases hu : FP.Core.sumUnits s c q t d r (min q r) = 0
  · rw [hu] at h2
    have h3 : FP.Core.roundRatio FP.Core.b64 (FP.Core.sumSign s t 0) (Int.natAbs 0) 1 (min q r) = .fin (s && t) 0 FP.Core.b64.qmin := rfl
    rw [h3] at h2
    injection h2 with h4
    have h5 : s = true ∧ t = true := by simpa using h4.symm
    have hc : c ≠ 0 := fun h0 => by
      have := nz_dat ea hz h0
      rw [h5.1] at this
      exact absurd this (by decide)
    unfold FP.Core.sumUnits at hu
    rw [h5.1, h5.2] at hu
    have hp : 0 < FP.Core.inUnits c q (min q r) := Nat.mul_pos (by omega) (Nat.two_pow_pos _)
    unfold FP.Core.signed at hu
    simp only [if_true] at hu
    omega
  · have h3 : 1 ≤ FP.Core.zmag FP.Core.b64 (.fin true 0 FP.Core.b64.qmin) := by
      rw [h2]
      refine rr_ge (by decide) rp_1 (Int.le_refl FP.Core.b64.qmin) (by omega) ?_
      rw [Int.sub_self, Nat.mul_one, Nat.one_mul]
      have hn : 0 < (FP.Core.sumUnits s c q t d r (min q r)).natAbs := by omega
      exact Nat.mul_pos hn (Nat.two_pow_pos _)
    exact absurd h3 (by decide +kernel)
theorem gp_zero {x : UInt64} (h : gp 0 0 x) : x = FP.dconst0 := by
  obtain ⟨⟨c, q, e⟩, h1, h2⟩ := h
  have hc : c = 0 := by
    unfold fz at h2
    rw [e] at h2
    refine Classical.byContradiction (fun hc => ?_)
    have : 0 < FP.Core.zmag FP.Core.b64 (.fin false c q) := Nat.mul_pos (by omega) (Nat.two_pow_pos _)
    omega
  subst hc
  have hq := FP.Core.fits_zero_q FP.Core.good_b64 (e ▸ FP.Core.val64_fits x)
  refine FP.Core.val64_inj (by rw [e]; exact FP.Core.Datum.noConfusion) ?_
  rw [e, hq]
  exact FP.Core.val64_dconst0.symm
theorem fb_add0 {N : Nat} {a : UInt64} (ha : fb N a) (hz : a ≠ FP.Core.dzeroNeg) : FP.dadd a FP.dconst0 = a := by
  obtain ⟨⟨s, c, q, ea⟩, la⟩ := ha
  exact FP.Core.dadd_zero (by rw [ea]; exact FP.Core.Datum.noConfusion) hz
theorem gp_nz {L N : Nat} {a : UInt64} (h : gp L N a) : a ≠ FP.Core.dzeroNeg := by
  obtain ⟨⟨c, q, e⟩, -⟩ := h
  intro e2
  rw [e2, FP.Core.val64_dzeroNeg] at e
  injection e with e3
  exact absurd e3 (by decide)
theorem c0_nz : FP.dconst0 ≠ FP.Core.dzeroNeg := gp_nz gp_0
theorem i2d_fb {x : Int32} {K : Nat} (h : x.toInt.natAbs ≤ K) (hK : K < 9007199254740992) : fb (K * uo) (FP.i2d x) := by
  have e : FP.i2d x = FP.l2d x.toInt64 := FP.Core.i2d_l2d x
  rw [e]
  exact l2d_fb (by rw [Int32.toInt_toInt64]; exact h) hK
end
/-! ===== correlations: numbers and the lab ===== -/
section
/-- configurations at a distance from the least energy; how two spins agree in them -/
def pc (E : Nat → Int32) (n i k : Nat) : Nat := ct (fun c => decide (ui E n c = k)) i
def am (E : Nat → Int32) (n s t k : Nat) : Nat → Int32
  | 0 => 0
  | i + 1 => am E n s t k i + (if ui E n i = k then (if i.testBit s = i.testBit t then 1 else -1) else 0)
def cT (E : Nat → Int32) (n s t : Nat) (r : UInt64) (k : Nat) : UInt64 := FP.dmul (FP.i2d (am E n s t k (2 ^ n))) (wP r k)
def cB (E : Nat → Int32) (n : Nat) (r : UInt64) (k : Nat) : UInt64 := FP.dmul (FP.i2d (nI (pc E n (2 ^ n) k))) (wP r k)
def cS (E : Nat → Int32) (n s t : Nat) (r : UInt64) : Nat → UInt64
  | 0 => FP.dconst0
  | k + 1 => FP.dadd (cS E n s t r k) (cT E n s t r k)
def cA (E : Nat → Int32) (n : Nat) (r : UInt64) : Nat → UInt64
  | 0 => FP.dconst0
  | k + 1 => FP.dadd (cA E n r k) (cB E n r k)
def co (E : Nat → Int32) (n s t : Nat) (r : UInt64) : UInt64 := FP.ddiv (cS E n s t r 289) (cA E n r 289)
variable {E : Nat → Int32} {n s t : Nat} {r : UInt64}
theorem am_bd (k : Nat) : ∀ i, i ≤ 65536 → -(pc E n i k : Int) ≤ (am E n s t k i).toInt ∧ (am E n s t k i).toInt ≤ (pc E n i k : Int)
  | 0, _ => by
    rw [am]
    exact ⟨by show -((0 : Nat) : Int) ≤ 0; omega, by show (0 : Int) ≤ ((0 : Nat) : Int); omega⟩
  | i + 1, hi => by
    have ih := am_bd k i (by omega)
    have hp : pc E n i k ≤ i := ct_le _ i
    have e : pc E n (i + 1) k = pc E n i k + if decide (ui E n i = k) = true then 1 else 0 := rfl
    rw [am, e]
    by_cases h : ui E n i = k
    · rw [if_pos h, if_pos (decide_eq_true h)]
      have h1 : -(1 : Int) ≤ (if i.testBit s = i.testBit t then (1 : Int32) else -1).toInt ∧ (if i.testBit s = i.testBit t then (1 : Int32) else -1).toInt ≤ 1 := by
        split
        · exact ⟨by decide, by decide⟩
        · exact ⟨by decide, by decide⟩
      rw [i32_addT ih h1 (by omega)]
      omega
    · rw [if_neg h, if_neg (by rw [decide_eq_false h]; decide), Int32.add_zero]
      omega
theorem pc_le (hB : EB E n) (k : Nat) : pc E n (2 ^ n) k ≤ 65536 := Nat.le_trans (ct_le _ _) (pow16 hB.1)
theorem am_0 (hB : EB E n) {k : Nat} (h : pc E n (2 ^ n) k = 0) : am E n s t k (2 ^ n) = 0 := by
  have h2 := am_bd (E := E) (n := n) (s := s) (t := t) k (2 ^ n) (pow16 hB.1)
  rw [h] at h2
  apply Int32.toInt_inj.mp
  show (am E n s t k (2 ^ n)).toInt = 0
  omega
theorem pc_no (hB : EB E n) {k : Nat} (h : ∀ c, c < 2 ^ n → ui E n c ≠ k) : pc E n (2 ^ n) k = 0 := by
  refine Classical.byContradiction (fun h2 => ?_)
  obtain ⟨c, hc, e⟩ := ct_pos.mp (Nat.pos_of_ne_zero h2)
  exact h c hc (of_decide_eq_true e)
theorem pc_pos (hB : EB E n) : 0 < pc E n (2 ^ n) 0 := by
  have h1 := (lv_get hB (lv_pos hB)).2.1
  obtain ⟨c, hc, e⟩ := ct_pos.mp h1
  have e2 := of_decide_eq_true e
  refine ct_pos.mpr ⟨c, hc, decide_eq_true ?_⟩
  obtain ⟨-, h2, -, -⟩ := yL_ok hB hc
  unfold ui
  rw [← e2, ← h2]
  omega
theorem cT_fb (hB : EB E n) (hr : gp 0 uo r) (k : Nat) : fb (65536 * uo) (cT E n s t r k) := by
  have h := am_bd (E := E) (n := n) (s := s) (t := t) k (2 ^ n) (pow16 hB.1)
  have h2 := pc_le hB k
  exact fb_mul (i2d_fb (K := 65536) (by omega) (by decide)) (gp_fb (wP_gp hr k)) (rp_n (by decide)) (Nat.le_refl _)
theorem cT_0 (hB : EB E n) (hr : gp 0 uo r) {k : Nat} (h : pc E n (2 ^ n) k = 0) : cT E n s t r k = FP.dconst0 := by
  unfold cT
  rw [am_0 hB h]
  have h0 := i2d_n (k := 0) (by decide)
  rw [Nat.zero_mul, nI_0] at h0
  exact gp_zero (gp_mul h0 (wP_gp hr k) rp_0 (by rw [Nat.zero_mul]; exact Nat.zero_le _) rp_0 (by rw [Nat.zero_mul]; exact Nat.zero_le _))
theorem cB_gp (hB : EB E n) (hr : gp 0 uo r) (k : Nat) : gp 0 (65536 * uo) (cB E n r k) := by
  have h2 := pc_le hB k
  exact gp_mul (i2d_n (k := pc E n (2 ^ n) k) (by omega)) (wP_gp hr k) (rp_n (by decide)) (Nat.mul_le_mul_right _ (Nat.mul_le_mul_right _ h2)) rp_0 (by rw [Nat.zero_mul]; exact Nat.zero_le _)
theorem cB_0 (hB : EB E n) (hr : gp 0 uo r) {k : Nat} (h : pc E n (2 ^ n) k = 0) : cB E n r k = FP.dconst0 := by
  unfold cB
  rw [h]
  have h0 := i2d_n (k := 0) (by decide)
  rw [Nat.zero_mul] at h0
  exact gp_zero (gp_mul h0 (wP_gp hr k) rp_0 (by rw [Nat.zero_mul]; exact Nat.zero_le _) rp_0 (by rw [Nat.zero_mul]; exact Nat.zero_le _))
theorem cB_1 (hB : EB E n) : gp uo (65536 * uo) (cB E n r 0) := by
  have h2 := pc_le hB 0
  have h3 := pc_pos hB
  have e : wP r 0 = FP.dconst1 := rfl
  unfold cB
  rw [e]
  exact gp_mul (i2d_n (k := pc E n (2 ^ n) 0) (by omega)) gp_1 (rp_n (by decide)) (Nat.mul_le_mul_right _ (Nat.mul_le_mul_right _ h2)) rp_u (by
    rw [Nat.mul_assoc]
    exact Nat.le_mul_of_pos_left _ h3)
theorem cS_ok (hB : EB E n) (hr : gp 0 uo r) : ∀ j, j ≤ 401 → fb (j * 65536 * uo) (cS E n s t r j) ∧ cS E n s t r j ≠ FP.Core.dzeroNeg
  | 0, _ => by
    simp only [Nat.zero_mul]
    exact ⟨gp_fb gp_0, c0_nz⟩
  | j + 1, hj => by
    obtain ⟨h1, h2⟩ := cS_ok hB hr j (by omega)
    have h3 := cT_fb (s := s) (t := t) hB hr j
    refine ⟨fb_add h1 h3 (rp_n (by omega)) ?_, nz_add h1 h2 h3⟩
    rw [← Nat.add_mul, Nat.add_mul j 1, Nat.one_mul]
    exact Nat.le_refl _
theorem cA_ok (hB : EB E n) (hr : gp 0 uo r) : ∀ j, j + 1 ≤ 401 → gp uo ((j + 1) * 65536 * uo) (cA E n r (j + 1))
  | 0, _ => by
    have h := cB_1 (r := r) hB
    rw [Nat.one_mul]
    exact gp_add gp_0 h (rp_n (by decide)) (by rw [Nat.zero_add]; exact Nat.le_refl _) rp_u (by rw [Nat.zero_add]; exact Nat.le_refl _)
  | j + 1, hj => by
    have h1 := cA_ok hB hr j (by omega)
    have h3 := cB_gp (E := E) hB hr (j + 1)
    refine gp_add h1 h3 (rp_n (by omega)) ?_ rp_u (Nat.le_add_right _ _)
    rw [← Nat.add_mul, Nat.add_mul (j + 1) 1, Nat.one_mul]
    exact Nat.le_refl _
theorem cA_n (hB : EB E n) (hr : gp 0 uo r) {j : Nat} (hj : j ≤ 401) : isNaN64 (cA E n r j) = false ∧ cA E n r j ≠ FP.Core.dzeroNeg ∧ ∃ N, fb N (cA E n r j) := by
  cases j with
  | zero => exact ⟨fb_n (gp_fb gp_0), c0_nz, _, gp_fb gp_0⟩
  | succ j =>
    have h := cA_ok (E := E) hB hr j hj
    exact ⟨fb_n (gp_fb h), gp_nz h, _, gp_fb h⟩
theorem c_skip (hB : EB E n) (hr : gp 0 uo r) {k : Nat} (hk : k ≤ 401) (h : pc E n (2 ^ n) k = 0) : cS E n s t r (k + 1) = cS E n s t r k ∧ cA E n r (k + 1) = cA E n r k := by
  obtain ⟨h1, h2⟩ := cS_ok (s := s) (t := t) hB hr k hk
  obtain ⟨h3, h4, N, h5⟩ := cA_n (E := E) hB hr hk
  rw [cS, cA, cT_0 hB hr h, cB_0 hB hr h]
  exact ⟨fb_add0 h1 h2, fb_add0 h5 h4⟩
theorem c_far (hB : EB E n) (hr : gp 0 uo r) : ∀ (d i : Nat), i + d ≤ 401 → (∀ k, i ≤ k → k < i + d → pc E n (2 ^ n) k = 0) → cS E n s t r (i + d) = cS E n s t r i ∧ cA E n r (i + d) = cA E n r i
  | 0, i, _, _ => ⟨rfl, rfl⟩
  | d + 1, i, hi, h => by
    obtain ⟨h1, h2⟩ := c_far hB hr d i (by omega) (fun k a b => h k a (by omega))
    obtain ⟨h3, h4⟩ := c_skip (s := s) (t := t) hB hr (k := i + d) (by omega) (h (i + d) (by omega) (by omega))
    rw [← Nat.add_assoc, h3, h4]
    exact ⟨h1, h2⟩
theorem co_fb (hB : EB E n) (hr : gp 0 uo r) : fb (289 * 65536 * uo) (co E n s t r) :=
  fb_div (cS_ok hB hr 289 (by decide)).1 (cA_ok hB hr 288 (by decide)) uo_pos (rp_n (by decide)) (Nat.le_refl _)
theorem xbit {c s t : Nat} : ((c / 2 ^ s ^^^ c / 2 ^ t) % 2 = 0) = (c.testBit s = c.testBit t) := by
  have h := Nat.testBit_xor (c / 2 ^ s) (c / 2 ^ t) 0
  rw [Nat.testBit_zero, Nat.testBit_div_two_pow, Nat.testBit_div_two_pow, Nat.zero_add, Nat.zero_add] at h
  apply propext
  constructor
  · intro e
    rw [e] at h
    have h2 : (c.testBit s ^^ c.testBit t) = false := h.symm
    cases h3 : c.testBit s <;> cases h4 : c.testBit t <;> rw [h3, h4] at h2 <;> first | rfl | exact absurd h2 (by decide)
  · intro e
    rw [e, Bool.xor_self] at h
    have := of_decide_eq_false h
    omega
variable {S : xS} {I : xI} {J : xJ} {D : xDb} {R : xR} {b : Nat × Nat} {Q : xQ} {x y : Nat}
/-- the rows of the lab -/
def GC (E : Nat → Int32) (n s t i : Nat) (I0 I : xI) : Prop := (∀ k, k < 289 → I 137 k = nI (pc E n i k) ∧ I 138 k = am E n s t k i) ∧ ∀ o k, o ≠ 137 → o ≠ 138 → I o k = I0 o k
theorem GC_XL {i : Nat} {I0 : xI} (h : GC E n s t i I0 I) (hX : XL n E S I0 R) : XL n E S I R := by
  obtain ⟨x1, x2, x3, x4, x5, x6, x7, x8⟩ := hX
  have f := h.2
  refine ⟨x1, ?_, ?_, ?_, ?_, ?_, ?_, fun c hc => ?_⟩
  · rw [f _ _ (by decide) (by decide)]; exact x2
  · rw [f _ _ (by decide) (by decide)]; exact x3
  · rw [f _ _ (by decide) (by decide)]; exact x4
  · rw [f _ _ (by decide) (by decide)]; exact x5
  · rw [f _ _ (by decide) (by decide)]; exact x6
  · intro i hi
    rw [f _ _ (by decide) (by decide), f _ _ (by decide) (by decide), f _ _ (by decide) (by decide)]
    exact x7 i hi
  · rw [f _ _ (by decide) (by decide)]; exact x8 c hc
theorem L111_18 {I0 : xI} (hL : LC S R) (hX0 : XL n E S I0 R) (hB : EB E n) (hs : s < 16) (ht : t < 16)
    (kk : ∀ I, GC E n s t (2 ^ n) I0 I → xRun xT 111 83 [(0, .ref 130)] [] (S, I, J, D, R) b Q) :
    ∀ (j i : Nat) (I : xI), i + j = 2 ^ n → GC E n s t i I0 I → xRun xT 111 18 [(0, .ref 130), (1, .int (nI s)), (2, .int (nI t)), (3, .int (nI i))] [] (S, I, J, D, R) b Q
  | 0, i, I, hi, h => by
    have hp := pow16 hB.1
    have hX := GC_XL h hX0
    have e : i = 2 ^ n := by omega
    subst e
    rw [e111_18]
    simp only [B111_18, xSeq, i_push, i_load, i_iload, i_lload, i_dload, i_aload, i_istore, i_astore, i_lstore, i_dstore, i_iinc, i_ii, i_iiz, i_ll, i_llz, i_lli, i_li, i_i, i_l, i_i2l, i_l2i, i_dup, i_dup2, i_dup2w, i_dupx1, i_pop, i_pop2, i_goto, i_ifc, i_icmp, i_getI, i_getL, i_getR, i_putI, i_putZ, i_putL, i_putR, i_aldI, i_aldB, i_aldL, i_aldD, i_astI, i_astL, i_astD, i_alen, i_ret, i_iret, i_zret, i_lret, i_fret, i_dret, i_aret, i_invS0, i_invV0, i_m2, i_m1, i_ml, i_obj, lk, lkp, stf1, stf2, Value.category, rV, xTo, lv_args, xCk, xCat, xRc, xAk, hg_S, hg_I, hg_J, hg_D, hg_R, hs_I, hs_J, hs_D, hs_R, uI_at, uJ_at, uD_at, uR_at, List.take_succ_cons, List.take_zero, List.drop_succ_cons, List.drop_zero, List.reverse_cons, List.reverse_nil, List.nil_append, List.cons_append, List.map_cons, List.map_nil, List.sum_cons, List.sum_nil, List.length_cons, List.length_nil, Option.toList_some, Option.toList_none, true_and, and_true, false_and, and_false, true_implies, false_implies, implies_true, not_true_eq_false, not_false_eq_true, ne_eq, if_true, if_false, Bool.and_true, Bool.true_and, decide_true, decide_false, reduceIte, reduceCtorEq, Bool.and_self, Bool.and_eq_true, decide_eq_true_eq, and_self, true_or, or_true, false_or, or_false, Nat.zero_add, Nat.add_zero, eq_self, Nat.reduceEqDiff, Nat.reduceLeDiff, Nat.reduceLT, Nat.reduceAdd, Nat.reduceSub, Nat.reduceMul, LC_out hL, hX.2.2.2.1, nI_leP (show 2 ^ n < 2147483648 by omega) (show 2 ^ n < 2147483648 by omega), Nat.le_refl]
    exact kk I h
  | j + 1, i, I, hi, h => by
    have hp := pow16 hB.1
    have hX := GC_XL h hX0
    have hc : i < 2 ^ n := by omega
    obtain ⟨u1, u2⟩ := ui_ok hB hc
    have nx := fun I => L111_18 hL hX0 hB hs ht kk j (i + 1) I (by omega)
    obtain ⟨u, hu⟩ : ∃ u, u = ui E n i := ⟨_, rfl⟩
    rw [← hu] at u1 u2
    obtain ⟨g1, g2⟩ := h.1 u u2
    have eb : (jRem (nI (i / 2 ^ s) ^^^ nI (i / 2 ^ t)) 2 = 0) = (i.testBit s = i.testBit t) := by
      have hd1 := Nat.div_le_self i (2 ^ s)
      have hd2 := Nat.div_le_self i (2 ^ t)
      have hx : i / 2 ^ s ^^^ i / 2 ^ t < 2 ^ 31 := Nat.xor_lt_two_pow (by omega) (by omega)
      rw [i_xorN, show (2 : Int32) = nI 2 from rfl, q_rem hx (by decide) (by decide), show (0 : Int32) = nI 0 from rfl, nI_iff (by omega) (by decide), xbit]
    have fin : ∀ v : Int32, v = (if i.testBit s = i.testBit t then 1 else -1) → GC E n s t (i + 1) I0 (uI (uI I 137 u (nI (pc E n i u + 1))) 138 u (am E n s t u i + v)) := fun v hv => by
      refine ⟨fun k hk => ?_, fun o k h1 h2 => ?_⟩
      · have e1 : pc E n (i + 1) k = pc E n i k + if decide (ui E n i = k) = true then 1 else 0 := rfl
        have e2 : am E n s t k (i + 1) = am E n s t k i + (if ui E n i = k then (if i.testBit s = i.testBit t then 1 else -1) else 0) := rfl
        rw [e1, e2, ← hu, ← hv]
        obtain ⟨k1, k2⟩ := h.1 k hk
        by_cases e : k = u
        · subst e
          simp only [uI_at, true_and, and_true, false_and, and_false, true_implies, false_implies, implies_true, not_true_eq_false, not_false_eq_true, ne_eq, if_true, if_false, Bool.and_true, Bool.true_and, decide_true, decide_false, reduceIte, reduceCtorEq, Bool.and_self, Bool.and_eq_true, decide_eq_true_eq, and_self, true_or, or_true, false_or, or_false, Nat.zero_add, Nat.add_zero, eq_self, Nat.reduceEqDiff, Nat.reduceLeDiff, Nat.reduceLT, Nat.reduceAdd, Nat.reduceSub, Nat.reduceMul, if_true, decide_true]
        · have e' : ¬ u = k := fun h => e h.symm
          simp only [uI_at, true_and, and_true, false_and, and_false, true_implies, false_implies, implies_true, not_true_eq_false, not_false_eq_true, ne_eq, if_true, if_false, Bool.and_true, Bool.true_and, decide_true, decide_false, reduceIte, reduceCtorEq, Bool.and_self, Bool.and_eq_true, decide_eq_true_eq, and_self, true_or, or_true, false_or, or_false, Nat.zero_add, Nat.add_zero, eq_self, Nat.reduceEqDiff, Nat.reduceLeDiff, Nat.reduceLT, Nat.reduceAdd, Nat.reduceSub, Nat.reduceMul, e, e', if_false, decide_false, Nat.add_zero, Int32.add_zero, and_false]
          exact ⟨k1, k2⟩
      · rw [uI_at, if_neg (fun e => h2 e.1), uI_at, if_neg (fun e => h1 e.1)]
        exact h.2 o k h1 h2
    rw [e111_18]
    simp only [B111_18, xSeq, i_push, i_load, i_iload, i_lload, i_dload, i_aload, i_istore, i_astore, i_lstore, i_dstore, i_iinc, i_ii, i_iiz, i_ll, i_llz, i_lli, i_li, i_i, i_l, i_i2l, i_l2i, i_dup, i_dup2, i_dup2w, i_dupx1, i_pop, i_pop2, i_goto, i_ifc, i_icmp, i_getI, i_getL, i_getR, i_putI, i_putZ, i_putL, i_putR, i_aldI, i_aldB, i_aldL, i_aldD, i_astI, i_astL, i_astD, i_alen, i_ret, i_iret, i_zret, i_lret, i_fret, i_dret, i_aret, i_invS0, i_invV0, i_m2, i_m1, i_ml, i_obj, lk, lkp, stf1, stf2, Value.category, rV, xTo, lv_args, xCk, xCat, xRc, xAk, hg_S, hg_I, hg_J, hg_D, hg_R, hs_I, hs_J, hs_D, hs_R, uI_at, uJ_at, uD_at, uR_at, List.take_succ_cons, List.take_zero, List.drop_succ_cons, List.drop_zero, List.reverse_cons, List.reverse_nil, List.nil_append, List.cons_append, List.map_cons, List.map_nil, List.sum_cons, List.sum_nil, List.length_cons, List.length_nil, Option.toList_some, Option.toList_none, true_and, and_true, false_and, and_false, true_implies, false_implies, implies_true, not_true_eq_false, not_false_eq_true, ne_eq, if_true, if_false, Bool.and_true, Bool.true_and, decide_true, decide_false, reduceIte, reduceCtorEq, Bool.and_self, Bool.and_eq_true, decide_eq_true_eq, and_self, true_or, or_true, false_or, or_false, Nat.zero_add, Nat.add_zero, eq_self, Nat.reduceEqDiff, Nat.reduceLeDiff, Nat.reduceLT, Nat.reduceAdd, Nat.reduceSub, Nat.reduceMul, LC_out hL, LE_out hX.1, hX.2.2.2.1, hX.2.2.2.2.1, nI_leP (show 2 ^ n < 2147483648 by omega) (show i < 2147483648 by omega), show (2 ^ n ≤ i) = False from eq_false (by omega), nI_inP (show i < 65536 by omega) (by decide), nI_ix (show i < 2147483648 by omega), hX.2.2.2.2.2.2.2 i hc, u1, nI_inP u2 (by decide), nI_ix (show u < 2147483648 by omega), g1, g2, i_shr (show i < 2147483648 by omega) (show s < 31 by omega), i_shr (show i < 2147483648 by omega) (show t < 31 by omega), eb, e111_74, B111_74, e111_75, B111_75, nI_1]
    by_cases hb : i.testBit s = i.testBit t
    · simp only [hb, true_and, and_true, false_and, and_false, true_implies, false_implies, implies_true, not_true_eq_false, not_false_eq_true, ne_eq, if_true, if_false, Bool.and_true, Bool.true_and, decide_true, decide_false, reduceIte, reduceCtorEq, Bool.and_self, Bool.and_eq_true, decide_eq_true_eq, and_self, true_or, or_true, false_or, or_false, Nat.zero_add, Nat.add_zero, eq_self, Nat.reduceEqDiff, Nat.reduceLeDiff, Nat.reduceLT, Nat.reduceAdd, Nat.reduceSub, Nat.reduceMul]
      exact ⟨by decide, nx _ (fin 1 (by rw [if_pos hb]))⟩
    · simp only [hb, true_and, and_true, false_and, and_false, true_implies, false_implies, implies_true, not_true_eq_false, not_false_eq_true, ne_eq, if_true, if_false, Bool.and_true, Bool.true_and, decide_true, decide_false, reduceIte, reduceCtorEq, Bool.and_self, Bool.and_eq_true, decide_eq_true_eq, and_self, true_or, or_true, false_or, or_false, Nat.zero_add, Nat.add_zero, eq_self, Nat.reduceEqDiff, Nat.reduceLeDiff, Nat.reduceLT, Nat.reduceAdd, Nat.reduceSub, Nat.reduceMul]
      exact ⟨by decide, nx _ (fin (-1) (by rw [if_neg hb]))⟩
theorem R111_91 (hL : LC S R) (hB : EB E n) (h : AB x y) (hI : ∀ k, k < 289 → I 137 k = nI (pc E n (2 ^ n) k) ∧ I 138 k = am E n s t k (2 ^ n)) (hD : ∀ k, k < 289 → D 139 k = wP (rtP x y) k) : ∀ (j i : Nat) (p q : UInt64), i + j = 289 → p = cS E n s t (rtP x y) i → q = cA E n (rtP x y) i → xRun xT 111 91 [(0, .ref 130), (3, .double p), (5, .double q), (7, .int (nI i))] [] (S, I, J, D, R) b Q = Q (.ok (some (.double (co E n s t (rtP x y))))) (S, I, J, D, R) b
  | 0, i, p, q, hi, hp, hq => by
    have hr := rtP_gp h
    have e : i = 289 := by omega
    subst e
    have e2 : FP.ddiv p q = co E n s t (rtP x y) := by rw [hp, hq]; rfl
    have h1 : FP.dcmp q FP.dconst0 = some .gt := by rw [hq]; exact gp_cmp (cA_ok hB hr 288 (by decide)) uo_pos
    have h2 : isNaN64 (FP.ddiv p q) = false := by rw [e2]; exact fb_n (co_fb (s := s) (t := t) hB hr)
    rw [e111_91]
    simp only [B111_91, xSeq, i_push, i_load, i_iload, i_lload, i_dload, i_aload, i_istore, i_astore, i_lstore, i_dstore, i_iinc, i_ii, i_iiz, i_ll, i_llz, i_lli, i_li, i_i, i_l, i_i2l, i_l2i, i_dup, i_dup2, i_dup2w, i_dupx1, i_pop, i_pop2, i_goto, i_ifc, i_icmp, i_getI, i_getL, i_getR, i_putI, i_putZ, i_putL, i_putR, i_aldI, i_aldB, i_aldL, i_aldD, i_astI, i_astL, i_astD, i_alen, i_ret, i_iret, i_zret, i_lret, i_fret, i_dret, i_aret, i_invS0, i_invV0, i_m2, i_m1, i_ml, i_obj, lk, lkp, stf1, stf2, Value.category, rV, xTo, lv_args, xCk, xCat, xRc, xAk, hg_S, hg_I, hg_J, hg_D, hg_R, hs_I, hs_J, hs_D, hs_R, uI_at, uJ_at, uD_at, uR_at, List.take_succ_cons, List.take_zero, List.drop_succ_cons, List.drop_zero, List.reverse_cons, List.reverse_nil, List.nil_append, List.cons_append, List.map_cons, List.map_nil, List.sum_cons, List.sum_nil, List.length_cons, List.length_nil, Option.toList_some, Option.toList_none, true_and, and_true, false_and, and_false, true_implies, false_implies, implies_true, not_true_eq_false, not_false_eq_true, ne_eq, if_true, if_false, Bool.and_true, Bool.true_and, decide_true, decide_false, reduceIte, reduceCtorEq, Bool.and_self, Bool.and_eq_true, decide_eq_true_eq, and_self, true_or, or_true, false_or, or_false, Nat.zero_add, Nat.add_zero, eq_self, Nat.reduceEqDiff, Nat.reduceLeDiff, Nat.reduceLT, Nat.reduceAdd, Nat.reduceSub, Nat.reduceMul, LC_out hL, show ((289 : Int32) ≤ nI 289) = True from eq_true (by decide), e111_145, B111_145]
    rw [R108 h1 h2, e2]
    simp only [xSeq, i_push, i_load, i_iload, i_lload, i_dload, i_aload, i_istore, i_astore, i_lstore, i_dstore, i_iinc, i_ii, i_iiz, i_ll, i_llz, i_lli, i_li, i_i, i_l, i_i2l, i_l2i, i_dup, i_dup2, i_dup2w, i_dupx1, i_pop, i_pop2, i_goto, i_ifc, i_icmp, i_getI, i_getL, i_getR, i_putI, i_putZ, i_putL, i_putR, i_aldI, i_aldB, i_aldL, i_aldD, i_astI, i_astL, i_astD, i_alen, i_ret, i_iret, i_zret, i_lret, i_fret, i_dret, i_aret, i_invS0, i_invV0, i_m2, i_m1, i_ml, i_obj, lk, lkp, stf1, stf2, Value.category, rV, xTo, lv_args, xCk, xCat, xRc, xAk, hg_S, hg_I, hg_J, hg_D, hg_R, hs_I, hs_J, hs_D, hs_R, uI_at, uJ_at, uD_at, uR_at, List.take_succ_cons, List.take_zero, List.drop_succ_cons, List.drop_zero, List.reverse_cons, List.reverse_nil, List.nil_append, List.cons_append, List.map_cons, List.map_nil, List.sum_cons, List.sum_nil, List.length_cons, List.length_nil, Option.toList_some, Option.toList_none, true_and, and_true, false_and, and_false, true_implies, false_implies, implies_true, not_true_eq_false, not_false_eq_true, ne_eq, if_true, if_false, Bool.and_true, Bool.true_and, decide_true, decide_false, reduceIte, reduceCtorEq, Bool.and_self, Bool.and_eq_true, decide_eq_true_eq, and_self, true_or, or_true, false_or, or_false, Nat.zero_add, Nat.add_zero, eq_self, Nat.reduceEqDiff, Nat.reduceLeDiff, Nat.reduceLT, Nat.reduceAdd, Nat.reduceSub, Nat.reduceMul]
  | j + 1, i, p, q, hi, hp, hq => by
    have hr := rtP_gp h
    obtain ⟨g1, g2⟩ := hI i (by omega)
    have g3 := hD i (by omega)
    have e0 : ((289 : Int32) ≤ nI i) = False := by rw [show (289 : Int32) = nI 289 from rfl, nI_leP (by decide) (show i < 2147483648 by omega)]; exact eq_false (by omega)
    obtain ⟨a, ha⟩ : ∃ a, a = am E n s t i (2 ^ n) := ⟨_, rfl⟩
    obtain ⟨c, hc⟩ : ∃ c, c = nI (pc E n (2 ^ n) i) := ⟨_, rfl⟩
    obtain ⟨w, hw⟩ : ∃ w, w = wP (rtP x y) i := ⟨_, rfl⟩
    obtain ⟨v1, h1⟩ : ∃ v, v = cT E n s t (rtP x y) i := ⟨_, rfl⟩
    obtain ⟨v2, h2⟩ : ∃ v, v = cB E n (rtP x y) i := ⟨_, rfl⟩
    obtain ⟨v3, h3⟩ : ∃ v, v = cS E n s t (rtP x y) (i + 1) := ⟨_, rfl⟩
    obtain ⟨v4, h4⟩ : ∃ v, v = cA E n (rtP x y) (i + 1) := ⟨_, rfl⟩
    have ih := R111_91 hL hB h hI hD j (i + 1) v3 v4 (by omega) h3 h4
    rw [← ha] at g2
    rw [← hc] at g1
    rw [← hw] at g3
    have e1 : FP.dmul (FP.i2d a) w = v1 := by rw [ha, hw, h1]; rfl
    have e2 : FP.dmul (FP.i2d c) w = v2 := by rw [hc, hw, h2]; rfl
    have e3 : FP.dadd p v1 = v3 := by rw [hp, h1, h3]; rfl
    have e4 : FP.dadd q v2 = v4 := by rw [hq, h2, h4]; rfl
    have n1 : isNaN64 v1 = false := by rw [h1]; exact fb_n (cT_fb hB hr i)
    have n2 : isNaN64 v2 = false := by rw [h2]; exact fb_n (gp_fb (cB_gp hB hr i))
    have n3 : isNaN64 v3 = false := by rw [h3]; exact fb_n (cS_ok hB hr (i + 1) (by omega)).1
    have n4 : isNaN64 v4 = false := by rw [h4]; exact (cA_n hB hr (by omega)).1
    rw [e111_91]
    simp only [B111_91, xSeq, i_push, i_load, i_iload, i_lload, i_dload, i_aload, i_istore, i_astore, i_lstore, i_dstore, i_iinc, i_ii, i_iiz, i_ll, i_llz, i_lli, i_li, i_i, i_l, i_i2l, i_l2i, i_dup, i_dup2, i_dup2w, i_dupx1, i_pop, i_pop2, i_goto, i_ifc, i_icmp, i_getI, i_getL, i_getR, i_putI, i_putZ, i_putL, i_putR, i_aldI, i_aldB, i_aldL, i_aldD, i_astI, i_astL, i_astD, i_alen, i_ret, i_iret, i_zret, i_lret, i_fret, i_dret, i_aret, i_invS0, i_invV0, i_m2, i_m1, i_ml, i_obj, lk, lkp, stf1, stf2, Value.category, rV, xTo, lv_args, xCk, xCat, xRc, xAk, hg_S, hg_I, hg_J, hg_D, hg_R, hs_I, hs_J, hs_D, hs_R, uI_at, uJ_at, uD_at, uR_at, List.take_succ_cons, List.take_zero, List.drop_succ_cons, List.drop_zero, List.reverse_cons, List.reverse_nil, List.nil_append, List.cons_append, List.map_cons, List.map_nil, List.sum_cons, List.sum_nil, List.length_cons, List.length_nil, Option.toList_some, Option.toList_none, true_and, and_true, false_and, and_false, true_implies, false_implies, implies_true, not_true_eq_false, not_false_eq_true, ne_eq, if_true, if_false, Bool.and_true, Bool.true_and, decide_true, decide_false, reduceIte, reduceCtorEq, Bool.and_self, Bool.and_eq_true, decide_eq_true_eq, and_self, true_or, or_true, false_or, or_false, Nat.zero_add, Nat.add_zero, eq_self, Nat.reduceEqDiff, Nat.reduceLeDiff, Nat.reduceLT, Nat.reduceAdd, Nat.reduceSub, Nat.reduceMul, LC_out hL, e0, nI_inP (show i < 289 by omega) (by decide), nI_ix (show i < 2147483648 by omega), g1, g2, g3, i_i2d, i_dd, e1, al_eq n1, e3, al_eq n3, e2, al_eq n2, e4, al_eq n4, nI_1, ih]
theorem L111 (hL : LC S R) (hX : XL n E S I R) (hB : EB E n) (h : AB x y) (hs : s < 16) (ht : t < 16) (hD : ∀ k, k < 289 → D 139 k = wP (rtP x y) k)
    (kk : ∀ I', (∀ o k, o ≠ 137 → o ≠ 138 → I' o k = I o k) → Q (.ok (some (.double (co E n s t (rtP x y))))) (S, I', J, D, R) b) : xRun xT 111 0 [(0, .ref 130), (1, .int (nI s)), (2, .int (nI t))] [] (S, I, J, D, R) b Q := by
  have s137 : S 137 = (100, 289) := by simp only [LC_out hL]
  have s138 : S 138 = (100, 289) := by simp only [LC_out hL]
  have y1 := fun (I : xI) (b : Nat × Nat) (Q : xQ) => Y6 (S := S) (I := I) (J := J) (D := D) (R := R) (b := b) (Q := Q) (v := 0) s137 (by decide)
  have y2 := fun (I : xI) (b : Nat × Nat) (Q : xQ) => Y6 (S := S) (I := I) (J := J) (D := D) (R := R) (b := b) (Q := Q) (v := 0) s138 (by decide)
  rw [e111_0]
  simp only [B111_0, xSeq, i_push, i_load, i_iload, i_lload, i_dload, i_aload, i_istore, i_astore, i_lstore, i_dstore, i_iinc, i_ii, i_iiz, i_ll, i_llz, i_lli, i_li, i_i, i_l, i_i2l, i_l2i, i_dup, i_dup2, i_dup2w, i_dupx1, i_pop, i_pop2, i_goto, i_ifc, i_icmp, i_getI, i_getL, i_getR, i_putI, i_putZ, i_putL, i_putR, i_aldI, i_aldB, i_aldL, i_aldD, i_astI, i_astL, i_astD, i_alen, i_ret, i_iret, i_zret, i_lret, i_fret, i_dret, i_aret, i_invS0, i_invV0, i_m2, i_m1, i_ml, i_obj, lk, lkp, stf1, stf2, Value.category, rV, xTo, lv_args, xCk, xCat, xRc, xAk, hg_S, hg_I, hg_J, hg_D, hg_R, hs_I, hs_J, hs_D, hs_R, uI_at, uJ_at, uD_at, uR_at, List.take_succ_cons, List.take_zero, List.drop_succ_cons, List.drop_zero, List.reverse_cons, List.reverse_nil, List.nil_append, List.cons_append, List.map_cons, List.map_nil, List.sum_cons, List.sum_nil, List.length_cons, List.length_nil, Option.toList_some, Option.toList_none, true_and, and_true, false_and, and_false, true_implies, false_implies, implies_true, not_true_eq_false, not_false_eq_true, ne_eq, if_true, if_false, Bool.and_true, Bool.true_and, decide_true, decide_false, reduceIte, reduceCtorEq, Bool.and_self, Bool.and_eq_true, decide_eq_true_eq, and_self, true_or, or_true, false_or, or_false, Nat.zero_add, Nat.add_zero, eq_self, Nat.reduceEqDiff, Nat.reduceLeDiff, Nat.reduceLT, Nat.reduceAdd, Nat.reduceSub, Nat.reduceMul, LC_out hL, y1, y2]
  refine L111_18 (I0 := I) hL hX hB hs ht (fun I' h' => ?_) (2 ^ n) 0 _ (by omega) ⟨fun k hk => ?_, fun o k h1 h2 => ?_⟩
  · have h5 := R111_91 (S := S) (R := R) (J := J) (D := D) (b := b) (Q := Q) hL hB h h'.1 hD 289 0 FP.dconst0 FP.dconst0 (by omega) rfl rfl
    rw [nI_0] at h5
    rw [e111_83]
    simp only [B111_83, xSeq, i_push, i_load, i_iload, i_lload, i_dload, i_aload, i_istore, i_astore, i_lstore, i_dstore, i_iinc, i_ii, i_iiz, i_ll, i_llz, i_lli, i_li, i_i, i_l, i_i2l, i_l2i, i_dup, i_dup2, i_dup2w, i_dupx1, i_pop, i_pop2, i_goto, i_ifc, i_icmp, i_getI, i_getL, i_getR, i_putI, i_putZ, i_putL, i_putR, i_aldI, i_aldB, i_aldL, i_aldD, i_astI, i_astL, i_astD, i_alen, i_ret, i_iret, i_zret, i_lret, i_fret, i_dret, i_aret, i_invS0, i_invV0, i_m2, i_m1, i_ml, i_obj, lk, lkp, stf1, stf2, Value.category, rV, xTo, lv_args, xCk, xCat, xRc, xAk, hg_S, hg_I, hg_J, hg_D, hg_R, hs_I, hs_J, hs_D, hs_R, uI_at, uJ_at, uD_at, uR_at, List.take_succ_cons, List.take_zero, List.drop_succ_cons, List.drop_zero, List.reverse_cons, List.reverse_nil, List.nil_append, List.cons_append, List.map_cons, List.map_nil, List.sum_cons, List.sum_nil, List.length_cons, List.length_nil, Option.toList_some, Option.toList_none, true_and, and_true, false_and, and_false, true_implies, false_implies, implies_true, not_true_eq_false, not_false_eq_true, ne_eq, if_true, if_false, Bool.and_true, Bool.true_and, decide_true, decide_false, reduceIte, reduceCtorEq, Bool.and_self, Bool.and_eq_true, decide_eq_true_eq, and_self, true_or, or_true, false_or, or_false, Nat.zero_add, Nat.add_zero, eq_self, Nat.reduceEqDiff, Nat.reduceLeDiff, Nat.reduceLT, Nat.reduceAdd, Nat.reduceSub, Nat.reduceMul]
    rw [h5]
    exact kk I' h'.2
  · refine ⟨?_, ?_⟩
    · rw [rI_at, if_neg (by decide), rI_at, if_pos rfl, fill_at, if_pos hk]; rfl
    · rw [rI_at, if_pos rfl, fill_at, if_pos hk]; rfl
  · rw [rI_at, if_neg h2, rI_at, if_neg h1]
end
/-! ===== correlations: the model ===== -/
section
variable {E : Nat → Int32} {n s t : Nat} {S : xS} {I : xI} {J : xJ} {D : xDb} {R : xR} {b : Nat × Nat} {Q : xQ} {x y : Nat}
/-- where the least energy lies in the model's rows -/
def gd (E : Nat → Int32) (n : Nat) : Nat := (lv E n).getD 0 0 / 17 + 56
theorem gd_ok (hB : EB E n) : gE ((lv E n).getD 0 0) + 200 = nI (gd E n) ∧ gd E n ≤ 344 := by
  have h := (lv_get hB (lv_pos hB)).1
  refine ⟨?_, by unfold gd; omega⟩
  unfold gE gd
  rw [← nI_add]
  show nI _ - 144 + 200 = nI _ + 56
  grind
theorem gd_c (hB : EB E n) {c : Nat} (hc : c < 2 ^ n) : E c + 200 = nI (gd E n + ui E n c) ∧ gd E n + ui E n c ≤ 344 := by
  have h0 := lv_min hB hc
  obtain ⟨h1, h2, h3, h4⟩ := yL_ok hB hc
  obtain ⟨-, h5, h6, -⟩ := eN_ok hB hc
  have h7 : (lv E n).getD 0 0 / 17 ≤ eN E c := by
    rw [← h2]
    exact Nat.div_le_div_right h0
  have e : gd E n + ui E n c = eN E c + 56 := by unfold gd ui; omega
  rw [e]
  exact ⟨h5, by omega⟩
/-- the rows of the model -/
def GM (E : Nat → Int32) (n s t i : Nat) (I0 I : xI) : Prop := (∀ k, gd E n + k < 401 → I 354 (gd E n + k) = nI (pc E n i k) ∧ I 353 (gd E n + k) = am E n s t k i) ∧ ∀ o k, o ≠ 353 → o ≠ 354 → I o k = I0 o k
theorem L321_55 {I0 : xI} {l1 l2 l3 l4 : Int32} (hL : LM S R)
    (kk : ∀ I, (∀ k, k < 401 → I 353 k = 0 ∧ I 354 k = 0) → (∀ o k, o ≠ 353 → o ≠ 354 → I o k = I0 o k) → xRun xT 321 85 [(0, .ref 200), (1, .int l1), (2, .int l2), (3, .int l3), (4, .int l4)] [] (S, I, J, D, R) b Q) :
    ∀ (j i : Nat) (I : xI), i + j = 401 → (∀ k, k < i → I 353 k = 0 ∧ I 354 k = 0) → (∀ o k, o ≠ 353 → o ≠ 354 → I o k = I0 o k) → xRun xT 321 55 [(0, .ref 200), (1, .int l1), (2, .int l2), (3, .int l3), (4, .int l4), (5, .int (nI i))] [] (S, I, J, D, R) b Q
  | 0, i, I, hi, h1, h2 => by
    have e : i = 401 := by omega
    subst e
    rw [e321_55]
    simp only [B321_55, xSeq, i_push, i_load, i_iload, i_lload, i_dload, i_aload, i_istore, i_astore, i_lstore, i_dstore, i_iinc, i_ii, i_iiz, i_ll, i_llz, i_lli, i_li, i_i, i_l, i_i2l, i_l2i, i_dup, i_dup2, i_dup2w, i_dupx1, i_pop, i_pop2, i_goto, i_ifc, i_icmp, i_getI, i_getL, i_getR, i_putI, i_putZ, i_putL, i_putR, i_aldI, i_aldB, i_aldL, i_aldD, i_astI, i_astL, i_astD, i_alen, i_ret, i_iret, i_zret, i_lret, i_fret, i_dret, i_aret, i_invS0, i_invV0, i_m2, i_m1, i_ml, i_obj, lk, lkp, stf1, stf2, Value.category, rV, xTo, lv_args, xCk, xCat, xRc, xAk, hg_S, hg_I, hg_J, hg_D, hg_R, hs_I, hs_J, hs_D, hs_R, uI_at, uJ_at, uD_at, uR_at, List.take_succ_cons, List.take_zero, List.drop_succ_cons, List.drop_zero, List.reverse_cons, List.reverse_nil, List.nil_append, List.cons_append, List.map_cons, List.map_nil, List.sum_cons, List.sum_nil, List.length_cons, List.length_nil, Option.toList_some, Option.toList_none, true_and, and_true, false_and, and_false, true_implies, false_implies, implies_true, not_true_eq_false, not_false_eq_true, ne_eq, if_true, if_false, Bool.and_true, Bool.true_and, decide_true, decide_false, reduceIte, reduceCtorEq, Bool.and_self, Bool.and_eq_true, decide_eq_true_eq, and_self, true_or, or_true, false_or, or_false, Nat.zero_add, Nat.add_zero, eq_self, Nat.reduceEqDiff, Nat.reduceLeDiff, Nat.reduceLT, Nat.reduceAdd, Nat.reduceSub, Nat.reduceMul, LM_out hL, show ((401 : Int32) ≤ nI 401) = True from eq_true (by decide)]
    exact kk I h1 h2
  | j + 1, i, I, hi, h1, h2 => by
    have e0 : ((401 : Int32) ≤ nI i) = False := by rw [show (401 : Int32) = nI 401 from rfl, nI_leP (by decide) (show i < 2147483648 by omega)]; exact eq_false (by omega)
    rw [e321_55]
    simp only [B321_55, xSeq, i_push, i_load, i_iload, i_lload, i_dload, i_aload, i_istore, i_astore, i_lstore, i_dstore, i_iinc, i_ii, i_iiz, i_ll, i_llz, i_lli, i_li, i_i, i_l, i_i2l, i_l2i, i_dup, i_dup2, i_dup2w, i_dupx1, i_pop, i_pop2, i_goto, i_ifc, i_icmp, i_getI, i_getL, i_getR, i_putI, i_putZ, i_putL, i_putR, i_aldI, i_aldB, i_aldL, i_aldD, i_astI, i_astL, i_astD, i_alen, i_ret, i_iret, i_zret, i_lret, i_fret, i_dret, i_aret, i_invS0, i_invV0, i_m2, i_m1, i_ml, i_obj, lk, lkp, stf1, stf2, Value.category, rV, xTo, lv_args, xCk, xCat, xRc, xAk, hg_S, hg_I, hg_J, hg_D, hg_R, hs_I, hs_J, hs_D, hs_R, uI_at, uJ_at, uD_at, uR_at, List.take_succ_cons, List.take_zero, List.drop_succ_cons, List.drop_zero, List.reverse_cons, List.reverse_nil, List.nil_append, List.cons_append, List.map_cons, List.map_nil, List.sum_cons, List.sum_nil, List.length_cons, List.length_nil, Option.toList_some, Option.toList_none, true_and, and_true, false_and, and_false, true_implies, false_implies, implies_true, not_true_eq_false, not_false_eq_true, ne_eq, if_true, if_false, Bool.and_true, Bool.true_and, decide_true, decide_false, reduceIte, reduceCtorEq, Bool.and_self, Bool.and_eq_true, decide_eq_true_eq, and_self, true_or, or_true, false_or, or_false, Nat.zero_add, Nat.add_zero, eq_self, Nat.reduceEqDiff, Nat.reduceLeDiff, Nat.reduceLT, Nat.reduceAdd, Nat.reduceSub, Nat.reduceMul, LM_out hL, e0, nI_inP (show i < 401 by omega) (by decide), nI_ix (show i < 2147483648 by omega), nI_1]
    refine L321_55 hL kk j (i + 1) _ (by omega) (fun k hk => ?_) (fun o k a c => ?_)
    · by_cases e : k = i
      · simp only [uI_at, true_and, and_true, false_and, and_false, true_implies, false_implies, implies_true, not_true_eq_false, not_false_eq_true, ne_eq, if_true, if_false, Bool.and_true, Bool.true_and, decide_true, decide_false, reduceIte, reduceCtorEq, Bool.and_self, Bool.and_eq_true, decide_eq_true_eq, and_self, true_or, or_true, false_or, or_false, Nat.zero_add, Nat.add_zero, eq_self, Nat.reduceEqDiff, Nat.reduceLeDiff, Nat.reduceLT, Nat.reduceAdd, Nat.reduceSub, Nat.reduceMul, e]
      · simp only [uI_at, true_and, and_true, false_and, and_false, true_implies, false_implies, implies_true, not_true_eq_false, not_false_eq_true, ne_eq, if_true, if_false, Bool.and_true, Bool.true_and, decide_true, decide_false, reduceIte, reduceCtorEq, Bool.and_self, Bool.and_eq_true, decide_eq_true_eq, and_self, true_or, or_true, false_or, or_false, Nat.zero_add, Nat.add_zero, eq_self, Nat.reduceEqDiff, Nat.reduceLeDiff, Nat.reduceLT, Nat.reduceAdd, Nat.reduceSub, Nat.reduceMul, e, and_false, if_false]
        exact h1 k (by omega)
    · rw [uI_at, if_neg (fun e => c e.1), uI_at, if_neg (fun e => a e.1)]
      exact h2 o k a c
theorem GM_XM {i : Nat} {I0 : xI} (h : GM E n s t i I0 I) (hX : XM n E I0) : XM n E I := by
  obtain ⟨x1, x2, x3, x4, x5⟩ := hX
  have f := h.2
  refine ⟨?_, ?_, ?_, ?_, fun c hc => ?_⟩
  · rw [f _ _ (by decide) (by decide)]; exact x1
  · rw [f _ _ (by decide) (by decide)]; exact x2
  · rw [f _ _ (by decide) (by decide)]; exact x3
  · intro i hi
    rw [f _ _ (by decide) (by decide), f _ _ (by decide) (by decide), f _ _ (by decide) (by decide)]
    exact x4 i hi
  · rw [f _ _ (by decide) (by decide)]; exact x5 c hc
theorem L321_88 {I0 : xI} {u v : Int32} (hL : LM S R) (hX0 : XM n E I0) (h10 : I0 300 10 = nI n) (hB : EB E n) (hs : s < 16) (ht : t < 16)
    (kk : ∀ I, GM E n s t (2 ^ n) I0 I → xRun xT 321 157 [(0, .ref 200), (3, .int u), (4, .int v)] [] (S, I, J, D, R) b Q) :
    ∀ (j i : Nat) (I : xI), i + j = 2 ^ n → GM E n s t i I0 I → xRun xT 321 88 [(0, .ref 200), (1, .int (nI s)), (2, .int (nI t)), (3, .int u), (4, .int v), (5, .int (nI i))] [] (S, I, J, D, R) b Q
  | 0, i, I, hi, h => by
    have hp := pow16 hB.1
    have hn := hB.1
    have h10' : I 300 10 = nI n := (h.2 _ _ (by decide) (by decide)).trans h10
    have e : i = 2 ^ n := by omega
    subst e
    rw [e321_88]
    simp only [B321_88, xSeq, i_push, i_load, i_iload, i_lload, i_dload, i_aload, i_istore, i_astore, i_lstore, i_dstore, i_iinc, i_ii, i_iiz, i_ll, i_llz, i_lli, i_li, i_i, i_l, i_i2l, i_l2i, i_dup, i_dup2, i_dup2w, i_dupx1, i_pop, i_pop2, i_goto, i_ifc, i_icmp, i_getI, i_getL, i_getR, i_putI, i_putZ, i_putL, i_putR, i_aldI, i_aldB, i_aldL, i_aldD, i_astI, i_astL, i_astD, i_alen, i_ret, i_iret, i_zret, i_lret, i_fret, i_dret, i_aret, i_invS0, i_invV0, i_m2, i_m1, i_ml, i_obj, lk, lkp, stf1, stf2, Value.category, rV, xTo, lv_args, xCk, xCat, xRc, xAk, hg_S, hg_I, hg_J, hg_D, hg_R, hs_I, hs_J, hs_D, hs_R, uI_at, uJ_at, uD_at, uR_at, List.take_succ_cons, List.take_zero, List.drop_succ_cons, List.drop_zero, List.reverse_cons, List.reverse_nil, List.nil_append, List.cons_append, List.map_cons, List.map_nil, List.sum_cons, List.sum_nil, List.length_cons, List.length_nil, Option.toList_some, Option.toList_none, true_and, and_true, false_and, and_false, true_implies, false_implies, implies_true, not_true_eq_false, not_false_eq_true, ne_eq, if_true, if_false, Bool.and_true, Bool.true_and, decide_true, decide_false, reduceIte, reduceCtorEq, Bool.and_self, Bool.and_eq_true, decide_eq_true_eq, and_self, true_or, or_true, false_or, or_false, Nat.zero_add, Nat.add_zero, eq_self, Nat.reduceEqDiff, Nat.reduceLeDiff, Nat.reduceLT, Nat.reduceAdd, Nat.reduceSub, Nat.reduceMul, LM_out hL, R303 hL h10' (show n < 31 by omega), nI_leP (show 2 ^ n < 2147483648 by omega) (show 2 ^ n < 2147483648 by omega), Nat.le_refl]
    exact kk I h
  | j + 1, i, I, hi, h => by
    have hp := pow16 hB.1
    have hn := hB.1
    have h10' : I 300 10 = nI n := (h.2 _ _ (by decide) (by decide)).trans h10
    have hX := GM_XM h hX0
    have hc : i < 2 ^ n := by omega
    obtain ⟨u1, u2⟩ := gd_c hB hc
    have nx := fun I => L321_88 hL hX0 h10 hB hs ht kk j (i + 1) I (by omega)
    obtain ⟨g1, g2⟩ := h.1 (ui E n i) (by omega)
    obtain ⟨z, hz⟩ : ∃ z, z = gd E n + ui E n i := ⟨_, rfl⟩
    rw [← hz] at u1 u2 g1 g2
    have h238 := fun (k : Nat) (hk : k < 16) (b : Nat × Nat) (Q : xQ) => R238 (S := S) (I := I) (J := J) (D := D) (R := R) (b := b) (Q := Q) (s := i) (i := k) (by omega) (by omega)
    have h238' := fun (I : xI) (k : Nat) (hk : k < 16) (b : Nat × Nat) (Q : xQ) => R238 (S := S) (I := I) (J := J) (D := D) (R := R) (b := b) (Q := Q) (s := i) (i := k) (by omega) (by omega)
    have ev : sg (i.testBit s) * sg (i.testBit t) = (if i.testBit s = i.testBit t then 1 else -1) := by
      cases i.testBit s <;> cases i.testBit t <;> rfl
    have fin : GM E n s t (i + 1) I0 (uI (uI I 353 z (am E n s t (ui E n i) i + (if i.testBit s = i.testBit t then 1 else -1))) 354 z (nI (pc E n i (ui E n i) + 1))) := by
      refine ⟨fun k hk => ?_, fun o k h1 h2 => ?_⟩
      · have e1 : pc E n (i + 1) k = pc E n i k + if decide (ui E n i = k) = true then 1 else 0 := rfl
        have e2 : am E n s t k (i + 1) = am E n s t k i + (if ui E n i = k then (if i.testBit s = i.testBit t then 1 else -1) else 0) := rfl
        rw [e1, e2]
        obtain ⟨k1, k2⟩ := h.1 k hk
        by_cases e : ui E n i = k
        · have e3 : gd E n + k = z := by omega
          simp only [uI_at, true_and, and_true, false_and, and_false, true_implies, false_implies, implies_true, not_true_eq_false, not_false_eq_true, ne_eq, if_true, if_false, Bool.and_true, Bool.true_and, decide_true, decide_false, reduceIte, reduceCtorEq, Bool.and_self, Bool.and_eq_true, decide_eq_true_eq, and_self, true_or, or_true, false_or, or_false, Nat.zero_add, Nat.add_zero, eq_self, Nat.reduceEqDiff, Nat.reduceLeDiff, Nat.reduceLT, Nat.reduceAdd, Nat.reduceSub, Nat.reduceMul, e, e3, if_true, decide_true]
        · have e3 : ¬ gd E n + k = z := by omega
          simp only [uI_at, true_and, and_true, false_and, and_false, true_implies, false_implies, implies_true, not_true_eq_false, not_false_eq_true, ne_eq, if_true, if_false, Bool.and_true, Bool.true_and, decide_true, decide_false, reduceIte, reduceCtorEq, Bool.and_self, Bool.and_eq_true, decide_eq_true_eq, and_self, true_or, or_true, false_or, or_false, Nat.zero_add, Nat.add_zero, eq_self, Nat.reduceEqDiff, Nat.reduceLeDiff, Nat.reduceLT, Nat.reduceAdd, Nat.reduceSub, Nat.reduceMul, e, e3, if_false, decide_false, Nat.add_zero, Int32.add_zero, and_false]
          exact ⟨k1, k2⟩
      · rw [uI_at, if_neg (fun e => h2 e.1), uI_at, if_neg (fun e => h1 e.1)]
        exact h.2 o k h1 h2
    rw [e321_88]
    simp only [B321_88, xSeq, i_push, i_load, i_iload, i_lload, i_dload, i_aload, i_istore, i_astore, i_lstore, i_dstore, i_iinc, i_ii, i_iiz, i_ll, i_llz, i_lli, i_li, i_i, i_l, i_i2l, i_l2i, i_dup, i_dup2, i_dup2w, i_dupx1, i_pop, i_pop2, i_goto, i_ifc, i_icmp, i_getI, i_getL, i_getR, i_putI, i_putZ, i_putL, i_putR, i_aldI, i_aldB, i_aldL, i_aldD, i_astI, i_astL, i_astD, i_alen, i_ret, i_iret, i_zret, i_lret, i_fret, i_dret, i_aret, i_invS0, i_invV0, i_m2, i_m1, i_ml, i_obj, lk, lkp, stf1, stf2, Value.category, rV, xTo, lv_args, xCk, xCat, xRc, xAk, hg_S, hg_I, hg_J, hg_D, hg_R, hs_I, hs_J, hs_D, hs_R, uI_at, uJ_at, uD_at, uR_at, List.take_succ_cons, List.take_zero, List.drop_succ_cons, List.drop_zero, List.reverse_cons, List.reverse_nil, List.nil_append, List.cons_append, List.map_cons, List.map_nil, List.sum_cons, List.sum_nil, List.length_cons, List.length_nil, Option.toList_some, Option.toList_none, true_and, and_true, false_and, and_false, true_implies, false_implies, implies_true, not_true_eq_false, not_false_eq_true, ne_eq, if_true, if_false, Bool.and_true, Bool.true_and, decide_true, decide_false, reduceIte, reduceCtorEq, Bool.and_self, Bool.and_eq_true, decide_eq_true_eq, and_self, true_or, or_true, false_or, or_false, Nat.zero_add, Nat.add_zero, eq_self, Nat.reduceEqDiff, Nat.reduceLeDiff, Nat.reduceLT, Nat.reduceAdd, Nat.reduceSub, Nat.reduceMul, LM_out hL, R303 hL h10' (show n < 31 by omega), nI_leP (show 2 ^ n < 2147483648 by omega) (show i < 2147483648 by omega), show (2 ^ n ≤ i) = False from eq_false (by omega), nI_inP (show i < 65536 by omega) (by decide), nI_ix (show i < 2147483648 by omega), hX.2.2.2.2 i hc, u1, nI_inP (show z < 401 by omega) (by decide), nI_ix (show z < 2147483648 by omega), g1, g2, nI_l (show i < 2147483648 by omega), h238 s hs, h238 t ht, ev, nI_1]
    exact nx _ fin
/-- a double from the weights -/
theorem R321_180 (hL : LM S R) (hB : EB E n) (h : AB x y) (hX : XM n E I) (hI : ∀ k, gd E n + k < 401 → I 354 (gd E n + k) = nI (pc E n (2 ^ n) k) ∧ I 353 (gd E n + k) = am E n s t k (2 ^ n)) (hD : ∀ k, k < 401 → D 352 k = wP (rtP x y) k) : ∀ (j i : Nat) (p q : UInt64), gd E n + i + j = 401 → p = cS E n s t (rtP x y) i → q = cA E n (rtP x y) i → xRun xT 321 180 [(0, .ref 200), (5, .double p), (7, .double q), (9, .int (nI (gd E n + i)))] [] (S, I, J, D, R) b Q = Q (.ok (some (.double (co E n s t (rtP x y))))) (S, I, J, D, R) b
  | 0, i, p, q, hi, hp, hq => by
    have hr := rtP_gp h
    obtain ⟨d1, d2⟩ := gd_ok hB
    have e2 : FP.ddiv p q = co E n s t (rtP x y) := by
      have hz : ∀ k, i ≤ k → pc E n (2 ^ n) k = 0 := fun k hk => pc_no hB (fun c hc e => by
        have := (gd_c hB hc).2
        omega)
      have hz2 : ∀ k, 289 ≤ k → pc E n (2 ^ n) k = 0 := fun k hk => pc_no hB (fun c hc e => by
        have := (ui_ok hB hc).2
        omega)
      have ee : cS E n s t (rtP x y) i = cS E n s t (rtP x y) 289 ∧ cA E n (rtP x y) i = cA E n (rtP x y) 289 := by
        by_cases hle : i ≤ 289
        · obtain ⟨f1, f2⟩ := c_far (s := s) (t := t) hB hr (289 - i) i (by omega) (fun k a _ => hz k a)
          rw [show i + (289 - i) = 289 by omega] at f1 f2
          exact ⟨f1.symm, f2.symm⟩
        · obtain ⟨f1, f2⟩ := c_far (s := s) (t := t) hB hr (i - 289) 289 (by omega) (fun k a _ => hz2 k a)
          rw [show 289 + (i - 289) = i by omega] at f1 f2
          exact ⟨f1, f2⟩
      rw [hp, hq, ee.1, ee.2]
      rfl
    have h2 : isNaN64 (co E n s t (rtP x y)) = false := fb_n (co_fb (s := s) (t := t) hB hr)
    have e1 : gd E n + i = 401 := by omega
    rw [e321_180, e1]
    simp only [B321_180, xSeq, i_push, i_load, i_iload, i_lload, i_dload, i_aload, i_istore, i_astore, i_lstore, i_dstore, i_iinc, i_ii, i_iiz, i_ll, i_llz, i_lli, i_li, i_i, i_l, i_i2l, i_l2i, i_dup, i_dup2, i_dup2w, i_dupx1, i_pop, i_pop2, i_goto, i_ifc, i_icmp, i_getI, i_getL, i_getR, i_putI, i_putZ, i_putL, i_putR, i_aldI, i_aldB, i_aldL, i_aldD, i_astI, i_astL, i_astD, i_alen, i_ret, i_iret, i_zret, i_lret, i_fret, i_dret, i_aret, i_invS0, i_invV0, i_m2, i_m1, i_ml, i_obj, lk, lkp, stf1, stf2, Value.category, rV, xTo, lv_args, xCk, xCat, xRc, xAk, hg_S, hg_I, hg_J, hg_D, hg_R, hs_I, hs_J, hs_D, hs_R, uI_at, uJ_at, uD_at, uR_at, List.take_succ_cons, List.take_zero, List.drop_succ_cons, List.drop_zero, List.reverse_cons, List.reverse_nil, List.nil_append, List.cons_append, List.map_cons, List.map_nil, List.sum_cons, List.sum_nil, List.length_cons, List.length_nil, Option.toList_some, Option.toList_none, true_and, and_true, false_and, and_false, true_implies, false_implies, implies_true, not_true_eq_false, not_false_eq_true, ne_eq, if_true, if_false, Bool.and_true, Bool.true_and, decide_true, decide_false, reduceIte, reduceCtorEq, Bool.and_self, Bool.and_eq_true, decide_eq_true_eq, and_self, true_or, or_true, false_or, or_false, Nat.zero_add, Nat.add_zero, eq_self, Nat.reduceEqDiff, Nat.reduceLeDiff, Nat.reduceLT, Nat.reduceAdd, Nat.reduceSub, Nat.reduceMul, LM_out hL, show ((401 : Int32) ≤ nI 401) = True from eq_true (by decide), e321_257, B321_257, i_dd, e2, al_eq h2]
  | j + 1, i, p, q, hi, hp, hq => by
    have hr := rtP_gp h
    obtain ⟨d1, d2⟩ := gd_ok hB
    obtain ⟨g1, g2⟩ := hI i (by omega)
    have g3 := hD i (by omega)
    have hpl := pc_le (n := n) hB i
    have e0 : ((401 : Int32) ≤ nI (gd E n + i)) = False := by rw [show (401 : Int32) = nI 401 from rfl, nI_leP (by decide) (show gd E n + i < 2147483648 by omega)]; exact eq_false (by omega)
    have ei : nI (gd E n + i) - 200 - I 200 50 = nI i := by
      rw [hX.2.2.1, ← nI_add, ← d1]
      grind
    have ez : (nI (pc E n (2 ^ n) i) = 0) = (pc E n (2 ^ n) i = 0) := by
      rw [show (0 : Int32) = nI 0 from rfl, nI_iff (by omega) (by decide)]
    obtain ⟨a, ha⟩ : ∃ a, a = am E n s t i (2 ^ n) := ⟨_, rfl⟩
    obtain ⟨c, hc⟩ : ∃ c, c = nI (pc E n (2 ^ n) i) := ⟨_, rfl⟩
    obtain ⟨w, hw⟩ : ∃ w, w = wP (rtP x y) i := ⟨_, rfl⟩
    obtain ⟨v1, h1⟩ : ∃ v, v = cT E n s t (rtP x y) i := ⟨_, rfl⟩
    obtain ⟨v2, h2⟩ : ∃ v, v = cB E n (rtP x y) i := ⟨_, rfl⟩
    obtain ⟨v3, h3⟩ : ∃ v, v = cS E n s t (rtP x y) (i + 1) := ⟨_, rfl⟩
    obtain ⟨v4, h4⟩ : ∃ v, v = cA E n (rtP x y) (i + 1) := ⟨_, rfl⟩
    have ih := fun p q => R321_180 hL hB h hX hI hD j (i + 1) p q (by omega)
    rw [← Nat.add_assoc] at ih
    rw [← ha] at g2
    rw [← hc] at g1 ez
    rw [← hw] at g3
    have e1 : FP.dmul (FP.i2d a) w = v1 := by rw [ha, hw, h1]; rfl
    have e2 : FP.dmul (FP.i2d c) w = v2 := by rw [hc, hw, h2]; rfl
    have e3 : FP.dadd p v1 = v3 := by rw [hp, h1, h3]; rfl
    have e4 : FP.dadd q v2 = v4 := by rw [hq, h2, h4]; rfl
    have n1 : isNaN64 v1 = false := by rw [h1]; exact fb_n (cT_fb hB hr i)
    have n2 : isNaN64 v2 = false := by rw [h2]; exact fb_n (gp_fb (cB_gp hB hr i))
    have n3 : isNaN64 v3 = false := by rw [h3]; exact fb_n (cS_ok hB hr (i + 1) (by omega)).1
    have n4 : isNaN64 v4 = false := by rw [h4]; exact (cA_n hB hr (by omega)).1
    obtain ⟨z, hz⟩ : ∃ z, z = gd E n + i := ⟨_, rfl⟩
    rw [← hz] at g1 g2 e0 ei ih ⊢
    rw [e321_180]
    simp only [B321_180, xSeq, i_push, i_load, i_iload, i_lload, i_dload, i_aload, i_istore, i_astore, i_lstore, i_dstore, i_iinc, i_ii, i_iiz, i_ll, i_llz, i_lli, i_li, i_i, i_l, i_i2l, i_l2i, i_dup, i_dup2, i_dup2w, i_dupx1, i_pop, i_pop2, i_goto, i_ifc, i_icmp, i_getI, i_getL, i_getR, i_putI, i_putZ, i_putL, i_putR, i_aldI, i_aldB, i_aldL, i_aldD, i_astI, i_astL, i_astD, i_alen, i_ret, i_iret, i_zret, i_lret, i_fret, i_dret, i_aret, i_invS0, i_invV0, i_m2, i_m1, i_ml, i_obj, lk, lkp, stf1, stf2, Value.category, rV, xTo, lv_args, xCk, xCat, xRc, xAk, hg_S, hg_I, hg_J, hg_D, hg_R, hs_I, hs_J, hs_D, hs_R, uI_at, uJ_at, uD_at, uR_at, List.take_succ_cons, List.take_zero, List.drop_succ_cons, List.drop_zero, List.reverse_cons, List.reverse_nil, List.nil_append, List.cons_append, List.map_cons, List.map_nil, List.sum_cons, List.sum_nil, List.length_cons, List.length_nil, Option.toList_some, Option.toList_none, true_and, and_true, false_and, and_false, true_implies, false_implies, implies_true, not_true_eq_false, not_false_eq_true, ne_eq, if_true, if_false, Bool.and_true, Bool.true_and, decide_true, decide_false, reduceIte, reduceCtorEq, Bool.and_self, Bool.and_eq_true, decide_eq_true_eq, and_self, true_or, or_true, false_or, or_false, Nat.zero_add, Nat.add_zero, eq_self, Nat.reduceEqDiff, Nat.reduceLeDiff, Nat.reduceLT, Nat.reduceAdd, Nat.reduceSub, Nat.reduceMul, LM_out hL, e0, nI_inP (show z < 401 by omega) (by decide), nI_ix (show z < 2147483648 by omega), g1, ez, e321_201, B321_201, g2, ei, nI_inP (show i < 401 by omega) (by decide), nI_ix (show i < 2147483648 by omega), g3, i_i2d, i_dd, e1, al_eq n1, e3, al_eq n3, e2, al_eq n2, e4, al_eq n4, e321_251, B321_251, nI_1]
    by_cases h0 : pc E n (2 ^ n) i = 0
    · obtain ⟨f1, f2⟩ := c_skip (s := s) (t := t) hB hr (k := i) (by omega) h0
      simp only [h0, true_and, and_true, false_and, and_false, true_implies, false_implies, implies_true, not_true_eq_false, not_false_eq_true, ne_eq, if_true, if_false, Bool.and_true, Bool.true_and, decide_true, decide_false, reduceIte, reduceCtorEq, Bool.and_self, Bool.and_eq_true, decide_eq_true_eq, and_self, true_or, or_true, false_or, or_false, Nat.zero_add, Nat.add_zero, eq_self, Nat.reduceEqDiff, Nat.reduceLeDiff, Nat.reduceLT, Nat.reduceAdd, Nat.reduceSub, Nat.reduceMul]
      exact ih p q (by rw [f1]; exact hp) (by rw [f2]; exact hq)
    · simp only [h0, true_and, and_true, false_and, and_false, true_implies, false_implies, implies_true, not_true_eq_false, not_false_eq_true, ne_eq, if_true, if_false, Bool.and_true, Bool.true_and, decide_true, decide_false, reduceIte, reduceCtorEq, Bool.and_self, Bool.and_eq_true, decide_eq_true_eq, and_self, true_or, or_true, false_or, or_false, Nat.zero_add, Nat.add_zero, eq_self, Nat.reduceEqDiff, Nat.reduceLeDiff, Nat.reduceLT, Nat.reduceAdd, Nat.reduceSub, Nat.reduceMul]
      exact ih v3 v4 h3 h4
theorem L321_48 (hL : LM S R) (hX : XM n E I) (h10 : I 300 10 = nI n) (hB : EB E n) (h : AB x y) (hs : s < 16) (ht : t < 16)
    (kk : ∀ I' D', (∀ o k, o ≠ 353 → o ≠ 354 → I' o k = I o k) → (∀ o k, o ≠ 352 → D' o k = D o k) → Q (.ok (some (.double (co E n s t (rtP x y))))) (S, I', J, D', R) b) : xRun xT 321 55 [(0, .ref 200), (1, .int (nI s)), (2, .int (nI t)), (3, .int (nI x)), (4, .int (nI y)), (5, .int 0)] [] (S, I, J, D, R) b Q := by
  have h55 := L321_55 (S := S) (R := R) (J := J) (D := D) (b := b) (Q := Q) (I0 := I) (l1 := nI s) (l2 := nI t) (l3 := nI x) (l4 := nI y) hL (fun I1 z1 z2 => by
    rw [e321_85]
    simp only [B321_85, xSeq, i_push, i_load, i_iload, i_lload, i_dload, i_aload, i_istore, i_astore, i_lstore, i_dstore, i_iinc, i_ii, i_iiz, i_ll, i_llz, i_lli, i_li, i_i, i_l, i_i2l, i_l2i, i_dup, i_dup2, i_dup2w, i_dupx1, i_pop, i_pop2, i_goto, i_ifc, i_icmp, i_getI, i_getL, i_getR, i_putI, i_putZ, i_putL, i_putR, i_aldI, i_aldB, i_aldL, i_aldD, i_astI, i_astL, i_astD, i_alen, i_ret, i_iret, i_zret, i_lret, i_fret, i_dret, i_aret, i_invS0, i_invV0, i_m2, i_m1, i_ml, i_obj, lk, lkp, stf1, stf2, Value.category, rV, xTo, lv_args, xCk, xCat, xRc, xAk, hg_S, hg_I, hg_J, hg_D, hg_R, hs_I, hs_J, hs_D, hs_R, uI_at, uJ_at, uD_at, uR_at, List.take_succ_cons, List.take_zero, List.drop_succ_cons, List.drop_zero, List.reverse_cons, List.reverse_nil, List.nil_append, List.cons_append, List.map_cons, List.map_nil, List.sum_cons, List.sum_nil, List.length_cons, List.length_nil, Option.toList_some, Option.toList_none, true_and, and_true, false_and, and_false, true_implies, false_implies, implies_true, not_true_eq_false, not_false_eq_true, ne_eq, if_true, if_false, Bool.and_true, Bool.true_and, decide_true, decide_false, reduceIte, reduceCtorEq, Bool.and_self, Bool.and_eq_true, decide_eq_true_eq, and_self, true_or, or_true, false_or, or_false, Nat.zero_add, Nat.add_zero, eq_self, Nat.reduceEqDiff, Nat.reduceLeDiff, Nat.reduceLT, Nat.reduceAdd, Nat.reduceSub, Nat.reduceMul]
    refine L321_88 (I0 := I) hL hX h10 hB hs ht (fun I2 h2 => ?_) (2 ^ n) 0 I1 (by omega) ⟨fun k hk => ?_, z2⟩
    · have hX2 := GM_XM h2 hX
      obtain ⟨d1, d2⟩ := gd_ok hB
      rw [e321_157]
      simp only [B321_157, xSeq, i_push, i_load, i_iload, i_lload, i_dload, i_aload, i_istore, i_astore, i_lstore, i_dstore, i_iinc, i_ii, i_iiz, i_ll, i_llz, i_lli, i_li, i_i, i_l, i_i2l, i_l2i, i_dup, i_dup2, i_dup2w, i_dupx1, i_pop, i_pop2, i_goto, i_ifc, i_icmp, i_getI, i_getL, i_getR, i_putI, i_putZ, i_putL, i_putR, i_aldI, i_aldB, i_aldL, i_aldD, i_astI, i_astL, i_astD, i_alen, i_ret, i_iret, i_zret, i_lret, i_fret, i_dret, i_aret, i_invS0, i_invV0, i_m2, i_m1, i_ml, i_obj, lk, lkp, stf1, stf2, Value.category, rV, xTo, lv_args, xCk, xCat, xRc, xAk, hg_S, hg_I, hg_J, hg_D, hg_R, hs_I, hs_J, hs_D, hs_R, uI_at, uJ_at, uD_at, uR_at, List.take_succ_cons, List.take_zero, List.drop_succ_cons, List.drop_zero, List.reverse_cons, List.reverse_nil, List.nil_append, List.cons_append, List.map_cons, List.map_nil, List.sum_cons, List.sum_nil, List.length_cons, List.length_nil, Option.toList_some, Option.toList_none, true_and, and_true, false_and, and_false, true_implies, false_implies, implies_true, not_true_eq_false, not_false_eq_true, ne_eq, if_true, if_false, Bool.and_true, Bool.true_and, decide_true, decide_false, reduceIte, reduceCtorEq, Bool.and_self, Bool.and_eq_true, decide_eq_true_eq, and_self, true_or, or_true, false_or, or_false, Nat.zero_add, Nat.add_zero, eq_self, Nat.reduceEqDiff, Nat.reduceLeDiff, Nat.reduceLT, Nat.reduceAdd, Nat.reduceSub, Nat.reduceMul, LM_out hL]
      refine L316 hL h (fun D2 w1 w2 => ?_)
      simp only [xSeq, i_push, i_load, i_iload, i_lload, i_dload, i_aload, i_istore, i_astore, i_lstore, i_dstore, i_iinc, i_ii, i_iiz, i_ll, i_llz, i_lli, i_li, i_i, i_l, i_i2l, i_l2i, i_dup, i_dup2, i_dup2w, i_dupx1, i_pop, i_pop2, i_goto, i_ifc, i_icmp, i_getI, i_getL, i_getR, i_putI, i_putZ, i_putL, i_putR, i_aldI, i_aldB, i_aldL, i_aldD, i_astI, i_astL, i_astD, i_alen, i_ret, i_iret, i_zret, i_lret, i_fret, i_dret, i_aret, i_invS0, i_invV0, i_m2, i_m1, i_ml, i_obj, lk, lkp, stf1, stf2, Value.category, rV, xTo, lv_args, xCk, xCat, xRc, xAk, hg_S, hg_I, hg_J, hg_D, hg_R, hs_I, hs_J, hs_D, hs_R, uI_at, uJ_at, uD_at, uR_at, List.take_succ_cons, List.take_zero, List.drop_succ_cons, List.drop_zero, List.reverse_cons, List.reverse_nil, List.nil_append, List.cons_append, List.map_cons, List.map_nil, List.sum_cons, List.sum_nil, List.length_cons, List.length_nil, Option.toList_some, Option.toList_none, true_and, and_true, false_and, and_false, true_implies, false_implies, implies_true, not_true_eq_false, not_false_eq_true, ne_eq, if_true, if_false, Bool.and_true, Bool.true_and, decide_true, decide_false, reduceIte, reduceCtorEq, Bool.and_self, Bool.and_eq_true, decide_eq_true_eq, and_self, true_or, or_true, false_or, or_false, Nat.zero_add, Nat.add_zero, eq_self, Nat.reduceEqDiff, Nat.reduceLeDiff, Nat.reduceLT, Nat.reduceAdd, Nat.reduceSub, Nat.reduceMul, LM_out hL, hX2.2.2.1, d1]
      have h5 := R321_180 (S := S) (R := R) (I := I2) (J := J) (D := D2) (b := b) (Q := Q) hL hB h hX2 h2.1 w1 (401 - gd E n) 0 FP.dconst0 FP.dconst0 (by omega) rfl rfl
      rw [Nat.add_zero] at h5
      rw [h5]
      exact kk I2 D2 h2.2 w2
    · obtain ⟨k1, k2⟩ := z1 (gd E n + k) hk
      exact ⟨k2, k1⟩) 401 0 I (by omega) (fun k hk => absurd hk (Nat.not_lt_zero _)) (fun _ _ _ _ => rfl)
  exact h55
end
/-! ===== the flood of the lab ===== -/
section
/-- reached over heights up to h -/
def RK (e : Nat → Nat) (n h a : Nat) : Nat → Nat → Prop
  | 0, c => c = a ∧ e a ≤ h
  | k + 1, c => ∃ d t, RK e n h a k d ∧ t < n ∧ c = d ^^^ 2 ^ t ∧ e c ≤ h
def RC (e : Nat → Nat) (n h a c : Nat) : Prop := ∃ k, RK e n h a k c
theorem RC.refl {e : Nat → Nat} {n h a : Nat} (h1 : e a ≤ h) : RC e n h a a := ⟨0, rfl, h1⟩
theorem RC.step {e : Nat → Nat} {n h a c t : Nat} (r : RC e n h a c) (h2 : t < n) (h3 : e (c ^^^ 2 ^ t) ≤ h) : RC e n h a (c ^^^ 2 ^ t) := by
  obtain ⟨k, r⟩ := r
  exact ⟨k + 1, c, t, r, h2, rfl, h3⟩
theorem RC_ind {e : Nat → Nat} {n h a : Nat} {P : Nat → Prop} (h0 : e a ≤ h → P a) (hs : ∀ c t, RC e n h a c → P c → t < n → e (c ^^^ 2 ^ t) ≤ h → P (c ^^^ 2 ^ t)) {c : Nat} (r : RC e n h a c) : P c := by
  obtain ⟨k, r⟩ := r
  have key : ∀ k c, RK e n h a k c → P c := by
    intro k
    induction k with
    | zero =>
      intro c r
      obtain ⟨e1, e2⟩ := r
      rw [e1]
      exact h0 e2
    | succ k ih =>
      intro c r
      obtain ⟨d, t, r1, h2, h3, h4⟩ := r
      rw [h3] at h4 ⊢
      exact hs d t ⟨k, r1⟩ (ih d r1) h2 h4
  exact key k c r
theorem RC_mono {e : Nat → Nat} {n h h' a c : Nat} (hh : h ≤ h') (r : RC e n h a c) : RC e n h' a c :=
  RC_ind (fun h1 => .refl (Nat.le_trans h1 hh)) (fun _ _ _ ih h2 h3 => .step ih h2 (Nat.le_trans h3 hh)) r
theorem RC_lt {e : Nat → Nat} {n h a c : Nat} (ha : a < 2 ^ n) (r : RC e n h a c) : c < 2 ^ n :=
  RC_ind (P := fun c => c < 2 ^ n) (fun _ => ha) (fun _ _ _ ih h2 _ => Nat.xor_lt_two_pow ih (Nat.pow_lt_pow_right (by decide) h2)) r
theorem RC_le {e : Nat → Nat} {n h a c : Nat} (r : RC e n h a c) : e c ≤ h :=
  RC_ind (P := fun c => e c ≤ h) (fun h1 => h1) (fun _ _ _ _ _ h3 => h3) r
/-- all are reached over the greatest height -/
theorem RC_top {e : Nat → Nat} {n H a c : Nat} (ha : a < 2 ^ n) (hc : c < 2 ^ n) (he : ∀ k, k < 2 ^ n → e k ≤ H) : RC e n H a c := by
  have key : ∀ k, k ≤ n → ∃ m, RC e n H a m ∧ (∀ i, i < k → m.testBit i = c.testBit i) ∧ ∀ i, k ≤ i → m.testBit i = a.testBit i := by
    intro k
    induction k with
    | zero => intro _; exact ⟨a, .refl (he a ha), fun i hi => absurd hi (Nat.not_lt_zero _), fun _ _ => rfl⟩
    | succ k ih =>
      intro hk
      obtain ⟨m, r, h1, h2⟩ := ih (by omega)
      by_cases hb : m.testBit k = c.testBit k
      · refine ⟨m, r, fun i hi => ?_, fun i hi => h2 i (by omega)⟩
        by_cases e1 : i = k
        · rw [e1]; exact hb
        · exact h1 i (by omega)
      · have hm := RC_lt ha r
        have hx : m ^^^ 2 ^ k < 2 ^ n := Nat.xor_lt_two_pow hm (Nat.pow_lt_pow_right (by decide) (by omega))
        refine ⟨m ^^^ 2 ^ k, .step r (by omega) (he _ hx), fun i hi => ?_, fun i hi => ?_⟩
        · rw [bit_x]
          by_cases e1 : k = i
          · subst e1
            rw [decide_eq_true rfl]
            cases h3 : m.testBit k <;> cases h4 : c.testBit k <;> rw [h3, h4] at hb <;> first | rfl | exact absurd rfl hb
          · rw [decide_eq_false e1, Bool.xor_false]
            exact h1 i (by omega)
        · rw [bit_x, decide_eq_false (by omega), Bool.xor_false]
          exact h2 i (by omega)
  obtain ⟨m, r, h1, h2⟩ := key n (Nat.le_refl n)
  have e1 : m = c := by
    apply Nat.eq_of_testBit_eq
    intro i
    by_cases hi : i < n
    · exact h1 i hi
    · rw [h2 i (by omega), Nat.testBit_lt_two_pow (Nat.lt_of_lt_of_le ha (Nat.pow_le_pow_right (by decide) (by omega))), Nat.testBit_lt_two_pow (Nat.lt_of_lt_of_le hc (Nat.pow_le_pow_right (by decide) (by omega)))]
  rw [← e1]
  exact r
/-- the least height over which one comes to the other -/
def bar (e : Nat → Nat) (n a c h : Nat) : Prop := RC e n h a c ∧ ∀ h', RC e n h' a c → h ≤ h'
theorem bar_one {e : Nat → Nat} {n a c h h' : Nat} (h1 : bar e n a c h) (h2 : bar e n a c h') : h = h' := Nat.le_antisymm (h1.2 _ h2.1) (h2.2 _ h1.1)
/-- visited, done, the height of each, what waits at each height, the height now; u is under way -/
def FS (e : Nat → Nat) (n a u : Nat) (vis done : Nat → Bool) (L : Nat → Nat) (B : Nat → List Nat) (ht : Nat) : Prop :=
  (∀ c, vis c = true → c < 2 ^ n ∧ e c ≤ L c ∧ L c ≤ 288 ∧ RC e n (L c) a c ∧ L c ≤ max ht (e c)) ∧
  (∀ c, vis c = true → done c = false → c ≠ u → c ∈ B (L c)) ∧
  (∀ l, l < ht → B l = []) ∧
  (∀ l c, c ∈ B l → vis c = true ∧ done c = false ∧ L c = l ∧ c ≠ u) ∧
  (∀ l, (B l).Nodup) ∧
  (∀ c, done c = true → vis c = true ∧ ∀ t, t < n → vis (c ^^^ 2 ^ t) = true ∧ L (c ^^^ 2 ^ t) ≤ max (L c) (e (c ^^^ 2 ^ t))) ∧
  vis a = true ∧ L a = e a
variable {e : Nat → Nat} {n a u : Nat} {vis done : Nat → Bool} {L : Nat → Nat} {B : Nat → List Nat} {ht : Nat}
theorem FS.v1 (h : FS e n a u vis done L B ht) : ∀ c, vis c = true → c < 2 ^ n ∧ e c ≤ L c ∧ L c ≤ 288 ∧ RC e n (L c) a c ∧ L c ≤ max ht (e c) := h.1
theorem FS.v2 (h : FS e n a u vis done L B ht) : ∀ c, vis c = true → done c = false → c ≠ u → c ∈ B (L c) := h.2.1
theorem FS.v3 (h : FS e n a u vis done L B ht) : ∀ l, l < ht → B l = [] := h.2.2.1
theorem FS.v4 (h : FS e n a u vis done L B ht) : ∀ l c, c ∈ B l → vis c = true ∧ done c = false ∧ L c = l ∧ c ≠ u := h.2.2.2.1
theorem FS.v5 (h : FS e n a u vis done L B ht) : ∀ l, (B l).Nodup := h.2.2.2.2.1
theorem FS.v6 (h : FS e n a u vis done L B ht) : ∀ c, done c = true → vis c = true ∧ ∀ t, t < n → vis (c ^^^ 2 ^ t) = true ∧ L (c ^^^ 2 ^ t) ≤ max (L c) (e (c ^^^ 2 ^ t)) := h.2.2.2.2.2.1
theorem FS.v7 (h : FS e n a u vis done L B ht) : vis a = true ∧ L a = e a := h.2.2.2.2.2.2
theorem FS_path (h : FS e n a (2 ^ n) vis done L B ht) {x c : Nat} (hx : x < ht) (r : RC e n x a c) : vis c = true ∧ L c ≤ x := by
  have dn : ∀ c, vis c = true → L c ≤ x → done c = true := fun c h1 h2 => by
    cases hd : done c
    · have h3 := h.v2 c h1 hd (Nat.ne_of_lt (h.v1 c h1).1)
      rw [h.v3 (L c) (by omega)] at h3
      exact absurd h3 (List.not_mem_nil)
    · rfl
  refine RC_ind (P := fun c => vis c = true ∧ L c ≤ x) (fun h1 => ⟨h.v7.1, by rw [h.v7.2]; exact h1⟩) (fun d t _ ih h2 h3 => ?_) r
  obtain ⟨i1, i2⟩ := ih
  obtain ⟨j1, j2⟩ := (h.v6 _ (dn _ i1 i2)).2 _ h2
  exact ⟨j1, Nat.le_trans j2 (Nat.max_le.mpr ⟨i2, h3⟩)⟩
theorem FS_dn (h : FS e n a (2 ^ n) vis done L B ht) {x c : Nat} (hx : x < ht) (r : RC e n x a c) : done c = true := by
  obtain ⟨h1, h2⟩ := FS_path h hx r
  cases hd : done c
  · have h3 := h.v2 c h1 hd (Nat.ne_of_lt (h.v1 c h1).1)
    rw [h.v3 (L c) (by omega)] at h3
    exact absurd h3 (List.not_mem_nil)
  · rfl
theorem FS_bar (h : FS e n a (2 ^ n) vis done L B ht) {c : Nat} (hc : c ∈ B ht) : bar e n a c ht := by
  obtain ⟨h1, h2, h3, -⟩ := h.v4 ht c hc
  refine ⟨by rw [← h3]; exact (h.v1 c h1).2.2.2.1, fun x r => Nat.le_of_not_lt (fun hx => ?_)⟩
  have := FS_dn h hx r
  rw [h2] at this
  exact absurd this (by decide)
theorem FS_up (h : FS e n a (2 ^ n) vis done L B ht) (hb : B ht = []) : FS e n a (2 ^ n) vis done L B (ht + 1) := by
  refine ⟨fun c hc => ?_, h.v2, fun l hl => ?_, h.v4, h.v5, h.v6, h.v7⟩
  · obtain ⟨a1, a2, a3, a4, a5⟩ := h.v1 c hc
    exact ⟨a1, a2, a3, a4, by omega⟩
  · by_cases hh : l = ht
    · rw [hh]; exact hb
    · exact h.v3 l (by omega)
theorem FS_pop (h : FS e n a (2 ^ n) vis done L B ht) {c : Nat} {q : List Nat} (hb : B ht = c :: q) : FS e n a c vis done L (fun l => if l = ht then q else B l) ht ∧ vis c = true ∧ L c = ht ∧ done c = false := by
  have hm : c ∈ B ht := by rw [hb]; exact List.mem_cons_self
  obtain ⟨m1, m2, m3, m4⟩ := h.v4 ht c hm
  have hnd := h.v5 ht
  rw [hb] at hnd
  have hq : c ∉ q := (List.nodup_cons.mp hnd).1
  refine ⟨⟨h.v1, fun d h1 h2 h3 => ?_, fun l hl => ?_, fun l d hd => ?_, fun l => ?_, h.v6, h.v7⟩, m1, m3, m2⟩
  · have h4 := h.v2 d h1 h2 (Nat.ne_of_lt (h.v1 d h1).1)
    by_cases hl : L d = ht
    · rw [hl, hb] at h4
      simp only [hl, if_true]
      rcases List.mem_cons.mp h4 with h5 | h5
      · exact absurd h5 h3
      · exact h5
    · simp only [hl, if_false]
      exact h4
  · simp only [show ¬ l = ht by omega, if_false]
    exact h.v3 l hl
  · by_cases hl : l = ht
    · subst hl
      simp only [if_true] at hd
      have h4 : d ∈ B l := by rw [hb]; exact List.mem_cons_of_mem _ hd
      obtain ⟨p1, p2, p3, p4⟩ := h.v4 l d h4
      exact ⟨p1, p2, p3, fun e2 => hq (e2 ▸ hd)⟩
    · simp only [hl, if_false] at hd
      obtain ⟨p1, p2, p3, p4⟩ := h.v4 l d hd
      exact ⟨p1, p2, p3, fun e2 => hl (by rw [← p3, e2, m3])⟩
  · by_cases hl : l = ht
    · simp only [hl, if_true]
      exact (List.nodup_cons.mp hnd).2
    · simp only [hl, if_false]
      exact h.v5 l
theorem FS_new (h : FS e n a u vis done L B ht) (hu : vis u = true) (hL : L u = ht) {t : Nat} (ht' : t < n) (he : ∀ k, k < 2 ^ n → e k ≤ 288) (hv : vis (u ^^^ 2 ^ t) = false) :
    FS e n a u (fun k => if k = u ^^^ 2 ^ t then true else vis k) done (fun k => if k = u ^^^ 2 ^ t then max ht (e k) else L k) (fun l => if l = max ht (e (u ^^^ 2 ^ t)) then (u ^^^ 2 ^ t) :: B l else B l) ht := by
  obtain ⟨u1, u2, u3, u4, u5⟩ := h.v1 u hu
  have hx : u ^^^ 2 ^ t < 2 ^ n := Nat.xor_lt_two_pow u1 (Nat.pow_lt_pow_right (by decide) ht')
  have hex := he _ hx
  obtain ⟨o, ho⟩ : ∃ o, o = u ^^^ 2 ^ t := ⟨_, rfl⟩
  have rc : RC e n (max ht (e o)) a o := by
    rw [ho]
    exact .step (RC_mono (by rw [hL]; exact Nat.le_max_left _ _) u4) ht' (Nat.le_max_right _ _)
  rw [← ho] at hv hx hex ⊢
  have hou : o ≠ u := fun e2 => by rw [e2, hu] at hv; exact absurd hv (by decide)
  have hdo : done o = false := by
    cases hd : done o
    · rfl
    · have := (h.v6 o hd).1
      rw [hv] at this
      exact absurd this (by decide)
  have nb : ∀ l, o ∉ B l := fun l hm => by
    have := (h.v4 l o hm).1
    rw [hv] at this
    exact absurd this (by decide)
  refine ⟨fun c hc => ?_, fun d h1 h2 h3 => ?_, fun l hl => ?_, fun l d hd => ?_, fun l => ?_, fun c hd => ?_, ?_⟩
  · by_cases ec : c = o
    · subst ec
      simp only [if_true]
      exact ⟨hx, Nat.le_max_right _ _, Nat.max_le.mpr ⟨by omega, hex⟩, rc, Nat.le_refl _⟩
    · simp only [ec, if_false] at hc ⊢
      exact h.v1 c hc
  · by_cases ec : d = o
    · subst ec
      simp only [if_true]
      exact List.mem_cons_self
    · simp only [ec, if_false] at h1 ⊢
      have h4 := h.v2 d h1 h2 h3
      split
      · exact List.mem_cons_of_mem _ h4
      · exact h4
  · have : ¬ l = max ht (e o) := by have := Nat.le_max_left ht (e o); omega
    simp only [this, if_false]
    exact h.v3 l hl
  · by_cases ed : d = o
    · subst ed
      by_cases el : l = max ht (e d)
      · simp only [if_true]
        exact ⟨trivial, hdo, el.symm, hou⟩
      · simp only [el, if_false] at hd
        exact absurd hd (nb l)
    · have hd2 : d ∈ B l := by
        by_cases el : l = max ht (e o)
        · simp only [el, if_true] at hd
          rcases List.mem_cons.mp hd with h5 | h5
          · exact absurd h5 ed
          · rw [el]; exact h5
        · simp only [el, if_false] at hd
          exact hd
      simp only [ed, if_false]
      exact h.v4 l d hd2
  · by_cases el : l = max ht (e o)
    · simp only [el, if_true]
      exact List.nodup_cons.mpr ⟨nb _, h.v5 _⟩
    · simp only [el, if_false]
      exact h.v5 l
  · obtain ⟨c1, c2⟩ := h.v6 c hd
    have hco : c ≠ o := fun e2 => by rw [e2, hdo] at hd; exact absurd hd (by decide)
    simp only [hco, if_false]
    refine ⟨c1, fun t ht2 => ?_⟩
    obtain ⟨c3, c4⟩ := c2 t ht2
    have hne : c ^^^ 2 ^ t ≠ o := fun e2 => by rw [e2, hv] at c3; exact absurd c3 (by decide)
    simp only [hne, if_false]
    exact ⟨c3, c4⟩
  · have hao : a ≠ o := fun e2 => by have := h.v7.1; rw [e2, hv] at this; exact absurd this (by decide)
    simp only [hao, if_false]
    exact h.v7
theorem FS_end (h : FS e n a u vis done L B ht) (hu : vis u = true) (hL : L u = ht) (hn : ∀ t, t < n → vis (u ^^^ 2 ^ t) = true) (hd : done u = false) : FS e n a (2 ^ n) vis (fun k => done k || decide (u = k)) L B ht := by
  refine ⟨h.v1, fun d h1 h2 _ => ?_, h.v3, fun l d hm => ?_, h.v5, fun c hc => ?_, h.v7⟩
  · simp only [Bool.or_eq_false_iff, decide_eq_false_iff_not] at h2
    exact h.v2 d h1 h2.1 (fun e2 => h2.2 e2.symm)
  · obtain ⟨p1, p2, p3, p4⟩ := h.v4 l d hm
    refine ⟨p1, ?_, p3, Nat.ne_of_lt (h.v1 d p1).1⟩
    show (done d || decide (u = d)) = false
    rw [p2, decide_eq_false (fun e2 => p4 e2.symm)]
    rfl
  · simp only [Bool.or_eq_true, decide_eq_true_eq] at hc
    rcases hc with hc | hc
    · exact h.v6 c hc
    · subst hc
      refine ⟨hu, fun t ht2 => ⟨hn t ht2, ?_⟩⟩
      have := (h.v1 _ (hn t ht2)).2.2.2.2
      rw [hL]
      exact this
end
/-! ===== the lab's flood runs ===== -/
section
/-- a chain in a row -/
def Ch (f : Nat → Int32) : Int32 → List Nat → Prop
  | h, [] => h = -1
  | h, c :: l => h = nI c ∧ Ch f (f c) l
theorem Ch_up {f : Nat → Int32} {o : Nat} {v : Int32} : ∀ (l : List Nat) (h : Int32), o ∉ l → Ch f h l → Ch (fun k => if k = o then v else f k) h l
  | [], h, _, hc => hc
  | c :: l, h, hn, hc => by
    obtain ⟨h1, h2⟩ := hc
    have hne : ¬ c = o := fun e => hn (e ▸ List.mem_cons_self)
    refine ⟨h1, ?_⟩
    simp only [hne, if_false]
    exact Ch_up l _ (fun hm => hn (List.mem_cons_of_mem _ hm)) h2
/-- chains of what waits, marks of what is visited -/
def HF (n : Nat) (vis : Nat → Bool) (B : Nat → List Nat) (I0 I : xI) : Prop :=
  (∀ l, l < 289 → Ch (I 152) (I 137 l) (B l)) ∧ (∀ c, c < 2 ^ n → (vis c = false → I 152 c = -2) ∧ (vis c = true → I 152 c ≠ -2)) ∧ ∀ o k, o ≠ 137 → o ≠ 152 → I o k = I0 o k
variable {S : xS} {I : xI} {J : xJ} {D : xDb} {R : xR} {b : Nat × Nat} {Q : xQ} {E : Nat → Int32} {n a u : Nat} {vis done : Nat → Bool} {L : Nat → Nat} {B : Nat → List Nat} {ht : Nat}
theorem HF_XL {I0 : xI} (h : HF n vis B I0 I) (hX : XL n E S I0 R) : XL n E S I R := by
  obtain ⟨x1, x2, x3, x4, x5, x6, x7, x8⟩ := hX
  have f := h.2.2
  refine ⟨x1, ?_, ?_, ?_, ?_, ?_, ?_, fun c hc => ?_⟩
  · rw [f _ _ (by decide) (by decide)]; exact x2
  · rw [f _ _ (by decide) (by decide)]; exact x3
  · rw [f _ _ (by decide) (by decide)]; exact x4
  · rw [f _ _ (by decide) (by decide)]; exact x5
  · rw [f _ _ (by decide) (by decide)]; exact x6
  · intro i hi
    rw [f _ _ (by decide) (by decide), f _ _ (by decide) (by decide), f _ _ (by decide) (by decide)]
    exact x7 i hi
  · rw [f _ _ (by decide) (by decide)]; exact x8 c hc
theorem n1_n2 : ((-1 : Int32) = -2) = False := eq_false (by decide)
theorem nI_n2 {k : Nat} (hk : k < 2147483648) : (nI k = -2) = False := eq_false (fun e => by
  have h := nI_toInt hk
  rw [e] at h
  exact absurd h (by
    show ¬ (-2 : Int) = (k : Int)
    omega))
theorem nI_n1 {k : Nat} (hk : k < 2147483648) : (nI k = -1) = False := eq_false (fun e => by
  have h := nI_toInt hk
  rw [e] at h
  exact absurd h (by
    show ¬ (-1 : Int) = (k : Int)
    omega))
theorem HF_new {I0 : xI} (hf : HF n vis B I0 I) {o l : Nat} (hl : l < 289) (hv : vis o = false) (hB : ∀ l c, c ∈ B l → vis c = true) (hk : ∀ l c, c ∈ B l → c < 65536) :
    HF n (fun k => if k = o then true else vis k) (fun k => if k = l then o :: B k else B k) I0 (uI (uI I 152 o (I 137 l)) 137 l (nI o)) := by
  obtain ⟨h1, h2, h3⟩ := hf
  have ne : I 137 l ≠ -2 := by
    have := h1 l hl
    cases hb : B l with
    | nil =>
      rw [hb] at this
      have e : I 137 l = -1 := this
      rw [e]
      decide
    | cons c q =>
      rw [hb] at this
      have e : I 137 l = nI c := this.1
      have := hk l c (by rw [hb]; exact List.mem_cons_self)
      rw [e]
      intro e2
      exact (iff_of_eq (nI_n2 (show c < 2147483648 by omega))).mp e2
  have nb : ∀ l, o ∉ B l := fun l hm => by
    have := hB l o hm
    rw [hv] at this
    exact absurd this (by decide)
  have er : (uI (uI I 152 o (I 137 l)) 137 l (nI o)) 152 = fun k => if k = o then I 137 l else I 152 k := by
    funext k
    rw [uI_at, if_neg (fun e => absurd e.1 (by decide)), uI_at]
    by_cases e : k = o
    · rw [if_pos ⟨rfl, e⟩, if_pos e]
    · rw [if_neg (fun h => e h.2), if_neg e]
  refine ⟨fun k hk => ?_, fun c hc => ?_, fun p k p1 p2 => ?_⟩
  · rw [er]
    by_cases e : k = l
    · subst e
      simp only [if_true]
      rw [uI_at, if_pos ⟨rfl, rfl⟩]
      refine ⟨rfl, ?_⟩
      simp only [if_true]
      exact Ch_up _ _ (nb k) (h1 k hk)
    · simp only [e, if_false]
      rw [uI_at, if_neg (fun h => e h.2), uI_at, if_neg (fun h => absurd h.1 (by decide))]
      exact Ch_up _ _ (nb k) (h1 k hk)
  · rw [er]
    by_cases e : c = o
    · simp only [e, if_true]
      exact ⟨fun h => absurd h (by decide), fun _ => ne⟩
    · simp only [e, if_false]
      exact h2 c hc
  · rw [uI_at, if_neg (fun e => p1 e.1), uI_at, if_neg (fun e => p2 e.1)]
    exact h3 p k p1 p2
theorem L115_2 {I0 : xI} (hL : LC S R) (hX0 : XL n E S I0 R) (hE : EB E n) (hu : u < 2 ^ n) (hth : ht ≤ 288)
    (kk : ∀ I vis L B, FS (eN E) n a u vis done L B ht → vis u = true → L u = ht → (∀ t, t < n → vis (u ^^^ 2 ^ t) = true) → HF n vis B I0 I → Q (.ok none) (S, I, J, D, R) b) :
    ∀ (j i : Nat) (I : xI) (vis : Nat → Bool) (L : Nat → Nat) (B : Nat → List Nat), i + j = n → FS (eN E) n a u vis done L B ht → vis u = true → L u = ht → (∀ t, t < i → vis (u ^^^ 2 ^ t) = true) → HF n vis B I0 I →
      xRun xT 115 2 [(0, .ref 130), (1, .int (nI u)), (2, .int (nI ht)), (3, .int (nI i))] [] (S, I, J, D, R) b Q
  | 0, i, I, vis, L, B, hi, hS, hv, hl, hn, hf => by
    have hn16 := hE.1
    have hX := HF_XL hf hX0
    have e : i = n := by omega
    subst e
    rw [e115_2]
    simp only [B115_2, xSeq, i_push, i_load, i_iload, i_lload, i_dload, i_aload, i_istore, i_astore, i_lstore, i_dstore, i_iinc, i_ii, i_iiz, i_ll, i_llz, i_lli, i_li, i_i, i_l, i_i2l, i_l2i, i_dup, i_dup2, i_dup2w, i_dupx1, i_pop, i_pop2, i_goto, i_ifc, i_icmp, i_getI, i_getL, i_getR, i_putI, i_putZ, i_putL, i_putR, i_aldI, i_aldB, i_aldL, i_aldD, i_astI, i_astL, i_astD, i_alen, i_ret, i_iret, i_zret, i_lret, i_fret, i_dret, i_aret, i_invS0, i_invV0, i_m2, i_m1, i_ml, i_obj, lk, lkp, stf1, stf2, Value.category, rV, xTo, lv_args, xCk, xCat, xRc, xAk, hg_S, hg_I, hg_J, hg_D, hg_R, hs_I, hs_J, hs_D, hs_R, uI_at, uJ_at, uD_at, uR_at, List.take_succ_cons, List.take_zero, List.drop_succ_cons, List.drop_zero, List.reverse_cons, List.reverse_nil, List.nil_append, List.cons_append, List.map_cons, List.map_nil, List.sum_cons, List.sum_nil, List.length_cons, List.length_nil, Option.toList_some, Option.toList_none, true_and, and_true, false_and, and_false, true_implies, false_implies, implies_true, not_true_eq_false, not_false_eq_true, ne_eq, if_true, if_false, Bool.and_true, Bool.true_and, decide_true, decide_false, reduceIte, reduceCtorEq, Bool.and_self, Bool.and_eq_true, decide_eq_true_eq, and_self, true_or, or_true, false_or, or_false, Nat.zero_add, Nat.add_zero, eq_self, Nat.reduceEqDiff, Nat.reduceLeDiff, Nat.reduceLT, Nat.reduceAdd, Nat.reduceSub, Nat.reduceMul, LC_out hL, hX.2.2.1, nI_leP (show i < 2147483648 by omega) (show i < 2147483648 by omega), Nat.le_refl, e115_75, B115_75]
    exact kk I vis L B hS hv hl hn hf
  | j + 1, i, I, vis, L, B, hi, hS, hv, hl, hn, hf => by
    have hp := pow16 hE.1
    have hn16 := hE.1
    have hX := HF_XL hf hX0
    have hx : u ^^^ 2 ^ i < 2 ^ n := Nat.xor_lt_two_pow hu (Nat.pow_lt_pow_right (by decide) (by omega))
    obtain ⟨e1, -, e3, -⟩ := eN_ok hE hx
    have hm : max ht (eN E (u ^^^ 2 ^ i)) ≤ 288 := Nat.max_le.mpr ⟨hth, e3⟩
    have he : ∀ k, k < 2 ^ n → eN E k ≤ 288 := fun k hk => (eN_ok hE hk).2.2.1
    obtain ⟨f1, f2⟩ := hf.2.1 _ hx
    have nx := fun I vis L B => L115_2 hL hX0 hE hu hth kk j (i + 1) I vis L B (by omega)
    have hw : (I 151 (u ^^^ 2 ^ i)) = E (u ^^^ 2 ^ i) := hX.2.2.2.2.2.2.2 _ hx
    rw [e115_2]
    simp only [B115_2, xSeq, i_push, i_load, i_iload, i_lload, i_dload, i_aload, i_istore, i_astore, i_lstore, i_dstore, i_iinc, i_ii, i_iiz, i_ll, i_llz, i_lli, i_li, i_i, i_l, i_i2l, i_l2i, i_dup, i_dup2, i_dup2w, i_dupx1, i_pop, i_pop2, i_goto, i_ifc, i_icmp, i_getI, i_getL, i_getR, i_putI, i_putZ, i_putL, i_putR, i_aldI, i_aldB, i_aldL, i_aldD, i_astI, i_astL, i_astD, i_alen, i_ret, i_iret, i_zret, i_lret, i_fret, i_dret, i_aret, i_invS0, i_invV0, i_m2, i_m1, i_ml, i_obj, lk, lkp, stf1, stf2, Value.category, rV, xTo, lv_args, xCk, xCat, xRc, xAk, hg_S, hg_I, hg_J, hg_D, hg_R, hs_I, hs_J, hs_D, hs_R, uI_at, uJ_at, uD_at, uR_at, List.take_succ_cons, List.take_zero, List.drop_succ_cons, List.drop_zero, List.reverse_cons, List.reverse_nil, List.nil_append, List.cons_append, List.map_cons, List.map_nil, List.sum_cons, List.sum_nil, List.length_cons, List.length_nil, Option.toList_some, Option.toList_none, true_and, and_true, false_and, and_false, true_implies, false_implies, implies_true, not_true_eq_false, not_false_eq_true, ne_eq, if_true, if_false, Bool.and_true, Bool.true_and, decide_true, decide_false, reduceIte, reduceCtorEq, Bool.and_self, Bool.and_eq_true, decide_eq_true_eq, and_self, true_or, or_true, false_or, or_false, Nat.zero_add, Nat.add_zero, eq_self, Nat.reduceEqDiff, Nat.reduceLeDiff, Nat.reduceLT, Nat.reduceAdd, Nat.reduceSub, Nat.reduceMul, LC_out hL, LE_out hX.1, hX.2.2.1, nI_leP (show n < 2147483648 by omega) (show i < 2147483648 by omega), show (n ≤ i) = False from eq_false (by omega), q_1shl (show i < 31 by omega), i_xorN, nI_inP (show u ^^^ 2 ^ i < 65536 by omega) (by decide), nI_ix (show u ^^^ 2 ^ i < 2147483648 by omega), hw, e1, jMax_nI (show ht < 2147483648 by omega) (show eN E (u ^^^ 2 ^ i) < 2147483648 by omega), nI_inP (show max ht (eN E (u ^^^ 2 ^ i)) < 289 by omega) (by decide), nI_ix (show max ht (eN E (u ^^^ 2 ^ i)) < 2147483648 by omega), e115_69, B115_69, nI_1]
    cases hb : vis (u ^^^ 2 ^ i)
    · have g1 := f1 hb
      have hou : u ≠ u ^^^ 2 ^ i := fun e2 => by rw [← e2, hv] at hb; exact absurd hb (by decide)
      simp only [g1, true_and, and_true, false_and, and_false, true_implies, false_implies, implies_true, not_true_eq_false, not_false_eq_true, ne_eq, if_true, if_false, Bool.and_true, Bool.true_and, decide_true, decide_false, reduceIte, reduceCtorEq, Bool.and_self, Bool.and_eq_true, decide_eq_true_eq, and_self, true_or, or_true, false_or, or_false, Nat.zero_add, Nat.add_zero, eq_self, Nat.reduceEqDiff, Nat.reduceLeDiff, Nat.reduceLT, Nat.reduceAdd, Nat.reduceSub, Nat.reduceMul]
      refine nx _ _ _ _ (FS_new hS hv hl (show i < n by omega) he hb) ?_ ?_ (fun t ht2 => ?_) (HF_new hf (by omega) hb (fun l c hc => (hS.v4 l c hc).1) (fun l c hc => Nat.lt_of_lt_of_le (hS.v1 c (hS.v4 l c hc).1).1 hp))
      · simp only [hou, if_false]; exact hv
      · simp only [hou, if_false]; exact hl
      · by_cases e : t = i
        · subst e
          simp only [if_true]
        · have := hn t (by omega)
          split
          · rfl
          · exact this
    · have g2 := f2 hb
      simp only [g2, true_and, and_true, false_and, and_false, true_implies, false_implies, implies_true, not_true_eq_false, not_false_eq_true, ne_eq, if_true, if_false, Bool.and_true, Bool.true_and, decide_true, decide_false, reduceIte, reduceCtorEq, Bool.and_self, Bool.and_eq_true, decide_eq_true_eq, and_self, true_or, or_true, false_or, or_false, Nat.zero_add, Nat.add_zero, eq_self, Nat.reduceEqDiff, Nat.reduceLeDiff, Nat.reduceLT, Nat.reduceAdd, Nat.reduceSub, Nat.reduceMul]
      refine nx _ _ _ _ hS hv hl (fun t ht2 => ?_) hf
      by_cases e : t = i
      · rw [e]; exact hb
      · exact hn t (by omega)
end
