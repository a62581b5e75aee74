/-! ===== one cluster ===== -/
section
theorem ct_set {p : Nat → Bool} {o : Nat} (h : p o = false) : ∀ {n : Nat}, ct (fun k => p k || decide (o = k)) n = ct p n + if o < n then 1 else 0
  | 0 => by rw [if_neg (Nat.not_lt_zero _)]; rfl
  | n + 1 => by
    have ih := ct_set h (n := n)
    rw [ct, ct, ih]
    by_cases e : o = n
    · subst e
      rw [h, if_neg (Nat.lt_irrefl _), decide_eq_true rfl, if_pos (Nat.lt_succ_self _)]
      simp
    · rw [decide_eq_false e, Bool.or_false]
      by_cases h2 : o < n
      · rw [if_pos h2, if_pos (show o < n + 1 by omega)]; omega
      · rw [if_neg h2, if_neg (show ¬ o < n + 1 by omega)]; omega
theorem bit_o (s t : Nat) : Nat.testBit (s ||| 2 ^ t) = fun i => s.testBit i || decide (t = i) := by
  funext i
  rw [Nat.testBit_or, Nat.testBit_two_pow]
/-- members, the queue, the generator -/
abbrev xQu : Type := Nat × List Nat × Nat
def ot (fi se : Nat → Nat) (s k : Nat) : Nat := if fi k = s then se k else fi k
/-- one bond at a site in the queue -/
def tr (a bb : Nat) (st fi se : Nat → Nat) (x s k : Nat) (z : xQu) : xQu :=
  if z.1.testBit (ot fi se s k) = false ∧ x.testBit (fi k) = x.testBit (se k) then
    (if (pd a bb (2 * st k) z.2.2).1 = true then (z.1, z.2.1, (pd a bb (2 * st k) z.2.2).2) else (z.1 ||| 2 ^ ot fi se s k, z.2.1 ++ [ot fi se s k], (pd a bb (2 * st k) z.2.2).2))
  else z
/-- what holds of them -/
def VC (n : Nat) (z : xQu) : Prop := z.1 < 2 ^ n ∧ (∀ j, j < z.2.1.length → z.2.1.getD j 0 < n) ∧ z.2.1.length = ct (Nat.testBit z.1) n ∧ z.2.2 < 2147483648
theorem VC_len {n : Nat} {z : xQu} (h : VC n z) : z.2.1.length ≤ n := by rw [h.2.2.1]; exact ct_le _ n
theorem ct_lt {p : Nat → Bool} {o n : Nat} (h : p o = false) (ho : o < n) : ct p n < n := by
  have h2 := ct_set h (n := n)
  have h3 := ct_le (fun k => p k || decide (o = k)) n
  rw [if_pos ho] at h2
  omega
theorem VC_add {n : Nat} {z : xQu} {o g : Nat} (h : VC n z) (h2 : z.1.testBit o = false) (ho : o < n) (hg : g < 2147483648) : VC n (z.1 ||| 2 ^ o, z.2.1 ++ [o], g) ∧ z.2.1.length < n := by
  obtain ⟨v1, v2, v3, v4⟩ := h
  have h5 := ct_lt h2 ho
  refine ⟨⟨Nat.or_lt_two_pow v1 (Nat.pow_lt_pow_right (by decide) ho), fun j hj => ?_, ?_, hg⟩, by omega⟩
  · show (z.2.1 ++ [o]).getD j 0 < n
    have hj2 : j < (z.2.1 ++ [o]).length := hj
    rw [List.length_append, List.length_singleton] at hj2
    by_cases e : j < z.2.1.length
    · rw [getD_app1 _ _ _ e]; exact v2 j e
    · rw [show j = z.2.1.length by omega, getD_app2]; exact ho
  · show (z.2.1 ++ [o]).length = ct (Nat.testBit (z.1 ||| 2 ^ o)) n
    rw [bit_o, ct_set h2, if_pos ho, List.length_append, List.length_singleton, v3]
theorem tr_VC {n m a bb : Nat} {st fi se dg : Nat → Nat} {sb : Nat → Nat → Nat} (hG : GR n m fi se dg sb) {x s k : Nat} {z : xQu} (h : VC n z) (hk : k < m) : VC n (tr a bb st fi se x s k z) := by
  have hp := pd_lt a bb (2 * st k) z.2.2 h.2.2.2
  unfold tr
  split
  · next h2 =>
    split
    · exact ⟨h.1, h.2.1, h.2.2.1, hp⟩
    · refine (VC_add h h2.1 ?_ hp).1
      unfold ot
      split
      · exact hG.2.2.2.2.1 k hk
      · exact hG.2.2.2.1 k hk
  · exact h
/-- the first bonds at a site -/
def lb (a bb : Nat) (st fi se : Nat → Nat) (sb : Nat → Nat → Nat) (x s : Nat) (z : xQu) : Nat → xQu
  | 0 => z
  | i + 1 => tr a bb st fi se x s (sb s i) (lb a bb st fi se sb x s z i)
/-- the first bonds of all, those at the site -/
def mb (a bb : Nat) (st fi se : Nat → Nat) (x s : Nat) (z : xQu) : Nat → xQu
  | 0 => z
  | k + 1 => if fi k = s ∨ se k = s then tr a bb st fi se x s k (mb a bb st fi se x s z k) else mb a bb st fi se x s z k
theorem lb_VC {n m a bb : Nat} {st fi se dg : Nat → Nat} {sb : Nat → Nat → Nat} (hG : GR n m fi se dg sb) {x s : Nat} (hs : s < n) {z : xQu} (h : VC n z) : ∀ i, i ≤ dg s → VC n (lb a bb st fi se sb x s z i)
  | 0, _ => h
  | i + 1, hi => tr_VC hG (lb_VC hG hs h i (by omega)) (hG.2.2.2.2.2.2 s i hs (by omega))
theorem mb_VC {n m a bb : Nat} {st fi se dg : Nat → Nat} {sb : Nat → Nat → Nat} (hG : GR n m fi se dg sb) {x s : Nat} {z : xQu} (h : VC n z) : ∀ k, k ≤ m → VC n (mb a bb st fi se x s z k)
  | 0, _ => h
  | k + 1, hk => by
    rw [mb]
    split
    · exact tr_VC hG (mb_VC hG h k (by omega)) (by omega)
    · exact mb_VC hG h k (by omega)
/-- in a grid's order both are one -/
theorem lb_congr {a bb : Nat} {st fi se : Nat → Nat} {sb sb' : Nat → Nat → Nat} {x s : Nat} {z : xQu} : ∀ {d : Nat}, (∀ i, i < d → sb s i = sb' s i) → lb a bb st fi se sb x s z d = lb a bb st fi se sb' x s z d
  | 0, _ => rfl
  | d + 1, h => by rw [lb, lb, lb_congr (fun i hi => h i (by omega)), h d (by omega)]
theorem lb_fl (a bb : Nat) (st fi se : Nat → Nat) (x s : Nat) (z : xQu) : ∀ k, lb a bb st fi se (fun _ i => (fl (fun k => decide (fi k = s) || decide (se k = s)) k).getD i 0) x s z (fl (fun k => decide (fi k = s) || decide (se k = s)) k).length = mb a bb st fi se x s z k
  | 0 => rfl
  | k + 1 => by
    rw [mb, ← lb_fl a bb st fi se x s z k, fl]
    by_cases h : fi k = s ∨ se k = s
    · have h2 : (decide (fi k = s) || decide (se k = s)) = true := by simpa using h
      rw [if_pos h, if_pos h2, List.length_append, List.length_singleton, lb, getD_app2]
      exact congrArg _ (lb_congr (fun i hi => getD_app1 _ _ _ hi))
    · have h2 : (decide (fi k = s) || decide (se k = s)) ≠ true := by simpa using h
      rw [if_neg h, if_neg h2]
theorem lb_mb (a bb : Nat) (st : Nat → Nat) (l : List (Nat × Nat)) (x s : Nat) (z : xQu) : lb a bb st (fE l) (sE l) (bE l) x s z (dE l s) = mb a bb st (fE l) (sE l) x s z l.length := by
  have h := lb_fl a bb st (fE l) (sE l) x s z l.length
  have e : fl (fun k => decide (fE l k = s) || decide (sE l k = s)) l.length = ic l s := rfl
  rw [e] at h
  exact (lb_congr (sb := bE l) (sb' := fun _ i => (ic l s).getD i 0) (d := (ic l s).length) (fun i _ => rfl)).trans h
/-- site after site of the queue -/
def cq (f : Nat → xQu → xQu) : Nat → Nat → xQu → xQu
  | 0, _, z => z
  | j + 1, t, z => if t < z.2.1.length then cq f j (t + 1) (f (z.2.1.getD t 0) z) else z
theorem cq_VC {n : Nat} {f : Nat → xQu → xQu} (hf : ∀ s z, s < n → VC n z → VC n (f s z)) : ∀ j t z, VC n z → VC n (cq f j t z)
  | 0, _, _, h => h
  | j + 1, t, z, h => by
    rw [cq]
    split
    · next h2 => exact cq_VC hf j _ _ (hf _ _ (h.2.1 t h2) h)
    · exact h
theorem cq_congr {n : Nat} {f f' : Nat → xQu → xQu} (hf : ∀ s z, s < n → VC n z → VC n (f s z)) (he : ∀ s z, s < n → f s z = f' s z) : ∀ j t z, VC n z → cq f j t z = cq f' j t z
  | 0, _, _, _ => rfl
  | j + 1, t, z, h => by
    rw [cq, cq]
    split
    · next h2 => rw [← he _ _ (h.2.1 t h2), cq_congr hf he j _ _ (hf _ _ (h.2.1 t h2) h)]
    · rfl
/-- a queue in a row -/
def HQ (r : Nat) (I0 : xI) (q : List Nat) (I : xI) : Prop := (∀ j, j < q.length → I r j = nI (q.getD j 0)) ∧ ∀ o k, o ≠ r → I o k = I0 o k
theorem HQ_add {r : Nat} {I0 I : xI} {q : List Nat} (h : HQ r I0 q I) (o : Nat) : HQ r I0 (q ++ [o]) (uI I r q.length (nI o)) := by
  refine ⟨fun j hj => ?_, fun p k hp => ?_⟩
  · rw [List.length_append, List.length_singleton] at hj
    rw [uI_at]
    by_cases e : j = q.length
    · subst e
      rw [if_pos ⟨rfl, rfl⟩, getD_app2]
    · rw [if_neg (fun h => e h.2), getD_app1 _ _ _ (show j < q.length by omega)]
      exact h.1 j (by omega)
  · rw [uI_at, if_neg (fun e => hp e.1)]
    exact h.2 p k hp
theorem HQ_CL {I0 I : xI} {q : List Nat} {n m : Nat} {fi se dg : Nat → Nat} {sb : Nat → Nat → Nat} (h : HQ 116 I0 q I) (hC : CL I0 n m fi se dg sb) : CL I n m fi se dg sb := CL_k hC (fun o k _ ho => h.2 o k (by omega))
theorem HQ_CM {I0 I : xI} {q : List Nat} {n m : Nat} {fi se dg : Nat → Nat} {sb : Nat → Nat → Nat} (h : HQ 340 I0 q I) (hC : CM I0 n m fi se dg sb) : CM I n m fi se dg sb := CM_k hC (fun o k ho => h.2 o k (by omega))
variable {S : xS} {I : xI} {J : xJ} {D : xDb} {R : xR} {b : Nat × Nat} {Q : xQ} {n m : Nat} {fi se dg : Nat → Nat} {sb : Nat → Nat → Nat}
theorem dbl (v : Nat) : (2 : Int32) * nI v = nI (2 * v) := by rw [show (2 : Int32) = nI 2 from rfl, pk_mul]
theorem L87_43 {I0 : xI} {J0 : xJ} (hL : LC S R) (hG : GR n m fi se dg sb) (hC0 : CL I0 n m fi se dg sb) {a bb : Nat} (hA : I0 110 7 = nI a) (hB : I0 110 8 = nI bb) (ha : a < 2147483648) (h0 : 0 < bb) (hb : bb < 2147483648)
    {st : Nat → Nat} (hst : ∀ k, k < m → I0 111 k = nI (st k)) (hs3 : ∀ k, k < m → st k < 1000000) {x : Nat} (hx : x < 2 ^ 64) (hJ : J0 110 4 = lN x) {s t : Nat} (hs : s < n) {z : xQu} (hz : VC n z)
    (kk : ∀ I, HQ 116 I0 (lb a bb st fi se sb x s z (dg s)).2.1 I → xRun xT 87 171 [(0, .ref 110), (2, .long (lN (lb a bb st fi se sb x s z (dg s)).1)), (4, .int (nI (lb a bb st fi se sb x s z (dg s)).2.1.length)), (5, .int (nI t))] [] (S, I, uJ J0 110 5 (lN (lb a bb st fi se sb x s z (dg s)).2.2), D, R) b Q) :
    ∀ (j i : Nat) (I : xI), i + j = dg s → HQ 116 I0 (lb a bb st fi se sb x s z i).2.1 I →
      xRun xT 87 43 [(0, .ref 110), (2, .long (lN (lb a bb st fi se sb x s z i).1)), (4, .int (nI (lb a bb st fi se sb x s z i).2.1.length)), (5, .int (nI t)), (6, .int (nI s)), (7, .int (nI i))] [] (S, I, uJ J0 110 5 (lN (lb a bb st fi se sb x s z i).2.2), D, R) b Q
  | 0, i, I, hi, h => by
    have hC := HQ_CL h hC0
    obtain ⟨g0, g1, g2, g3, g4, g5, g6⟩ := hG
    obtain ⟨c1, c2, c3, c4, c5, c6⟩ := hC
    have h5 := g5 s hs
    have e : i = dg s := by omega
    subst e
    rw [e87_43]
    simp only [B87_43, xSeq, i_push, i_load, i_iload, i_lload, i_dload, i_aload, i_istore, i_astore, i_lstore, i_dstore, i_iinc, i_ii, i_iiz, i_ll, i_llz, i_lli, i_li, i_i, i_l, i_i2l, i_l2i, i_dup, i_dup2, i_dup2w, i_dupx1, i_pop, i_pop2, i_goto, i_ifc, i_icmp, i_getI, i_getL, i_getR, i_putI, i_putZ, i_putL, i_putR, i_aldI, i_aldB, i_aldL, i_aldD, i_astI, i_astL, i_astD, i_alen, i_ret, i_iret, i_zret, i_lret, i_fret, i_dret, i_aret, i_invS0, i_invV0, i_m2, i_m1, i_ml, i_obj, lk, lkp, stf1, stf2, Value.category, rV, xTo, lv_args, xCk, xCat, xRc, xAk, hg_S, hg_I, hg_J, hg_D, hg_R, hs_I, hs_J, hs_D, hs_R, uI_at, uJ_at, uD_at, uR_at, List.take_succ_cons, List.take_zero, List.drop_succ_cons, List.drop_zero, List.reverse_cons, List.reverse_nil, List.nil_append, List.cons_append, List.map_cons, List.map_nil, List.sum_cons, List.sum_nil, List.length_cons, List.length_nil, Option.toList_some, Option.toList_none, true_and, and_true, false_and, and_false, true_implies, false_implies, implies_true, not_true_eq_false, not_false_eq_true, ne_eq, if_true, if_false, Bool.and_true, Bool.true_and, decide_true, decide_false, reduceIte, reduceCtorEq, Bool.and_self, Bool.and_eq_true, decide_eq_true_eq, and_self, true_or, or_true, false_or, or_false, Nat.zero_add, Nat.add_zero, eq_self, Nat.reduceEqDiff, Nat.reduceLeDiff, Nat.reduceLT, Nat.reduceAdd, Nat.reduceSub, Nat.reduceMul, LC_out hL, nI_inP (show s < 64 by omega) (by decide), nI_ix (show s < 2147483648 by omega), c5 s hs, nI_leP (show dg s < 2147483648 by omega) (show dg s < 2147483648 by omega), Nat.le_refl]
    exact kk I h
  | j + 1, i, I, hi, h => by
    have hC := HQ_CL h hC0
    have hG' := hG
    have hC' := hC
    obtain ⟨g0, g1, g2, g3, g4, g5, g6⟩ := hG'
    obtain ⟨c1, c2, c3, c4, c5, c6⟩ := hC'
    have hw : 2 ^ n ≤ 2 ^ 64 := Nat.pow_le_pow_right (by decide) g1
    have h5 := g5 s hs
    have hk := g6 s i hs (by omega)
    have ho : ot fi se s (sb s i) < n := by
      unfold ot
      split
      · exact g4 _ hk
      · exact g3 _ hk
    have hv := lb_VC (a := a) (bb := bb) (st := st) (x := x) hG hs hz i (by omega)
    have nx := fun I => L87_43 hL hG hC0 hA hB ha h0 hb hst hs3 hx hJ hs hz kk j (i + 1) I (by omega)
    rw [lb] at nx
    obtain ⟨y, hy⟩ : ∃ y, y = lb a bb st fi se sb x s z i := ⟨_, rfl⟩
    rw [← hy] at h hv nx ⊢
    obtain ⟨k, hkk⟩ : ∃ k, k = sb s i := ⟨_, rfl⟩
    rw [← hkk] at hk ho nx
    have e52 := fun (J : xJ) (b : Nat × Nat) (Q : xQ) => R52 (S := S) (R := R) (I := I) (J := J) (D := D) (b := b) (Q := Q) hL hG hC hs (show i < dg s by omega)
    rw [← hkk] at e52
    have e54 : (if fi k = s then se k else fi k) = ot fi se s k := rfl
    obtain ⟨o, hO⟩ : ∃ o, o = ot fi se s k := ⟨_, rfl⟩
    have hvl := VC_len hv
    obtain ⟨v1, v2, v3, v4⟩ := hv
    have hst' := hst k hk
    have hs3' := hs3 k hk
    have f7 : I 110 7 = nI a := (h.2 _ _ (by decide)).trans hA
    have f8 : I 110 8 = nI bb := (h.2 _ _ (by decide)).trans hB
    have f1 : I 111 k = nI (st k) := (h.2 _ _ (by decide)).trans hst'
    have e83 := fun (b : Nat × Nat) (Q : xQ) => R83 (S := S) (R := R) (I := I) (J := uJ J0 110 5 (lN y.2.2)) (D := D) (b := b) (Q := Q) hL f7 f8 ha h0 hb (show 2 * st k < 2147483648 by omega) v4 rfl
    unfold tr at nx
    rw [← hO] at nx ho e54
    obtain ⟨r, hr⟩ : ∃ r, r = pd a bb (2 * st k) y.2.2 := ⟨_, rfl⟩
    rw [← hr] at e83 nx
    rw [e87_43]
    simp only [B87_43, xSeq, i_push, i_load, i_iload, i_lload, i_dload, i_aload, i_istore, i_astore, i_lstore, i_dstore, i_iinc, i_ii, i_iiz, i_ll, i_llz, i_lli, i_li, i_i, i_l, i_i2l, i_l2i, i_dup, i_dup2, i_dup2w, i_dupx1, i_pop, i_pop2, i_goto, i_ifc, i_icmp, i_getI, i_getL, i_getR, i_putI, i_putZ, i_putL, i_putR, i_aldI, i_aldB, i_aldL, i_aldD, i_astI, i_astL, i_astD, i_alen, i_ret, i_iret, i_zret, i_lret, i_fret, i_dret, i_aret, i_invS0, i_invV0, i_m2, i_m1, i_ml, i_obj, lk, lkp, stf1, stf2, Value.category, rV, xTo, lv_args, xCk, xCat, xRc, xAk, hg_S, hg_I, hg_J, hg_D, hg_R, hs_I, hs_J, hs_D, hs_R, uI_at, uJ_at, uD_at, uR_at, List.take_succ_cons, List.take_zero, List.drop_succ_cons, List.drop_zero, List.reverse_cons, List.reverse_nil, List.nil_append, List.cons_append, List.map_cons, List.map_nil, List.sum_cons, List.sum_nil, List.length_cons, List.length_nil, Option.toList_some, Option.toList_none, true_and, and_true, false_and, and_false, true_implies, false_implies, implies_true, not_true_eq_false, not_false_eq_true, ne_eq, if_true, if_false, Bool.and_true, Bool.true_and, decide_true, decide_false, reduceIte, reduceCtorEq, Bool.and_self, Bool.and_eq_true, decide_eq_true_eq, and_self, true_or, or_true, false_or, or_false, Nat.zero_add, Nat.add_zero, eq_self, Nat.reduceEqDiff, Nat.reduceLeDiff, Nat.reduceLT, Nat.reduceAdd, Nat.reduceSub, Nat.reduceMul, LC_out hL, nI_inP (show s < 64 by omega) (by decide), nI_ix (show s < 2147483648 by omega), c5 s hs, nI_leP (show dg s < 2147483648 by omega) (show i < 2147483648 by omega), show (dg s ≤ i) = False from eq_false (by omega), e52, R54 hL hG hC hs hk, e54, q_bit (show y.1 < 2 ^ 64 by omega) (show o < 64 by omega), q_cmp0, ne_eq, hJ, R53 hL hG hC hx hk, e87_122, B87_122, e87_123, B87_123, e87_165, B87_165, nI_1, nI_inP (show k < 128 by omega) (by decide), nI_ix (show k < 2147483648 by omega), f1, dbl, e83, uJ_uJ, q_1shlL (show o < 64 by omega), q_or (show y.1 < 2 ^ 64 by omega) (Nat.pow_lt_pow_right (show 1 < 2 by decide) (show o < 64 by omega))]
    cases hb1 : y.1.testBit o
    · by_cases hb2 : x.testBit (fi k) = x.testBit (se k)
      · have hlt : y.2.1.length < n := by rw [v3]; exact ct_lt hb1 ho
        have e64 : ((64 : Int32) ≤ nI y.2.1.length) = False := by rw [show (64 : Int32) = nI 64 from rfl, nI_leP (by decide) (show y.2.1.length < 2147483648 by omega)]; exact eq_false (by omega)
        rw [if_pos ⟨hb1, hb2⟩] at nx
        simp only [hb2, e64, true_and, and_true, false_and, and_false, true_implies, false_implies, implies_true, not_true_eq_false, not_false_eq_true, ne_eq, if_true, if_false, Bool.and_true, Bool.true_and, decide_true, decide_false, reduceIte, reduceCtorEq, Bool.and_self, Bool.and_eq_true, decide_eq_true_eq, and_self, true_or, or_true, false_or, or_false, Nat.zero_add, Nat.add_zero, eq_self, Nat.reduceEqDiff, Nat.reduceLeDiff, Nat.reduceLT, Nat.reduceAdd, Nat.reduceSub, Nat.reduceMul, i1_0]
        cases hr1 : r.1
        · rw [hr1, if_neg (by decide)] at nx
          simp only [true_and, and_true, false_and, and_false, true_implies, false_implies, implies_true, not_true_eq_false, not_false_eq_true, ne_eq, if_true, if_false, Bool.and_true, Bool.true_and, decide_true, decide_false, reduceIte, reduceCtorEq, Bool.and_self, Bool.and_eq_true, decide_eq_true_eq, and_self, true_or, or_true, false_or, or_false, Nat.zero_add, Nat.add_zero, eq_self, Nat.reduceEqDiff, Nat.reduceLeDiff, Nat.reduceLT, Nat.reduceAdd, Nat.reduceSub, Nat.reduceMul, nI_inP (show y.2.1.length < 64 by omega) (by decide), nI_ix (show y.2.1.length < 2147483648 by omega), nI_1]
          have e3 := nx _ (HQ_add h o)
          rw [show (y.2.1 ++ [o]).length = y.2.1.length + 1 by rw [List.length_append, List.length_singleton]] at e3
          exact e3
        · rw [hr1, if_pos rfl] at nx
          simp only [true_and, and_true, false_and, and_false, true_implies, false_implies, implies_true, not_true_eq_false, not_false_eq_true, ne_eq, if_true, if_false, Bool.and_true, Bool.true_and, decide_true, decide_false, reduceIte, reduceCtorEq, Bool.and_self, Bool.and_eq_true, decide_eq_true_eq, and_self, true_or, or_true, false_or, or_false, Nat.zero_add, Nat.add_zero, eq_self, Nat.reduceEqDiff, Nat.reduceLeDiff, Nat.reduceLT, Nat.reduceAdd, Nat.reduceSub, Nat.reduceMul, i1_0]
          exact nx _ h
      · rw [if_neg (fun e => hb2 e.2)] at nx
        simp only [hb2, true_and, and_true, false_and, and_false, true_implies, false_implies, implies_true, not_true_eq_false, not_false_eq_true, ne_eq, if_true, if_false, Bool.and_true, Bool.true_and, decide_true, decide_false, reduceIte, reduceCtorEq, Bool.and_self, Bool.and_eq_true, decide_eq_true_eq, and_self, true_or, or_true, false_or, or_false, Nat.zero_add, Nat.add_zero, eq_self, Nat.reduceEqDiff, Nat.reduceLeDiff, Nat.reduceLT, Nat.reduceAdd, Nat.reduceSub, Nat.reduceMul]
        exact ⟨fun _ => nx _ h, fun _ => nx _ h⟩
    · rw [if_neg (fun e => absurd (hb1.symm.trans e.1) (by decide))] at nx
      simp only [true_and, and_true, false_and, and_false, true_implies, false_implies, implies_true, not_true_eq_false, not_false_eq_true, ne_eq, if_true, if_false, Bool.and_true, Bool.true_and, decide_true, decide_false, reduceIte, reduceCtorEq, Bool.and_self, Bool.and_eq_true, decide_eq_true_eq, and_self, true_or, or_true, false_or, or_false, Nat.zero_add, Nat.add_zero, eq_self, Nat.reduceEqDiff, Nat.reduceLeDiff, Nat.reduceLT, Nat.reduceAdd, Nat.reduceSub, Nat.reduceMul]
      exact ⟨fun _ => nx _ h, fun _ => nx _ h⟩
theorem L87_17 {I0 : xI} {J0 : xJ} (hL : LC S R) (hG : GR n m fi se dg sb) (hC0 : CL I0 n m fi se dg sb) {a bb : Nat} (hA : I0 110 7 = nI a) (hB : I0 110 8 = nI bb) (ha : a < 2147483648) (h0 : 0 < bb) (hb : bb < 2147483648)
    {st : Nat → Nat} (hst : ∀ k, k < m → I0 111 k = nI (st k)) (hs3 : ∀ k, k < m → st k < 1000000) {x : Nat} (hx : x < 2 ^ 64) (hJ : J0 110 4 = lN x) {Z : xQu}
    (kk : ∀ I, HQ 116 I0 Z.2.1 I → xRun xT 87 177 [(0, .ref 110), (2, .long (lN Z.1)), (4, .int (nI Z.2.1.length))] [] (S, I, uJ J0 110 5 (lN Z.2.2), D, R) b Q) :
    ∀ (j t : Nat) (z : xQu) (I : xI), t + j = 64 → VC n z → HQ 116 I0 z.2.1 I → cq (fun s z => lb a bb st fi se sb x s z (dg s)) j t z = Z →
      xRun xT 87 17 [(0, .ref 110), (2, .long (lN z.1)), (4, .int (nI z.2.1.length)), (5, .int (nI t))] [] (S, I, uJ J0 110 5 (lN z.2.2), D, R) b Q
  | 0, t, z, I, ht, hz, h, e => by
    have hl := VC_len hz
    have g1 := hG.2.1
    rw [cq] at e
    rw [← e] at kk
    rw [e87_17]
    simp only [B87_17, xSeq, i_push, i_load, i_iload, i_lload, i_dload, i_aload, i_istore, i_astore, i_lstore, i_dstore, i_iinc, i_ii, i_iiz, i_ll, i_llz, i_lli, i_li, i_i, i_l, i_i2l, i_l2i, i_dup, i_dup2, i_dup2w, i_dupx1, i_pop, i_pop2, i_goto, i_ifc, i_icmp, i_getI, i_getL, i_getR, i_putI, i_putZ, i_putL, i_putR, i_aldI, i_aldB, i_aldL, i_aldD, i_astI, i_astL, i_astD, i_alen, i_ret, i_iret, i_zret, i_lret, i_fret, i_dret, i_aret, i_invS0, i_invV0, i_m2, i_m1, i_ml, i_obj, lk, lkp, stf1, stf2, Value.category, rV, xTo, lv_args, xCk, xCat, xRc, xAk, hg_S, hg_I, hg_J, hg_D, hg_R, hs_I, hs_J, hs_D, hs_R, uI_at, uJ_at, uD_at, uR_at, List.take_succ_cons, List.take_zero, List.drop_succ_cons, List.drop_zero, List.reverse_cons, List.reverse_nil, List.nil_append, List.cons_append, List.map_cons, List.map_nil, List.sum_cons, List.sum_nil, List.length_cons, List.length_nil, Option.toList_some, Option.toList_none, true_and, and_true, false_and, and_false, true_implies, false_implies, implies_true, not_true_eq_false, not_false_eq_true, ne_eq, if_true, if_false, Bool.and_true, Bool.true_and, decide_true, decide_false, reduceIte, reduceCtorEq, Bool.and_self, Bool.and_eq_true, decide_eq_true_eq, and_self, true_or, or_true, false_or, or_false, Nat.zero_add, Nat.add_zero, eq_self, Nat.reduceEqDiff, Nat.reduceLeDiff, Nat.reduceLT, Nat.reduceAdd, Nat.reduceSub, Nat.reduceMul, LC_out hL, nI_leP (show z.2.1.length < 2147483648 by omega) (show t < 2147483648 by omega), show (z.2.1.length ≤ t) = True from eq_true (by omega)]
    exact kk I h
  | j + 1, t, z, I, ht, hz, h, e => by
    have hl := VC_len hz
    have g1 := hG.2.1
    rw [cq] at e
    rw [e87_17]
    by_cases hlt : t < z.2.1.length
    · have hs := hz.2.1 t hlt
      have e64 : ((64 : Int32) ≤ nI t) = False := by rw [show (64 : Int32) = nI 64 from rfl, nI_leP (by decide) (show t < 2147483648 by omega)]; exact eq_false (by omega)
      rw [if_pos hlt] at e
      simp only [B87_17, xSeq, i_push, i_load, i_iload, i_lload, i_dload, i_aload, i_istore, i_astore, i_lstore, i_dstore, i_iinc, i_ii, i_iiz, i_ll, i_llz, i_lli, i_li, i_i, i_l, i_i2l, i_l2i, i_dup, i_dup2, i_dup2w, i_dupx1, i_pop, i_pop2, i_goto, i_ifc, i_icmp, i_getI, i_getL, i_getR, i_putI, i_putZ, i_putL, i_putR, i_aldI, i_aldB, i_aldL, i_aldD, i_astI, i_astL, i_astD, i_alen, i_ret, i_iret, i_zret, i_lret, i_fret, i_dret, i_aret, i_invS0, i_invV0, i_m2, i_m1, i_ml, i_obj, lk, lkp, stf1, stf2, Value.category, rV, xTo, lv_args, xCk, xCat, xRc, xAk, hg_S, hg_I, hg_J, hg_D, hg_R, hs_I, hs_J, hs_D, hs_R, uI_at, uJ_at, uD_at, uR_at, List.take_succ_cons, List.take_zero, List.drop_succ_cons, List.drop_zero, List.reverse_cons, List.reverse_nil, List.nil_append, List.cons_append, List.map_cons, List.map_nil, List.sum_cons, List.sum_nil, List.length_cons, List.length_nil, Option.toList_some, Option.toList_none, true_and, and_true, false_and, and_false, true_implies, false_implies, implies_true, not_true_eq_false, not_false_eq_true, ne_eq, if_true, if_false, Bool.and_true, Bool.true_and, decide_true, decide_false, reduceIte, reduceCtorEq, Bool.and_self, Bool.and_eq_true, decide_eq_true_eq, and_self, true_or, or_true, false_or, or_false, Nat.zero_add, Nat.add_zero, eq_self, Nat.reduceEqDiff, Nat.reduceLeDiff, Nat.reduceLT, Nat.reduceAdd, Nat.reduceSub, Nat.reduceMul, LC_out hL, nI_leP (show z.2.1.length < 2147483648 by omega) (show t < 2147483648 by omega), show (z.2.1.length ≤ t) = False from eq_false (by omega), e64, nI_inP (show t < 64 by omega) (by decide), nI_ix (show t < 2147483648 by omega), h.1 t hlt]
      refine L87_43 hL hG hC0 hA hB ha h0 hb hst hs3 hx hJ hs hz (fun I' h' => ?_) (dg (z.2.1.getD t 0)) 0 I (by omega) h
      rw [e87_171]
      simp only [B87_171, xSeq, i_push, i_load, i_iload, i_lload, i_dload, i_aload, i_istore, i_astore, i_lstore, i_dstore, i_iinc, i_ii, i_iiz, i_ll, i_llz, i_lli, i_li, i_i, i_l, i_i2l, i_l2i, i_dup, i_dup2, i_dup2w, i_dupx1, i_pop, i_pop2, i_goto, i_ifc, i_icmp, i_getI, i_getL, i_getR, i_putI, i_putZ, i_putL, i_putR, i_aldI, i_aldB, i_aldL, i_aldD, i_astI, i_astL, i_astD, i_alen, i_ret, i_iret, i_zret, i_lret, i_fret, i_dret, i_aret, i_invS0, i_invV0, i_m2, i_m1, i_ml, i_obj, lk, lkp, stf1, stf2, Value.category, rV, xTo, lv_args, xCk, xCat, xRc, xAk, hg_S, hg_I, hg_J, hg_D, hg_R, hs_I, hs_J, hs_D, hs_R, uI_at, uJ_at, uD_at, uR_at, List.take_succ_cons, List.take_zero, List.drop_succ_cons, List.drop_zero, List.reverse_cons, List.reverse_nil, List.nil_append, List.cons_append, List.map_cons, List.map_nil, List.sum_cons, List.sum_nil, List.length_cons, List.length_nil, Option.toList_some, Option.toList_none, true_and, and_true, false_and, and_false, true_implies, false_implies, implies_true, not_true_eq_false, not_false_eq_true, ne_eq, if_true, if_false, Bool.and_true, Bool.true_and, decide_true, decide_false, reduceIte, reduceCtorEq, Bool.and_self, Bool.and_eq_true, decide_eq_true_eq, and_self, true_or, or_true, false_or, or_false, Nat.zero_add, Nat.add_zero, eq_self, Nat.reduceEqDiff, Nat.reduceLeDiff, Nat.reduceLT, Nat.reduceAdd, Nat.reduceSub, Nat.reduceMul, nI_1]
      exact L87_17 hL hG hC0 hA hB ha h0 hb hst hs3 hx hJ kk j (t + 1) _ I' (by omega) (lb_VC hG hs hz _ (Nat.le_refl _)) h' e
    · rw [if_neg hlt] at e
      rw [← e] at kk
      simp only [B87_17, xSeq, i_push, i_load, i_iload, i_lload, i_dload, i_aload, i_istore, i_astore, i_lstore, i_dstore, i_iinc, i_ii, i_iiz, i_ll, i_llz, i_lli, i_li, i_i, i_l, i_i2l, i_l2i, i_dup, i_dup2, i_dup2w, i_dupx1, i_pop, i_pop2, i_goto, i_ifc, i_icmp, i_getI, i_getL, i_getR, i_putI, i_putZ, i_putL, i_putR, i_aldI, i_aldB, i_aldL, i_aldD, i_astI, i_astL, i_astD, i_alen, i_ret, i_iret, i_zret, i_lret, i_fret, i_dret, i_aret, i_invS0, i_invV0, i_m2, i_m1, i_ml, i_obj, lk, lkp, stf1, stf2, Value.category, rV, xTo, lv_args, xCk, xCat, xRc, xAk, hg_S, hg_I, hg_J, hg_D, hg_R, hs_I, hs_J, hs_D, hs_R, uI_at, uJ_at, uD_at, uR_at, List.take_succ_cons, List.take_zero, List.drop_succ_cons, List.drop_zero, List.reverse_cons, List.reverse_nil, List.nil_append, List.cons_append, List.map_cons, List.map_nil, List.sum_cons, List.sum_nil, List.length_cons, List.length_nil, Option.toList_some, Option.toList_none, true_and, and_true, false_and, and_false, true_implies, false_implies, implies_true, not_true_eq_false, not_false_eq_true, ne_eq, if_true, if_false, Bool.and_true, Bool.true_and, decide_true, decide_false, reduceIte, reduceCtorEq, Bool.and_self, Bool.and_eq_true, decide_eq_true_eq, and_self, true_or, or_true, false_or, or_false, Nat.zero_add, Nat.add_zero, eq_self, Nat.reduceEqDiff, Nat.reduceLeDiff, Nat.reduceLT, Nat.reduceAdd, Nat.reduceSub, Nat.reduceMul, LC_out hL, nI_leP (show z.2.1.length < 2147483648 by omega) (show t < 2147483648 by omega), show (z.2.1.length ≤ t) = True from eq_true (by omega)]
      exact kk I h
theorem ct_no : ∀ {n : Nat}, ct (fun _ => false) n = 0
  | 0 => rfl
  | n + 1 => by rw [ct, ct_no]; rfl
theorem VC_0 {s g : Nat} (hs : s < n) (hg : g < 2147483648) : VC n (2 ^ s, [s], g) := by
  refine ⟨Nat.pow_lt_pow_right (by decide) hs, fun j hj => ?_, ?_, hg⟩
  · have hj2 : j < 1 := hj
    rw [show j = 0 by omega]
    exact hs
  · show 1 = ct (Nat.testBit (2 ^ s)) n
    have e : Nat.testBit (2 ^ s) = fun k => (fun _ => false) k || decide (s = k) := by
      funext k
      rw [Nat.testBit_two_pow]
      rfl
    rw [e, ct_set rfl, if_pos hs, ct_no]
theorem xI64_0 : xIn (0 : Int32) 64 = True := nI_inP (k := 0) (by decide) (by decide)
theorem L87 {J : xJ} (hL : LC S R) (hG : GR n m fi se dg sb) (hC : CL I n m fi se dg sb) {a bb : Nat} (hA : I 110 7 = nI a) (hB : I 110 8 = nI bb) (ha : a < 2147483648) (h0 : 0 < bb) (hb : bb < 2147483648)
    {st : Nat → Nat} (hst : ∀ k, k < m → I 111 k = nI (st k)) (hs3 : ∀ k, k < m → st k < 1000000) {x g : Nat} (hx : x < 2 ^ 64) (hJ : J 110 4 = lN x) (hg : g < 2147483648) (hJ2 : J 110 5 = lN g) {s : Nat} (hs : s < n) {Z : xQu} (hZ : cq (fun s z => lb a bb st fi se sb x s z (dg s)) 64 0 (2 ^ s, [s], g) = Z)
    (kk : ∀ I', (∀ o k, o ≠ 116 → I' o k = I o k) → Q (.ok (some (.int (nI Z.2.1.length)))) (S, I', uJ (uJ J 110 5 (lN Z.2.2)) 110 4 (lN (x ^^^ Z.1)), D, R) b) :
    xRun xT 87 0 [(0, .ref 110), (1, .int (nI s))] [] (S, I, J, D, R) b Q := by
  have g1 := hG.2.1
  have hq : HQ 116 I [s] (uI I 116 0 (nI s)) := HQ_add (q := []) ⟨fun j hj => absurd hj (Nat.not_lt_zero _), fun _ _ _ => rfl⟩ s
  have hr := L87_17 (S := S) (R := R) (D := D) (b := b) (Q := Q) hL hG hC hA hB ha h0 hb hst hs3 hx hJ (Z := Z) (fun I' h' => by
    have e2 : uJ J 110 5 (lN Z.2.2) 110 4 = lN x := hJ
    rw [e87_177]
    simp only [B87_177, xSeq, i_push, i_load, i_iload, i_lload, i_dload, i_aload, i_istore, i_astore, i_lstore, i_dstore, i_iinc, i_ii, i_iiz, i_ll, i_llz, i_lli, i_li, i_i, i_l, i_i2l, i_l2i, i_dup, i_dup2, i_dup2w, i_dupx1, i_pop, i_pop2, i_goto, i_ifc, i_icmp, i_getI, i_getL, i_getR, i_putI, i_putZ, i_putL, i_putR, i_aldI, i_aldB, i_aldL, i_aldD, i_astI, i_astL, i_astD, i_alen, i_ret, i_iret, i_zret, i_lret, i_fret, i_dret, i_aret, i_invS0, i_invV0, i_m2, i_m1, i_ml, i_obj, lk, lkp, stf1, stf2, Value.category, rV, xTo, lv_args, xCk, xCat, xRc, xAk, hg_S, hg_I, hg_J, hg_D, hg_R, hs_I, hs_J, hs_D, hs_R, uI_at, uJ_at, uD_at, uR_at, List.take_succ_cons, List.take_zero, List.drop_succ_cons, List.drop_zero, List.reverse_cons, List.reverse_nil, List.nil_append, List.cons_append, List.map_cons, List.map_nil, List.sum_cons, List.sum_nil, List.length_cons, List.length_nil, Option.toList_some, Option.toList_none, true_and, and_true, false_and, and_false, true_implies, false_implies, implies_true, not_true_eq_false, not_false_eq_true, ne_eq, if_true, if_false, Bool.and_true, Bool.true_and, decide_true, decide_false, reduceIte, reduceCtorEq, Bool.and_self, Bool.and_eq_true, decide_eq_true_eq, and_self, true_or, or_true, false_or, or_false, Nat.zero_add, Nat.add_zero, eq_self, Nat.reduceEqDiff, Nat.reduceLeDiff, Nat.reduceLT, Nat.reduceAdd, Nat.reduceSub, Nat.reduceMul, LC_out hL, e2, hJ, q_xor]
    exact kk I' h'.2) 64 0 (2 ^ s, [s], g) _ (by omega) (VC_0 hs hg) hq hZ
  have e5 : uJ J 110 5 (lN (2 ^ s, [s], g).2.2) = J := uJ_same hJ2
  rw [e5] at hr
  rw [e87_0]
  simp only [B87_0, xSeq, i_push, i_load, i_iload, i_lload, i_dload, i_aload, i_istore, i_astore, i_lstore, i_dstore, i_iinc, i_ii, i_iiz, i_ll, i_llz, i_lli, i_li, i_i, i_l, i_i2l, i_l2i, i_dup, i_dup2, i_dup2w, i_dupx1, i_pop, i_pop2, i_goto, i_ifc, i_icmp, i_getI, i_getL, i_getR, i_putI, i_putZ, i_putL, i_putR, i_aldI, i_aldB, i_aldL, i_aldD, i_astI, i_astL, i_astD, i_alen, i_ret, i_iret, i_zret, i_lret, i_fret, i_dret, i_aret, i_invS0, i_invV0, i_m2, i_m1, i_ml, i_obj, lk, lkp, stf1, stf2, Value.category, rV, xTo, lv_args, xCk, xCat, xRc, xAk, hg_S, hg_I, hg_J, hg_D, hg_R, hs_I, hs_J, hs_D, hs_R, uI_at, uJ_at, uD_at, uR_at, List.take_succ_cons, List.take_zero, List.drop_succ_cons, List.drop_zero, List.reverse_cons, List.reverse_nil, List.nil_append, List.cons_append, List.map_cons, List.map_nil, List.sum_cons, List.sum_nil, List.length_cons, List.length_nil, Option.toList_some, Option.toList_none, true_and, and_true, false_and, and_false, true_implies, false_implies, implies_true, not_true_eq_false, not_false_eq_true, ne_eq, if_true, if_false, Bool.and_true, Bool.true_and, decide_true, decide_false, reduceIte, reduceCtorEq, Bool.and_self, Bool.and_eq_true, decide_eq_true_eq, and_self, true_or, or_true, false_or, or_false, Nat.zero_add, Nat.add_zero, eq_self, Nat.reduceEqDiff, Nat.reduceLeDiff, Nat.reduceLT, Nat.reduceAdd, Nat.reduceSub, Nat.reduceMul, LC_out hL, q_1shlL (show s < 64 by omega), xI64_0, ix_0]
  exact hr
theorem R279 (hL : LM S R) (hG : GR n m fi se dg sb) (hC : CM I n m fi se dg sb) {s k : Nat} (hs : s < n) (hk : k < m) : xRun xT 279 0 [(0, .ref 200), (1, .int (nI k)), (2, .int (nI s))] [] (S, I, J, D, R) b Q = Q (.ok (some (.int (nI (ot fi se s k))))) (S, I, J, D, R) b := by
  obtain ⟨g0, g1, g2, g3, g4, g5, g6⟩ := hG
  obtain ⟨c1, c2, c3, c4, c5, c6⟩ := hC
  have h3 := g3 k hk
  have h4 := g4 k hk
  unfold ot
  rw [e279_0]
  simp only [B279_0, xSeq, i_push, i_load, i_iload, i_lload, i_dload, i_aload, i_istore, i_astore, i_lstore, i_dstore, i_iinc, i_ii, i_iiz, i_ll, i_llz, i_lli, i_li, i_i, i_l, i_i2l, i_l2i, i_dup, i_dup2, i_dup2w, i_dupx1, i_pop, i_pop2, i_goto, i_ifc, i_icmp, i_getI, i_getL, i_getR, i_putI, i_putZ, i_putL, i_putR, i_aldI, i_aldB, i_aldL, i_aldD, i_astI, i_astL, i_astD, i_alen, i_ret, i_iret, i_zret, i_lret, i_fret, i_dret, i_aret, i_invS0, i_invV0, i_m2, i_m1, i_ml, i_obj, lk, lkp, stf1, stf2, Value.category, rV, xTo, lv_args, xCk, xCat, xRc, xAk, hg_S, hg_I, hg_J, hg_D, hg_R, hs_I, hs_J, hs_D, hs_R, uI_at, uJ_at, uD_at, uR_at, List.take_succ_cons, List.take_zero, List.drop_succ_cons, List.drop_zero, List.reverse_cons, List.reverse_nil, List.nil_append, List.cons_append, List.map_cons, List.map_nil, List.sum_cons, List.sum_nil, List.length_cons, List.length_nil, Option.toList_some, Option.toList_none, true_and, and_true, false_and, and_false, true_implies, false_implies, implies_true, not_true_eq_false, not_false_eq_true, ne_eq, if_true, if_false, Bool.and_true, Bool.true_and, decide_true, decide_false, reduceIte, reduceCtorEq, Bool.and_self, Bool.and_eq_true, decide_eq_true_eq, and_self, true_or, or_true, false_or, or_false, Nat.zero_add, Nat.add_zero, eq_self, Nat.reduceEqDiff, Nat.reduceLeDiff, Nat.reduceLT, Nat.reduceAdd, Nat.reduceSub, Nat.reduceMul, LM_out hL, nI_inP (show k < 128 by omega) (by decide), nI_ix (show k < 2147483648 by omega), c3 k hk, c4 k hk, nI_iff (show fi k < 2147483648 by omega) (show s < 2147483648 by omega), e279_19, B279_19, e279_25, B279_25, ne_eq]
  by_cases hb : fi k = s <;> simp [hb]
theorem L277_58 {I0 : xI} {J0 : xJ} (hL : LM S R) (hG : GR n m fi se dg sb) (hC0 : CM I0 n m fi se dg sb) {a bb : Nat} (hA : I0 300 2 = nI a) (hB : I0 300 3 = nI bb) (ha : a < 2147483648) (h0 : 0 < bb) (hb : bb < 2147483648)
    {st : Nat → Nat} (hst : ∀ k, k < m → I0 300 (16 + k) = nI (st k)) (hs3 : ∀ k, k < m → st k < 1000000) {x : Nat} (hx : x < 2 ^ 64) (hJ : J0 200 3 = lN x) {s t : Nat} (hs : s < n) {z : xQu} (hz : VC n z)
    (kk : ∀ I, HQ 340 I0 (mb a bb st fi se x s z m).2.1 I → xRun xT 277 174 [(0, .ref 200), (2, .long (lN (mb a bb st fi se x s z m).1)), (4, .int (nI (mb a bb st fi se x s z m).2.1.length)), (5, .int (nI t))] [] (S, I, uJ J0 200 4 (lN (mb a bb st fi se x s z m).2.2), D, R) b Q) :
    ∀ (j i : Nat) (I : xI), i + j = m → HQ 340 I0 (mb a bb st fi se x s z i).2.1 I →
      xRun xT 277 58 [(0, .ref 200), (2, .long (lN (mb a bb st fi se x s z i).1)), (4, .int (nI (mb a bb st fi se x s z i).2.1.length)), (5, .int (nI t)), (6, .int (nI s)), (7, .int (nI i))] [] (S, I, uJ J0 200 4 (lN (mb a bb st fi se x s z i).2.2), D, R) b Q
  | 0, i, I, hi, h => by
    have hC := HQ_CM h hC0
    have g2 := hG.2.2.1
    have e : i = m := by omega
    subst e
    rw [e277_58]
    simp only [B277_58, xSeq, i_push, i_load, i_iload, i_lload, i_dload, i_aload, i_istore, i_astore, i_lstore, i_dstore, i_iinc, i_ii, i_iiz, i_ll, i_llz, i_lli, i_li, i_i, i_l, i_i2l, i_l2i, i_dup, i_dup2, i_dup2w, i_dupx1, i_pop, i_pop2, i_goto, i_ifc, i_icmp, i_getI, i_getL, i_getR, i_putI, i_putZ, i_putL, i_putR, i_aldI, i_aldB, i_aldL, i_aldD, i_astI, i_astL, i_astD, i_alen, i_ret, i_iret, i_zret, i_lret, i_fret, i_dret, i_aret, i_invS0, i_invV0, i_m2, i_m1, i_ml, i_obj, lk, lkp, stf1, stf2, Value.category, rV, xTo, lv_args, xCk, xCat, xRc, xAk, hg_S, hg_I, hg_J, hg_D, hg_R, hs_I, hs_J, hs_D, hs_R, uI_at, uJ_at, uD_at, uR_at, List.take_succ_cons, List.take_zero, List.drop_succ_cons, List.drop_zero, List.reverse_cons, List.reverse_nil, List.nil_append, List.cons_append, List.map_cons, List.map_nil, List.sum_cons, List.sum_nil, List.length_cons, List.length_nil, Option.toList_some, Option.toList_none, true_and, and_true, false_and, and_false, true_implies, false_implies, implies_true, not_true_eq_false, not_false_eq_true, ne_eq, if_true, if_false, Bool.and_true, Bool.true_and, decide_true, decide_false, reduceIte, reduceCtorEq, Bool.and_self, Bool.and_eq_true, decide_eq_true_eq, and_self, true_or, or_true, false_or, or_false, Nat.zero_add, Nat.add_zero, eq_self, Nat.reduceEqDiff, Nat.reduceLeDiff, Nat.reduceLT, Nat.reduceAdd, Nat.reduceSub, Nat.reduceMul, xi144_0, ix_0, xi144_1, ix_1, xi144_2, ix_2, xi144_3, ix_3, xi144_4, ix_4, xi144_5, ix_5, xi144_6, ix_6, xi144_7, ix_7, xi144_8, ix_8, xi144_9, ix_9, xi144_10, ix_10, LM_out hL, hC.2.1, nI_leP (show i < 2147483648 by omega) (show i < 2147483648 by omega), Nat.le_refl]
    exact kk I h
  | j + 1, k, I, hi, h => by
    have hC := HQ_CM h hC0
    have hk : k < m := by omega
    have hG' := hG
    have hC' := hC
    obtain ⟨g0, g1, g2, g3, g4, g5, g6⟩ := hG'
    obtain ⟨c1, c2, c3, c4, c5, c6⟩ := hC'
    have hw : 2 ^ n ≤ 2 ^ 64 := Nat.pow_le_pow_right (by decide) g1
    have h3 := g3 k hk
    have h4 := g4 k hk
    have ho : ot fi se s k < n := by
      unfold ot
      split
      · exact h4
      · exact h3
    have hv := mb_VC (a := a) (bb := bb) (st := st) (x := x) (s := s) hG hz k (by omega)
    have nx := fun I => L277_58 hL hG hC0 hA hB ha h0 hb hst hs3 hx hJ hs hz kk j (k + 1) I (by omega)
    rw [mb] at nx
    obtain ⟨y, hy⟩ : ∃ y, y = mb a bb st fi se x s z k := ⟨_, rfl⟩
    rw [← hy] at h hv nx ⊢
    have e279 := fun (J : xJ) (b : Nat × Nat) (Q : xQ) => R279 (S := S) (R := R) (I := I) (J := J) (D := D) (b := b) (Q := Q) hL hG hC hs hk
    obtain ⟨o, hO⟩ : ∃ o, o = ot fi se s k := ⟨_, rfl⟩
    have hvl := VC_len hv
    obtain ⟨v1, v2, v3, v4⟩ := hv
    have hst' := hst k hk
    have hs3' := hs3 k hk
    have f7 : I 300 2 = nI a := (h.2 _ _ (by decide)).trans hA
    have f8 : I 300 3 = nI bb := (h.2 _ _ (by decide)).trans hB
    have f1 : I 300 (16 + k) = nI (st k) := (h.2 _ _ (by decide)).trans hst'
    have e272 := fun (b : Nat × Nat) (Q : xQ) => R272 (S := S) (R := R) (I := I) (J := uJ J0 200 4 (lN y.2.2)) (D := D) (b := b) (Q := Q) hL f7 f8 ha h0 hb (show 2 * st k < 2147483648 by omega) v4 rfl
    have e280 := fun (b : Nat × Nat) (Q : xQ) => R280 (S := S) (R := R) (I := I) (J := uJ J0 200 4 (lN y.2.2)) (D := D) (b := b) (Q := Q) hL hG hC hx hJ hk
    unfold tr at nx
    rw [← hO] at nx ho e279
    obtain ⟨r, hr⟩ : ∃ r, r = pd a bb (2 * st k) y.2.2 := ⟨_, rfl⟩
    rw [← hr] at e272 nx
    have ap : (fi k = s ∨ se k = s) → xRun xT 277 97 [(0, .ref 200), (2, .long (lN y.1)), (4, .int (nI y.2.1.length)), (5, .int (nI t)), (6, .int (nI s)), (7, .int (nI k))] [] (S, I, uJ J0 200 4 (lN y.2.2), D, R) b Q := fun hat => by
      rw [if_pos hat] at nx
      rw [e277_97]
      simp only [B277_97, xSeq, i_push, i_load, i_iload, i_lload, i_dload, i_aload, i_istore, i_astore, i_lstore, i_dstore, i_iinc, i_ii, i_iiz, i_ll, i_llz, i_lli, i_li, i_i, i_l, i_i2l, i_l2i, i_dup, i_dup2, i_dup2w, i_dupx1, i_pop, i_pop2, i_goto, i_ifc, i_icmp, i_getI, i_getL, i_getR, i_putI, i_putZ, i_putL, i_putR, i_aldI, i_aldB, i_aldL, i_aldD, i_astI, i_astL, i_astD, i_alen, i_ret, i_iret, i_zret, i_lret, i_fret, i_dret, i_aret, i_invS0, i_invV0, i_m2, i_m1, i_ml, i_obj, lk, lkp, stf1, stf2, Value.category, rV, xTo, lv_args, xCk, xCat, xRc, xAk, hg_S, hg_I, hg_J, hg_D, hg_R, hs_I, hs_J, hs_D, hs_R, uI_at, uJ_at, uD_at, uR_at, List.take_succ_cons, List.take_zero, List.drop_succ_cons, List.drop_zero, List.reverse_cons, List.reverse_nil, List.nil_append, List.cons_append, List.map_cons, List.map_nil, List.sum_cons, List.sum_nil, List.length_cons, List.length_nil, Option.toList_some, Option.toList_none, true_and, and_true, false_and, and_false, true_implies, false_implies, implies_true, not_true_eq_false, not_false_eq_true, ne_eq, if_true, if_false, Bool.and_true, Bool.true_and, decide_true, decide_false, reduceIte, reduceCtorEq, Bool.and_self, Bool.and_eq_true, decide_eq_true_eq, and_self, true_or, or_true, false_or, or_false, Nat.zero_add, Nat.add_zero, eq_self, Nat.reduceEqDiff, Nat.reduceLeDiff, Nat.reduceLT, Nat.reduceAdd, Nat.reduceSub, Nat.reduceMul, xi144_0, ix_0, xi144_1, ix_1, xi144_2, ix_2, xi144_3, ix_3, xi144_4, ix_4, xi144_5, ix_5, xi144_6, ix_6, xi144_7, ix_7, xi144_8, ix_8, xi144_9, ix_9, xi144_10, ix_10, LM_out hL, e279, q_bits (show y.1 < 2 ^ 64 by omega) (show o < 64 by omega), q_cmp1, e280, nI_c16, nI_inP (show 16 + k < 144 by omega) (by decide), nI_ix (show 16 + k < 2147483648 by omega), f1, dbl, e272, uJ_uJ, e277_168, B277_168, e277_149, B277_149, nI_1, q_1shlL (show o < 64 by omega), q_or (show y.1 < 2 ^ 64 by omega) (Nat.pow_lt_pow_right (show 1 < 2 by decide) (show o < 64 by omega))]
      cases hb1 : y.1.testBit o
      · by_cases hb2 : x.testBit (fi k) = x.testBit (se k)
        · have hlt : y.2.1.length < n := by rw [v3]; exact ct_lt hb1 ho
          rw [if_pos ⟨hb1, hb2⟩] at nx
          simp only [hb2, true_and, and_true, false_and, and_false, true_implies, false_implies, implies_true, not_true_eq_false, not_false_eq_true, ne_eq, if_true, if_false, Bool.and_true, Bool.true_and, decide_true, decide_false, reduceIte, reduceCtorEq, Bool.and_self, Bool.and_eq_true, decide_eq_true_eq, and_self, true_or, or_true, false_or, or_false, Nat.zero_add, Nat.add_zero, eq_self, Nat.reduceEqDiff, Nat.reduceLeDiff, Nat.reduceLT, Nat.reduceAdd, Nat.reduceSub, Nat.reduceMul, i1_0]
          cases hr1 : r.1
          · rw [hr1, if_neg (by decide)] at nx
            simp only [true_and, and_true, false_and, and_false, true_implies, false_implies, implies_true, not_true_eq_false, not_false_eq_true, ne_eq, if_true, if_false, Bool.and_true, Bool.true_and, decide_true, decide_false, reduceIte, reduceCtorEq, Bool.and_self, Bool.and_eq_true, decide_eq_true_eq, and_self, true_or, or_true, false_or, or_false, Nat.zero_add, Nat.add_zero, eq_self, Nat.reduceEqDiff, Nat.reduceLeDiff, Nat.reduceLT, Nat.reduceAdd, Nat.reduceSub, Nat.reduceMul, nI_inP (show y.2.1.length < 64 by omega) (by decide), nI_ix (show y.2.1.length < 2147483648 by omega), nI_1]
            have e3 := nx _ (HQ_add h o)
            rw [show (y.2.1 ++ [o]).length = y.2.1.length + 1 by rw [List.length_append, List.length_singleton]] at e3
            exact e3
          · rw [hr1, if_pos rfl] at nx
            simp only [true_and, and_true, false_and, and_false, true_implies, false_implies, implies_true, not_true_eq_false, not_false_eq_true, ne_eq, if_true, if_false, Bool.and_true, Bool.true_and, decide_true, decide_false, reduceIte, reduceCtorEq, Bool.and_self, Bool.and_eq_true, decide_eq_true_eq, and_self, true_or, or_true, false_or, or_false, Nat.zero_add, Nat.add_zero, eq_self, Nat.reduceEqDiff, Nat.reduceLeDiff, Nat.reduceLT, Nat.reduceAdd, Nat.reduceSub, Nat.reduceMul, i1_0]
            exact nx _ h
        · rw [if_neg (fun e => hb2 e.2)] at nx
          simp only [hb2, true_and, and_true, false_and, and_false, true_implies, false_implies, implies_true, not_true_eq_false, not_false_eq_true, ne_eq, if_true, if_false, Bool.and_true, Bool.true_and, decide_true, decide_false, reduceIte, reduceCtorEq, Bool.and_self, Bool.and_eq_true, decide_eq_true_eq, and_self, true_or, or_true, false_or, or_false, Nat.zero_add, Nat.add_zero, eq_self, Nat.reduceEqDiff, Nat.reduceLeDiff, Nat.reduceLT, Nat.reduceAdd, Nat.reduceSub, Nat.reduceMul]
          exact nx _ h
      · rw [if_neg (fun e => absurd (hb1.symm.trans e.1) (by decide))] at nx
        simp only [true_and, and_true, false_and, and_false, true_implies, false_implies, implies_true, not_true_eq_false, not_false_eq_true, ne_eq, if_true, if_false, Bool.and_true, Bool.true_and, decide_true, decide_false, reduceIte, reduceCtorEq, Bool.and_self, Bool.and_eq_true, decide_eq_true_eq, and_self, true_or, or_true, false_or, or_false, Nat.zero_add, Nat.add_zero, eq_self, Nat.reduceEqDiff, Nat.reduceLeDiff, Nat.reduceLT, Nat.reduceAdd, Nat.reduceSub, Nat.reduceMul]
        exact nx _ h
    rw [e277_58]
    simp only [B277_58, xSeq, i_push, i_load, i_iload, i_lload, i_dload, i_aload, i_istore, i_astore, i_lstore, i_dstore, i_iinc, i_ii, i_iiz, i_ll, i_llz, i_lli, i_li, i_i, i_l, i_i2l, i_l2i, i_dup, i_dup2, i_dup2w, i_dupx1, i_pop, i_pop2, i_goto, i_ifc, i_icmp, i_getI, i_getL, i_getR, i_putI, i_putZ, i_putL, i_putR, i_aldI, i_aldB, i_aldL, i_aldD, i_astI, i_astL, i_astD, i_alen, i_ret, i_iret, i_zret, i_lret, i_fret, i_dret, i_aret, i_invS0, i_invV0, i_m2, i_m1, i_ml, i_obj, lk, lkp, stf1, stf2, Value.category, rV, xTo, lv_args, xCk, xCat, xRc, xAk, hg_S, hg_I, hg_J, hg_D, hg_R, hs_I, hs_J, hs_D, hs_R, uI_at, uJ_at, uD_at, uR_at, List.take_succ_cons, List.take_zero, List.drop_succ_cons, List.drop_zero, List.reverse_cons, List.reverse_nil, List.nil_append, List.cons_append, List.map_cons, List.map_nil, List.sum_cons, List.sum_nil, List.length_cons, List.length_nil, Option.toList_some, Option.toList_none, true_and, and_true, false_and, and_false, true_implies, false_implies, implies_true, not_true_eq_false, not_false_eq_true, ne_eq, if_true, if_false, Bool.and_true, Bool.true_and, decide_true, decide_false, reduceIte, reduceCtorEq, Bool.and_self, Bool.and_eq_true, decide_eq_true_eq, and_self, true_or, or_true, false_or, or_false, Nat.zero_add, Nat.add_zero, eq_self, Nat.reduceEqDiff, Nat.reduceLeDiff, Nat.reduceLT, Nat.reduceAdd, Nat.reduceSub, Nat.reduceMul, xi144_0, ix_0, xi144_1, ix_1, xi144_2, ix_2, xi144_3, ix_3, xi144_4, ix_4, xi144_5, ix_5, xi144_6, ix_6, xi144_7, ix_7, xi144_8, ix_8, xi144_9, ix_9, xi144_10, ix_10, LM_out hL, c2, nI_leP (show m < 2147483648 by omega) (show k < 2147483648 by omega), show (m ≤ k) = False from eq_false (by omega), nI_inP (show k < 128 by omega) (by decide), nI_ix (show k < 2147483648 by omega), c3 k hk, c4 k hk, nI_iff (show fi k < 2147483648 by omega) (show s < 2147483648 by omega), nI_iff (show se k < 2147483648 by omega) (show s < 2147483648 by omega)]
    by_cases hf : fi k = s
    · simp only [hf, true_and, and_true, false_and, and_false, true_implies, false_implies, implies_true, not_true_eq_false, not_false_eq_true, ne_eq, if_true, if_false, Bool.and_true, Bool.true_and, decide_true, decide_false, reduceIte, reduceCtorEq, Bool.and_self, Bool.and_eq_true, decide_eq_true_eq, and_self, true_or, or_true, false_or, or_false, Nat.zero_add, Nat.add_zero, eq_self, Nat.reduceEqDiff, Nat.reduceLeDiff, Nat.reduceLT, Nat.reduceAdd, Nat.reduceSub, Nat.reduceMul]
      exact ap (Or.inl hf)
    · by_cases hf2 : se k = s
      · simp only [hf, hf2, true_and, and_true, false_and, and_false, true_implies, false_implies, implies_true, not_true_eq_false, not_false_eq_true, ne_eq, if_true, if_false, Bool.and_true, Bool.true_and, decide_true, decide_false, reduceIte, reduceCtorEq, Bool.and_self, Bool.and_eq_true, decide_eq_true_eq, and_self, true_or, or_true, false_or, or_false, Nat.zero_add, Nat.add_zero, eq_self, Nat.reduceEqDiff, Nat.reduceLeDiff, Nat.reduceLT, Nat.reduceAdd, Nat.reduceSub, Nat.reduceMul]
        exact ap (Or.inr hf2)
      · rw [if_neg (fun e => e.elim hf hf2)] at nx
        simp only [hf, hf2, true_and, and_true, false_and, and_false, true_implies, false_implies, implies_true, not_true_eq_false, not_false_eq_true, ne_eq, if_true, if_false, Bool.and_true, Bool.true_and, decide_true, decide_false, reduceIte, reduceCtorEq, Bool.and_self, Bool.and_eq_true, decide_eq_true_eq, and_self, true_or, or_true, false_or, or_false, Nat.zero_add, Nat.add_zero, eq_self, Nat.reduceEqDiff, Nat.reduceLeDiff, Nat.reduceLT, Nat.reduceAdd, Nat.reduceSub, Nat.reduceMul, e277_168, B277_168, nI_1, xSeq, i_push, i_load, i_iload, i_lload, i_dload, i_aload, i_istore, i_astore, i_lstore, i_dstore, i_iinc, i_ii, i_iiz, i_ll, i_llz, i_lli, i_li, i_i, i_l, i_i2l, i_l2i, i_dup, i_dup2, i_dup2w, i_dupx1, i_pop, i_pop2, i_goto, i_ifc, i_icmp, i_getI, i_getL, i_getR, i_putI, i_putZ, i_putL, i_putR, i_aldI, i_aldB, i_aldL, i_aldD, i_astI, i_astL, i_astD, i_alen, i_ret, i_iret, i_zret, i_lret, i_fret, i_dret, i_aret, i_invS0, i_invV0, i_m2, i_m1, i_ml, i_obj, lk, lkp, stf1, stf2, Value.category, rV, xTo, lv_args, xCk, xCat, xRc, xAk, hg_S, hg_I, hg_J, hg_D, hg_R, hs_I, hs_J, hs_D, hs_R, uI_at, uJ_at, uD_at, uR_at, List.take_succ_cons, List.take_zero, List.drop_succ_cons, List.drop_zero, List.reverse_cons, List.reverse_nil, List.nil_append, List.cons_append, List.map_cons, List.map_nil, List.sum_cons, List.sum_nil, List.length_cons, List.length_nil, Option.toList_some, Option.toList_none, true_and, and_true, false_and, and_false, true_implies, false_implies, implies_true, not_true_eq_false, not_false_eq_true, ne_eq, if_true, if_false, Bool.and_true, Bool.true_and, decide_true, decide_false, reduceIte, reduceCtorEq, Bool.and_self, Bool.and_eq_true, decide_eq_true_eq, and_self, true_or, or_true, false_or, or_false, Nat.zero_add, Nat.add_zero, eq_self, Nat.reduceEqDiff, Nat.reduceLeDiff, Nat.reduceLT, Nat.reduceAdd, Nat.reduceSub, Nat.reduceMul]
        exact nx _ h
theorem L277_39 {I0 : xI} {J0 : xJ} (hL : LM S R) (hG : GR n m fi se dg sb) (hC0 : CM I0 n m fi se dg sb) {a bb : Nat} (hA : I0 300 2 = nI a) (hB : I0 300 3 = nI bb) (ha : a < 2147483648) (h0 : 0 < bb) (hb : bb < 2147483648)
    {st : Nat → Nat} (hst : ∀ k, k < m → I0 300 (16 + k) = nI (st k)) (hs3 : ∀ k, k < m → st k < 1000000) {x : Nat} (hx : x < 2 ^ 64) (hJ : J0 200 3 = lN x) {Z : xQu}
    (kk : ∀ I, HQ 340 I0 Z.2.1 I → xRun xT 277 180 [(0, .ref 200), (2, .long (lN Z.1)), (4, .int (nI Z.2.1.length))] [] (S, I, uJ J0 200 4 (lN Z.2.2), D, R) b Q) :
    ∀ (j t : Nat) (z : xQu) (I : xI), t + j = 64 → VC n z → HQ 340 I0 z.2.1 I → cq (fun s z => mb a bb st fi se x s z m) j t z = Z →
      xRun xT 277 39 [(0, .ref 200), (2, .long (lN z.1)), (4, .int (nI z.2.1.length)), (5, .int (nI t))] [] (S, I, uJ J0 200 4 (lN z.2.2), D, R) b Q
  | 0, t, z, I, ht, hz, h, e => by
    have hl := VC_len hz
    have g1 := hG.2.1
    rw [cq] at e
    rw [← e] at kk
    rw [e277_39]
    simp only [B277_39, xSeq, i_push, i_load, i_iload, i_lload, i_dload, i_aload, i_istore, i_astore, i_lstore, i_dstore, i_iinc, i_ii, i_iiz, i_ll, i_llz, i_lli, i_li, i_i, i_l, i_i2l, i_l2i, i_dup, i_dup2, i_dup2w, i_dupx1, i_pop, i_pop2, i_goto, i_ifc, i_icmp, i_getI, i_getL, i_getR, i_putI, i_putZ, i_putL, i_putR, i_aldI, i_aldB, i_aldL, i_aldD, i_astI, i_astL, i_astD, i_alen, i_ret, i_iret, i_zret, i_lret, i_fret, i_dret, i_aret, i_invS0, i_invV0, i_m2, i_m1, i_ml, i_obj, lk, lkp, stf1, stf2, Value.category, rV, xTo, lv_args, xCk, xCat, xRc, xAk, hg_S, hg_I, hg_J, hg_D, hg_R, hs_I, hs_J, hs_D, hs_R, uI_at, uJ_at, uD_at, uR_at, List.take_succ_cons, List.take_zero, List.drop_succ_cons, List.drop_zero, List.reverse_cons, List.reverse_nil, List.nil_append, List.cons_append, List.map_cons, List.map_nil, List.sum_cons, List.sum_nil, List.length_cons, List.length_nil, Option.toList_some, Option.toList_none, true_and, and_true, false_and, and_false, true_implies, false_implies, implies_true, not_true_eq_false, not_false_eq_true, ne_eq, if_true, if_false, Bool.and_true, Bool.true_and, decide_true, decide_false, reduceIte, reduceCtorEq, Bool.and_self, Bool.and_eq_true, decide_eq_true_eq, and_self, true_or, or_true, false_or, or_false, Nat.zero_add, Nat.add_zero, eq_self, Nat.reduceEqDiff, Nat.reduceLeDiff, Nat.reduceLT, Nat.reduceAdd, Nat.reduceSub, Nat.reduceMul, LM_out hL, nI_leP (show z.2.1.length < 2147483648 by omega) (show t < 2147483648 by omega), show (z.2.1.length ≤ t) = True from eq_true (by omega)]
    exact kk I h
  | j + 1, t, z, I, ht, hz, h, e => by
    have hl := VC_len hz
    have g1 := hG.2.1
    rw [cq] at e
    rw [e277_39]
    by_cases hlt : t < z.2.1.length
    · have hs := hz.2.1 t hlt
      rw [if_pos hlt] at e
      simp only [B277_39, xSeq, i_push, i_load, i_iload, i_lload, i_dload, i_aload, i_istore, i_astore, i_lstore, i_dstore, i_iinc, i_ii, i_iiz, i_ll, i_llz, i_lli, i_li, i_i, i_l, i_i2l, i_l2i, i_dup, i_dup2, i_dup2w, i_dupx1, i_pop, i_pop2, i_goto, i_ifc, i_icmp, i_getI, i_getL, i_getR, i_putI, i_putZ, i_putL, i_putR, i_aldI, i_aldB, i_aldL, i_aldD, i_astI, i_astL, i_astD, i_alen, i_ret, i_iret, i_zret, i_lret, i_fret, i_dret, i_aret, i_invS0, i_invV0, i_m2, i_m1, i_ml, i_obj, lk, lkp, stf1, stf2, Value.category, rV, xTo, lv_args, xCk, xCat, xRc, xAk, hg_S, hg_I, hg_J, hg_D, hg_R, hs_I, hs_J, hs_D, hs_R, uI_at, uJ_at, uD_at, uR_at, List.take_succ_cons, List.take_zero, List.drop_succ_cons, List.drop_zero, List.reverse_cons, List.reverse_nil, List.nil_append, List.cons_append, List.map_cons, List.map_nil, List.sum_cons, List.sum_nil, List.length_cons, List.length_nil, Option.toList_some, Option.toList_none, true_and, and_true, false_and, and_false, true_implies, false_implies, implies_true, not_true_eq_false, not_false_eq_true, ne_eq, if_true, if_false, Bool.and_true, Bool.true_and, decide_true, decide_false, reduceIte, reduceCtorEq, Bool.and_self, Bool.and_eq_true, decide_eq_true_eq, and_self, true_or, or_true, false_or, or_false, Nat.zero_add, Nat.add_zero, eq_self, Nat.reduceEqDiff, Nat.reduceLeDiff, Nat.reduceLT, Nat.reduceAdd, Nat.reduceSub, Nat.reduceMul, LM_out hL, nI_leP (show z.2.1.length < 2147483648 by omega) (show t < 2147483648 by omega), show (z.2.1.length ≤ t) = False from eq_false (by omega), nI_inP (show t < 64 by omega) (by decide), nI_ix (show t < 2147483648 by omega), h.1 t hlt]
      refine L277_58 hL hG hC0 hA hB ha h0 hb hst hs3 hx hJ hs hz (fun I' h' => ?_) m 0 I (by omega) h
      rw [e277_174]
      simp only [B277_174, xSeq, i_push, i_load, i_iload, i_lload, i_dload, i_aload, i_istore, i_astore, i_lstore, i_dstore, i_iinc, i_ii, i_iiz, i_ll, i_llz, i_lli, i_li, i_i, i_l, i_i2l, i_l2i, i_dup, i_dup2, i_dup2w, i_dupx1, i_pop, i_pop2, i_goto, i_ifc, i_icmp, i_getI, i_getL, i_getR, i_putI, i_putZ, i_putL, i_putR, i_aldI, i_aldB, i_aldL, i_aldD, i_astI, i_astL, i_astD, i_alen, i_ret, i_iret, i_zret, i_lret, i_fret, i_dret, i_aret, i_invS0, i_invV0, i_m2, i_m1, i_ml, i_obj, lk, lkp, stf1, stf2, Value.category, rV, xTo, lv_args, xCk, xCat, xRc, xAk, hg_S, hg_I, hg_J, hg_D, hg_R, hs_I, hs_J, hs_D, hs_R, uI_at, uJ_at, uD_at, uR_at, List.take_succ_cons, List.take_zero, List.drop_succ_cons, List.drop_zero, List.reverse_cons, List.reverse_nil, List.nil_append, List.cons_append, List.map_cons, List.map_nil, List.sum_cons, List.sum_nil, List.length_cons, List.length_nil, Option.toList_some, Option.toList_none, true_and, and_true, false_and, and_false, true_implies, false_implies, implies_true, not_true_eq_false, not_false_eq_true, ne_eq, if_true, if_false, Bool.and_true, Bool.true_and, decide_true, decide_false, reduceIte, reduceCtorEq, Bool.and_self, Bool.and_eq_true, decide_eq_true_eq, and_self, true_or, or_true, false_or, or_false, Nat.zero_add, Nat.add_zero, eq_self, Nat.reduceEqDiff, Nat.reduceLeDiff, Nat.reduceLT, Nat.reduceAdd, Nat.reduceSub, Nat.reduceMul, nI_1]
      exact L277_39 hL hG hC0 hA hB ha h0 hb hst hs3 hx hJ kk j (t + 1) _ I' (by omega) (mb_VC hG hz _ (Nat.le_refl _)) h' e
    · rw [if_neg hlt] at e
      rw [← e] at kk
      simp only [B277_39, xSeq, i_push, i_load, i_iload, i_lload, i_dload, i_aload, i_istore, i_astore, i_lstore, i_dstore, i_iinc, i_ii, i_iiz, i_ll, i_llz, i_lli, i_li, i_i, i_l, i_i2l, i_l2i, i_dup, i_dup2, i_dup2w, i_dupx1, i_pop, i_pop2, i_goto, i_ifc, i_icmp, i_getI, i_getL, i_getR, i_putI, i_putZ, i_putL, i_putR, i_aldI, i_aldB, i_aldL, i_aldD, i_astI, i_astL, i_astD, i_alen, i_ret, i_iret, i_zret, i_lret, i_fret, i_dret, i_aret, i_invS0, i_invV0, i_m2, i_m1, i_ml, i_obj, lk, lkp, stf1, stf2, Value.category, rV, xTo, lv_args, xCk, xCat, xRc, xAk, hg_S, hg_I, hg_J, hg_D, hg_R, hs_I, hs_J, hs_D, hs_R, uI_at, uJ_at, uD_at, uR_at, List.take_succ_cons, List.take_zero, List.drop_succ_cons, List.drop_zero, List.reverse_cons, List.reverse_nil, List.nil_append, List.cons_append, List.map_cons, List.map_nil, List.sum_cons, List.sum_nil, List.length_cons, List.length_nil, Option.toList_some, Option.toList_none, true_and, and_true, false_and, and_false, true_implies, false_implies, implies_true, not_true_eq_false, not_false_eq_true, ne_eq, if_true, if_false, Bool.and_true, Bool.true_and, decide_true, decide_false, reduceIte, reduceCtorEq, Bool.and_self, Bool.and_eq_true, decide_eq_true_eq, and_self, true_or, or_true, false_or, or_false, Nat.zero_add, Nat.add_zero, eq_self, Nat.reduceEqDiff, Nat.reduceLeDiff, Nat.reduceLT, Nat.reduceAdd, Nat.reduceSub, Nat.reduceMul, LM_out hL, nI_leP (show z.2.1.length < 2147483648 by omega) (show t < 2147483648 by omega), show (z.2.1.length ≤ t) = True from eq_true (by omega)]
      exact kk I h
theorem L277_22 {J : xJ} (hL : LM S R) (hG : GR n m fi se dg sb) (hC : CM I n m fi se dg sb) {a bb : Nat} (hA : I 300 2 = nI a) (hB : I 300 3 = nI bb) (ha : a < 2147483648) (h0 : 0 < bb) (hb : bb < 2147483648)
    {st : Nat → Nat} (hst : ∀ k, k < m → I 300 (16 + k) = nI (st k)) (hs3 : ∀ k, k < m → st k < 1000000) {x g : Nat} (hx : x < 2 ^ 64) (hJ : J 200 3 = lN x) (hg : g < 2147483648) (hJ2 : J 200 4 = lN g) {s : Nat} (hs : s < n) {Z : xQu} (hZ : cq (fun s z => mb a bb st fi se x s z m) 64 0 (2 ^ s, [s], g) = Z)
    (kk : ∀ I', (∀ o k, o ≠ 340 → I' o k = I o k) → Q (.ok (some (.int (nI Z.2.1.length)))) (S, I', uJ (uJ J 200 4 (lN Z.2.2)) 200 3 (lN (x ^^^ Z.1)), D, R) b) :
    xRun xT 277 22 [(0, .ref 200), (1, .int (nI s))] [] (S, I, J, D, R) b Q := by
  have g1 := hG.2.1
  have hq : HQ 340 I [s] (uI I 340 0 (nI s)) := HQ_add (q := []) ⟨fun j hj => absurd hj (Nat.not_lt_zero _), fun _ _ _ => rfl⟩ s
  have hr := L277_39 (S := S) (R := R) (D := D) (b := b) (Q := Q) hL hG hC hA hB ha h0 hb hst hs3 hx hJ (Z := Z) (fun I' h' => by
    have e2 : uJ J 200 4 (lN Z.2.2) 200 3 = lN x := hJ
    rw [e277_180]
    simp only [B277_180, xSeq, i_push, i_load, i_iload, i_lload, i_dload, i_aload, i_istore, i_astore, i_lstore, i_dstore, i_iinc, i_ii, i_iiz, i_ll, i_llz, i_lli, i_li, i_i, i_l, i_i2l, i_l2i, i_dup, i_dup2, i_dup2w, i_dupx1, i_pop, i_pop2, i_goto, i_ifc, i_icmp, i_getI, i_getL, i_getR, i_putI, i_putZ, i_putL, i_putR, i_aldI, i_aldB, i_aldL, i_aldD, i_astI, i_astL, i_astD, i_alen, i_ret, i_iret, i_zret, i_lret, i_fret, i_dret, i_aret, i_invS0, i_invV0, i_m2, i_m1, i_ml, i_obj, lk, lkp, stf1, stf2, Value.category, rV, xTo, lv_args, xCk, xCat, xRc, xAk, hg_S, hg_I, hg_J, hg_D, hg_R, hs_I, hs_J, hs_D, hs_R, uI_at, uJ_at, uD_at, uR_at, List.take_succ_cons, List.take_zero, List.drop_succ_cons, List.drop_zero, List.reverse_cons, List.reverse_nil, List.nil_append, List.cons_append, List.map_cons, List.map_nil, List.sum_cons, List.sum_nil, List.length_cons, List.length_nil, Option.toList_some, Option.toList_none, true_and, and_true, false_and, and_false, true_implies, false_implies, implies_true, not_true_eq_false, not_false_eq_true, ne_eq, if_true, if_false, Bool.and_true, Bool.true_and, decide_true, decide_false, reduceIte, reduceCtorEq, Bool.and_self, Bool.and_eq_true, decide_eq_true_eq, and_self, true_or, or_true, false_or, or_false, Nat.zero_add, Nat.add_zero, eq_self, Nat.reduceEqDiff, Nat.reduceLeDiff, Nat.reduceLT, Nat.reduceAdd, Nat.reduceSub, Nat.reduceMul, LM_out hL, e2, hJ, q_xor]
    exact kk I' h'.2) 64 0 (2 ^ s, [s], g) _ (by omega) (VC_0 hs hg) hq hZ
  have e5 : uJ J 200 4 (lN (2 ^ s, [s], g).2.2) = J := uJ_same hJ2
  rw [e5] at hr
  rw [e277_22]
  simp only [B277_22, xSeq, i_push, i_load, i_iload, i_lload, i_dload, i_aload, i_istore, i_astore, i_lstore, i_dstore, i_iinc, i_ii, i_iiz, i_ll, i_llz, i_lli, i_li, i_i, i_l, i_i2l, i_l2i, i_dup, i_dup2, i_dup2w, i_dupx1, i_pop, i_pop2, i_goto, i_ifc, i_icmp, i_getI, i_getL, i_getR, i_putI, i_putZ, i_putL, i_putR, i_aldI, i_aldB, i_aldL, i_aldD, i_astI, i_astL, i_astD, i_alen, i_ret, i_iret, i_zret, i_lret, i_fret, i_dret, i_aret, i_invS0, i_invV0, i_m2, i_m1, i_ml, i_obj, lk, lkp, stf1, stf2, Value.category, rV, xTo, lv_args, xCk, xCat, xRc, xAk, hg_S, hg_I, hg_J, hg_D, hg_R, hs_I, hs_J, hs_D, hs_R, uI_at, uJ_at, uD_at, uR_at, List.take_succ_cons, List.take_zero, List.drop_succ_cons, List.drop_zero, List.reverse_cons, List.reverse_nil, List.nil_append, List.cons_append, List.map_cons, List.map_nil, List.sum_cons, List.sum_nil, List.length_cons, List.length_nil, Option.toList_some, Option.toList_none, true_and, and_true, false_and, and_false, true_implies, false_implies, implies_true, not_true_eq_false, not_false_eq_true, ne_eq, if_true, if_false, Bool.and_true, Bool.true_and, decide_true, decide_false, reduceIte, reduceCtorEq, Bool.and_self, Bool.and_eq_true, decide_eq_true_eq, and_self, true_or, or_true, false_or, or_false, Nat.zero_add, Nat.add_zero, eq_self, Nat.reduceEqDiff, Nat.reduceLeDiff, Nat.reduceLT, Nat.reduceAdd, Nat.reduceSub, Nat.reduceMul, LM_out hL, q_1shlL (show s < 64 by omega), xI64_0, ix_0]
  exact hr
/-- no strength below 0 and no field -/
theorem R86_2 (hL : LC S R) (hC : I 102 3 = nI m) (hm : m ≤ 128) (hF : I 110 6 = 0) (hst : ∀ k, k < m → 0 ≤ I 111 k) : ∀ (j i : Nat), i + j = m → xRun xT 86 2 [(0, .ref 110), (1, .int (nI i))] [] (S, I, J, D, R) b Q = Q (.ok (some (.int 1))) (S, I, J, D, R) b
  | 0, i, hi => by
    have e : i = m := by omega
    subst e
    rw [e86_2]
    simp only [B86_2, xSeq, i_push, i_load, i_iload, i_lload, i_dload, i_aload, i_istore, i_astore, i_lstore, i_dstore, i_iinc, i_ii, i_iiz, i_ll, i_llz, i_lli, i_li, i_i, i_l, i_i2l, i_l2i, i_dup, i_dup2, i_dup2w, i_dupx1, i_pop, i_pop2, i_goto, i_ifc, i_icmp, i_getI, i_getL, i_getR, i_putI, i_putZ, i_putL, i_putR, i_aldI, i_aldB, i_aldL, i_aldD, i_astI, i_astL, i_astD, i_alen, i_ret, i_iret, i_zret, i_lret, i_fret, i_dret, i_aret, i_invS0, i_invV0, i_m2, i_m1, i_ml, i_obj, lk, lkp, stf1, stf2, Value.category, rV, xTo, lv_args, xCk, xCat, xRc, xAk, hg_S, hg_I, hg_J, hg_D, hg_R, hs_I, hs_J, hs_D, hs_R, uI_at, uJ_at, uD_at, uR_at, List.take_succ_cons, List.take_zero, List.drop_succ_cons, List.drop_zero, List.reverse_cons, List.reverse_nil, List.nil_append, List.cons_append, List.map_cons, List.map_nil, List.sum_cons, List.sum_nil, List.length_cons, List.length_nil, Option.toList_some, Option.toList_none, true_and, and_true, false_and, and_false, true_implies, false_implies, implies_true, not_true_eq_false, not_false_eq_true, ne_eq, if_true, if_false, Bool.and_true, Bool.true_and, decide_true, decide_false, reduceIte, reduceCtorEq, Bool.and_self, Bool.and_eq_true, decide_eq_true_eq, and_self, true_or, or_true, false_or, or_false, Nat.zero_add, Nat.add_zero, eq_self, Nat.reduceEqDiff, Nat.reduceLeDiff, Nat.reduceLT, Nat.reduceAdd, Nat.reduceSub, Nat.reduceMul, LC_out hL, hC, nI_leP (show i < 2147483648 by omega) (show i < 2147483648 by omega), Nat.le_refl, e86_30, B86_30, hF, e86_42, B86_42]
  | j + 1, i, hi => by
    have h := R86_2 hL hC hm hF hst j (i + 1) (by omega)
    rw [e86_2]
    simp only [B86_2, xSeq, i_push, i_load, i_iload, i_lload, i_dload, i_aload, i_istore, i_astore, i_lstore, i_dstore, i_iinc, i_ii, i_iiz, i_ll, i_llz, i_lli, i_li, i_i, i_l, i_i2l, i_l2i, i_dup, i_dup2, i_dup2w, i_dupx1, i_pop, i_pop2, i_goto, i_ifc, i_icmp, i_getI, i_getL, i_getR, i_putI, i_putZ, i_putL, i_putR, i_aldI, i_aldB, i_aldL, i_aldD, i_astI, i_astL, i_astD, i_alen, i_ret, i_iret, i_zret, i_lret, i_fret, i_dret, i_aret, i_invS0, i_invV0, i_m2, i_m1, i_ml, i_obj, lk, lkp, stf1, stf2, Value.category, rV, xTo, lv_args, xCk, xCat, xRc, xAk, hg_S, hg_I, hg_J, hg_D, hg_R, hs_I, hs_J, hs_D, hs_R, uI_at, uJ_at, uD_at, uR_at, List.take_succ_cons, List.take_zero, List.drop_succ_cons, List.drop_zero, List.reverse_cons, List.reverse_nil, List.nil_append, List.cons_append, List.map_cons, List.map_nil, List.sum_cons, List.sum_nil, List.length_cons, List.length_nil, Option.toList_some, Option.toList_none, true_and, and_true, false_and, and_false, true_implies, false_implies, implies_true, not_true_eq_false, not_false_eq_true, ne_eq, if_true, if_false, Bool.and_true, Bool.true_and, decide_true, decide_false, reduceIte, reduceCtorEq, Bool.and_self, Bool.and_eq_true, decide_eq_true_eq, and_self, true_or, or_true, false_or, or_false, Nat.zero_add, Nat.add_zero, eq_self, Nat.reduceEqDiff, Nat.reduceLeDiff, Nat.reduceLT, Nat.reduceAdd, Nat.reduceSub, Nat.reduceMul, LC_out hL, hC, nI_leP (show m < 2147483648 by omega) (show i < 2147483648 by omega), show (m ≤ i) = False from eq_false (by omega), nI_inP (show i < 128 by omega) (by decide), nI_ix (show i < 2147483648 by omega), show (0 ≤ I 111 i) = True from eq_true (hst i (by omega)), e86_24, B86_24, nI_1, h]
theorem P165 (hL : LC S R) (hC : I 102 3 = nI m) (hm : m ≤ 128) (hF : I 110 6 = 0) (hst : ∀ k, k < m → 0 ≤ I 111 k) : xRun xT 165 0 [(0, .ref 100)] [] (S, I, J, D, R) b Q = Q (.ok none) (S, I, J, D, R) b := by
  have h := fun (b : Nat × Nat) (Q : xQ) => R86_2 (S := S) (R := R) (J := J) (D := D) (b := b) (Q := Q) hL hC hm hF hst m 0 (by omega)
  have h2 : ∀ (b : Nat × Nat) (Q : xQ), xRun xT 86 0 [(0, .ref 110)] [] (S, I, J, D, R) b Q = Q (.ok (some (.int 1))) (S, I, J, D, R) b := fun b Q => by
    rw [e86_0]
    simp only [B86_0, xSeq, i_push, i_load, i_iload, i_lload, i_dload, i_aload, i_istore, i_astore, i_lstore, i_dstore, i_iinc, i_ii, i_iiz, i_ll, i_llz, i_lli, i_li, i_i, i_l, i_i2l, i_l2i, i_dup, i_dup2, i_dup2w, i_dupx1, i_pop, i_pop2, i_goto, i_ifc, i_icmp, i_getI, i_getL, i_getR, i_putI, i_putZ, i_putL, i_putR, i_aldI, i_aldB, i_aldL, i_aldD, i_astI, i_astL, i_astD, i_alen, i_ret, i_iret, i_zret, i_lret, i_fret, i_dret, i_aret, i_invS0, i_invV0, i_m2, i_m1, i_ml, i_obj, lk, lkp, stf1, stf2, Value.category, rV, xTo, lv_args, xCk, xCat, xRc, xAk, hg_S, hg_I, hg_J, hg_D, hg_R, hs_I, hs_J, hs_D, hs_R, uI_at, uJ_at, uD_at, uR_at, List.take_succ_cons, List.take_zero, List.drop_succ_cons, List.drop_zero, List.reverse_cons, List.reverse_nil, List.nil_append, List.cons_append, List.map_cons, List.map_nil, List.sum_cons, List.sum_nil, List.length_cons, List.length_nil, Option.toList_some, Option.toList_none, true_and, and_true, false_and, and_false, true_implies, false_implies, implies_true, not_true_eq_false, not_false_eq_true, ne_eq, if_true, if_false, Bool.and_true, Bool.true_and, decide_true, decide_false, reduceIte, reduceCtorEq, Bool.and_self, Bool.and_eq_true, decide_eq_true_eq, and_self, true_or, or_true, false_or, or_false, Nat.zero_add, Nat.add_zero, eq_self, Nat.reduceEqDiff, Nat.reduceLeDiff, Nat.reduceLT, Nat.reduceAdd, Nat.reduceSub, Nat.reduceMul]
    exact h b Q
  rw [e165_0]
  simp only [B165_0, xSeq, i_push, i_load, i_iload, i_lload, i_dload, i_aload, i_istore, i_astore, i_lstore, i_dstore, i_iinc, i_ii, i_iiz, i_ll, i_llz, i_lli, i_li, i_i, i_l, i_i2l, i_l2i, i_dup, i_dup2, i_dup2w, i_dupx1, i_pop, i_pop2, i_goto, i_ifc, i_icmp, i_getI, i_getL, i_getR, i_putI, i_putZ, i_putL, i_putR, i_aldI, i_aldB, i_aldL, i_aldD, i_astI, i_astL, i_astD, i_alen, i_ret, i_iret, i_zret, i_lret, i_fret, i_dret, i_aret, i_invS0, i_invV0, i_m2, i_m1, i_ml, i_obj, lk, lkp, stf1, stf2, Value.category, rV, xTo, lv_args, xCk, xCat, xRc, xAk, hg_S, hg_I, hg_J, hg_D, hg_R, hs_I, hs_J, hs_D, hs_R, uI_at, uJ_at, uD_at, uR_at, List.take_succ_cons, List.take_zero, List.drop_succ_cons, List.drop_zero, List.reverse_cons, List.reverse_nil, List.nil_append, List.cons_append, List.map_cons, List.map_nil, List.sum_cons, List.sum_nil, List.length_cons, List.length_nil, Option.toList_some, Option.toList_none, true_and, and_true, false_and, and_false, true_implies, false_implies, implies_true, not_true_eq_false, not_false_eq_true, ne_eq, if_true, if_false, Bool.and_true, Bool.true_and, decide_true, decide_false, reduceIte, reduceCtorEq, Bool.and_self, Bool.and_eq_true, decide_eq_true_eq, and_self, true_or, or_true, false_or, or_false, Nat.zero_add, Nat.add_zero, eq_self, Nat.reduceEqDiff, Nat.reduceLeDiff, Nat.reduceLT, Nat.reduceAdd, Nat.reduceSub, Nat.reduceMul, LC_out hL, h2, e165_20, B165_20, i1_0]
theorem R278_2 (hL : LM S R) (hC : I 300 8 = nI m) (hm : m ≤ 128) (hF : I 300 4 = 0) (hst : ∀ k, k < m → 0 ≤ I 300 (16 + k)) : ∀ (j i : Nat), i + j = m → xRun xT 278 2 [(0, .ref 200), (1, .int (nI i))] [] (S, I, J, D, R) b Q = Q (.ok (some (.int 0))) (S, I, J, D, R) b
  | 0, i, hi => by
    have e : i = m := by omega
    subst e
    rw [e278_2]
    simp only [B278_2, xSeq, i_push, i_load, i_iload, i_lload, i_dload, i_aload, i_istore, i_astore, i_lstore, i_dstore, i_iinc, i_ii, i_iiz, i_ll, i_llz, i_lli, i_li, i_i, i_l, i_i2l, i_l2i, i_dup, i_dup2, i_dup2w, i_dupx1, i_pop, i_pop2, i_goto, i_ifc, i_icmp, i_getI, i_getL, i_getR, i_putI, i_putZ, i_putL, i_putR, i_aldI, i_aldB, i_aldL, i_aldD, i_astI, i_astL, i_astD, i_alen, i_ret, i_iret, i_zret, i_lret, i_fret, i_dret, i_aret, i_invS0, i_invV0, i_m2, i_m1, i_ml, i_obj, lk, lkp, stf1, stf2, Value.category, rV, xTo, lv_args, xCk, xCat, xRc, xAk, hg_S, hg_I, hg_J, hg_D, hg_R, hs_I, hs_J, hs_D, hs_R, uI_at, uJ_at, uD_at, uR_at, List.take_succ_cons, List.take_zero, List.drop_succ_cons, List.drop_zero, List.reverse_cons, List.reverse_nil, List.nil_append, List.cons_append, List.map_cons, List.map_nil, List.sum_cons, List.sum_nil, List.length_cons, List.length_nil, Option.toList_some, Option.toList_none, true_and, and_true, false_and, and_false, true_implies, false_implies, implies_true, not_true_eq_false, not_false_eq_true, ne_eq, if_true, if_false, Bool.and_true, Bool.true_and, decide_true, decide_false, reduceIte, reduceCtorEq, Bool.and_self, Bool.and_eq_true, decide_eq_true_eq, and_self, true_or, or_true, false_or, or_false, Nat.zero_add, Nat.add_zero, eq_self, Nat.reduceEqDiff, Nat.reduceLeDiff, Nat.reduceLT, Nat.reduceAdd, Nat.reduceSub, Nat.reduceMul, xi144_0, ix_0, xi144_1, ix_1, xi144_2, ix_2, xi144_3, ix_3, xi144_4, ix_4, xi144_5, ix_5, xi144_6, ix_6, xi144_7, ix_7, xi144_8, ix_8, xi144_9, ix_9, xi144_10, ix_10, LM_out hL, hC, nI_leP (show i < 2147483648 by omega) (show i < 2147483648 by omega), Nat.le_refl, e278_33, B278_33, hF, e278_46, B278_46, e278_47, B278_47]
  | j + 1, i, hi => by
    have h := R278_2 hL hC hm hF hst j (i + 1) (by omega)
    rw [e278_2]
    simp only [B278_2, xSeq, i_push, i_load, i_iload, i_lload, i_dload, i_aload, i_istore, i_astore, i_lstore, i_dstore, i_iinc, i_ii, i_iiz, i_ll, i_llz, i_lli, i_li, i_i, i_l, i_i2l, i_l2i, i_dup, i_dup2, i_dup2w, i_dupx1, i_pop, i_pop2, i_goto, i_ifc, i_icmp, i_getI, i_getL, i_getR, i_putI, i_putZ, i_putL, i_putR, i_aldI, i_aldB, i_aldL, i_aldD, i_astI, i_astL, i_astD, i_alen, i_ret, i_iret, i_zret, i_lret, i_fret, i_dret, i_aret, i_invS0, i_invV0, i_m2, i_m1, i_ml, i_obj, lk, lkp, stf1, stf2, Value.category, rV, xTo, lv_args, xCk, xCat, xRc, xAk, hg_S, hg_I, hg_J, hg_D, hg_R, hs_I, hs_J, hs_D, hs_R, uI_at, uJ_at, uD_at, uR_at, List.take_succ_cons, List.take_zero, List.drop_succ_cons, List.drop_zero, List.reverse_cons, List.reverse_nil, List.nil_append, List.cons_append, List.map_cons, List.map_nil, List.sum_cons, List.sum_nil, List.length_cons, List.length_nil, Option.toList_some, Option.toList_none, true_and, and_true, false_and, and_false, true_implies, false_implies, implies_true, not_true_eq_false, not_false_eq_true, ne_eq, if_true, if_false, Bool.and_true, Bool.true_and, decide_true, decide_false, reduceIte, reduceCtorEq, Bool.and_self, Bool.and_eq_true, decide_eq_true_eq, and_self, true_or, or_true, false_or, or_false, Nat.zero_add, Nat.add_zero, eq_self, Nat.reduceEqDiff, Nat.reduceLeDiff, Nat.reduceLT, Nat.reduceAdd, Nat.reduceSub, Nat.reduceMul, xi144_0, ix_0, xi144_1, ix_1, xi144_2, ix_2, xi144_3, ix_3, xi144_4, ix_4, xi144_5, ix_5, xi144_6, ix_6, xi144_7, ix_7, xi144_8, ix_8, xi144_9, ix_9, xi144_10, ix_10, LM_out hL, hC, nI_leP (show m < 2147483648 by omega) (show i < 2147483648 by omega), show (m ≤ i) = False from eq_false (by omega), nI_c16, nI_inP (show 16 + i < 144 by omega) (by decide), nI_ix (show 16 + i < 2147483648 by omega), show (0 ≤ I 300 (16 + i)) = True from eq_true (hst i (by omega)), e278_27, B278_27, nI_1, h]
theorem R278 (hL : LM S R) (hC : I 300 8 = nI m) (hm : m ≤ 128) (hF : I 300 4 = 0) (hst : ∀ k, k < m → 0 ≤ I 300 (16 + k)) : xRun xT 278 0 [(0, .ref 200)] [] (S, I, J, D, R) b Q = Q (.ok (some (.int 0))) (S, I, J, D, R) b := by
  have h := R278_2 (S := S) (R := R) (J := J) (D := D) (b := b) (Q := Q) hL hC hm hF hst m 0 (by omega)
  rw [e278_0]
  simp only [B278_0, xSeq, i_push, i_load, i_iload, i_lload, i_dload, i_aload, i_istore, i_astore, i_lstore, i_dstore, i_iinc, i_ii, i_iiz, i_ll, i_llz, i_lli, i_li, i_i, i_l, i_i2l, i_l2i, i_dup, i_dup2, i_dup2w, i_dupx1, i_pop, i_pop2, i_goto, i_ifc, i_icmp, i_getI, i_getL, i_getR, i_putI, i_putZ, i_putL, i_putR, i_aldI, i_aldB, i_aldL, i_aldD, i_astI, i_astL, i_astD, i_alen, i_ret, i_iret, i_zret, i_lret, i_fret, i_dret, i_aret, i_invS0, i_invV0, i_m2, i_m1, i_ml, i_obj, lk, lkp, stf1, stf2, Value.category, rV, xTo, lv_args, xCk, xCat, xRc, xAk, hg_S, hg_I, hg_J, hg_D, hg_R, hs_I, hs_J, hs_D, hs_R, uI_at, uJ_at, uD_at, uR_at, List.take_succ_cons, List.take_zero, List.drop_succ_cons, List.drop_zero, List.reverse_cons, List.reverse_nil, List.nil_append, List.cons_append, List.map_cons, List.map_nil, List.sum_cons, List.sum_nil, List.length_cons, List.length_nil, Option.toList_some, Option.toList_none, true_and, and_true, false_and, and_false, true_implies, false_implies, implies_true, not_true_eq_false, not_false_eq_true, ne_eq, if_true, if_false, Bool.and_true, Bool.true_and, decide_true, decide_false, reduceIte, reduceCtorEq, Bool.and_self, Bool.and_eq_true, decide_eq_true_eq, and_self, true_or, or_true, false_or, or_false, Nat.zero_add, Nat.add_zero, eq_self, Nat.reduceEqDiff, Nat.reduceLeDiff, Nat.reduceLT, Nat.reduceAdd, Nat.reduceSub, Nat.reduceMul]
  exact h
end
/-! ===== case of one cluster: printed by 99zh.ccase.py ===== -/
section
theorem cq_B4 {x g s : Nat} (hs : s < 16) (hg : g < 2147483648) {a bb : Nat} {st : Nat → Nat} (g1 : GR 16 32 (fE B4) (sE B4) (dE B4) (bE B4)) : cq (fun s z => mb a bb st (fE B4) (sE B4) x s z 32) 64 0 (2 ^ s, [s], g) = cq (fun s z => lb a bb st (fE B4) (sE B4) (bE B4) x s z (dE B4 s)) 64 0 (2 ^ s, [s], g) :=
  cq_congr (n := 16) (fun _ _ _ hz => mb_VC g1 hz 32 (Nat.le_refl _)) (fun s z _ => (lb_mb a bb st B4 x s z).symm) 64 0 _ (VC_0 hs hg)
end
/-! ===== all clusters ===== -/
section
/-- places that lead down, and where they end -/
def WR (n : Nat) (p r : Nat → Nat) : Prop := ∀ k, k < n → p k ≤ k ∧ r (p k) = r k ∧ (p k = k → r k = k)
theorem WR_root {n : Nat} {p r : Nat → Nat} (h : WR n p r) : ∀ (j k : Nat), k ≤ j → k < n → r k ≤ k ∧ p (r k) = r k ∧ r (r k) = r k
  | 0, k, hj, hk => by
    obtain ⟨h1, h2, h3⟩ := h k hk
    have e : p k = k := by omega
    have e2 := h3 e
    rw [e2]
    exact ⟨Nat.le_refl _, e, e2⟩
  | j + 1, k, hj, hk => by
    obtain ⟨h1, h2, h3⟩ := h k hk
    by_cases e : p k = k
    · have e2 := h3 e
      rw [e2]
      exact ⟨Nat.le_refl _, e, e2⟩
    · obtain ⟨i1, i2, i3⟩ := WR_root h j (p k) (by omega) (by omega)
      rw [h2] at i1 i2 i3
      exact ⟨by omega, i2, i3⟩
theorem WR_join {n : Nat} {p r : Nat → Nat} (h : WR n p r) {a c : Nat} (ha : a < n) (hc : c < n) : WR n (fun k => if k = max (r a) (r c) then min (r a) (r c) else p k) (jn r a c) := by
  obtain ⟨a1, a2, a3⟩ := WR_root h a a (Nat.le_refl _) ha
  obtain ⟨c1, c2, c3⟩ := WR_root h c c (Nat.le_refl _) hc
  have hr : r (max (r a) (r c)) = max (r a) (r c) ∧ r (min (r a) (r c)) = min (r a) (r c) := by
    rcases Nat.le_total (r a) (r c) with e | e
    · rw [Nat.max_eq_right e, Nat.min_eq_left e]; exact ⟨c3, a3⟩
    · rw [Nat.max_eq_left e, Nat.min_eq_right e]; exact ⟨a3, c3⟩
  have hle : min (r a) (r c) ≤ max (r a) (r c) := Nat.le_trans (Nat.min_le_left _ _) (Nat.le_max_left _ _)
  obtain ⟨hi, hhi⟩ : ∃ hi, hi = max (r a) (r c) := ⟨_, rfl⟩
  obtain ⟨lo, hlo⟩ : ∃ lo, lo = min (r a) (r c) := ⟨_, rfl⟩
  intro k hk
  obtain ⟨h1, h2, h3⟩ := h k hk
  unfold jn
  rw [← hhi, ← hlo] at hr hle ⊢
  simp only
  by_cases e : k = hi
  · subst e
    rw [if_pos rfl, hr.1, if_pos rfl, hr.2]
    refine ⟨hle, ?_, fun e2 => e2⟩
    by_cases e2 : lo = k
    · rw [if_pos e2]
    · rw [if_neg e2]
  · rw [if_neg e, h2]
    refine ⟨h1, rfl, fun e2 => ?_⟩
    rw [h3 e2, if_neg e]
theorem WR_congr {n : Nat} {p r r' : Nat → Nat} (h : WR n p r) (e : ∀ k, k < n → r' k = r k) : WR n p r' := by
  intro k hk
  obtain ⟨h1, h2, h3⟩ := h k hk
  rw [e k hk, e (p k) (by omega)]
  exact ⟨h1, h2, h3⟩
/-- bonds drawn: the groups, the generator -/
def jd (n a bb : Nat) (st : Nat → Nat) (fi se : Nat → Nat) (x g : Nat) : Nat → List Nat × Nat
  | 0 => (List.range n, g)
  | k + 1 => if x.testBit (fi k) = x.testBit (se k) then
      (if (pd a bb (2 * st k) (jd n a bb st fi se x g k).2).1 = true then ((jd n a bb st fi se x g k).1, (pd a bb (2 * st k) (jd n a bb st fi se x g k).2).2)
       else (jl (jd n a bb st fi se x g k).1 (fi k) (se k), (pd a bb (2 * st k) (jd n a bb st fi se x g k).2).2))
    else jd n a bb st fi se x g k
theorem jd_ok {n m a bb : Nat} {st fi se dg : Nat → Nat} {sb : Nat → Nat → Nat} (hG : GR n m fi se dg sb) {x g : Nat} (hg : g < 2147483648) : ∀ k, k ≤ m → (jd n a bb st fi se x g k).1.length = n ∧ (∀ i, i < n → (jd n a bb st fi se x g k).1.getD i 0 < n) ∧ (jd n a bb st fi se x g k).2 < 2147483648
  | 0, _ => by
    refine ⟨List.length_range, fun i hi => ?_, hg⟩
    show (List.range n).getD i 0 < n
    rw [← List.getElem_eq_getD (h := by rw [List.length_range]; exact hi) 0, List.getElem_range]
    exact hi
  | k + 1, hk => by
    obtain ⟨h1, h2, h3⟩ := jd_ok (a := a) (bb := bb) (st := st) (x := x) hG hg k (by omega)
    have hp := pd_lt a bb (2 * st k) _ h3
    rw [jd]
    split
    · split
      · exact ⟨h1, h2, hp⟩
      · exact ⟨by rw [jl_len]; exact h1, jl_lt h1 h2 (hG.2.2.2.1 k (by omega)) (hG.2.2.2.2.1 k (by omega)), hp⟩
    · exact ⟨h1, h2, h3⟩
/-- a row of places -/
def PO (I0 : xI) (r : Nat → Nat) (n : Nat) (I : xI) : Prop := (∃ p, (∀ k, k < n → I 116 k = nI (p k)) ∧ WR n p r) ∧ ∀ o k, o ≠ 116 → I o k = I0 o k
/-- spins and generator of an owner as they may be, all else as before -/
def FJ (o k1 k2 : Nat) (J0 J : xJ) : Prop := (∃ x, x < 2 ^ 64 ∧ J o k1 = lN x) ∧ (∃ g, g < 2147483648 ∧ J o k2 = lN g) ∧ ∀ p k, ¬ (p = o ∧ (k = k1 ∨ k = k2)) → J p k = J0 p k
variable {S : xS} {I : xI} {J : xJ} {D : xDb} {R : xR} {b : Nat × Nat} {Q : xQ} {n m : Nat} {fi se dg : Nat → Nat} {sb : Nat → Nat → Nat}
theorem PO_CL {I0 : xI} {r : Nat → Nat} (h : PO I0 r n I) (hC : CL I0 n m fi se dg sb) : CL I n m fi se dg sb := CL_k hC (fun o k _ ho => h.2 o k (by omega))
theorem R90_4 (hL : LC S R) (hn : n ≤ 64) {p r : Nat → Nat} (hp : ∀ k, k < n → I 116 k = nI (p k)) (hW : WR n p r) : ∀ (j v i : Nat), v ≤ j → i + v < 64 → v < n → xRun xT 90 4 [(0, .ref 110), (2, .int (nI v)), (3, .int (nI i))] [] (S, I, J, D, R) b Q = Q (.ok (some (.int (nI (r v))))) (S, I, J, D, R) b
  | 0, v, i, hj, hi, hv => by
    obtain ⟨h1, h2, h3⟩ := hW v hv
    have e64 : ((64 : Int32) ≤ nI i) = False := by rw [show (64 : Int32) = nI 64 from rfl, nI_leP (by decide) (show i < 2147483648 by omega)]; exact eq_false (by omega)
    have e : p v = v := by omega
    rw [e90_4]
    simp only [B90_4, xSeq, i_push, i_load, i_iload, i_lload, i_dload, i_aload, i_istore, i_astore, i_lstore, i_dstore, i_iinc, i_ii, i_iiz, i_ll, i_llz, i_lli, i_li, i_i, i_l, i_i2l, i_l2i, i_dup, i_dup2, i_dup2w, i_dupx1, i_pop, i_pop2, i_goto, i_ifc, i_icmp, i_getI, i_getL, i_getR, i_putI, i_putZ, i_putL, i_putR, i_aldI, i_aldB, i_aldL, i_aldD, i_astI, i_astL, i_astD, i_alen, i_ret, i_iret, i_zret, i_lret, i_fret, i_dret, i_aret, i_invS0, i_invV0, i_m2, i_m1, i_ml, i_obj, lk, lkp, stf1, stf2, Value.category, rV, xTo, lv_args, xCk, xCat, xRc, xAk, hg_S, hg_I, hg_J, hg_D, hg_R, hs_I, hs_J, hs_D, hs_R, uI_at, uJ_at, uD_at, uR_at, List.take_succ_cons, List.take_zero, List.drop_succ_cons, List.drop_zero, List.reverse_cons, List.reverse_nil, List.nil_append, List.cons_append, List.map_cons, List.map_nil, List.sum_cons, List.sum_nil, List.length_cons, List.length_nil, Option.toList_some, Option.toList_none, true_and, and_true, false_and, and_false, true_implies, false_implies, implies_true, not_true_eq_false, not_false_eq_true, ne_eq, if_true, if_false, Bool.and_true, Bool.true_and, decide_true, decide_false, reduceIte, reduceCtorEq, Bool.and_self, Bool.and_eq_true, decide_eq_true_eq, and_self, true_or, or_true, false_or, or_false, Nat.zero_add, Nat.add_zero, eq_self, Nat.reduceEqDiff, Nat.reduceLeDiff, Nat.reduceLT, Nat.reduceAdd, Nat.reduceSub, Nat.reduceMul, LC_out hL, e64, nI_inP (show v < 64 by omega) (by decide), nI_ix (show v < 2147483648 by omega), hp v hv, e, e90_33, B90_33, h3 e]
  | j + 1, v, i, hj, hi, hv => by
    obtain ⟨h1, h2, h3⟩ := hW v hv
    have e64 : ((64 : Int32) ≤ nI i) = False := by rw [show (64 : Int32) = nI 64 from rfl, nI_leP (by decide) (show i < 2147483648 by omega)]; exact eq_false (by omega)
    rw [e90_4]
    by_cases e : p v = v
    · simp only [B90_4, xSeq, i_push, i_load, i_iload, i_lload, i_dload, i_aload, i_istore, i_astore, i_lstore, i_dstore, i_iinc, i_ii, i_iiz, i_ll, i_llz, i_lli, i_li, i_i, i_l, i_i2l, i_l2i, i_dup, i_dup2, i_dup2w, i_dupx1, i_pop, i_pop2, i_goto, i_ifc, i_icmp, i_getI, i_getL, i_getR, i_putI, i_putZ, i_putL, i_putR, i_aldI, i_aldB, i_aldL, i_aldD, i_astI, i_astL, i_astD, i_alen, i_ret, i_iret, i_zret, i_lret, i_fret, i_dret, i_aret, i_invS0, i_invV0, i_m2, i_m1, i_ml, i_obj, lk, lkp, stf1, stf2, Value.category, rV, xTo, lv_args, xCk, xCat, xRc, xAk, hg_S, hg_I, hg_J, hg_D, hg_R, hs_I, hs_J, hs_D, hs_R, uI_at, uJ_at, uD_at, uR_at, List.take_succ_cons, List.take_zero, List.drop_succ_cons, List.drop_zero, List.reverse_cons, List.reverse_nil, List.nil_append, List.cons_append, List.map_cons, List.map_nil, List.sum_cons, List.sum_nil, List.length_cons, List.length_nil, Option.toList_some, Option.toList_none, true_and, and_true, false_and, and_false, true_implies, false_implies, implies_true, not_true_eq_false, not_false_eq_true, ne_eq, if_true, if_false, Bool.and_true, Bool.true_and, decide_true, decide_false, reduceIte, reduceCtorEq, Bool.and_self, Bool.and_eq_true, decide_eq_true_eq, and_self, true_or, or_true, false_or, or_false, Nat.zero_add, Nat.add_zero, eq_self, Nat.reduceEqDiff, Nat.reduceLeDiff, Nat.reduceLT, Nat.reduceAdd, Nat.reduceSub, Nat.reduceMul, LC_out hL, e64, nI_inP (show v < 64 by omega) (by decide), nI_ix (show v < 2147483648 by omega), hp v hv, e, e90_33, B90_33, h3 e]
    · have ne : (nI (p v) = nI v) = False := by rw [nI_iff (show p v < 2147483648 by omega) (show v < 2147483648 by omega)]; exact eq_false e
      have hr := R90_4 hL hn hp hW j (p v) (i + 1) (by omega) (by omega) (by omega)
      rw [h2] at hr
      simp only [B90_4, xSeq, i_push, i_load, i_iload, i_lload, i_dload, i_aload, i_istore, i_astore, i_lstore, i_dstore, i_iinc, i_ii, i_iiz, i_ll, i_llz, i_lli, i_li, i_i, i_l, i_i2l, i_l2i, i_dup, i_dup2, i_dup2w, i_dupx1, i_pop, i_pop2, i_goto, i_ifc, i_icmp, i_getI, i_getL, i_getR, i_putI, i_putZ, i_putL, i_putR, i_aldI, i_aldB, i_aldL, i_aldD, i_astI, i_astL, i_astD, i_alen, i_ret, i_iret, i_zret, i_lret, i_fret, i_dret, i_aret, i_invS0, i_invV0, i_m2, i_m1, i_ml, i_obj, lk, lkp, stf1, stf2, Value.category, rV, xTo, lv_args, xCk, xCat, xRc, xAk, hg_S, hg_I, hg_J, hg_D, hg_R, hs_I, hs_J, hs_D, hs_R, uI_at, uJ_at, uD_at, uR_at, List.take_succ_cons, List.take_zero, List.drop_succ_cons, List.drop_zero, List.reverse_cons, List.reverse_nil, List.nil_append, List.cons_append, List.map_cons, List.map_nil, List.sum_cons, List.sum_nil, List.length_cons, List.length_nil, Option.toList_some, Option.toList_none, true_and, and_true, false_and, and_false, true_implies, false_implies, implies_true, not_true_eq_false, not_false_eq_true, ne_eq, if_true, if_false, Bool.and_true, Bool.true_and, decide_true, decide_false, reduceIte, reduceCtorEq, Bool.and_self, Bool.and_eq_true, decide_eq_true_eq, and_self, true_or, or_true, false_or, or_false, Nat.zero_add, Nat.add_zero, eq_self, Nat.reduceEqDiff, Nat.reduceLeDiff, Nat.reduceLT, Nat.reduceAdd, Nat.reduceSub, Nat.reduceMul, LC_out hL, e64, nI_inP (show v < 64 by omega) (by decide), nI_ix (show v < 2147483648 by omega), hp v hv, ne, nI_1]
      exact hr
theorem R90 (hL : LC S R) (hn : n ≤ 64) {p r : Nat → Nat} (hp : ∀ k, k < n → I 116 k = nI (p k)) (hW : WR n p r) {v : Nat} (hv : v < n) : xRun xT 90 0 [(0, .ref 110), (1, .int (nI v))] [] (S, I, J, D, R) b Q = Q (.ok (some (.int (nI (r v))))) (S, I, J, D, R) b := by
  have h := R90_4 (J := J) (D := D) (b := b) (Q := Q) hL hn hp hW v v 0 (Nat.le_refl _) (by omega) hv
  rw [e90_0]
  simp only [B90_0, xSeq, i_push, i_load, i_iload, i_lload, i_dload, i_aload, i_istore, i_astore, i_lstore, i_dstore, i_iinc, i_ii, i_iiz, i_ll, i_llz, i_lli, i_li, i_i, i_l, i_i2l, i_l2i, i_dup, i_dup2, i_dup2w, i_dupx1, i_pop, i_pop2, i_goto, i_ifc, i_icmp, i_getI, i_getL, i_getR, i_putI, i_putZ, i_putL, i_putR, i_aldI, i_aldB, i_aldL, i_aldD, i_astI, i_astL, i_astD, i_alen, i_ret, i_iret, i_zret, i_lret, i_fret, i_dret, i_aret, i_invS0, i_invV0, i_m2, i_m1, i_ml, i_obj, lk, lkp, stf1, stf2, Value.category, rV, xTo, lv_args, xCk, xCat, xRc, xAk, hg_S, hg_I, hg_J, hg_D, hg_R, hs_I, hs_J, hs_D, hs_R, uI_at, uJ_at, uD_at, uR_at, List.take_succ_cons, List.take_zero, List.drop_succ_cons, List.drop_zero, List.reverse_cons, List.reverse_nil, List.nil_append, List.cons_append, List.map_cons, List.map_nil, List.sum_cons, List.sum_nil, List.length_cons, List.length_nil, Option.toList_some, Option.toList_none, true_and, and_true, false_and, and_false, true_implies, false_implies, implies_true, not_true_eq_false, not_false_eq_true, ne_eq, if_true, if_false, Bool.and_true, Bool.true_and, decide_true, decide_false, reduceIte, reduceCtorEq, Bool.and_self, Bool.and_eq_true, decide_eq_true_eq, and_self, true_or, or_true, false_or, or_false, Nat.zero_add, Nat.add_zero, eq_self, Nat.reduceEqDiff, Nat.reduceLeDiff, Nat.reduceLT, Nat.reduceAdd, Nat.reduceSub, Nat.reduceMul]
  exact h
theorem L89_2 {I0 : xI} (hL : LC S R) (h2 : I0 102 2 = nI n) (hn : n ≤ 64) (kk : ∀ I, HQ 116 I0 (List.range n) I → xRun xT 89 26 [(0, .ref 110)] [] (S, I, J, D, R) b Q) : ∀ (j i : Nat) (I : xI), i + j = n → HQ 116 I0 (List.range i) I → xRun xT 89 2 [(0, .ref 110), (1, .int (nI i))] [] (S, I, J, D, R) b Q
  | 0, i, I, hi, h => by
    have e : i = n := by omega
    subst e
    rw [e89_2]
    simp only [B89_2, xSeq, i_push, i_load, i_iload, i_lload, i_dload, i_aload, i_istore, i_astore, i_lstore, i_dstore, i_iinc, i_ii, i_iiz, i_ll, i_llz, i_lli, i_li, i_i, i_l, i_i2l, i_l2i, i_dup, i_dup2, i_dup2w, i_dupx1, i_pop, i_pop2, i_goto, i_ifc, i_icmp, i_getI, i_getL, i_getR, i_putI, i_putZ, i_putL, i_putR, i_aldI, i_aldB, i_aldL, i_aldD, i_astI, i_astL, i_astD, i_alen, i_ret, i_iret, i_zret, i_lret, i_fret, i_dret, i_aret, i_invS0, i_invV0, i_m2, i_m1, i_ml, i_obj, lk, lkp, stf1, stf2, Value.category, rV, xTo, lv_args, xCk, xCat, xRc, xAk, hg_S, hg_I, hg_J, hg_D, hg_R, hs_I, hs_J, hs_D, hs_R, uI_at, uJ_at, uD_at, uR_at, List.take_succ_cons, List.take_zero, List.drop_succ_cons, List.drop_zero, List.reverse_cons, List.reverse_nil, List.nil_append, List.cons_append, List.map_cons, List.map_nil, List.sum_cons, List.sum_nil, List.length_cons, List.length_nil, Option.toList_some, Option.toList_none, true_and, and_true, false_and, and_false, true_implies, false_implies, implies_true, not_true_eq_false, not_false_eq_true, ne_eq, if_true, if_false, Bool.and_true, Bool.true_and, decide_true, decide_false, reduceIte, reduceCtorEq, Bool.and_self, Bool.and_eq_true, decide_eq_true_eq, and_self, true_or, or_true, false_or, or_false, Nat.zero_add, Nat.add_zero, eq_self, Nat.reduceEqDiff, Nat.reduceLeDiff, Nat.reduceLT, Nat.reduceAdd, Nat.reduceSub, Nat.reduceMul, LC_out hL, (h.2 _ _ (by decide)).trans h2, nI_leP (show i < 2147483648 by omega) (show i < 2147483648 by omega), Nat.le_refl]
    exact kk I h
  | j + 1, i, I, hi, h => by
    have h3 := HQ_add h i
    rw [List.length_range, ← List.range_succ] at h3
    rw [e89_2]
    simp only [B89_2, xSeq, i_push, i_load, i_iload, i_lload, i_dload, i_aload, i_istore, i_astore, i_lstore, i_dstore, i_iinc, i_ii, i_iiz, i_ll, i_llz, i_lli, i_li, i_i, i_l, i_i2l, i_l2i, i_dup, i_dup2, i_dup2w, i_dupx1, i_pop, i_pop2, i_goto, i_ifc, i_icmp, i_getI, i_getL, i_getR, i_putI, i_putZ, i_putL, i_putR, i_aldI, i_aldB, i_aldL, i_aldD, i_astI, i_astL, i_astD, i_alen, i_ret, i_iret, i_zret, i_lret, i_fret, i_dret, i_aret, i_invS0, i_invV0, i_m2, i_m1, i_ml, i_obj, lk, lkp, stf1, stf2, Value.category, rV, xTo, lv_args, xCk, xCat, xRc, xAk, hg_S, hg_I, hg_J, hg_D, hg_R, hs_I, hs_J, hs_D, hs_R, uI_at, uJ_at, uD_at, uR_at, List.take_succ_cons, List.take_zero, List.drop_succ_cons, List.drop_zero, List.reverse_cons, List.reverse_nil, List.nil_append, List.cons_append, List.map_cons, List.map_nil, List.sum_cons, List.sum_nil, List.length_cons, List.length_nil, Option.toList_some, Option.toList_none, true_and, and_true, false_and, and_false, true_implies, false_implies, implies_true, not_true_eq_false, not_false_eq_true, ne_eq, if_true, if_false, Bool.and_true, Bool.true_and, decide_true, decide_false, reduceIte, reduceCtorEq, Bool.and_self, Bool.and_eq_true, decide_eq_true_eq, and_self, true_or, or_true, false_or, or_false, Nat.zero_add, Nat.add_zero, eq_self, Nat.reduceEqDiff, Nat.reduceLeDiff, Nat.reduceLT, Nat.reduceAdd, Nat.reduceSub, Nat.reduceMul, LC_out hL, (h.2 _ _ (by decide)).trans h2, nI_leP (show n < 2147483648 by omega) (show i < 2147483648 by omega), show (n ≤ i) = False from eq_false (by omega), nI_inP (show i < 64 by omega) (by decide), nI_ix (show i < 2147483648 by omega), nI_1]
    exact L89_2 hL h2 hn kk j (i + 1) _ (by omega) h3
theorem L89_28 {I0 : xI} {J0 : xJ} (hL : LC S R) (hG : GR n m fi se dg sb) (hC0 : CL I0 n m fi se dg sb) {a bb : Nat} (hA : I0 110 7 = nI a) (hB : I0 110 8 = nI bb) (ha : a < 2147483648) (h0 : 0 < bb) (hb : bb < 2147483648)
    {st : Nat → Nat} (hst : ∀ k, k < m → I0 111 k = nI (st k)) (hs3 : ∀ k, k < m → st k < 1000000) {x g : Nat} (hx : x < 2 ^ 64) (hJ : J0 110 4 = lN x) (hg : g < 2147483648)
    (kk : ∀ I, PO I0 (fun k => (jd n a bb st fi se x g m).1.getD k 0) n I → Q (.ok none) (S, I, uJ J0 110 5 (lN (jd n a bb st fi se x g m).2), D, R) b) :
    ∀ (j i : Nat) (I : xI), i + j = m → PO I0 (fun k => (jd n a bb st fi se x g i).1.getD k 0) n I → xRun xT 89 28 [(0, .ref 110), (1, .int (nI i))] [] (S, I, uJ J0 110 5 (lN (jd n a bb st fi se x g i).2), D, R) b Q
  | 0, i, I, hi, h => by
    have hC := PO_CL h hC0
    have g2 := hG.2.2.1
    have e : i = m := by omega
    subst e
    rw [e89_28]
    simp only [B89_28, xSeq, i_push, i_load, i_iload, i_lload, i_dload, i_aload, i_istore, i_astore, i_lstore, i_dstore, i_iinc, i_ii, i_iiz, i_ll, i_llz, i_lli, i_li, i_i, i_l, i_i2l, i_l2i, i_dup, i_dup2, i_dup2w, i_dupx1, i_pop, i_pop2, i_goto, i_ifc, i_icmp, i_getI, i_getL, i_getR, i_putI, i_putZ, i_putL, i_putR, i_aldI, i_aldB, i_aldL, i_aldD, i_astI, i_astL, i_astD, i_alen, i_ret, i_iret, i_zret, i_lret, i_fret, i_dret, i_aret, i_invS0, i_invV0, i_m2, i_m1, i_ml, i_obj, lk, lkp, stf1, stf2, Value.category, rV, xTo, lv_args, xCk, xCat, xRc, xAk, hg_S, hg_I, hg_J, hg_D, hg_R, hs_I, hs_J, hs_D, hs_R, uI_at, uJ_at, uD_at, uR_at, List.take_succ_cons, List.take_zero, List.drop_succ_cons, List.drop_zero, List.reverse_cons, List.reverse_nil, List.nil_append, List.cons_append, List.map_cons, List.map_nil, List.sum_cons, List.sum_nil, List.length_cons, List.length_nil, Option.toList_some, Option.toList_none, true_and, and_true, false_and, and_false, true_implies, false_implies, implies_true, not_true_eq_false, not_false_eq_true, ne_eq, if_true, if_false, Bool.and_true, Bool.true_and, decide_true, decide_false, reduceIte, reduceCtorEq, Bool.and_self, Bool.and_eq_true, decide_eq_true_eq, and_self, true_or, or_true, false_or, or_false, Nat.zero_add, Nat.add_zero, eq_self, Nat.reduceEqDiff, Nat.reduceLeDiff, Nat.reduceLT, Nat.reduceAdd, Nat.reduceSub, Nat.reduceMul, LC_out hL, hC.2.1, nI_leP (show i < 2147483648 by omega) (show i < 2147483648 by omega), Nat.le_refl, e89_118, B89_118]
    exact kk I h
  | j + 1, k, I, hi, h => by
    have hC := PO_CL h hC0
    have hk : k < m := by omega
    have hG' := hG
    have hC' := hC
    obtain ⟨g0, g1, g2, g3, g4, g5, g6⟩ := hG'
    obtain ⟨c1, c2, c3, c4, c5, c6⟩ := hC'
    have h3 := g3 k hk
    have h4 := g4 k hk
    obtain ⟨y1, y2, y3⟩ := jd_ok (a := a) (bb := bb) (st := st) (x := x) hG hg k (by omega)
    have nx := fun I => L89_28 hL hG hC0 hA hB ha h0 hb hst hs3 hx hJ hg kk j (k + 1) I (by omega)
    rw [jd] at nx
    obtain ⟨y, hy⟩ : ∃ y, y = jd n a bb st fi se x g k := ⟨_, rfl⟩
    rw [← hy] at h y1 y2 y3 nx ⊢
    have hst' := hst k hk
    have hs3' := hs3 k hk
    have f7 : I 110 7 = nI a := (h.2 _ _ (by decide)).trans hA
    have f8 : I 110 8 = nI bb := (h.2 _ _ (by decide)).trans hB
    have f1 : I 111 k = nI (st k) := (h.2 _ _ (by decide)).trans hst'
    have e83 := fun (b : Nat × Nat) (Q : xQ) => R83 (S := S) (R := R) (I := I) (J := uJ J0 110 5 (lN y.2)) (D := D) (b := b) (Q := Q) hL f7 f8 ha h0 hb (show 2 * st k < 2147483648 by omega) y3 rfl
    obtain ⟨d, hd⟩ : ∃ d, d = pd a bb (2 * st k) y.2 := ⟨_, rfl⟩
    rw [← hd] at e83 nx
    obtain ⟨⟨p, hp, hW⟩, hf⟩ := h
    have e90 := fun (v : Nat) (hv : v < n) (J : xJ) (b : Nat × Nat) (Q : xQ) => R90 (S := S) (R := R) (I := I) (J := J) (D := D) (b := b) (Q := Q) hL g1 hp hW hv
    have r1 := y2 (fi k) h3
    have r2 := y2 (se k) h4
    rw [e89_28]
    simp only [B89_28, xSeq, i_push, i_load, i_iload, i_lload, i_dload, i_aload, i_istore, i_astore, i_lstore, i_dstore, i_iinc, i_ii, i_iiz, i_ll, i_llz, i_lli, i_li, i_i, i_l, i_i2l, i_l2i, i_dup, i_dup2, i_dup2w, i_dupx1, i_pop, i_pop2, i_goto, i_ifc, i_icmp, i_getI, i_getL, i_getR, i_putI, i_putZ, i_putL, i_putR, i_aldI, i_aldB, i_aldL, i_aldD, i_astI, i_astL, i_astD, i_alen, i_ret, i_iret, i_zret, i_lret, i_fret, i_dret, i_aret, i_invS0, i_invV0, i_m2, i_m1, i_ml, i_obj, lk, lkp, stf1, stf2, Value.category, rV, xTo, lv_args, xCk, xCat, xRc, xAk, hg_S, hg_I, hg_J, hg_D, hg_R, hs_I, hs_J, hs_D, hs_R, uI_at, uJ_at, uD_at, uR_at, List.take_succ_cons, List.take_zero, List.drop_succ_cons, List.drop_zero, List.reverse_cons, List.reverse_nil, List.nil_append, List.cons_append, List.map_cons, List.map_nil, List.sum_cons, List.sum_nil, List.length_cons, List.length_nil, Option.toList_some, Option.toList_none, true_and, and_true, false_and, and_false, true_implies, false_implies, implies_true, not_true_eq_false, not_false_eq_true, ne_eq, if_true, if_false, Bool.and_true, Bool.true_and, decide_true, decide_false, reduceIte, reduceCtorEq, Bool.and_self, Bool.and_eq_true, decide_eq_true_eq, and_self, true_or, or_true, false_or, or_false, Nat.zero_add, Nat.add_zero, eq_self, Nat.reduceEqDiff, Nat.reduceLeDiff, Nat.reduceLT, Nat.reduceAdd, Nat.reduceSub, Nat.reduceMul, LC_out hL, c2, nI_leP (show m < 2147483648 by omega) (show k < 2147483648 by omega), show (m ≤ k) = False from eq_false (by omega), hJ, R53 hL hG hC hx hk, nI_inP (show k < 128 by omega) (by decide), nI_ix (show k < 2147483648 by omega), f1, dbl, e83, uJ_uJ, c3 k hk, c4 k hk, e90 _ h3, e90 _ h4, e89_112, B89_112, nI_1, jMax_nI (show y.1.getD (fi k) 0 < 2147483648 by omega) (show y.1.getD (se k) 0 < 2147483648 by omega), jMin_nI (show y.1.getD (fi k) 0 < 2147483648 by omega) (show y.1.getD (se k) 0 < 2147483648 by omega)]
    by_cases hb2 : x.testBit (fi k) = x.testBit (se k)
    · rw [if_pos hb2] at nx
      simp only [hb2, true_and, and_true, false_and, and_false, true_implies, false_implies, implies_true, not_true_eq_false, not_false_eq_true, ne_eq, if_true, if_false, Bool.and_true, Bool.true_and, decide_true, decide_false, reduceIte, reduceCtorEq, Bool.and_self, Bool.and_eq_true, decide_eq_true_eq, and_self, true_or, or_true, false_or, or_false, Nat.zero_add, Nat.add_zero, eq_self, Nat.reduceEqDiff, Nat.reduceLeDiff, Nat.reduceLT, Nat.reduceAdd, Nat.reduceSub, Nat.reduceMul, i1_0]
      cases hd1 : d.1
      · rw [hd1, if_neg (by decide)] at nx
        have hm : max (y.1.getD (fi k) 0) (y.1.getD (se k) 0) < n := Nat.max_lt.mpr ⟨r1, r2⟩
        simp only [true_and, and_true, false_and, and_false, true_implies, false_implies, implies_true, not_true_eq_false, not_false_eq_true, ne_eq, if_true, if_false, Bool.and_true, Bool.true_and, decide_true, decide_false, reduceIte, reduceCtorEq, Bool.and_self, Bool.and_eq_true, decide_eq_true_eq, and_self, true_or, or_true, false_or, or_false, Nat.zero_add, Nat.add_zero, eq_self, Nat.reduceEqDiff, Nat.reduceLeDiff, Nat.reduceLT, Nat.reduceAdd, Nat.reduceSub, Nat.reduceMul, nI_inP (show max (y.1.getD (fi k) 0) (y.1.getD (se k) 0) < 64 by omega) (by decide), nI_ix (show max (y.1.getD (fi k) 0) (y.1.getD (se k) 0) < 2147483648 by omega)]
        refine nx _ ⟨⟨fun i => if i = max (y.1.getD (fi k) 0) (y.1.getD (se k) 0) then min (y.1.getD (fi k) 0) (y.1.getD (se k) 0) else p i, fun i hi => ?_, ?_⟩, fun o k ho => ?_⟩
        · rw [uI_at]
          by_cases e : i = max (y.1.getD (fi k) 0) (y.1.getD (se k) 0)
          · rw [if_pos ⟨rfl, e⟩]
            simp only [e, if_true]
          · rw [if_neg (fun h => e h.2), hp i hi]
            simp only [e, if_false]
        · exact WR_congr (WR_join hW h3 h4) (fun i hi => jl_at (by omega))
        · rw [uI_at, if_neg (fun e => ho e.1)]
          exact hf o k ho
      · rw [hd1, if_pos rfl] at nx
        simp only [true_and, and_true, false_and, and_false, true_implies, false_implies, implies_true, not_true_eq_false, not_false_eq_true, ne_eq, if_true, if_false, Bool.and_true, Bool.true_and, decide_true, decide_false, reduceIte, reduceCtorEq, Bool.and_self, Bool.and_eq_true, decide_eq_true_eq, and_self, true_or, or_true, false_or, or_false, Nat.zero_add, Nat.add_zero, eq_self, Nat.reduceEqDiff, Nat.reduceLeDiff, Nat.reduceLT, Nat.reduceAdd, Nat.reduceSub, Nat.reduceMul, i1_0]
        exact nx _ ⟨⟨p, hp, hW⟩, hf⟩
    · rw [if_neg hb2] at nx
      simp only [hb2, true_and, and_true, false_and, and_false, true_implies, false_implies, implies_true, not_true_eq_false, not_false_eq_true, ne_eq, if_true, if_false, Bool.and_true, Bool.true_and, decide_true, decide_false, reduceIte, reduceCtorEq, Bool.and_self, Bool.and_eq_true, decide_eq_true_eq, and_self, true_or, or_true, false_or, or_false, Nat.zero_add, Nat.add_zero, eq_self, Nat.reduceEqDiff, Nat.reduceLeDiff, Nat.reduceLT, Nat.reduceAdd, Nat.reduceSub, Nat.reduceMul]
      exact nx _ ⟨⟨p, hp, hW⟩, hf⟩
theorem L89 {J : xJ} (hL : LC S R) (hG : GR n m fi se dg sb) (hC : CL I n m fi se dg sb) {a bb : Nat} (hA : I 110 7 = nI a) (hB : I 110 8 = nI bb) (ha : a < 2147483648) (h0 : 0 < bb) (hb : bb < 2147483648)
    {st : Nat → Nat} (hst : ∀ k, k < m → I 111 k = nI (st k)) (hs3 : ∀ k, k < m → st k < 1000000) {x g : Nat} (hx : x < 2 ^ 64) (hJ : J 110 4 = lN x) (hg : g < 2147483648) (hJ2 : J 110 5 = lN g)
    (kk : ∀ I', PO I (fun k => (jd n a bb st fi se x g m).1.getD k 0) n I' → Q (.ok none) (S, I', uJ J 110 5 (lN (jd n a bb st fi se x g m).2), D, R) b) :
    xRun xT 89 0 [(0, .ref 110)] [] (S, I, J, D, R) b Q := by
  have e5 : uJ J 110 5 (lN (jd n a bb st fi se x g 0).2) = J := uJ_same hJ2
  rw [e89_0]
  simp only [B89_0, xSeq, i_push, i_load, i_iload, i_lload, i_dload, i_aload, i_istore, i_astore, i_lstore, i_dstore, i_iinc, i_ii, i_iiz, i_ll, i_llz, i_lli, i_li, i_i, i_l, i_i2l, i_l2i, i_dup, i_dup2, i_dup2w, i_dupx1, i_pop, i_pop2, i_goto, i_ifc, i_icmp, i_getI, i_getL, i_getR, i_putI, i_putZ, i_putL, i_putR, i_aldI, i_aldB, i_aldL, i_aldD, i_astI, i_astL, i_astD, i_alen, i_ret, i_iret, i_zret, i_lret, i_fret, i_dret, i_aret, i_invS0, i_invV0, i_m2, i_m1, i_ml, i_obj, lk, lkp, stf1, stf2, Value.category, rV, xTo, lv_args, xCk, xCat, xRc, xAk, hg_S, hg_I, hg_J, hg_D, hg_R, hs_I, hs_J, hs_D, hs_R, uI_at, uJ_at, uD_at, uR_at, List.take_succ_cons, List.take_zero, List.drop_succ_cons, List.drop_zero, List.reverse_cons, List.reverse_nil, List.nil_append, List.cons_append, List.map_cons, List.map_nil, List.sum_cons, List.sum_nil, List.length_cons, List.length_nil, Option.toList_some, Option.toList_none, true_and, and_true, false_and, and_false, true_implies, false_implies, implies_true, not_true_eq_false, not_false_eq_true, ne_eq, if_true, if_false, Bool.and_true, Bool.true_and, decide_true, decide_false, reduceIte, reduceCtorEq, Bool.and_self, Bool.and_eq_true, decide_eq_true_eq, and_self, true_or, or_true, false_or, or_false, Nat.zero_add, Nat.add_zero, eq_self, Nat.reduceEqDiff, Nat.reduceLeDiff, Nat.reduceLT, Nat.reduceAdd, Nat.reduceSub, Nat.reduceMul]
  refine L89_2 hL hC.1 hG.2.1 (fun I' h' => ?_) n 0 I (by omega) ⟨fun j hj => absurd hj (Nat.not_lt_zero _), fun _ _ _ => rfl⟩
  have hr := L89_28 (S := S) (R := R) (D := D) (b := b) (Q := Q) hL hG hC hA hB ha h0 hb hst hs3 hx hJ hg kk m 0 I' (by omega) ⟨⟨fun k => k, fun k hk => ?_, fun k hk => ⟨Nat.le_refl _, rfl, fun _ => ?_⟩⟩, h'.2⟩
  · rw [e5] at hr
    rw [e89_26]
    simp only [B89_26, xSeq, i_push, i_load, i_iload, i_lload, i_dload, i_aload, i_istore, i_astore, i_lstore, i_dstore, i_iinc, i_ii, i_iiz, i_ll, i_llz, i_lli, i_li, i_i, i_l, i_i2l, i_l2i, i_dup, i_dup2, i_dup2w, i_dupx1, i_pop, i_pop2, i_goto, i_ifc, i_icmp, i_getI, i_getL, i_getR, i_putI, i_putZ, i_putL, i_putR, i_aldI, i_aldB, i_aldL, i_aldD, i_astI, i_astL, i_astD, i_alen, i_ret, i_iret, i_zret, i_lret, i_fret, i_dret, i_aret, i_invS0, i_invV0, i_m2, i_m1, i_ml, i_obj, lk, lkp, stf1, stf2, Value.category, rV, xTo, lv_args, xCk, xCat, xRc, xAk, hg_S, hg_I, hg_J, hg_D, hg_R, hs_I, hs_J, hs_D, hs_R, uI_at, uJ_at, uD_at, uR_at, List.take_succ_cons, List.take_zero, List.drop_succ_cons, List.drop_zero, List.reverse_cons, List.reverse_nil, List.nil_append, List.cons_append, List.map_cons, List.map_nil, List.sum_cons, List.sum_nil, List.length_cons, List.length_nil, Option.toList_some, Option.toList_none, true_and, and_true, false_and, and_false, true_implies, false_implies, implies_true, not_true_eq_false, not_false_eq_true, ne_eq, if_true, if_false, Bool.and_true, Bool.true_and, decide_true, decide_false, reduceIte, reduceCtorEq, Bool.and_self, Bool.and_eq_true, decide_eq_true_eq, and_self, true_or, or_true, false_or, or_false, Nat.zero_add, Nat.add_zero, eq_self, Nat.reduceEqDiff, Nat.reduceLeDiff, Nat.reduceLT, Nat.reduceAdd, Nat.reduceSub, Nat.reduceMul]
    exact hr
  · have e := h'.1 k (by rw [List.length_range]; exact hk)
    rw [e, ← List.getElem_eq_getD (h := by rw [List.length_range]; exact hk) 0, List.getElem_range]
  · show (List.range n).getD k 0 = k
    rw [← List.getElem_eq_getD (h := by rw [List.length_range]; exact hk) 0, List.getElem_range]
theorem FJ_g {J0 J : xJ} {o k1 k2 : Nat} (h : FJ o k1 k2 J0 J) {g : Nat} (hg : g < 2147483648) (hk : k1 ≠ k2) : FJ o k1 k2 J0 (uJ J o k2 (lN g)) := by
  obtain ⟨⟨x, hx, h1⟩, h2, h3⟩ := h
  refine ⟨⟨x, hx, ?_⟩, ⟨g, hg, ?_⟩, fun p k hp => ?_⟩
  · rw [uJ_at, if_neg (fun e => hk e.2)]; exact h1
  · rw [uJ_at, if_pos ⟨rfl, rfl⟩]
  · rw [uJ_at, if_neg (fun e => hp ⟨e.1, Or.inr e.2⟩)]; exact h3 p k hp
theorem FJ_x {J0 J : xJ} {o k1 k2 : Nat} (h : FJ o k1 k2 J0 J) {x : Nat} (hx : x < 2 ^ 64) (hk : k1 ≠ k2) : FJ o k1 k2 J0 (uJ J o k1 (lN x)) := by
  obtain ⟨h1, ⟨g, hg, h2⟩, h3⟩ := h
  refine ⟨⟨x, hx, ?_⟩, ⟨g, hg, ?_⟩, fun p k hp => ?_⟩
  · rw [uJ_at, if_pos ⟨rfl, rfl⟩]
  · rw [uJ_at, if_neg (fun e => hk e.2.symm)]; exact h2
  · rw [uJ_at, if_neg (fun e => hp ⟨e.1, Or.inl e.2⟩)]; exact h3 p k hp
theorem L88_11 {J0 : xJ} (hL : LC S R) (h2 : I 102 2 = nI n) (hn : n ≤ 64) {r : Nat → Nat} (hr : ∀ k, k < n → r k < n) {p : Nat → Nat} (hp : ∀ k, k < n → I 116 k = nI (p k)) (hW : WR n p r)
    (kk : ∀ J, FJ 110 4 5 J0 J → Q (.ok (some (.int (nI (ct (fun s => decide (r s = s)) n))))) (S, I, J, D, R) b) :
    ∀ (j i f : Nat) (J : xJ), i + j = n → f < 2 ^ 64 → FJ 110 4 5 J0 J → xRun xT 88 11 [(0, .ref 110), (1, .long (lN f)), (3, .int (nI (ct (fun s => decide (r s = s)) i))), (4, .int (nI i))] [] (S, I, J, D, R) b Q
  | 0, i, f, J, hi, hf, h => by
    have e : i = n := by omega
    subst e
    obtain ⟨⟨x, hx, h1⟩, h3⟩ := h
    have h4 := FJ_x ⟨⟨x, hx, h1⟩, h3⟩ (Nat.xor_lt_two_pow hx hf) (by decide)
    rw [e88_11]
    simp only [B88_11, xSeq, i_push, i_load, i_iload, i_lload, i_dload, i_aload, i_istore, i_astore, i_lstore, i_dstore, i_iinc, i_ii, i_iiz, i_ll, i_llz, i_lli, i_li, i_i, i_l, i_i2l, i_l2i, i_dup, i_dup2, i_dup2w, i_dupx1, i_pop, i_pop2, i_goto, i_ifc, i_icmp, i_getI, i_getL, i_getR, i_putI, i_putZ, i_putL, i_putR, i_aldI, i_aldB, i_aldL, i_aldD, i_astI, i_astL, i_astD, i_alen, i_ret, i_iret, i_zret, i_lret, i_fret, i_dret, i_aret, i_invS0, i_invV0, i_m2, i_m1, i_ml, i_obj, lk, lkp, stf1, stf2, Value.category, rV, xTo, lv_args, xCk, xCat, xRc, xAk, hg_S, hg_I, hg_J, hg_D, hg_R, hs_I, hs_J, hs_D, hs_R, uI_at, uJ_at, uD_at, uR_at, List.take_succ_cons, List.take_zero, List.drop_succ_cons, List.drop_zero, List.reverse_cons, List.reverse_nil, List.nil_append, List.cons_append, List.map_cons, List.map_nil, List.sum_cons, List.sum_nil, List.length_cons, List.length_nil, Option.toList_some, Option.toList_none, true_and, and_true, false_and, and_false, true_implies, false_implies, implies_true, not_true_eq_false, not_false_eq_true, ne_eq, if_true, if_false, Bool.and_true, Bool.true_and, decide_true, decide_false, reduceIte, reduceCtorEq, Bool.and_self, Bool.and_eq_true, decide_eq_true_eq, and_self, true_or, or_true, false_or, or_false, Nat.zero_add, Nat.add_zero, eq_self, Nat.reduceEqDiff, Nat.reduceLeDiff, Nat.reduceLT, Nat.reduceAdd, Nat.reduceSub, Nat.reduceMul, LC_out hL, h2, nI_leP (show i < 2147483648 by omega) (show i < 2147483648 by omega), Nat.le_refl, e88_74, B88_74, h1, q_xor]
    exact kk _ h4
  | j + 1, i, f, J, hi, hf, h => by
    have e90 := fun (J : xJ) (b : Nat × Nat) (Q : xQ) => R90 (S := S) (R := R) (I := I) (J := J) (D := D) (b := b) (Q := Q) hL hn hp hW (show i < n by omega)
    have hri := hr i (by omega)
    obtain ⟨g, hg, h1⟩ := h.2.1
    have h4 := FJ_g h (nx_lt g) (by decide)
    have hd := dw_lt g (show 0 < 2 by decide)
    have nx := fun f J => L88_11 hL h2 hn hr hp hW kk j (i + 1) f J (by omega)
    rw [ct] at nx
    have e84 := fun (b : Nat × Nat) (Q : xQ) => R84 (S := S) (R := R) (I := I) (J := J) (D := D) (b := b) (Q := Q) (k := 2) hL hg h1 (by decide) (by decide)
    rw [show nI 2 = (2 : Int32) from rfl] at e84
    have hw : 2 ^ i ≤ 2 ^ 63 := Nat.pow_le_pow_right (by decide) (by omega)
    have hb1 : dw g 2 * 2 ^ i < 2 ^ 64 := by
      have : dw g 2 * 2 ^ i ≤ 1 * 2 ^ i := Nat.mul_le_mul_right _ (by omega)
      omega
    have hb2 : f / 2 ^ r i % 2 * 2 ^ i < 2 ^ 64 := by
      have : f / 2 ^ r i % 2 * 2 ^ i ≤ 1 * 2 ^ i := Nat.mul_le_mul_right _ (by omega)
      omega
    have hq : f / 2 ^ r i < 2 ^ 64 := Nat.lt_of_le_of_lt (Nat.div_le_self _ _) hf
    rw [e88_11]
    simp only [B88_11, xSeq, i_push, i_load, i_iload, i_lload, i_dload, i_aload, i_istore, i_astore, i_lstore, i_dstore, i_iinc, i_ii, i_iiz, i_ll, i_llz, i_lli, i_li, i_i, i_l, i_i2l, i_l2i, i_dup, i_dup2, i_dup2w, i_dupx1, i_pop, i_pop2, i_goto, i_ifc, i_icmp, i_getI, i_getL, i_getR, i_putI, i_putZ, i_putL, i_putR, i_aldI, i_aldB, i_aldL, i_aldD, i_astI, i_astL, i_astD, i_alen, i_ret, i_iret, i_zret, i_lret, i_fret, i_dret, i_aret, i_invS0, i_invV0, i_m2, i_m1, i_ml, i_obj, lk, lkp, stf1, stf2, Value.category, rV, xTo, lv_args, xCk, xCat, xRc, xAk, hg_S, hg_I, hg_J, hg_D, hg_R, hs_I, hs_J, hs_D, hs_R, uI_at, uJ_at, uD_at, uR_at, List.take_succ_cons, List.take_zero, List.drop_succ_cons, List.drop_zero, List.reverse_cons, List.reverse_nil, List.nil_append, List.cons_append, List.map_cons, List.map_nil, List.sum_cons, List.sum_nil, List.length_cons, List.length_nil, Option.toList_some, Option.toList_none, true_and, and_true, false_and, and_false, true_implies, false_implies, implies_true, not_true_eq_false, not_false_eq_true, ne_eq, if_true, if_false, Bool.and_true, Bool.true_and, decide_true, decide_false, reduceIte, reduceCtorEq, Bool.and_self, Bool.and_eq_true, decide_eq_true_eq, and_self, true_or, or_true, false_or, or_false, Nat.zero_add, Nat.add_zero, eq_self, Nat.reduceEqDiff, Nat.reduceLeDiff, Nat.reduceLT, Nat.reduceAdd, Nat.reduceSub, Nat.reduceMul, LC_out hL, h2, nI_leP (show n < 2147483648 by omega) (show i < 2147483648 by omega), show (n ≤ i) = False from eq_false (by omega), e90, nI_iff (show r i < 2147483648 by omega) (show i < 2147483648 by omega), e84, nI_l (show dw g 2 < 2147483648 by omega), q_shl (dw g 2) (show i < 64 by omega), q_or hf hb1, e88_68, B88_68, e88_56, B88_56, q_ushr hf (show r i < 64 by omega), q_a1 hq, q_shl (f / 2 ^ r i % 2) (show i < 64 by omega), q_or hf hb2, nI_1]
    by_cases e : r i = i
    · simp only [e, true_and, and_true, false_and, and_false, true_implies, false_implies, implies_true, not_true_eq_false, not_false_eq_true, ne_eq, if_true, if_false, Bool.and_true, Bool.true_and, decide_true, decide_false, reduceIte, reduceCtorEq, Bool.and_self, Bool.and_eq_true, decide_eq_true_eq, and_self, true_or, or_true, false_or, or_false, Nat.zero_add, Nat.add_zero, eq_self, Nat.reduceEqDiff, Nat.reduceLeDiff, Nat.reduceLT, Nat.reduceAdd, Nat.reduceSub, Nat.reduceMul] at nx ⊢
      exact nx _ _ (Nat.or_lt_two_pow hf hb1) h4
    · simp only [e, true_and, and_true, false_and, and_false, true_implies, false_implies, implies_true, not_true_eq_false, not_false_eq_true, ne_eq, if_true, if_false, Bool.and_true, Bool.true_and, decide_true, decide_false, reduceIte, reduceCtorEq, Bool.and_self, Bool.and_eq_true, decide_eq_true_eq, and_self, true_or, or_true, false_or, or_false, Nat.zero_add, Nat.add_zero, eq_self, Nat.reduceEqDiff, Nat.reduceLeDiff, Nat.reduceLT, Nat.reduceAdd, Nat.reduceSub, Nat.reduceMul] at nx ⊢
      exact nx _ _ (Nat.or_lt_two_pow hf hb2) h
theorem L88 {J : xJ} (hL : LC S R) (hG : GR n m fi se dg sb) (hC : CL I n m fi se dg sb) {a bb : Nat} (hA : I 110 7 = nI a) (hB : I 110 8 = nI bb) (ha : a < 2147483648) (h0 : 0 < bb) (hb : bb < 2147483648)
    {st : Nat → Nat} (hst : ∀ k, k < m → I 111 k = nI (st k)) (hs3 : ∀ k, k < m → st k < 1000000) {x g : Nat} (hx : x < 2 ^ 64) (hJ : J 110 4 = lN x) (hg : g < 2147483648) (hJ2 : J 110 5 = lN g)
    (kk : ∀ I' J', (∀ o k, o ≠ 116 → I' o k = I o k) → FJ 110 4 5 J J' → Q (.ok (some (.int (nI (ct (fun s => decide ((jd n a bb st fi se x g m).1.getD s 0 = s)) n))))) (S, I', J', D, R) b) :
    xRun xT 88 0 [(0, .ref 110)] [] (S, I, J, D, R) b Q := by
  obtain ⟨y1, y2, y3⟩ := jd_ok (a := a) (bb := bb) (st := st) (x := x) hG hg m (Nat.le_refl _)
  rw [e88_0]
  simp only [B88_0, xSeq, i_push, i_load, i_iload, i_lload, i_dload, i_aload, i_istore, i_astore, i_lstore, i_dstore, i_iinc, i_ii, i_iiz, i_ll, i_llz, i_lli, i_li, i_i, i_l, i_i2l, i_l2i, i_dup, i_dup2, i_dup2w, i_dupx1, i_pop, i_pop2, i_goto, i_ifc, i_icmp, i_getI, i_getL, i_getR, i_putI, i_putZ, i_putL, i_putR, i_aldI, i_aldB, i_aldL, i_aldD, i_astI, i_astL, i_astD, i_alen, i_ret, i_iret, i_zret, i_lret, i_fret, i_dret, i_aret, i_invS0, i_invV0, i_m2, i_m1, i_ml, i_obj, lk, lkp, stf1, stf2, Value.category, rV, xTo, lv_args, xCk, xCat, xRc, xAk, hg_S, hg_I, hg_J, hg_D, hg_R, hs_I, hs_J, hs_D, hs_R, uI_at, uJ_at, uD_at, uR_at, List.take_succ_cons, List.take_zero, List.drop_succ_cons, List.drop_zero, List.reverse_cons, List.reverse_nil, List.nil_append, List.cons_append, List.map_cons, List.map_nil, List.sum_cons, List.sum_nil, List.length_cons, List.length_nil, Option.toList_some, Option.toList_none, true_and, and_true, false_and, and_false, true_implies, false_implies, implies_true, not_true_eq_false, not_false_eq_true, ne_eq, if_true, if_false, Bool.and_true, Bool.true_and, decide_true, decide_false, reduceIte, reduceCtorEq, Bool.and_self, Bool.and_eq_true, decide_eq_true_eq, and_self, true_or, or_true, false_or, or_false, Nat.zero_add, Nat.add_zero, eq_self, Nat.reduceEqDiff, Nat.reduceLeDiff, Nat.reduceLT, Nat.reduceAdd, Nat.reduceSub, Nat.reduceMul, LC_out hL]
  refine L89 hL hG hC hA hB ha h0 hb hst hs3 hx hJ hg hJ2 (fun I' h' => ?_)
  obtain ⟨⟨p, hp, hW⟩, hf⟩ := h'
  simp only [xSeq, i_push, i_load, i_iload, i_lload, i_dload, i_aload, i_istore, i_astore, i_lstore, i_dstore, i_iinc, i_ii, i_iiz, i_ll, i_llz, i_lli, i_li, i_i, i_l, i_i2l, i_l2i, i_dup, i_dup2, i_dup2w, i_dupx1, i_pop, i_pop2, i_goto, i_ifc, i_icmp, i_getI, i_getL, i_getR, i_putI, i_putZ, i_putL, i_putR, i_aldI, i_aldB, i_aldL, i_aldD, i_astI, i_astL, i_astD, i_alen, i_ret, i_iret, i_zret, i_lret, i_fret, i_dret, i_aret, i_invS0, i_invV0, i_m2, i_m1, i_ml, i_obj, lk, lkp, stf1, stf2, Value.category, rV, xTo, lv_args, xCk, xCat, xRc, xAk, hg_S, hg_I, hg_J, hg_D, hg_R, hs_I, hs_J, hs_D, hs_R, uI_at, uJ_at, uD_at, uR_at, List.take_succ_cons, List.take_zero, List.drop_succ_cons, List.drop_zero, List.reverse_cons, List.reverse_nil, List.nil_append, List.cons_append, List.map_cons, List.map_nil, List.sum_cons, List.sum_nil, List.length_cons, List.length_nil, Option.toList_some, Option.toList_none, true_and, and_true, false_and, and_false, true_implies, false_implies, implies_true, not_true_eq_false, not_false_eq_true, ne_eq, if_true, if_false, Bool.and_true, Bool.true_and, decide_true, decide_false, reduceIte, reduceCtorEq, Bool.and_self, Bool.and_eq_true, decide_eq_true_eq, and_self, true_or, or_true, false_or, or_false, Nat.zero_add, Nat.add_zero, eq_self, Nat.reduceEqDiff, Nat.reduceLeDiff, Nat.reduceLT, Nat.reduceAdd, Nat.reduceSub, Nat.reduceMul]
  have h2 : I' 102 2 = nI n := (hf _ _ (by decide)).trans hC.1
  have hj : FJ 110 4 5 J (uJ J 110 5 (lN (jd n a bb st fi se x g m).2)) := FJ_g ⟨⟨x, hx, hJ⟩, ⟨g, hg, hJ2⟩, fun _ _ _ => rfl⟩ y3 (by decide)
  exact L88_11 hL h2 hG.2.1 (fun k hk => y2 k hk) hp hW (fun J' h' => kk I' J' hf h') n 0 0 _ (by omega) (by decide) hj
end
/-! ===== all clusters of the model ===== -/
section
variable {S : xS} {I : xI} {J : xJ} {D : xDb} {R : xR} {b : Nat × Nat} {Q : xQ} {n m : Nat} {fi se dg : Nat → Nat} {sb : Nat → Nat → Nat}
theorem L281_25 {I0 : xI} {J0 : xJ} (hL : LM S R) (hG : GR n m fi se dg sb) (hC0 : CM I0 n m fi se dg sb) {a bb : Nat} (hA : I0 300 2 = nI a) (hB : I0 300 3 = nI bb) (ha : a < 2147483648) (h0 : 0 < bb) (hb : bb < 2147483648)
    {st : Nat → Nat} (hst : ∀ k, k < m → I0 300 (16 + k) = nI (st k)) (hs3 : ∀ k, k < m → st k < 1000000) {x g : Nat} (hx : x < 2 ^ 64) (hJ : J0 200 3 = lN x) (hg : g < 2147483648)
    (kk : ∀ I, GO I0 (fun k => (jd n a bb st fi se x g m).1.getD k 0) n I → xRun xT 281 84 [(0, .ref 200)] [] (S, I, uJ J0 200 4 (lN (jd n a bb st fi se x g m).2), D, R) b Q) :
    ∀ (j i : Nat) (I : xI), i + j = m → GO I0 (fun k => (jd n a bb st fi se x g i).1.getD k 0) n I → xRun xT 281 25 [(0, .ref 200), (1, .int (nI i))] [] (S, I, uJ J0 200 4 (lN (jd n a bb st fi se x g i).2), D, R) b Q
  | 0, i, I, hi, h => by
    have hC := GO_CM h hC0
    have g2 := hG.2.2.1
    have e : i = m := by omega
    subst e
    rw [e281_25]
    simp only [B281_25, xSeq, i_push, i_load, i_iload, i_lload, i_dload, i_aload, i_istore, i_astore, i_lstore, i_dstore, i_iinc, i_ii, i_iiz, i_ll, i_llz, i_lli, i_li, i_i, i_l, i_i2l, i_l2i, i_dup, i_dup2, i_dup2w, i_dupx1, i_pop, i_pop2, i_goto, i_ifc, i_icmp, i_getI, i_getL, i_getR, i_putI, i_putZ, i_putL, i_putR, i_aldI, i_aldB, i_aldL, i_aldD, i_astI, i_astL, i_astD, i_alen, i_ret, i_iret, i_zret, i_lret, i_fret, i_dret, i_aret, i_invS0, i_invV0, i_m2, i_m1, i_ml, i_obj, lk, lkp, stf1, stf2, Value.category, rV, xTo, lv_args, xCk, xCat, xRc, xAk, hg_S, hg_I, hg_J, hg_D, hg_R, hs_I, hs_J, hs_D, hs_R, uI_at, uJ_at, uD_at, uR_at, List.take_succ_cons, List.take_zero, List.drop_succ_cons, List.drop_zero, List.reverse_cons, List.reverse_nil, List.nil_append, List.cons_append, List.map_cons, List.map_nil, List.sum_cons, List.sum_nil, List.length_cons, List.length_nil, Option.toList_some, Option.toList_none, true_and, and_true, false_and, and_false, true_implies, false_implies, implies_true, not_true_eq_false, not_false_eq_true, ne_eq, if_true, if_false, Bool.and_true, Bool.true_and, decide_true, decide_false, reduceIte, reduceCtorEq, Bool.and_self, Bool.and_eq_true, decide_eq_true_eq, and_self, true_or, or_true, false_or, or_false, Nat.zero_add, Nat.add_zero, eq_self, Nat.reduceEqDiff, Nat.reduceLeDiff, Nat.reduceLT, Nat.reduceAdd, Nat.reduceSub, Nat.reduceMul, xi144_0, ix_0, xi144_1, ix_1, xi144_2, ix_2, xi144_3, ix_3, xi144_4, ix_4, xi144_5, ix_5, xi144_6, ix_6, xi144_7, ix_7, xi144_8, ix_8, xi144_9, ix_9, xi144_10, ix_10, LM_out hL, hC.2.1, nI_leP (show i < 2147483648 by omega) (show i < 2147483648 by omega), Nat.le_refl]
    exact kk I h
  | j + 1, k, I, hi, h => by
    have hC := GO_CM h hC0
    have hk : k < m := by omega
    have hG' := hG
    have hC' := hC
    obtain ⟨g0, g1, g2, g3, g4, g5, g6⟩ := hG'
    obtain ⟨c1, c2, c3, c4, c5, c6⟩ := hC'
    have h3 := g3 k hk
    have h4 := g4 k hk
    obtain ⟨y1, y2, y3⟩ := jd_ok (a := a) (bb := bb) (st := st) (x := x) hG hg k (by omega)
    have nx := fun I => L281_25 hL hG hC0 hA hB ha h0 hb hst hs3 hx hJ hg kk j (k + 1) I (by omega)
    rw [jd] at nx
    obtain ⟨y, hy⟩ : ∃ y, y = jd n a bb st fi se x g k := ⟨_, rfl⟩
    rw [← hy] at h y1 y2 y3 nx ⊢
    have hst' := hst k hk
    have hs3' := hs3 k hk
    have f7 : I 300 2 = nI a := (h.2 _ _ (by decide)).trans hA
    have f8 : I 300 3 = nI bb := (h.2 _ _ (by decide)).trans hB
    have f1 : I 300 (16 + k) = nI (st k) := (h.2 _ _ (by decide)).trans hst'
    have e272 := fun (b : Nat × Nat) (Q : xQ) => R272 (S := S) (R := R) (I := I) (J := uJ J0 200 4 (lN y.2)) (D := D) (b := b) (Q := Q) hL f7 f8 ha h0 hb (show 2 * st k < 2147483648 by omega) y3 rfl
    have e280 := fun (b : Nat × Nat) (Q : xQ) => R280 (S := S) (R := R) (I := I) (J := uJ J0 200 4 (lN y.2)) (D := D) (b := b) (Q := Q) hL hG hC hx hJ hk
    obtain ⟨d, hd⟩ : ∃ d, d = pd a bb (2 * st k) y.2 := ⟨_, rfl⟩
    rw [← hd] at e272 nx
    rw [e281_25]
    simp only [B281_25, xSeq, i_push, i_load, i_iload, i_lload, i_dload, i_aload, i_istore, i_astore, i_lstore, i_dstore, i_iinc, i_ii, i_iiz, i_ll, i_llz, i_lli, i_li, i_i, i_l, i_i2l, i_l2i, i_dup, i_dup2, i_dup2w, i_dupx1, i_pop, i_pop2, i_goto, i_ifc, i_icmp, i_getI, i_getL, i_getR, i_putI, i_putZ, i_putL, i_putR, i_aldI, i_aldB, i_aldL, i_aldD, i_astI, i_astL, i_astD, i_alen, i_ret, i_iret, i_zret, i_lret, i_fret, i_dret, i_aret, i_invS0, i_invV0, i_m2, i_m1, i_ml, i_obj, lk, lkp, stf1, stf2, Value.category, rV, xTo, lv_args, xCk, xCat, xRc, xAk, hg_S, hg_I, hg_J, hg_D, hg_R, hs_I, hs_J, hs_D, hs_R, uI_at, uJ_at, uD_at, uR_at, List.take_succ_cons, List.take_zero, List.drop_succ_cons, List.drop_zero, List.reverse_cons, List.reverse_nil, List.nil_append, List.cons_append, List.map_cons, List.map_nil, List.sum_cons, List.sum_nil, List.length_cons, List.length_nil, Option.toList_some, Option.toList_none, true_and, and_true, false_and, and_false, true_implies, false_implies, implies_true, not_true_eq_false, not_false_eq_true, ne_eq, if_true, if_false, Bool.and_true, Bool.true_and, decide_true, decide_false, reduceIte, reduceCtorEq, Bool.and_self, Bool.and_eq_true, decide_eq_true_eq, and_self, true_or, or_true, false_or, or_false, Nat.zero_add, Nat.add_zero, eq_self, Nat.reduceEqDiff, Nat.reduceLeDiff, Nat.reduceLT, Nat.reduceAdd, Nat.reduceSub, Nat.reduceMul, xi144_0, ix_0, xi144_1, ix_1, xi144_2, ix_2, xi144_3, ix_3, xi144_4, ix_4, xi144_5, ix_5, xi144_6, ix_6, xi144_7, ix_7, xi144_8, ix_8, xi144_9, ix_9, xi144_10, ix_10, LM_out hL, c2, nI_leP (show m < 2147483648 by omega) (show k < 2147483648 by omega), show (m ≤ k) = False from eq_false (by omega), e280, nI_c16, nI_inP (show 16 + k < 144 by omega) (by decide), nI_ix (show 16 + k < 2147483648 by omega), nI_inP (show k < 128 by omega) (by decide), nI_ix (show k < 2147483648 by omega), f1, dbl, e272, uJ_uJ, c3 k hk, c4 k hk, e281_78, B281_78, nI_1]
    by_cases hb2 : x.testBit (fi k) = x.testBit (se k)
    · rw [if_pos hb2] at nx
      simp only [hb2, true_and, and_true, false_and, and_false, true_implies, false_implies, implies_true, not_true_eq_false, not_false_eq_true, ne_eq, if_true, if_false, Bool.and_true, Bool.true_and, decide_true, decide_false, reduceIte, reduceCtorEq, Bool.and_self, Bool.and_eq_true, decide_eq_true_eq, and_self, true_or, or_true, false_or, or_false, Nat.zero_add, Nat.add_zero, eq_self, Nat.reduceEqDiff, Nat.reduceLeDiff, Nat.reduceLT, Nat.reduceAdd, Nat.reduceSub, Nat.reduceMul, i1_0]
      cases hd1 : d.1
      · rw [hd1, if_neg (by decide)] at nx
        simp only [true_and, and_true, false_and, and_false, true_implies, false_implies, implies_true, not_true_eq_false, not_false_eq_true, ne_eq, if_true, if_false, Bool.and_true, Bool.true_and, decide_true, decide_false, reduceIte, reduceCtorEq, Bool.and_self, Bool.and_eq_true, decide_eq_true_eq, and_self, true_or, or_true, false_or, or_false, Nat.zero_add, Nat.add_zero, eq_self, Nat.reduceEqDiff, Nat.reduceLeDiff, Nat.reduceLT, Nat.reduceAdd, Nat.reduceSub, Nat.reduceMul]
        refine L283 hL hC0.1 g1 (fun k hk => Nat.lt_of_lt_of_le (y2 k hk) g1) h3 h4 h (fun I' h' => ?_)
        simp only [xSeq, i_push, i_load, i_iload, i_lload, i_dload, i_aload, i_istore, i_astore, i_lstore, i_dstore, i_iinc, i_ii, i_iiz, i_ll, i_llz, i_lli, i_li, i_i, i_l, i_i2l, i_l2i, i_dup, i_dup2, i_dup2w, i_dupx1, i_pop, i_pop2, i_goto, i_ifc, i_icmp, i_getI, i_getL, i_getR, i_putI, i_putZ, i_putL, i_putR, i_aldI, i_aldB, i_aldL, i_aldD, i_astI, i_astL, i_astD, i_alen, i_ret, i_iret, i_zret, i_lret, i_fret, i_dret, i_aret, i_invS0, i_invV0, i_m2, i_m1, i_ml, i_obj, lk, lkp, stf1, stf2, Value.category, rV, xTo, lv_args, xCk, xCat, xRc, xAk, hg_S, hg_I, hg_J, hg_D, hg_R, hs_I, hs_J, hs_D, hs_R, uI_at, uJ_at, uD_at, uR_at, List.take_succ_cons, List.take_zero, List.drop_succ_cons, List.drop_zero, List.reverse_cons, List.reverse_nil, List.nil_append, List.cons_append, List.map_cons, List.map_nil, List.sum_cons, List.sum_nil, List.length_cons, List.length_nil, Option.toList_some, Option.toList_none, true_and, and_true, false_and, and_false, true_implies, false_implies, implies_true, not_true_eq_false, not_false_eq_true, ne_eq, if_true, if_false, Bool.and_true, Bool.true_and, decide_true, decide_false, reduceIte, reduceCtorEq, Bool.and_self, Bool.and_eq_true, decide_eq_true_eq, and_self, true_or, or_true, false_or, or_false, Nat.zero_add, Nat.add_zero, eq_self, Nat.reduceEqDiff, Nat.reduceLeDiff, Nat.reduceLT, Nat.reduceAdd, Nat.reduceSub, Nat.reduceMul, e281_78, B281_78, nI_1]
        exact nx I' (GO_jl y1 h')
      · rw [hd1, if_pos rfl] at nx
        simp only [true_and, and_true, false_and, and_false, true_implies, false_implies, implies_true, not_true_eq_false, not_false_eq_true, ne_eq, if_true, if_false, Bool.and_true, Bool.true_and, decide_true, decide_false, reduceIte, reduceCtorEq, Bool.and_self, Bool.and_eq_true, decide_eq_true_eq, and_self, true_or, or_true, false_or, or_false, Nat.zero_add, Nat.add_zero, eq_self, Nat.reduceEqDiff, Nat.reduceLeDiff, Nat.reduceLT, Nat.reduceAdd, Nat.reduceSub, Nat.reduceMul, i1_0, e281_78, B281_78, nI_1, xSeq, i_push, i_load, i_iload, i_lload, i_dload, i_aload, i_istore, i_astore, i_lstore, i_dstore, i_iinc, i_ii, i_iiz, i_ll, i_llz, i_lli, i_li, i_i, i_l, i_i2l, i_l2i, i_dup, i_dup2, i_dup2w, i_dupx1, i_pop, i_pop2, i_goto, i_ifc, i_icmp, i_getI, i_getL, i_getR, i_putI, i_putZ, i_putL, i_putR, i_aldI, i_aldB, i_aldL, i_aldD, i_astI, i_astL, i_astD, i_alen, i_ret, i_iret, i_zret, i_lret, i_fret, i_dret, i_aret, i_invS0, i_invV0, i_m2, i_m1, i_ml, i_obj, lk, lkp, stf1, stf2, Value.category, rV, xTo, lv_args, xCk, xCat, xRc, xAk, hg_S, hg_I, hg_J, hg_D, hg_R, hs_I, hs_J, hs_D, hs_R, uI_at, uJ_at, uD_at, uR_at, List.take_succ_cons, List.take_zero, List.drop_succ_cons, List.drop_zero, List.reverse_cons, List.reverse_nil, List.nil_append, List.cons_append, List.map_cons, List.map_nil, List.sum_cons, List.sum_nil, List.length_cons, List.length_nil, Option.toList_some, Option.toList_none, true_and, and_true, false_and, and_false, true_implies, false_implies, implies_true, not_true_eq_false, not_false_eq_true, ne_eq, if_true, if_false, Bool.and_true, Bool.true_and, decide_true, decide_false, reduceIte, reduceCtorEq, Bool.and_self, Bool.and_eq_true, decide_eq_true_eq, and_self, true_or, or_true, false_or, or_false, Nat.zero_add, Nat.add_zero, eq_self, Nat.reduceEqDiff, Nat.reduceLeDiff, Nat.reduceLT, Nat.reduceAdd, Nat.reduceSub, Nat.reduceMul]
        exact nx I h
    · rw [if_neg hb2] at nx
      simp only [hb2, true_and, and_true, false_and, and_false, true_implies, false_implies, implies_true, not_true_eq_false, not_false_eq_true, ne_eq, if_true, if_false, Bool.and_true, Bool.true_and, decide_true, decide_false, reduceIte, reduceCtorEq, Bool.and_self, Bool.and_eq_true, decide_eq_true_eq, and_self, true_or, or_true, false_or, or_false, Nat.zero_add, Nat.add_zero, eq_self, Nat.reduceEqDiff, Nat.reduceLeDiff, Nat.reduceLT, Nat.reduceAdd, Nat.reduceSub, Nat.reduceMul, e281_78, B281_78, nI_1, xSeq, i_push, i_load, i_iload, i_lload, i_dload, i_aload, i_istore, i_astore, i_lstore, i_dstore, i_iinc, i_ii, i_iiz, i_ll, i_llz, i_lli, i_li, i_i, i_l, i_i2l, i_l2i, i_dup, i_dup2, i_dup2w, i_dupx1, i_pop, i_pop2, i_goto, i_ifc, i_icmp, i_getI, i_getL, i_getR, i_putI, i_putZ, i_putL, i_putR, i_aldI, i_aldB, i_aldL, i_aldD, i_astI, i_astL, i_astD, i_alen, i_ret, i_iret, i_zret, i_lret, i_fret, i_dret, i_aret, i_invS0, i_invV0, i_m2, i_m1, i_ml, i_obj, lk, lkp, stf1, stf2, Value.category, rV, xTo, lv_args, xCk, xCat, xRc, xAk, hg_S, hg_I, hg_J, hg_D, hg_R, hs_I, hs_J, hs_D, hs_R, uI_at, uJ_at, uD_at, uR_at, List.take_succ_cons, List.take_zero, List.drop_succ_cons, List.drop_zero, List.reverse_cons, List.reverse_nil, List.nil_append, List.cons_append, List.map_cons, List.map_nil, List.sum_cons, List.sum_nil, List.length_cons, List.length_nil, Option.toList_some, Option.toList_none, true_and, and_true, false_and, and_false, true_implies, false_implies, implies_true, not_true_eq_false, not_false_eq_true, ne_eq, if_true, if_false, Bool.and_true, Bool.true_and, decide_true, decide_false, reduceIte, reduceCtorEq, Bool.and_self, Bool.and_eq_true, decide_eq_true_eq, and_self, true_or, or_true, false_or, or_false, Nat.zero_add, Nat.add_zero, eq_self, Nat.reduceEqDiff, Nat.reduceLeDiff, Nat.reduceLT, Nat.reduceAdd, Nat.reduceSub, Nat.reduceMul]
      exact nx I h
theorem L281_121 {J0 : xJ} {r : Nat → Nat} (hL : LM S R) (h10 : I 300 10 = nI n) (hn : n ≤ 64) (hI : ∀ k, k < n → I 341 k = nI (r k)) (hr : ∀ k, k < n → r k < 64) {s : Nat} (hs : s < 64)
    (kk : ∀ J, FJ 200 3 4 J0 J → xRun xT 281 160 [(0, .ref 200), (1, .int (nI s))] [] (S, I, J, D, R) b Q) :
    ∀ (j i : Nat) (J : xJ), i + j = n → FJ 200 3 4 J0 J → xRun xT 281 121 [(0, .ref 200), (1, .int (nI s)), (2, .int (nI i))] [] (S, I, J, D, R) b Q
  | 0, i, J, hi, h => by
    have e : i = n := by omega
    subst e
    rw [e281_121]
    simp only [B281_121, xSeq, i_push, i_load, i_iload, i_lload, i_dload, i_aload, i_istore, i_astore, i_lstore, i_dstore, i_iinc, i_ii, i_iiz, i_ll, i_llz, i_lli, i_li, i_i, i_l, i_i2l, i_l2i, i_dup, i_dup2, i_dup2w, i_dupx1, i_pop, i_pop2, i_goto, i_ifc, i_icmp, i_getI, i_getL, i_getR, i_putI, i_putZ, i_putL, i_putR, i_aldI, i_aldB, i_aldL, i_aldD, i_astI, i_astL, i_astD, i_alen, i_ret, i_iret, i_zret, i_lret, i_fret, i_dret, i_aret, i_invS0, i_invV0, i_m2, i_m1, i_ml, i_obj, lk, lkp, stf1, stf2, Value.category, rV, xTo, lv_args, xCk, xCat, xRc, xAk, hg_S, hg_I, hg_J, hg_D, hg_R, hs_I, hs_J, hs_D, hs_R, uI_at, uJ_at, uD_at, uR_at, List.take_succ_cons, List.take_zero, List.drop_succ_cons, List.drop_zero, List.reverse_cons, List.reverse_nil, List.nil_append, List.cons_append, List.map_cons, List.map_nil, List.sum_cons, List.sum_nil, List.length_cons, List.length_nil, Option.toList_some, Option.toList_none, true_and, and_true, false_and, and_false, true_implies, false_implies, implies_true, not_true_eq_false, not_false_eq_true, ne_eq, if_true, if_false, Bool.and_true, Bool.true_and, decide_true, decide_false, reduceIte, reduceCtorEq, Bool.and_self, Bool.and_eq_true, decide_eq_true_eq, and_self, true_or, or_true, false_or, or_false, Nat.zero_add, Nat.add_zero, eq_self, Nat.reduceEqDiff, Nat.reduceLeDiff, Nat.reduceLT, Nat.reduceAdd, Nat.reduceSub, Nat.reduceMul, xi144_0, ix_0, xi144_1, ix_1, xi144_2, ix_2, xi144_3, ix_3, xi144_4, ix_4, xi144_5, ix_5, xi144_6, ix_6, xi144_7, ix_7, xi144_8, ix_8, xi144_9, ix_9, xi144_10, ix_10, LM_out hL, h10, nI_leP (show i < 2147483648 by omega) (show i < 2147483648 by omega), Nat.le_refl]
    exact kk J h
  | j + 1, i, J, hi, h => by
    have h1 := hr i (by omega)
    obtain ⟨x, hx, h3⟩ := h.1
    have h4 := FJ_x h (Nat.xor_lt_two_pow hx (Nat.pow_lt_pow_right (show 1 < 2 by decide) (show i < 64 by omega))) (by decide)
    have nx := fun J => L281_121 hL h10 hn hI hr hs kk j (i + 1) J (by omega)
    rw [e281_121]
    simp only [B281_121, xSeq, i_push, i_load, i_iload, i_lload, i_dload, i_aload, i_istore, i_astore, i_lstore, i_dstore, i_iinc, i_ii, i_iiz, i_ll, i_llz, i_lli, i_li, i_i, i_l, i_i2l, i_l2i, i_dup, i_dup2, i_dup2w, i_dupx1, i_pop, i_pop2, i_goto, i_ifc, i_icmp, i_getI, i_getL, i_getR, i_putI, i_putZ, i_putL, i_putR, i_aldI, i_aldB, i_aldL, i_aldD, i_astI, i_astL, i_astD, i_alen, i_ret, i_iret, i_zret, i_lret, i_fret, i_dret, i_aret, i_invS0, i_invV0, i_m2, i_m1, i_ml, i_obj, lk, lkp, stf1, stf2, Value.category, rV, xTo, lv_args, xCk, xCat, xRc, xAk, hg_S, hg_I, hg_J, hg_D, hg_R, hs_I, hs_J, hs_D, hs_R, uI_at, uJ_at, uD_at, uR_at, List.take_succ_cons, List.take_zero, List.drop_succ_cons, List.drop_zero, List.reverse_cons, List.reverse_nil, List.nil_append, List.cons_append, List.map_cons, List.map_nil, List.sum_cons, List.sum_nil, List.length_cons, List.length_nil, Option.toList_some, Option.toList_none, true_and, and_true, false_and, and_false, true_implies, false_implies, implies_true, not_true_eq_false, not_false_eq_true, ne_eq, if_true, if_false, Bool.and_true, Bool.true_and, decide_true, decide_false, reduceIte, reduceCtorEq, Bool.and_self, Bool.and_eq_true, decide_eq_true_eq, and_self, true_or, or_true, false_or, or_false, Nat.zero_add, Nat.add_zero, eq_self, Nat.reduceEqDiff, Nat.reduceLeDiff, Nat.reduceLT, Nat.reduceAdd, Nat.reduceSub, Nat.reduceMul, xi144_0, ix_0, xi144_1, ix_1, xi144_2, ix_2, xi144_3, ix_3, xi144_4, ix_4, xi144_5, ix_5, xi144_6, ix_6, xi144_7, ix_7, xi144_8, ix_8, xi144_9, ix_9, xi144_10, ix_10, LM_out hL, h10, nI_leP (show n < 2147483648 by omega) (show i < 2147483648 by omega), show (n ≤ i) = False from eq_false (by omega), nI_inP (show i < 64 by omega) (by decide), nI_ix (show i < 2147483648 by omega), hI i (by omega), nI_iff (show r i < 2147483648 by omega) (show s < 2147483648 by omega), h3, q_1shlL (show i < 64 by omega), q_xor, e281_154, B281_154, nI_1]
    by_cases e : r i = s
    · simp only [e, true_and, and_true, false_and, and_false, true_implies, false_implies, implies_true, not_true_eq_false, not_false_eq_true, ne_eq, if_true, if_false, Bool.and_true, Bool.true_and, decide_true, decide_false, reduceIte, reduceCtorEq, Bool.and_self, Bool.and_eq_true, decide_eq_true_eq, and_self, true_or, or_true, false_or, or_false, Nat.zero_add, Nat.add_zero, eq_self, Nat.reduceEqDiff, Nat.reduceLeDiff, Nat.reduceLT, Nat.reduceAdd, Nat.reduceSub, Nat.reduceMul]
      exact nx _ h4
    · simp only [e, true_and, and_true, false_and, and_false, true_implies, false_implies, implies_true, not_true_eq_false, not_false_eq_true, ne_eq, if_true, if_false, Bool.and_true, Bool.true_and, decide_true, decide_false, reduceIte, reduceCtorEq, Bool.and_self, Bool.and_eq_true, decide_eq_true_eq, and_self, true_or, or_true, false_or, or_false, Nat.zero_add, Nat.add_zero, eq_self, Nat.reduceEqDiff, Nat.reduceLeDiff, Nat.reduceLT, Nat.reduceAdd, Nat.reduceSub, Nat.reduceMul]
      exact nx _ h
theorem L281_86 {J0 : xJ} {r : Nat → Nat} (hL : LM S R) (h10 : I 300 10 = nI n) (hn : n ≤ 64) (hI : ∀ k, k < n → I 341 k = nI (r k)) (hr : ∀ k, k < n → r k < 64)
    (kk : ∀ J, FJ 200 3 4 J0 J → xRun xT 281 166 [(0, .ref 200)] [] (S, I, J, D, R) b Q) :
    ∀ (j i : Nat) (J : xJ), i + j = n → FJ 200 3 4 J0 J → xRun xT 281 86 [(0, .ref 200), (1, .int (nI i))] [] (S, I, J, D, R) b Q
  | 0, i, J, hi, h => by
    have e : i = n := by omega
    subst e
    rw [e281_86]
    simp only [B281_86, xSeq, i_push, i_load, i_iload, i_lload, i_dload, i_aload, i_istore, i_astore, i_lstore, i_dstore, i_iinc, i_ii, i_iiz, i_ll, i_llz, i_lli, i_li, i_i, i_l, i_i2l, i_l2i, i_dup, i_dup2, i_dup2w, i_dupx1, i_pop, i_pop2, i_goto, i_ifc, i_icmp, i_getI, i_getL, i_getR, i_putI, i_putZ, i_putL, i_putR, i_aldI, i_aldB, i_aldL, i_aldD, i_astI, i_astL, i_astD, i_alen, i_ret, i_iret, i_zret, i_lret, i_fret, i_dret, i_aret, i_invS0, i_invV0, i_m2, i_m1, i_ml, i_obj, lk, lkp, stf1, stf2, Value.category, rV, xTo, lv_args, xCk, xCat, xRc, xAk, hg_S, hg_I, hg_J, hg_D, hg_R, hs_I, hs_J, hs_D, hs_R, uI_at, uJ_at, uD_at, uR_at, List.take_succ_cons, List.take_zero, List.drop_succ_cons, List.drop_zero, List.reverse_cons, List.reverse_nil, List.nil_append, List.cons_append, List.map_cons, List.map_nil, List.sum_cons, List.sum_nil, List.length_cons, List.length_nil, Option.toList_some, Option.toList_none, true_and, and_true, false_and, and_false, true_implies, false_implies, implies_true, not_true_eq_false, not_false_eq_true, ne_eq, if_true, if_false, Bool.and_true, Bool.true_and, decide_true, decide_false, reduceIte, reduceCtorEq, Bool.and_self, Bool.and_eq_true, decide_eq_true_eq, and_self, true_or, or_true, false_or, or_false, Nat.zero_add, Nat.add_zero, eq_self, Nat.reduceEqDiff, Nat.reduceLeDiff, Nat.reduceLT, Nat.reduceAdd, Nat.reduceSub, Nat.reduceMul, xi144_0, ix_0, xi144_1, ix_1, xi144_2, ix_2, xi144_3, ix_3, xi144_4, ix_4, xi144_5, ix_5, xi144_6, ix_6, xi144_7, ix_7, xi144_8, ix_8, xi144_9, ix_9, xi144_10, ix_10, LM_out hL, h10, nI_leP (show i < 2147483648 by omega) (show i < 2147483648 by omega), Nat.le_refl]
    exact kk J h
  | j + 1, i, J, hi, h => by
    have h1 := hr i (by omega)
    obtain ⟨g, hg, h3⟩ := h.2.1
    have h4 := FJ_g h (nx_lt g) (by decide)
    have nx := fun J => L281_86 hL h10 hn hI hr kk j (i + 1) J (by omega)
    have e273 := fun (b : Nat × Nat) (Q : xQ) => R273 (S := S) (R := R) (I := I) (J := J) (D := D) (b := b) (Q := Q) (k := 2) hL hg h3 (by decide) (by decide)
    rw [show nI 2 = (2 : Int32) from rfl] at e273
    rw [e281_86]
    simp only [B281_86, xSeq, i_push, i_load, i_iload, i_lload, i_dload, i_aload, i_istore, i_astore, i_lstore, i_dstore, i_iinc, i_ii, i_iiz, i_ll, i_llz, i_lli, i_li, i_i, i_l, i_i2l, i_l2i, i_dup, i_dup2, i_dup2w, i_dupx1, i_pop, i_pop2, i_goto, i_ifc, i_icmp, i_getI, i_getL, i_getR, i_putI, i_putZ, i_putL, i_putR, i_aldI, i_aldB, i_aldL, i_aldD, i_astI, i_astL, i_astD, i_alen, i_ret, i_iret, i_zret, i_lret, i_fret, i_dret, i_aret, i_invS0, i_invV0, i_m2, i_m1, i_ml, i_obj, lk, lkp, stf1, stf2, Value.category, rV, xTo, lv_args, xCk, xCat, xRc, xAk, hg_S, hg_I, hg_J, hg_D, hg_R, hs_I, hs_J, hs_D, hs_R, uI_at, uJ_at, uD_at, uR_at, List.take_succ_cons, List.take_zero, List.drop_succ_cons, List.drop_zero, List.reverse_cons, List.reverse_nil, List.nil_append, List.cons_append, List.map_cons, List.map_nil, List.sum_cons, List.sum_nil, List.length_cons, List.length_nil, Option.toList_some, Option.toList_none, true_and, and_true, false_and, and_false, true_implies, false_implies, implies_true, not_true_eq_false, not_false_eq_true, ne_eq, if_true, if_false, Bool.and_true, Bool.true_and, decide_true, decide_false, reduceIte, reduceCtorEq, Bool.and_self, Bool.and_eq_true, decide_eq_true_eq, and_self, true_or, or_true, false_or, or_false, Nat.zero_add, Nat.add_zero, eq_self, Nat.reduceEqDiff, Nat.reduceLeDiff, Nat.reduceLT, Nat.reduceAdd, Nat.reduceSub, Nat.reduceMul, xi144_0, ix_0, xi144_1, ix_1, xi144_2, ix_2, xi144_3, ix_3, xi144_4, ix_4, xi144_5, ix_5, xi144_6, ix_6, xi144_7, ix_7, xi144_8, ix_8, xi144_9, ix_9, xi144_10, ix_10, LM_out hL, h10, nI_leP (show n < 2147483648 by omega) (show i < 2147483648 by omega), show (n ≤ i) = False from eq_false (by omega), nI_inP (show i < 64 by omega) (by decide), nI_ix (show i < 2147483648 by omega), hI i (by omega), nI_iff (show r i < 2147483648 by omega) (show i < 2147483648 by omega), e273, e281_160, B281_160, e281_119, B281_119, nI_1]
    by_cases e : r i = i
    · by_cases e2 : nI (dw g 2) = 1
      · simp only [e, e2, true_and, and_true, false_and, and_false, true_implies, false_implies, implies_true, not_true_eq_false, not_false_eq_true, ne_eq, if_true, if_false, Bool.and_true, Bool.true_and, decide_true, decide_false, reduceIte, reduceCtorEq, Bool.and_self, Bool.and_eq_true, decide_eq_true_eq, and_self, true_or, or_true, false_or, or_false, Nat.zero_add, Nat.add_zero, eq_self, Nat.reduceEqDiff, Nat.reduceLeDiff, Nat.reduceLT, Nat.reduceAdd, Nat.reduceSub, Nat.reduceMul]
        refine L281_121 hL h10 hn hI hr (show i < 64 by omega) (fun J' h' => ?_) n 0 _ (by omega) h4
        rw [e281_160]
        simp only [B281_160, xSeq, i_push, i_load, i_iload, i_lload, i_dload, i_aload, i_istore, i_astore, i_lstore, i_dstore, i_iinc, i_ii, i_iiz, i_ll, i_llz, i_lli, i_li, i_i, i_l, i_i2l, i_l2i, i_dup, i_dup2, i_dup2w, i_dupx1, i_pop, i_pop2, i_goto, i_ifc, i_icmp, i_getI, i_getL, i_getR, i_putI, i_putZ, i_putL, i_putR, i_aldI, i_aldB, i_aldL, i_aldD, i_astI, i_astL, i_astD, i_alen, i_ret, i_iret, i_zret, i_lret, i_fret, i_dret, i_aret, i_invS0, i_invV0, i_m2, i_m1, i_ml, i_obj, lk, lkp, stf1, stf2, Value.category, rV, xTo, lv_args, xCk, xCat, xRc, xAk, hg_S, hg_I, hg_J, hg_D, hg_R, hs_I, hs_J, hs_D, hs_R, uI_at, uJ_at, uD_at, uR_at, List.take_succ_cons, List.take_zero, List.drop_succ_cons, List.drop_zero, List.reverse_cons, List.reverse_nil, List.nil_append, List.cons_append, List.map_cons, List.map_nil, List.sum_cons, List.sum_nil, List.length_cons, List.length_nil, Option.toList_some, Option.toList_none, true_and, and_true, false_and, and_false, true_implies, false_implies, implies_true, not_true_eq_false, not_false_eq_true, ne_eq, if_true, if_false, Bool.and_true, Bool.true_and, decide_true, decide_false, reduceIte, reduceCtorEq, Bool.and_self, Bool.and_eq_true, decide_eq_true_eq, and_self, true_or, or_true, false_or, or_false, Nat.zero_add, Nat.add_zero, eq_self, Nat.reduceEqDiff, Nat.reduceLeDiff, Nat.reduceLT, Nat.reduceAdd, Nat.reduceSub, Nat.reduceMul, nI_1]
        exact nx _ h'
      · simp only [e, e2, true_and, and_true, false_and, and_false, true_implies, false_implies, implies_true, not_true_eq_false, not_false_eq_true, ne_eq, if_true, if_false, Bool.and_true, Bool.true_and, decide_true, decide_false, reduceIte, reduceCtorEq, Bool.and_self, Bool.and_eq_true, decide_eq_true_eq, and_self, true_or, or_true, false_or, or_false, Nat.zero_add, Nat.add_zero, eq_self, Nat.reduceEqDiff, Nat.reduceLeDiff, Nat.reduceLT, Nat.reduceAdd, Nat.reduceSub, Nat.reduceMul]
        exact nx _ h4
    · simp only [e, true_and, and_true, false_and, and_false, true_implies, false_implies, implies_true, not_true_eq_false, not_false_eq_true, ne_eq, if_true, if_false, Bool.and_true, Bool.true_and, decide_true, decide_false, reduceIte, reduceCtorEq, Bool.and_self, Bool.and_eq_true, decide_eq_true_eq, and_self, true_or, or_true, false_or, or_false, Nat.zero_add, Nat.add_zero, eq_self, Nat.reduceEqDiff, Nat.reduceLeDiff, Nat.reduceLT, Nat.reduceAdd, Nat.reduceSub, Nat.reduceMul]
      exact nx _ h
theorem L281_19 {J : xJ} (hL : LM S R) (hG : GR n m fi se dg sb) (hC : CM I n m fi se dg sb) {a bb : Nat} (hA : I 300 2 = nI a) (hB : I 300 3 = nI bb) (ha : a < 2147483648) (h0 : 0 < bb) (hb : bb < 2147483648)
    {st : Nat → Nat} (hst : ∀ k, k < m → I 300 (16 + k) = nI (st k)) (hs3 : ∀ k, k < m → st k < 1000000) {x g : Nat} (hx : x < 2 ^ 64) (hJ : J 200 3 = lN x) (hg : g < 2147483648) (hJ2 : J 200 4 = lN g)
    (kk : ∀ I' J', (∀ o k, o ≠ 341 → I' o k = I o k) → FJ 200 3 4 J J' → Q (.ok (some (.int (nI (ct (fun s => decide ((jd n a bb st fi se x g m).1.getD s 0 = s)) n))))) (S, I', J', D, R) b) :
    xRun xT 281 19 [(0, .ref 200)] [] (S, I, J, D, R) b Q := by
  obtain ⟨y1, y2, y3⟩ := jd_ok (a := a) (bb := bb) (st := st) (x := x) hG hg m (Nat.le_refl _)
  have g1 := hG.2.1
  have e5 : uJ J 200 4 (lN (jd n a bb st fi se x g 0).2) = J := uJ_same hJ2
  have y64 : ∀ k, k < n → (jd n a bb st fi se x g m).1.getD k 0 < 64 := fun k hk => Nat.lt_of_lt_of_le (y2 k hk) g1
  rw [e281_19]
  simp only [B281_19, xSeq, i_push, i_load, i_iload, i_lload, i_dload, i_aload, i_istore, i_astore, i_lstore, i_dstore, i_iinc, i_ii, i_iiz, i_ll, i_llz, i_lli, i_li, i_i, i_l, i_i2l, i_l2i, i_dup, i_dup2, i_dup2w, i_dupx1, i_pop, i_pop2, i_goto, i_ifc, i_icmp, i_getI, i_getL, i_getR, i_putI, i_putZ, i_putL, i_putR, i_aldI, i_aldB, i_aldL, i_aldD, i_astI, i_astL, i_astD, i_alen, i_ret, i_iret, i_zret, i_lret, i_fret, i_dret, i_aret, i_invS0, i_invV0, i_m2, i_m1, i_ml, i_obj, lk, lkp, stf1, stf2, Value.category, rV, xTo, lv_args, xCk, xCat, xRc, xAk, hg_S, hg_I, hg_J, hg_D, hg_R, hs_I, hs_J, hs_D, hs_R, uI_at, uJ_at, uD_at, uR_at, List.take_succ_cons, List.take_zero, List.drop_succ_cons, List.drop_zero, List.reverse_cons, List.reverse_nil, List.nil_append, List.cons_append, List.map_cons, List.map_nil, List.sum_cons, List.sum_nil, List.length_cons, List.length_nil, Option.toList_some, Option.toList_none, true_and, and_true, false_and, and_false, true_implies, false_implies, implies_true, not_true_eq_false, not_false_eq_true, ne_eq, if_true, if_false, Bool.and_true, Bool.true_and, decide_true, decide_false, reduceIte, reduceCtorEq, Bool.and_self, Bool.and_eq_true, decide_eq_true_eq, and_self, true_or, or_true, false_or, or_false, Nat.zero_add, Nat.add_zero, eq_self, Nat.reduceEqDiff, Nat.reduceLeDiff, Nat.reduceLT, Nat.reduceAdd, Nat.reduceSub, Nat.reduceMul, LM_out hL]
  refine L282 hL hC.1 g1 (fun I' h' => ?_)
  simp only [xSeq, i_push, i_load, i_iload, i_lload, i_dload, i_aload, i_istore, i_astore, i_lstore, i_dstore, i_iinc, i_ii, i_iiz, i_ll, i_llz, i_lli, i_li, i_i, i_l, i_i2l, i_l2i, i_dup, i_dup2, i_dup2w, i_dupx1, i_pop, i_pop2, i_goto, i_ifc, i_icmp, i_getI, i_getL, i_getR, i_putI, i_putZ, i_putL, i_putR, i_aldI, i_aldB, i_aldL, i_aldD, i_astI, i_astL, i_astD, i_alen, i_ret, i_iret, i_zret, i_lret, i_fret, i_dret, i_aret, i_invS0, i_invV0, i_m2, i_m1, i_ml, i_obj, lk, lkp, stf1, stf2, Value.category, rV, xTo, lv_args, xCk, xCat, xRc, xAk, hg_S, hg_I, hg_J, hg_D, hg_R, hs_I, hs_J, hs_D, hs_R, uI_at, uJ_at, uD_at, uR_at, List.take_succ_cons, List.take_zero, List.drop_succ_cons, List.drop_zero, List.reverse_cons, List.reverse_nil, List.nil_append, List.cons_append, List.map_cons, List.map_nil, List.sum_cons, List.sum_nil, List.length_cons, List.length_nil, Option.toList_some, Option.toList_none, true_and, and_true, false_and, and_false, true_implies, false_implies, implies_true, not_true_eq_false, not_false_eq_true, ne_eq, if_true, if_false, Bool.and_true, Bool.true_and, decide_true, decide_false, reduceIte, reduceCtorEq, Bool.and_self, Bool.and_eq_true, decide_eq_true_eq, and_self, true_or, or_true, false_or, or_false, Nat.zero_add, Nat.add_zero, eq_self, Nat.reduceEqDiff, Nat.reduceLeDiff, Nat.reduceLT, Nat.reduceAdd, Nat.reduceSub, Nat.reduceMul]
  have hr := L281_25 (S := S) (R := R) (D := D) (b := b) (Q := Q) hL hG hC hA hB ha h0 hb hst hs3 hx hJ hg (fun I2 h2 => by
    have hj : FJ 200 3 4 J (uJ J 200 4 (lN (jd n a bb st fi se x g m).2)) := FJ_g ⟨⟨x, hx, hJ⟩, ⟨g, hg, hJ2⟩, fun _ _ _ => rfl⟩ y3 (by decide)
    have h10 := (GO_CM h2 hC).1
    rw [e281_84]
    simp only [B281_84, xSeq, i_push, i_load, i_iload, i_lload, i_dload, i_aload, i_istore, i_astore, i_lstore, i_dstore, i_iinc, i_ii, i_iiz, i_ll, i_llz, i_lli, i_li, i_i, i_l, i_i2l, i_l2i, i_dup, i_dup2, i_dup2w, i_dupx1, i_pop, i_pop2, i_goto, i_ifc, i_icmp, i_getI, i_getL, i_getR, i_putI, i_putZ, i_putL, i_putR, i_aldI, i_aldB, i_aldL, i_aldD, i_astI, i_astL, i_astD, i_alen, i_ret, i_iret, i_zret, i_lret, i_fret, i_dret, i_aret, i_invS0, i_invV0, i_m2, i_m1, i_ml, i_obj, lk, lkp, stf1, stf2, Value.category, rV, xTo, lv_args, xCk, xCat, xRc, xAk, hg_S, hg_I, hg_J, hg_D, hg_R, hs_I, hs_J, hs_D, hs_R, uI_at, uJ_at, uD_at, uR_at, List.take_succ_cons, List.take_zero, List.drop_succ_cons, List.drop_zero, List.reverse_cons, List.reverse_nil, List.nil_append, List.cons_append, List.map_cons, List.map_nil, List.sum_cons, List.sum_nil, List.length_cons, List.length_nil, Option.toList_some, Option.toList_none, true_and, and_true, false_and, and_false, true_implies, false_implies, implies_true, not_true_eq_false, not_false_eq_true, ne_eq, if_true, if_false, Bool.and_true, Bool.true_and, decide_true, decide_false, reduceIte, reduceCtorEq, Bool.and_self, Bool.and_eq_true, decide_eq_true_eq, and_self, true_or, or_true, false_or, or_false, Nat.zero_add, Nat.add_zero, eq_self, Nat.reduceEqDiff, Nat.reduceLeDiff, Nat.reduceLT, Nat.reduceAdd, Nat.reduceSub, Nat.reduceMul]
    refine L281_86 hL h10 g1 h2.1 y64 (fun J3 h3 => ?_) n 0 _ (by omega) hj
    rw [e281_166]
    simp only [B281_166, xSeq, i_push, i_load, i_iload, i_lload, i_dload, i_aload, i_istore, i_astore, i_lstore, i_dstore, i_iinc, i_ii, i_iiz, i_ll, i_llz, i_lli, i_li, i_i, i_l, i_i2l, i_l2i, i_dup, i_dup2, i_dup2w, i_dupx1, i_pop, i_pop2, i_goto, i_ifc, i_icmp, i_getI, i_getL, i_getR, i_putI, i_putZ, i_putL, i_putR, i_aldI, i_aldB, i_aldL, i_aldD, i_astI, i_astL, i_astD, i_alen, i_ret, i_iret, i_zret, i_lret, i_fret, i_dret, i_aret, i_invS0, i_invV0, i_m2, i_m1, i_ml, i_obj, lk, lkp, stf1, stf2, Value.category, rV, xTo, lv_args, xCk, xCat, xRc, xAk, hg_S, hg_I, hg_J, hg_D, hg_R, hs_I, hs_J, hs_D, hs_R, uI_at, uJ_at, uD_at, uR_at, List.take_succ_cons, List.take_zero, List.drop_succ_cons, List.drop_zero, List.reverse_cons, List.reverse_nil, List.nil_append, List.cons_append, List.map_cons, List.map_nil, List.sum_cons, List.sum_nil, List.length_cons, List.length_nil, Option.toList_some, Option.toList_none, true_and, and_true, false_and, and_false, true_implies, false_implies, implies_true, not_true_eq_false, not_false_eq_true, ne_eq, if_true, if_false, Bool.and_true, Bool.true_and, decide_true, decide_false, reduceIte, reduceCtorEq, Bool.and_self, Bool.and_eq_true, decide_eq_true_eq, and_self, true_or, or_true, false_or, or_false, Nat.zero_add, Nat.add_zero, eq_self, Nat.reduceEqDiff, Nat.reduceLeDiff, Nat.reduceLT, Nat.reduceAdd, Nat.reduceSub, Nat.reduceMul, LM_out hL]
    rw [R284 hL h10 g1 h2.1 y64]
    simp only [xSeq, i_push, i_load, i_iload, i_lload, i_dload, i_aload, i_istore, i_astore, i_lstore, i_dstore, i_iinc, i_ii, i_iiz, i_ll, i_llz, i_lli, i_li, i_i, i_l, i_i2l, i_l2i, i_dup, i_dup2, i_dup2w, i_dupx1, i_pop, i_pop2, i_goto, i_ifc, i_icmp, i_getI, i_getL, i_getR, i_putI, i_putZ, i_putL, i_putR, i_aldI, i_aldB, i_aldL, i_aldD, i_astI, i_astL, i_astD, i_alen, i_ret, i_iret, i_zret, i_lret, i_fret, i_dret, i_aret, i_invS0, i_invV0, i_m2, i_m1, i_ml, i_obj, lk, lkp, stf1, stf2, Value.category, rV, xTo, lv_args, xCk, xCat, xRc, xAk, hg_S, hg_I, hg_J, hg_D, hg_R, hs_I, hs_J, hs_D, hs_R, uI_at, uJ_at, uD_at, uR_at, List.take_succ_cons, List.take_zero, List.drop_succ_cons, List.drop_zero, List.reverse_cons, List.reverse_nil, List.nil_append, List.cons_append, List.map_cons, List.map_nil, List.sum_cons, List.sum_nil, List.length_cons, List.length_nil, Option.toList_some, Option.toList_none, true_and, and_true, false_and, and_false, true_implies, false_implies, implies_true, not_true_eq_false, not_false_eq_true, ne_eq, if_true, if_false, Bool.and_true, Bool.true_and, decide_true, decide_false, reduceIte, reduceCtorEq, Bool.and_self, Bool.and_eq_true, decide_eq_true_eq, and_self, true_or, or_true, false_or, or_false, Nat.zero_add, Nat.add_zero, eq_self, Nat.reduceEqDiff, Nat.reduceLeDiff, Nat.reduceLT, Nat.reduceAdd, Nat.reduceSub, Nat.reduceMul]
    exact kk I2 J3 h2.2 h3) m 0 I' (by omega) ⟨fun k hk => ?_, h'.2⟩
  · rw [e5] at hr
    exact hr
  · have e : (List.range n).getD k 0 = k := by rw [← List.getElem_eq_getD (h := by rw [List.length_range]; exact hk) 0, List.getElem_range]
    exact (h'.1 k hk).trans (congrArg nI e.symm)
end
/-! ===== sums that are never -0 ===== -/
section
theorem rp_1 : rp 1 := by
  have h : FP.Core.val64 1 = .fin false 1 FP.Core.b64.qmin := by decide +kernel
  refine rp_val (x := 1) (N := 1) ⟨⟨_, _, _, h⟩, ?_⟩ ?_
  · unfold fz
    rw [h]
    decide +kernel
  · unfold fz
    rw [h]
    decide +kernel
theorem nz_dat {a : UInt64} {s : Bool} {c : Nat} {q : Int} (ea : FP.Core.val64 a = .fin s c q) (hz : a ≠ FP.Core.dzeroNeg) (h0 : c = 0) : s = false := by
  subst h0
  cases s
  · rfl
  · refine absurd (FP.Core.val64_inj (by rw [ea]; exact FP.Core.Datum.noConfusion) ?_) hz
    have hq := FP.Core.fits_zero_q FP.Core.good_b64 (ea ▸ FP.Core.val64_fits a)
    rw [ea, hq, FP.Core.val64_dzeroNeg]
theorem nz_add {N M : Nat} {a b : UInt64} (ha : fb N a) (hz : a ≠ FP.Core.dzeroNeg) (hb : fb M b) : FP.dadd a b ≠ FP.Core.dzeroNeg := by
  obtain ⟨⟨s, c, q, ea⟩, la⟩ := ha
  obtain ⟨⟨t, d, r, eb⟩, lb⟩ := hb
  have fa := FP.Core.val64_fits a
  have f2 := FP.Core.val64_fits b
  rw [ea] at fa
  rw [eb] at f2
  have hq := fa.2.1
  have hr := f2.2.1
  intro e
  have h : FP.Core.val64 (FP.dadd a b) = _ := FP.Core.val64_dadd a b
  rw [e, ea, eb, FP.Core.val64_dzeroNeg] at h
  have h2 : FP.Core.Datum.fin true 0 FP.Core.b64.qmin = FP.Core.roundRatio FP.Core.b64 (FP.Core.sumSign s t (FP.Core.sumUnits s c q t d r (min q r))) (FP.Core.sumUnits s c q t d r (min q r)).natAbs 1 (min q r) := h
  by_cases hu : FP.Core.sumUnits s c q t d r (min q r) = 0
  · rw [hu] at h2
    have h3 : FP.Core.roundRatio FP.Core.b64 (FP.Core.sumSign s t 0) (Int.natAbs 0) 1 (min q r) = .fin (s && t) 0 FP.Core.b64.qmin := rfl
    rw [h3] at h2
    injection h2 with h4
    have h5 : s = true ∧ t = true := by simpa using h4.symm
    have hc : c ≠ 0 := fun h0 => by
      have := nz_dat ea hz h0
      rw [h5.1] at this
      exact absurd this (by decide)
    unfold FP.Core.sumUnits at hu
    rw [h5.1, h5.2] at hu
    have hp : 0 < FP.Core.inUnits c q (min q r) := Nat.mul_pos (by omega) (Nat.two_pow_pos _)
    unfold FP.Core.signed at hu
    simp only [if_true] at hu
    omega
  · have h3 : 1 ≤ FP.Core.zmag FP.Core.b64 (.fin true 0 FP.Core.b64.qmin) := by
      rw [h2]
      refine rr_ge (by decide) rp_1 (Int.le_refl FP.Core.b64.qmin) (by omega) ?_
      rw [Int.sub_self, Nat.mul_one, Nat.one_mul]
      have hn : 0 < (FP.Core.sumUnits s c q t d r (min q r)).natAbs := by omega
      exact Nat.mul_pos hn (Nat.two_pow_pos _)
    exact absurd h3 (by decide +kernel)
theorem gp_zero {x : UInt64} (h : gp 0 0 x) : x = FP.dconst0 := by
  obtain ⟨⟨c, q, e⟩, h1, h2⟩ := h
  have hc : c = 0 := by
    unfold fz at h2
    rw [e] at h2
    refine Classical.byContradiction (fun hc => ?_)
    have : 0 < FP.Core.zmag FP.Core.b64 (.fin false c q) := Nat.mul_pos (by omega) (Nat.two_pow_pos _)
    omega
  subst hc
  have hq := FP.Core.fits_zero_q FP.Core.good_b64 (e ▸ FP.Core.val64_fits x)
  refine FP.Core.val64_inj (by rw [e]; exact FP.Core.Datum.noConfusion) ?_
  rw [e, hq]
  exact FP.Core.val64_dconst0.symm
theorem fb_add0 {N : Nat} {a : UInt64} (ha : fb N a) (hz : a ≠ FP.Core.dzeroNeg) : FP.dadd a FP.dconst0 = a := by
  obtain ⟨⟨s, c, q, ea⟩, la⟩ := ha
  exact FP.Core.dadd_zero (by rw [ea]; exact FP.Core.Datum.noConfusion) hz
theorem gp_nz {L N : Nat} {a : UInt64} (h : gp L N a) : a ≠ FP.Core.dzeroNeg := by
  obtain ⟨⟨c, q, e⟩, -⟩ := h
  intro e2
  rw [e2, FP.Core.val64_dzeroNeg] at e
  injection e with e3
  exact absurd e3 (by decide)
theorem c0_nz : FP.dconst0 ≠ FP.Core.dzeroNeg := gp_nz gp_0
theorem i2d_fb {x : Int32} {K : Nat} (h : x.toInt.natAbs ≤ K) (hK : K < 9007199254740992) : fb (K * uo) (FP.i2d x) := by
  have e : FP.i2d x = FP.l2d x.toInt64 := FP.Core.i2d_l2d x
  rw [e]
  exact l2d_fb (by rw [Int32.toInt_toInt64]; exact h) hK
end
/-! ===== correlations: numbers and the lab ===== -/
section
/-- configurations at a distance from the least energy; how two spins agree in them -/
def pc (E : Nat → Int32) (n i k : Nat) : Nat := ct (fun c => decide (ui E n c = k)) i
def am (E : Nat → Int32) (n s t k : Nat) : Nat → Int32
  | 0 => 0
  | i + 1 => am E n s t k i + (if ui E n i = k then (if i.testBit s = i.testBit t then 1 else -1) else 0)
def cT (E : Nat → Int32) (n s t : Nat) (r : UInt64) (k : Nat) : UInt64 := FP.dmul (FP.i2d (am E n s t k (2 ^ n))) (wP r k)
def cB (E : Nat → Int32) (n : Nat) (r : UInt64) (k : Nat) : UInt64 := FP.dmul (FP.i2d (nI (pc E n (2 ^ n) k))) (wP r k)
def cS (E : Nat → Int32) (n s t : Nat) (r : UInt64) : Nat → UInt64
  | 0 => FP.dconst0
  | k + 1 => FP.dadd (cS E n s t r k) (cT E n s t r k)
def cA (E : Nat → Int32) (n : Nat) (r : UInt64) : Nat → UInt64
  | 0 => FP.dconst0
  | k + 1 => FP.dadd (cA E n r k) (cB E n r k)
def co (E : Nat → Int32) (n s t : Nat) (r : UInt64) : UInt64 := FP.ddiv (cS E n s t r 289) (cA E n r 289)
variable {E : Nat → Int32} {n s t : Nat} {r : UInt64}
theorem am_bd (k : Nat) : ∀ i, i ≤ 65536 → -(pc E n i k : Int) ≤ (am E n s t k i).toInt ∧ (am E n s t k i).toInt ≤ (pc E n i k : Int)
  | 0, _ => by
    rw [am]
    exact ⟨by show -((0 : Nat) : Int) ≤ 0; omega, by show (0 : Int) ≤ ((0 : Nat) : Int); omega⟩
  | i + 1, hi => by
    have ih := am_bd k i (by omega)
    have hp : pc E n i k ≤ i := ct_le _ i
    have e : pc E n (i + 1) k = pc E n i k + if decide (ui E n i = k) = true then 1 else 0 := rfl
    rw [am, e]
    by_cases h : ui E n i = k
    · rw [if_pos h, if_pos (decide_eq_true h)]
      have h1 : -(1 : Int) ≤ (if i.testBit s = i.testBit t then (1 : Int32) else -1).toInt ∧ (if i.testBit s = i.testBit t then (1 : Int32) else -1).toInt ≤ 1 := by
        split
        · exact ⟨by decide, by decide⟩
        · exact ⟨by decide, by decide⟩
      rw [i32_addT ih h1 (by omega)]
      omega
    · rw [if_neg h, if_neg (by rw [decide_eq_false h]; decide), Int32.add_zero]
      omega
theorem pc_le (hB : EB E n) (k : Nat) : pc E n (2 ^ n) k ≤ 65536 := Nat.le_trans (ct_le _ _) (pow16 hB.1)
theorem am_0 (hB : EB E n) {k : Nat} (h : pc E n (2 ^ n) k = 0) : am E n s t k (2 ^ n) = 0 := by
  have h2 := am_bd (E := E) (n := n) (s := s) (t := t) k (2 ^ n) (pow16 hB.1)
  rw [h] at h2
  apply Int32.toInt_inj.mp
  show (am E n s t k (2 ^ n)).toInt = 0
  omega
theorem pc_no (hB : EB E n) {k : Nat} (h : ∀ c, c < 2 ^ n → ui E n c ≠ k) : pc E n (2 ^ n) k = 0 := by
  refine Classical.byContradiction (fun h2 => ?_)
  obtain ⟨c, hc, e⟩ := ct_pos.mp (Nat.pos_of_ne_zero h2)
  exact h c hc (of_decide_eq_true e)
theorem pc_pos (hB : EB E n) : 0 < pc E n (2 ^ n) 0 := by
  have h1 := (lv_get hB (lv_pos hB)).2.1
  obtain ⟨c, hc, e⟩ := ct_pos.mp h1
  have e2 := of_decide_eq_true e
  refine ct_pos.mpr ⟨c, hc, decide_eq_true ?_⟩
  obtain ⟨-, h2, -, -⟩ := yL_ok hB hc
  unfold ui
  rw [← e2, ← h2]
  omega
theorem cT_fb (hB : EB E n) (hr : gp 0 uo r) (k : Nat) : fb (65536 * uo) (cT E n s t r k) := by
  have h := am_bd (E := E) (n := n) (s := s) (t := t) k (2 ^ n) (pow16 hB.1)
  have h2 := pc_le hB k
  exact fb_mul (i2d_fb (K := 65536) (by omega) (by decide)) (gp_fb (wP_gp hr k)) (rp_n (by decide)) (Nat.le_refl _)
theorem cT_0 (hB : EB E n) (hr : gp 0 uo r) {k : Nat} (h : pc E n (2 ^ n) k = 0) : cT E n s t r k = FP.dconst0 := by
  unfold cT
  rw [am_0 hB h]
  have h0 := i2d_n (k := 0) (by decide)
  rw [Nat.zero_mul, nI_0] at h0
  exact gp_zero (gp_mul h0 (wP_gp hr k) rp_0 (by rw [Nat.zero_mul]; exact Nat.zero_le _) rp_0 (by rw [Nat.zero_mul]; exact Nat.zero_le _))
theorem cB_gp (hB : EB E n) (hr : gp 0 uo r) (k : Nat) : gp 0 (65536 * uo) (cB E n r k) := by
  have h2 := pc_le hB k
  exact gp_mul (i2d_n (k := pc E n (2 ^ n) k) (by omega)) (wP_gp hr k) (rp_n (by decide)) (Nat.mul_le_mul_right _ (Nat.mul_le_mul_right _ h2)) rp_0 (by rw [Nat.zero_mul]; exact Nat.zero_le _)
theorem cB_0 (hB : EB E n) (hr : gp 0 uo r) {k : Nat} (h : pc E n (2 ^ n) k = 0) : cB E n r k = FP.dconst0 := by
  unfold cB
  rw [h]
  have h0 := i2d_n (k := 0) (by decide)
  rw [Nat.zero_mul] at h0
  exact gp_zero (gp_mul h0 (wP_gp hr k) rp_0 (by rw [Nat.zero_mul]; exact Nat.zero_le _) rp_0 (by rw [Nat.zero_mul]; exact Nat.zero_le _))
theorem cB_1 (hB : EB E n) : gp uo (65536 * uo) (cB E n r 0) := by
  have h2 := pc_le hB 0
  have h3 := pc_pos hB
  have e : wP r 0 = FP.dconst1 := rfl
  unfold cB
  rw [e]
  exact gp_mul (i2d_n (k := pc E n (2 ^ n) 0) (by omega)) gp_1 (rp_n (by decide)) (Nat.mul_le_mul_right _ (Nat.mul_le_mul_right _ h2)) rp_u (by
    rw [Nat.mul_assoc]
    exact Nat.le_mul_of_pos_left _ h3)
theorem cS_ok (hB : EB E n) (hr : gp 0 uo r) : ∀ j, j ≤ 401 → fb (j * 65536 * uo) (cS E n s t r j) ∧ cS E n s t r j ≠ FP.Core.dzeroNeg
  | 0, _ => by
    simp only [Nat.zero_mul]
    exact ⟨gp_fb gp_0, c0_nz⟩
  | j + 1, hj => by
    obtain ⟨h1, h2⟩ := cS_ok hB hr j (by omega)
    have h3 := cT_fb (s := s) (t := t) hB hr j
    refine ⟨fb_add h1 h3 (rp_n (by omega)) ?_, nz_add h1 h2 h3⟩
    rw [← Nat.add_mul, Nat.add_mul j 1, Nat.one_mul]
    exact Nat.le_refl _
theorem cA_ok (hB : EB E n) (hr : gp 0 uo r) : ∀ j, j + 1 ≤ 401 → gp uo ((j + 1) * 65536 * uo) (cA E n r (j + 1))
  | 0, _ => by
    have h := cB_1 (r := r) hB
    rw [Nat.one_mul]
    exact gp_add gp_0 h (rp_n (by decide)) (by rw [Nat.zero_add]; exact Nat.le_refl _) rp_u (by rw [Nat.zero_add]; exact Nat.le_refl _)
  | j + 1, hj => by
    have h1 := cA_ok hB hr j (by omega)
    have h3 := cB_gp (E := E) hB hr (j + 1)
    refine gp_add h1 h3 (rp_n (by omega)) ?_ rp_u (Nat.le_add_right _ _)
    rw [← Nat.add_mul, Nat.add_mul (j + 1) 1, Nat.one_mul]
    exact Nat.le_refl _
theorem cA_n (hB : EB E n) (hr : gp 0 uo r) {j : Nat} (hj : j ≤ 401) : isNaN64 (cA E n r j) = false ∧ cA E n r j ≠ FP.Core.dzeroNeg ∧ ∃ N, fb N (cA E n r j) := by
  cases j with
  | zero => exact ⟨fb_n (gp_fb gp_0), c0_nz, _, gp_fb gp_0⟩
  | succ j =>
    have h := cA_ok (E := E) hB hr j hj
    exact ⟨fb_n (gp_fb h), gp_nz h, _, gp_fb h⟩
theorem c_skip (hB : EB E n) (hr : gp 0 uo r) {k : Nat} (hk : k ≤ 401) (h : pc E n (2 ^ n) k = 0) : cS E n s t r (k + 1) = cS E n s t r k ∧ cA E n r (k + 1) = cA E n r k := by
  obtain ⟨h1, h2⟩ := cS_ok (s := s) (t := t) hB hr k hk
  obtain ⟨h3, h4, N, h5⟩ := cA_n (E := E) hB hr hk
  rw [cS, cA, cT_0 hB hr h, cB_0 hB hr h]
  exact ⟨fb_add0 h1 h2, fb_add0 h5 h4⟩
theorem c_far (hB : EB E n) (hr : gp 0 uo r) : ∀ (d i : Nat), i + d ≤ 401 → (∀ k, i ≤ k → k < i + d → pc E n (2 ^ n) k = 0) → cS E n s t r (i + d) = cS E n s t r i ∧ cA E n r (i + d) = cA E n r i
  | 0, i, _, _ => ⟨rfl, rfl⟩
  | d + 1, i, hi, h => by
    obtain ⟨h1, h2⟩ := c_far hB hr d i (by omega) (fun k a b => h k a (by omega))
    obtain ⟨h3, h4⟩ := c_skip (s := s) (t := t) hB hr (k := i + d) (by omega) (h (i + d) (by omega) (by omega))
    rw [← Nat.add_assoc, h3, h4]
    exact ⟨h1, h2⟩
theorem co_fb (hB : EB E n) (hr : gp 0 uo r) : fb (289 * 65536 * uo) (co E n s t r) :=
  fb_div (cS_ok hB hr 289 (by decide)).1 (cA_ok hB hr 288 (by decide)) uo_pos (rp_n (by decide)) (Nat.le_refl _)
theorem xbit {c s t : Nat} : ((c / 2 ^ s ^^^ c / 2 ^ t) % 2 = 0) = (c.testBit s = c.testBit t) := by
  have h := Nat.testBit_xor (c / 2 ^ s) (c / 2 ^ t) 0
  rw [Nat.testBit_zero, Nat.testBit_div_two_pow, Nat.testBit_div_two_pow, Nat.zero_add, Nat.zero_add] at h
  apply propext
  constructor
  · intro e
    rw [e] at h
    have h2 : (c.testBit s ^^ c.testBit t) = false := h.symm
    cases h3 : c.testBit s <;> cases h4 : c.testBit t <;> rw [h3, h4] at h2 <;> first | rfl | exact absurd h2 (by decide)
  · intro e
    rw [e, Bool.xor_self] at h
    have := of_decide_eq_false h
    omega
variable {S : xS} {I : xI} {J : xJ} {D : xDb} {R : xR} {b : Nat × Nat} {Q : xQ} {x y : Nat}
/-- the rows of the lab -/
def GC (E : Nat → Int32) (n s t i : Nat) (I0 I : xI) : Prop := (∀ k, k < 289 → I 137 k = nI (pc E n i k) ∧ I 138 k = am E n s t k i) ∧ ∀ o k, o ≠ 137 → o ≠ 138 → I o k = I0 o k
theorem GC_XL {i : Nat} {I0 : xI} (h : GC E n s t i I0 I) (hX : XL n E S I0 R) : XL n E S I R := by
  obtain ⟨x1, x2, x3, x4, x5, x6, x7, x8⟩ := hX
  have f := h.2
  refine ⟨x1, ?_, ?_, ?_, ?_, ?_, ?_, fun c hc => ?_⟩
  · rw [f _ _ (by decide) (by decide)]; exact x2
  · rw [f _ _ (by decide) (by decide)]; exact x3
  · rw [f _ _ (by decide) (by decide)]; exact x4
  · rw [f _ _ (by decide) (by decide)]; exact x5
  · rw [f _ _ (by decide) (by decide)]; exact x6
  · intro i hi
    rw [f _ _ (by decide) (by decide), f _ _ (by decide) (by decide), f _ _ (by decide) (by decide)]
    exact x7 i hi
  · rw [f _ _ (by decide) (by decide)]; exact x8 c hc
theorem L111_18 {I0 : xI} (hL : LC S R) (hX0 : XL n E S I0 R) (hB : EB E n) (hs : s < 16) (ht : t < 16)
    (kk : ∀ I, GC E n s t (2 ^ n) I0 I → xRun xT 111 83 [(0, .ref 130)] [] (S, I, J, D, R) b Q) :
    ∀ (j i : Nat) (I : xI), i + j = 2 ^ n → GC E n s t i I0 I → xRun xT 111 18 [(0, .ref 130), (1, .int (nI s)), (2, .int (nI t)), (3, .int (nI i))] [] (S, I, J, D, R) b Q
  | 0, i, I, hi, h => by
    have hp := pow16 hB.1
    have hX := GC_XL h hX0
    have e : i = 2 ^ n := by omega
    subst e
    rw [e111_18]
    simp only [B111_18, xSeq, i_push, i_load, i_iload, i_lload, i_dload, i_aload, i_istore, i_astore, i_lstore, i_dstore, i_iinc, i_ii, i_iiz, i_ll, i_llz, i_lli, i_li, i_i, i_l, i_i2l, i_l2i, i_dup, i_dup2, i_dup2w, i_dupx1, i_pop, i_pop2, i_goto, i_ifc, i_icmp, i_getI, i_getL, i_getR, i_putI, i_putZ, i_putL, i_putR, i_aldI, i_aldB, i_aldL, i_aldD, i_astI, i_astL, i_astD, i_alen, i_ret, i_iret, i_zret, i_lret, i_fret, i_dret, i_aret, i_invS0, i_invV0, i_m2, i_m1, i_ml, i_obj, lk, lkp, stf1, stf2, Value.category, rV, xTo, lv_args, xCk, xCat, xRc, xAk, hg_S, hg_I, hg_J, hg_D, hg_R, hs_I, hs_J, hs_D, hs_R, uI_at, uJ_at, uD_at, uR_at, List.take_succ_cons, List.take_zero, List.drop_succ_cons, List.drop_zero, List.reverse_cons, List.reverse_nil, List.nil_append, List.cons_append, List.map_cons, List.map_nil, List.sum_cons, List.sum_nil, List.length_cons, List.length_nil, Option.toList_some, Option.toList_none, true_and, and_true, false_and, and_false, true_implies, false_implies, implies_true, not_true_eq_false, not_false_eq_true, ne_eq, if_true, if_false, Bool.and_true, Bool.true_and, decide_true, decide_false, reduceIte, reduceCtorEq, Bool.and_self, Bool.and_eq_true, decide_eq_true_eq, and_self, true_or, or_true, false_or, or_false, Nat.zero_add, Nat.add_zero, eq_self, Nat.reduceEqDiff, Nat.reduceLeDiff, Nat.reduceLT, Nat.reduceAdd, Nat.reduceSub, Nat.reduceMul, LC_out hL, hX.2.2.2.1, nI_leP (show 2 ^ n < 2147483648 by omega) (show 2 ^ n < 2147483648 by omega), Nat.le_refl]
    exact kk I h
  | j + 1, i, I, hi, h => by
    have hp := pow16 hB.1
    have hX := GC_XL h hX0
    have hc : i < 2 ^ n := by omega
    obtain ⟨u1, u2⟩ := ui_ok hB hc
    have nx := fun I => L111_18 hL hX0 hB hs ht kk j (i + 1) I (by omega)
    obtain ⟨u, hu⟩ : ∃ u, u = ui E n i := ⟨_, rfl⟩
    rw [← hu] at u1 u2
    obtain ⟨g1, g2⟩ := h.1 u u2
    have eb : (jRem (nI (i / 2 ^ s) ^^^ nI (i / 2 ^ t)) 2 = 0) = (i.testBit s = i.testBit t) := by
      have hd1 := Nat.div_le_self i (2 ^ s)
      have hd2 := Nat.div_le_self i (2 ^ t)
      have hx : i / 2 ^ s ^^^ i / 2 ^ t < 2 ^ 31 := Nat.xor_lt_two_pow (by omega) (by omega)
      rw [i_xorN, show (2 : Int32) = nI 2 from rfl, q_rem hx (by decide) (by decide), show (0 : Int32) = nI 0 from rfl, nI_iff (by omega) (by decide), xbit]
    have fin : ∀ v : Int32, v = (if i.testBit s = i.testBit t then 1 else -1) → GC E n s t (i + 1) I0 (uI (uI I 137 u (nI (pc E n i u + 1))) 138 u (am E n s t u i + v)) := fun v hv => by
      refine ⟨fun k hk => ?_, fun o k h1 h2 => ?_⟩
      · have e1 : pc E n (i + 1) k = pc E n i k + if decide (ui E n i = k) = true then 1 else 0 := rfl
        have e2 : am E n s t k (i + 1) = am E n s t k i + (if ui E n i = k then (if i.testBit s = i.testBit t then 1 else -1) else 0) := rfl
        rw [e1, e2, ← hu, ← hv]
        obtain ⟨k1, k2⟩ := h.1 k hk
        by_cases e : k = u
        · subst e
          simp only [uI_at, true_and, and_true, false_and, and_false, true_implies, false_implies, implies_true, not_true_eq_false, not_false_eq_true, ne_eq, if_true, if_false, Bool.and_true, Bool.true_and, decide_true, decide_false, reduceIte, reduceCtorEq, Bool.and_self, Bool.and_eq_true, decide_eq_true_eq, and_self, true_or, or_true, false_or, or_false, Nat.zero_add, Nat.add_zero, eq_self, Nat.reduceEqDiff, Nat.reduceLeDiff, Nat.reduceLT, Nat.reduceAdd, Nat.reduceSub, Nat.reduceMul, if_true, decide_true]
        · have e' : ¬ u = k := fun h => e h.symm
          simp only [uI_at, true_and, and_true, false_and, and_false, true_implies, false_implies, implies_true, not_true_eq_false, not_false_eq_true, ne_eq, if_true, if_false, Bool.and_true, Bool.true_and, decide_true, decide_false, reduceIte, reduceCtorEq, Bool.and_self, Bool.and_eq_true, decide_eq_true_eq, and_self, true_or, or_true, false_or, or_false, Nat.zero_add, Nat.add_zero, eq_self, Nat.reduceEqDiff, Nat.reduceLeDiff, Nat.reduceLT, Nat.reduceAdd, Nat.reduceSub, Nat.reduceMul, e, e', if_false, decide_false, Nat.add_zero, Int32.add_zero, and_false]
          exact ⟨k1, k2⟩
      · rw [uI_at, if_neg (fun e => h2 e.1), uI_at, if_neg (fun e => h1 e.1)]
        exact h.2 o k h1 h2
    rw [e111_18]
    simp only [B111_18, xSeq, i_push, i_load, i_iload, i_lload, i_dload, i_aload, i_istore, i_astore, i_lstore, i_dstore, i_iinc, i_ii, i_iiz, i_ll, i_llz, i_lli, i_li, i_i, i_l, i_i2l, i_l2i, i_dup, i_dup2, i_dup2w, i_dupx1, i_pop, i_pop2, i_goto, i_ifc, i_icmp, i_getI, i_getL, i_getR, i_putI, i_putZ, i_putL, i_putR, i_aldI, i_aldB, i_aldL, i_aldD, i_astI, i_astL, i_astD, i_alen, i_ret, i_iret, i_zret, i_lret, i_fret, i_dret, i_aret, i_invS0, i_invV0, i_m2, i_m1, i_ml, i_obj, lk, lkp, stf1, stf2, Value.category, rV, xTo, lv_args, xCk, xCat, xRc, xAk, hg_S, hg_I, hg_J, hg_D, hg_R, hs_I, hs_J, hs_D, hs_R, uI_at, uJ_at, uD_at, uR_at, List.take_succ_cons, List.take_zero, List.drop_succ_cons, List.drop_zero, List.reverse_cons, List.reverse_nil, List.nil_append, List.cons_append, List.map_cons, List.map_nil, List.sum_cons, List.sum_nil, List.length_cons, List.length_nil, Option.toList_some, Option.toList_none, true_and, and_true, false_and, and_false, true_implies, false_implies, implies_true, not_true_eq_false, not_false_eq_true, ne_eq, if_true, if_false, Bool.and_true, Bool.true_and, decide_true, decide_false, reduceIte, reduceCtorEq, Bool.and_self, Bool.and_eq_true, decide_eq_true_eq, and_self, true_or, or_true, false_or, or_false, Nat.zero_add, Nat.add_zero, eq_self, Nat.reduceEqDiff, Nat.reduceLeDiff, Nat.reduceLT, Nat.reduceAdd, Nat.reduceSub, Nat.reduceMul, LC_out hL, LE_out hX.1, hX.2.2.2.1, hX.2.2.2.2.1, nI_leP (show 2 ^ n < 2147483648 by omega) (show i < 2147483648 by omega), show (2 ^ n ≤ i) = False from eq_false (by omega), nI_inP (show i < 65536 by omega) (by decide), nI_ix (show i < 2147483648 by omega), hX.2.2.2.2.2.2.2 i hc, u1, nI_inP u2 (by decide), nI_ix (show u < 2147483648 by omega), g1, g2, i_shr (show i < 2147483648 by omega) (show s < 31 by omega), i_shr (show i < 2147483648 by omega) (show t < 31 by omega), eb, e111_74, B111_74, e111_75, B111_75, nI_1]
    by_cases hb : i.testBit s = i.testBit t
    · simp only [hb, true_and, and_true, false_and, and_false, true_implies, false_implies, implies_true, not_true_eq_false, not_false_eq_true, ne_eq, if_true, if_false, Bool.and_true, Bool.true_and, decide_true, decide_false, reduceIte, reduceCtorEq, Bool.and_self, Bool.and_eq_true, decide_eq_true_eq, and_self, true_or, or_true, false_or, or_false, Nat.zero_add, Nat.add_zero, eq_self, Nat.reduceEqDiff, Nat.reduceLeDiff, Nat.reduceLT, Nat.reduceAdd, Nat.reduceSub, Nat.reduceMul]
      exact ⟨by decide, nx _ (fin 1 (by rw [if_pos hb]))⟩
    · simp only [hb, true_and, and_true, false_and, and_false, true_implies, false_implies, implies_true, not_true_eq_false, not_false_eq_true, ne_eq, if_true, if_false, Bool.and_true, Bool.true_and, decide_true, decide_false, reduceIte, reduceCtorEq, Bool.and_self, Bool.and_eq_true, decide_eq_true_eq, and_self, true_or, or_true, false_or, or_false, Nat.zero_add, Nat.add_zero, eq_self, Nat.reduceEqDiff, Nat.reduceLeDiff, Nat.reduceLT, Nat.reduceAdd, Nat.reduceSub, Nat.reduceMul]
      exact ⟨by decide, nx _ (fin (-1) (by rw [if_neg hb]))⟩
theorem R111_91 (hL : LC S R) (hB : EB E n) (h : AB x y) (hI : ∀ k, k < 289 → I 137 k = nI (pc E n (2 ^ n) k) ∧ I 138 k = am E n s t k (2 ^ n)) (hD : ∀ k, k < 289 → D 139 k = wP (rtP x y) k) : ∀ (j i : Nat) (p q : UInt64), i + j = 289 → p = cS E n s t (rtP x y) i → q = cA E n (rtP x y) i → xRun xT 111 91 [(0, .ref 130), (3, .double p), (5, .double q), (7, .int (nI i))] [] (S, I, J, D, R) b Q = Q (.ok (some (.double (co E n s t (rtP x y))))) (S, I, J, D, R) b
  | 0, i, p, q, hi, hp, hq => by
    have hr := rtP_gp h
    have e : i = 289 := by omega
    subst e
    have e2 : FP.ddiv p q = co E n s t (rtP x y) := by rw [hp, hq]; rfl
    have h1 : FP.dcmp q FP.dconst0 = some .gt := by rw [hq]; exact gp_cmp (cA_ok hB hr 288 (by decide)) uo_pos
    have h2 : isNaN64 (FP.ddiv p q) = false := by rw [e2]; exact fb_n (co_fb (s := s) (t := t) hB hr)
    rw [e111_91]
    simp only [B111_91, xSeq, i_push, i_load, i_iload, i_lload, i_dload, i_aload, i_istore, i_astore, i_lstore, i_dstore, i_iinc, i_ii, i_iiz, i_ll, i_llz, i_lli, i_li, i_i, i_l, i_i2l, i_l2i, i_dup, i_dup2, i_dup2w, i_dupx1, i_pop, i_pop2, i_goto, i_ifc, i_icmp, i_getI, i_getL, i_getR, i_putI, i_putZ, i_putL, i_putR, i_aldI, i_aldB, i_aldL, i_aldD, i_astI, i_astL, i_astD, i_alen, i_ret, i_iret, i_zret, i_lret, i_fret, i_dret, i_aret, i_invS0, i_invV0, i_m2, i_m1, i_ml, i_obj, lk, lkp, stf1, stf2, Value.category, rV, xTo, lv_args, xCk, xCat, xRc, xAk, hg_S, hg_I, hg_J, hg_D, hg_R, hs_I, hs_J, hs_D, hs_R, uI_at, uJ_at, uD_at, uR_at, List.take_succ_cons, List.take_zero, List.drop_succ_cons, List.drop_zero, List.reverse_cons, List.reverse_nil, List.nil_append, List.cons_append, List.map_cons, List.map_nil, List.sum_cons, List.sum_nil, List.length_cons, List.length_nil, Option.toList_some, Option.toList_none, true_and, and_true, false_and, and_false, true_implies, false_implies, implies_true, not_true_eq_false, not_false_eq_true, ne_eq, if_true, if_false, Bool.and_true, Bool.true_and, decide_true, decide_false, reduceIte, reduceCtorEq, Bool.and_self, Bool.and_eq_true, decide_eq_true_eq, and_self, true_or, or_true, false_or, or_false, Nat.zero_add, Nat.add_zero, eq_self, Nat.reduceEqDiff, Nat.reduceLeDiff, Nat.reduceLT, Nat.reduceAdd, Nat.reduceSub, Nat.reduceMul, LC_out hL, show ((289 : Int32) ≤ nI 289) = True from eq_true (by decide), e111_145, B111_145]
    rw [R108 h1 h2, e2]
    simp only [xSeq, i_push, i_load, i_iload, i_lload, i_dload, i_aload, i_istore, i_astore, i_lstore, i_dstore, i_iinc, i_ii, i_iiz, i_ll, i_llz, i_lli, i_li, i_i, i_l, i_i2l, i_l2i, i_dup, i_dup2, i_dup2w, i_dupx1, i_pop, i_pop2, i_goto, i_ifc, i_icmp, i_getI, i_getL, i_getR, i_putI, i_putZ, i_putL, i_putR, i_aldI, i_aldB, i_aldL, i_aldD, i_astI, i_astL, i_astD, i_alen, i_ret, i_iret, i_zret, i_lret, i_fret, i_dret, i_aret, i_invS0, i_invV0, i_m2, i_m1, i_ml, i_obj, lk, lkp, stf1, stf2, Value.category, rV, xTo, lv_args, xCk, xCat, xRc, xAk, hg_S, hg_I, hg_J, hg_D, hg_R, hs_I, hs_J, hs_D, hs_R, uI_at, uJ_at, uD_at, uR_at, List.take_succ_cons, List.take_zero, List.drop_succ_cons, List.drop_zero, List.reverse_cons, List.reverse_nil, List.nil_append, List.cons_append, List.map_cons, List.map_nil, List.sum_cons, List.sum_nil, List.length_cons, List.length_nil, Option.toList_some, Option.toList_none, true_and, and_true, false_and, and_false, true_implies, false_implies, implies_true, not_true_eq_false, not_false_eq_true, ne_eq, if_true, if_false, Bool.and_true, Bool.true_and, decide_true, decide_false, reduceIte, reduceCtorEq, Bool.and_self, Bool.and_eq_true, decide_eq_true_eq, and_self, true_or, or_true, false_or, or_false, Nat.zero_add, Nat.add_zero, eq_self, Nat.reduceEqDiff, Nat.reduceLeDiff, Nat.reduceLT, Nat.reduceAdd, Nat.reduceSub, Nat.reduceMul]
  | j + 1, i, p, q, hi, hp, hq => by
    have hr := rtP_gp h
    obtain ⟨g1, g2⟩ := hI i (by omega)
    have g3 := hD i (by omega)
    have e0 : ((289 : Int32) ≤ nI i) = False := by rw [show (289 : Int32) = nI 289 from rfl, nI_leP (by decide) (show i < 2147483648 by omega)]; exact eq_false (by omega)
    obtain ⟨a, ha⟩ : ∃ a, a = am E n s t i (2 ^ n) := ⟨_, rfl⟩
    obtain ⟨c, hc⟩ : ∃ c, c = nI (pc E n (2 ^ n) i) := ⟨_, rfl⟩
    obtain ⟨w, hw⟩ : ∃ w, w = wP (rtP x y) i := ⟨_, rfl⟩
    obtain ⟨v1, h1⟩ : ∃ v, v = cT E n s t (rtP x y) i := ⟨_, rfl⟩
    obtain ⟨v2, h2⟩ : ∃ v, v = cB E n (rtP x y) i := ⟨_, rfl⟩
    obtain ⟨v3, h3⟩ : ∃ v, v = cS E n s t (rtP x y) (i + 1) := ⟨_, rfl⟩
    obtain ⟨v4, h4⟩ : ∃ v, v = cA E n (rtP x y) (i + 1) := ⟨_, rfl⟩
    have ih := R111_91 hL hB h hI hD j (i + 1) v3 v4 (by omega) h3 h4
    rw [← ha] at g2
    rw [← hc] at g1
    rw [← hw] at g3
    have e1 : FP.dmul (FP.i2d a) w = v1 := by rw [ha, hw, h1]; rfl
    have e2 : FP.dmul (FP.i2d c) w = v2 := by rw [hc, hw, h2]; rfl
    have e3 : FP.dadd p v1 = v3 := by rw [hp, h1, h3]; rfl
    have e4 : FP.dadd q v2 = v4 := by rw [hq, h2, h4]; rfl
    have n1 : isNaN64 v1 = false := by rw [h1]; exact fb_n (cT_fb hB hr i)
    have n2 : isNaN64 v2 = false := by rw [h2]; exact fb_n (gp_fb (cB_gp hB hr i))
    have n3 : isNaN64 v3 = false := by rw [h3]; exact fb_n (cS_ok hB hr (i + 1) (by omega)).1
    have n4 : isNaN64 v4 = false := by rw [h4]; exact (cA_n hB hr (by omega)).1
    rw [e111_91]
    simp only [B111_91, xSeq, i_push, i_load, i_iload, i_lload, i_dload, i_aload, i_istore, i_astore, i_lstore, i_dstore, i_iinc, i_ii, i_iiz, i_ll, i_llz, i_lli, i_li, i_i, i_l, i_i2l, i_l2i, i_dup, i_dup2, i_dup2w, i_dupx1, i_pop, i_pop2, i_goto, i_ifc, i_icmp, i_getI, i_getL, i_getR, i_putI, i_putZ, i_putL, i_putR, i_aldI, i_aldB, i_aldL, i_aldD, i_astI, i_astL, i_astD, i_alen, i_ret, i_iret, i_zret, i_lret, i_fret, i_dret, i_aret, i_invS0, i_invV0, i_m2, i_m1, i_ml, i_obj, lk, lkp, stf1, stf2, Value.category, rV, xTo, lv_args, xCk, xCat, xRc, xAk, hg_S, hg_I, hg_J, hg_D, hg_R, hs_I, hs_J, hs_D, hs_R, uI_at, uJ_at, uD_at, uR_at, List.take_succ_cons, List.take_zero, List.drop_succ_cons, List.drop_zero, List.reverse_cons, List.reverse_nil, List.nil_append, List.cons_append, List.map_cons, List.map_nil, List.sum_cons, List.sum_nil, List.length_cons, List.length_nil, Option.toList_some, Option.toList_none, true_and, and_true, false_and, and_false, true_implies, false_implies, implies_true, not_true_eq_false, not_false_eq_true, ne_eq, if_true, if_false, Bool.and_true, Bool.true_and, decide_true, decide_false, reduceIte, reduceCtorEq, Bool.and_self, Bool.and_eq_true, decide_eq_true_eq, and_self, true_or, or_true, false_or, or_false, Nat.zero_add, Nat.add_zero, eq_self, Nat.reduceEqDiff, Nat.reduceLeDiff, Nat.reduceLT, Nat.reduceAdd, Nat.reduceSub, Nat.reduceMul, LC_out hL, e0, nI_inP (show i < 289 by omega) (by decide), nI_ix (show i < 2147483648 by omega), g1, g2, g3, i_i2d, i_dd, e1, al_eq n1, e3, al_eq n3, e2, al_eq n2, e4, al_eq n4, nI_1, ih]
theorem L111 (hL : LC S R) (hX : XL n E S I R) (hB : EB E n) (h : AB x y) (hs : s < 16) (ht : t < 16) (hD : ∀ k, k < 289 → D 139 k = wP (rtP x y) k)
    (kk : ∀ I', (∀ o k, o ≠ 137 → o ≠ 138 → I' o k = I o k) → Q (.ok (some (.double (co E n s t (rtP x y))))) (S, I', J, D, R) b) : xRun xT 111 0 [(0, .ref 130), (1, .int (nI s)), (2, .int (nI t))] [] (S, I, J, D, R) b Q := by
  have s137 : S 137 = (100, 289) := by simp only [LC_out hL]
  have s138 : S 138 = (100, 289) := by simp only [LC_out hL]
  have y1 := fun (I : xI) (b : Nat × Nat) (Q : xQ) => Y6 (S := S) (I := I) (J := J) (D := D) (R := R) (b := b) (Q := Q) (v := 0) s137 (by decide)
  have y2 := fun (I : xI) (b : Nat × Nat) (Q : xQ) => Y6 (S := S) (I := I) (J := J) (D := D) (R := R) (b := b) (Q := Q) (v := 0) s138 (by decide)
  rw [e111_0]
  simp only [B111_0, xSeq, i_push, i_load, i_iload, i_lload, i_dload, i_aload, i_istore, i_astore, i_lstore, i_dstore, i_iinc, i_ii, i_iiz, i_ll, i_llz, i_lli, i_li, i_i, i_l, i_i2l, i_l2i, i_dup, i_dup2, i_dup2w, i_dupx1, i_pop, i_pop2, i_goto, i_ifc, i_icmp, i_getI, i_getL, i_getR, i_putI, i_putZ, i_putL, i_putR, i_aldI, i_aldB, i_aldL, i_aldD, i_astI, i_astL, i_astD, i_alen, i_ret, i_iret, i_zret, i_lret, i_fret, i_dret, i_aret, i_invS0, i_invV0, i_m2, i_m1, i_ml, i_obj, lk, lkp, stf1, stf2, Value.category, rV, xTo, lv_args, xCk, xCat, xRc, xAk, hg_S, hg_I, hg_J, hg_D, hg_R, hs_I, hs_J, hs_D, hs_R, uI_at, uJ_at, uD_at, uR_at, List.take_succ_cons, List.take_zero, List.drop_succ_cons, List.drop_zero, List.reverse_cons, List.reverse_nil, List.nil_append, List.cons_append, List.map_cons, List.map_nil, List.sum_cons, List.sum_nil, List.length_cons, List.length_nil, Option.toList_some, Option.toList_none, true_and, and_true, false_and, and_false, true_implies, false_implies, implies_true, not_true_eq_false, not_false_eq_true, ne_eq, if_true, if_false, Bool.and_true, Bool.true_and, decide_true, decide_false, reduceIte, reduceCtorEq, Bool.and_self, Bool.and_eq_true, decide_eq_true_eq, and_self, true_or, or_true, false_or, or_false, Nat.zero_add, Nat.add_zero, eq_self, Nat.reduceEqDiff, Nat.reduceLeDiff, Nat.reduceLT, Nat.reduceAdd, Nat.reduceSub, Nat.reduceMul, LC_out hL, y1, y2]
  refine L111_18 (I0 := I) hL hX hB hs ht (fun I' h' => ?_) (2 ^ n) 0 _ (by omega) ⟨fun k hk => ?_, fun o k h1 h2 => ?_⟩
  · have h5 := R111_91 (S := S) (R := R) (J := J) (D := D) (b := b) (Q := Q) hL hB h h'.1 hD 289 0 FP.dconst0 FP.dconst0 (by omega) rfl rfl
    rw [nI_0] at h5
    rw [e111_83]
    simp only [B111_83, xSeq, i_push, i_load, i_iload, i_lload, i_dload, i_aload, i_istore, i_astore, i_lstore, i_dstore, i_iinc, i_ii, i_iiz, i_ll, i_llz, i_lli, i_li, i_i, i_l, i_i2l, i_l2i, i_dup, i_dup2, i_dup2w, i_dupx1, i_pop, i_pop2, i_goto, i_ifc, i_icmp, i_getI, i_getL, i_getR, i_putI, i_putZ, i_putL, i_putR, i_aldI, i_aldB, i_aldL, i_aldD, i_astI, i_astL, i_astD, i_alen, i_ret, i_iret, i_zret, i_lret, i_fret, i_dret, i_aret, i_invS0, i_invV0, i_m2, i_m1, i_ml, i_obj, lk, lkp, stf1, stf2, Value.category, rV, xTo, lv_args, xCk, xCat, xRc, xAk, hg_S, hg_I, hg_J, hg_D, hg_R, hs_I, hs_J, hs_D, hs_R, uI_at, uJ_at, uD_at, uR_at, List.take_succ_cons, List.take_zero, List.drop_succ_cons, List.drop_zero, List.reverse_cons, List.reverse_nil, List.nil_append, List.cons_append, List.map_cons, List.map_nil, List.sum_cons, List.sum_nil, List.length_cons, List.length_nil, Option.toList_some, Option.toList_none, true_and, and_true, false_and, and_false, true_implies, false_implies, implies_true, not_true_eq_false, not_false_eq_true, ne_eq, if_true, if_false, Bool.and_true, Bool.true_and, decide_true, decide_false, reduceIte, reduceCtorEq, Bool.and_self, Bool.and_eq_true, decide_eq_true_eq, and_self, true_or, or_true, false_or, or_false, Nat.zero_add, Nat.add_zero, eq_self, Nat.reduceEqDiff, Nat.reduceLeDiff, Nat.reduceLT, Nat.reduceAdd, Nat.reduceSub, Nat.reduceMul]
    rw [h5]
    exact kk I' h'.2
  · refine ⟨?_, ?_⟩
    · rw [rI_at, if_neg (by decide), rI_at, if_pos rfl, fill_at, if_pos hk]; rfl
    · rw [rI_at, if_pos rfl, fill_at, if_pos hk]; rfl
  · rw [rI_at, if_neg h2, rI_at, if_neg h1]
end
/-! ===== correlations: the model ===== -/
section
variable {E : Nat → Int32} {n s t : Nat} {S : xS} {I : xI} {J : xJ} {D : xDb} {R : xR} {b : Nat × Nat} {Q : xQ} {x y : Nat}
/-- where the least energy lies in the model's rows -/
def gd (E : Nat → Int32) (n : Nat) : Nat := (lv E n).getD 0 0 / 17 + 56
theorem gd_ok (hB : EB E n) : gE ((lv E n).getD 0 0) + 200 = nI (gd E n) ∧ gd E n ≤ 344 := by
  have h := (lv_get hB (lv_pos hB)).1
  refine ⟨?_, by unfold gd; omega⟩
  unfold gE gd
  rw [← nI_add]
  show nI _ - 144 + 200 = nI _ + 56
  grind
theorem gd_c (hB : EB E n) {c : Nat} (hc : c < 2 ^ n) : E c + 200 = nI (gd E n + ui E n c) ∧ gd E n + ui E n c ≤ 344 := by
  have h0 := lv_min hB hc
  obtain ⟨h1, h2, h3, h4⟩ := yL_ok hB hc
  obtain ⟨-, h5, h6, -⟩ := eN_ok hB hc
  have h7 : (lv E n).getD 0 0 / 17 ≤ eN E c := by
    rw [← h2]
    exact Nat.div_le_div_right h0
  have e : gd E n + ui E n c = eN E c + 56 := by unfold gd ui; omega
  rw [e]
  exact ⟨h5, by omega⟩
/-- the rows of the model -/
def GM (E : Nat → Int32) (n s t i : Nat) (I0 I : xI) : Prop := (∀ k, gd E n + k < 401 → I 354 (gd E n + k) = nI (pc E n i k) ∧ I 353 (gd E n + k) = am E n s t k i) ∧ ∀ o k, o ≠ 353 → o ≠ 354 → I o k = I0 o k
theorem L321_55 {I0 : xI} {l1 l2 l3 l4 : Int32} (hL : LM S R)
    (kk : ∀ I, (∀ k, k < 401 → I 353 k = 0 ∧ I 354 k = 0) → (∀ o k, o ≠ 353 → o ≠ 354 → I o k = I0 o k) → xRun xT 321 85 [(0, .ref 200), (1, .int l1), (2, .int l2), (3, .int l3), (4, .int l4)] [] (S, I, J, D, R) b Q) :
    ∀ (j i : Nat) (I : xI), i + j = 401 → (∀ k, k < i → I 353 k = 0 ∧ I 354 k = 0) → (∀ o k, o ≠ 353 → o ≠ 354 → I o k = I0 o k) → xRun xT 321 55 [(0, .ref 200), (1, .int l1), (2, .int l2), (3, .int l3), (4, .int l4), (5, .int (nI i))] [] (S, I, J, D, R) b Q
  | 0, i, I, hi, h1, h2 => by
    have e : i = 401 := by omega
    subst e
    rw [e321_55]
    simp only [B321_55, xSeq, i_push, i_load, i_iload, i_lload, i_dload, i_aload, i_istore, i_astore, i_lstore, i_dstore, i_iinc, i_ii, i_iiz, i_ll, i_llz, i_lli, i_li, i_i, i_l, i_i2l, i_l2i, i_dup, i_dup2, i_dup2w, i_dupx1, i_pop, i_pop2, i_goto, i_ifc, i_icmp, i_getI, i_getL, i_getR, i_putI, i_putZ, i_putL, i_putR, i_aldI, i_aldB, i_aldL, i_aldD, i_astI, i_astL, i_astD, i_alen, i_ret, i_iret, i_zret, i_lret, i_fret, i_dret, i_aret, i_invS0, i_invV0, i_m2, i_m1, i_ml, i_obj, lk, lkp, stf1, stf2, Value.category, rV, xTo, lv_args, xCk, xCat, xRc, xAk, hg_S, hg_I, hg_J, hg_D, hg_R, hs_I, hs_J, hs_D, hs_R, uI_at, uJ_at, uD_at, uR_at, List.take_succ_cons, List.take_zero, List.drop_succ_cons, List.drop_zero, List.reverse_cons, List.reverse_nil, List.nil_append, List.cons_append, List.map_cons, List.map_nil, List.sum_cons, List.sum_nil, List.length_cons, List.length_nil, Option.toList_some, Option.toList_none, true_and, and_true, false_and, and_false, true_implies, false_implies, implies_true, not_true_eq_false, not_false_eq_true, ne_eq, if_true, if_false, Bool.and_true, Bool.true_and, decide_true, decide_false, reduceIte, reduceCtorEq, Bool.and_self, Bool.and_eq_true, decide_eq_true_eq, and_self, true_or, or_true, false_or, or_false, Nat.zero_add, Nat.add_zero, eq_self, Nat.reduceEqDiff, Nat.reduceLeDiff, Nat.reduceLT, Nat.reduceAdd, Nat.reduceSub, Nat.reduceMul, LM_out hL, show ((401 : Int32) ≤ nI 401) = True from eq_true (by decide)]
    exact kk I h1 h2
  | j + 1, i, I, hi, h1, h2 => by
    have e0 : ((401 : Int32) ≤ nI i) = False := by rw [show (401 : Int32) = nI 401 from rfl, nI_leP (by decide) (show i < 2147483648 by omega)]; exact eq_false (by omega)
    rw [e321_55]
    simp only [B321_55, xSeq, i_push, i_load, i_iload, i_lload, i_dload, i_aload, i_istore, i_astore, i_lstore, i_dstore, i_iinc, i_ii, i_iiz, i_ll, i_llz, i_lli, i_li, i_i, i_l, i_i2l, i_l2i, i_dup, i_dup2, i_dup2w, i_dupx1, i_pop, i_pop2, i_goto, i_ifc, i_icmp, i_getI, i_getL, i_getR, i_putI, i_putZ, i_putL, i_putR, i_aldI, i_aldB, i_aldL, i_aldD, i_astI, i_astL, i_astD, i_alen, i_ret, i_iret, i_zret, i_lret, i_fret, i_dret, i_aret, i_invS0, i_invV0, i_m2, i_m1, i_ml, i_obj, lk, lkp, stf1, stf2, Value.category, rV, xTo, lv_args, xCk, xCat, xRc, xAk, hg_S, hg_I, hg_J, hg_D, hg_R, hs_I, hs_J, hs_D, hs_R, uI_at, uJ_at, uD_at, uR_at, List.take_succ_cons, List.take_zero, List.drop_succ_cons, List.drop_zero, List.reverse_cons, List.reverse_nil, List.nil_append, List.cons_append, List.map_cons, List.map_nil, List.sum_cons, List.sum_nil, List.length_cons, List.length_nil, Option.toList_some, Option.toList_none, true_and, and_true, false_and, and_false, true_implies, false_implies, implies_true, not_true_eq_false, not_false_eq_true, ne_eq, if_true, if_false, Bool.and_true, Bool.true_and, decide_true, decide_false, reduceIte, reduceCtorEq, Bool.and_self, Bool.and_eq_true, decide_eq_true_eq, and_self, true_or, or_true, false_or, or_false, Nat.zero_add, Nat.add_zero, eq_self, Nat.reduceEqDiff, Nat.reduceLeDiff, Nat.reduceLT, Nat.reduceAdd, Nat.reduceSub, Nat.reduceMul, LM_out hL, e0, nI_inP (show i < 401 by omega) (by decide), nI_ix (show i < 2147483648 by omega), nI_1]
    refine L321_55 hL kk j (i + 1) _ (by omega) (fun k hk => ?_) (fun o k a c => ?_)
    · by_cases e : k = i
      · simp only [uI_at, true_and, and_true, false_and, and_false, true_implies, false_implies, implies_true, not_true_eq_false, not_false_eq_true, ne_eq, if_true, if_false, Bool.and_true, Bool.true_and, decide_true, decide_false, reduceIte, reduceCtorEq, Bool.and_self, Bool.and_eq_true, decide_eq_true_eq, and_self, true_or, or_true, false_or, or_false, Nat.zero_add, Nat.add_zero, eq_self, Nat.reduceEqDiff, Nat.reduceLeDiff, Nat.reduceLT, Nat.reduceAdd, Nat.reduceSub, Nat.reduceMul, e]
      · simp only [uI_at, true_and, and_true, false_and, and_false, true_implies, false_implies, implies_true, not_true_eq_false, not_false_eq_true, ne_eq, if_true, if_false, Bool.and_true, Bool.true_and, decide_true, decide_false, reduceIte, reduceCtorEq, Bool.and_self, Bool.and_eq_true, decide_eq_true_eq, and_self, true_or, or_true, false_or, or_false, Nat.zero_add, Nat.add_zero, eq_self, Nat.reduceEqDiff, Nat.reduceLeDiff, Nat.reduceLT, Nat.reduceAdd, Nat.reduceSub, Nat.reduceMul, e, and_false, if_false]
        exact h1 k (by omega)
    · rw [uI_at, if_neg (fun e => c e.1), uI_at, if_neg (fun e => a e.1)]
      exact h2 o k a c
theorem GM_XM {i : Nat} {I0 : xI} (h : GM E n s t i I0 I) (hX : XM n E I0) : XM n E I := by
  obtain ⟨x1, x2, x3, x4, x5⟩ := hX
  have f := h.2
  refine ⟨?_, ?_, ?_, ?_, fun c hc => ?_⟩
  · rw [f _ _ (by decide) (by decide)]; exact x1
  · rw [f _ _ (by decide) (by decide)]; exact x2
  · rw [f _ _ (by decide) (by decide)]; exact x3
  · intro i hi
    rw [f _ _ (by decide) (by decide), f _ _ (by decide) (by decide), f _ _ (by decide) (by decide)]
    exact x4 i hi
  · rw [f _ _ (by decide) (by decide)]; exact x5 c hc
theorem L321_88 {I0 : xI} {u v : Int32} (hL : LM S R) (hX0 : XM n E I0) (h10 : I0 300 10 = nI n) (hB : EB E n) (hs : s < 16) (ht : t < 16)
    (kk : ∀ I, GM E n s t (2 ^ n) I0 I → xRun xT 321 157 [(0, .ref 200), (3, .int u), (4, .int v)] [] (S, I, J, D, R) b Q) :
    ∀ (j i : Nat) (I : xI), i + j = 2 ^ n → GM E n s t i I0 I → xRun xT 321 88 [(0, .ref 200), (1, .int (nI s)), (2, .int (nI t)), (3, .int u), (4, .int v), (5, .int (nI i))] [] (S, I, J, D, R) b Q
  | 0, i, I, hi, h => by
    have hp := pow16 hB.1
    have hn := hB.1
    have h10' : I 300 10 = nI n := (h.2 _ _ (by decide) (by decide)).trans h10
    have e : i = 2 ^ n := by omega
    subst e
    rw [e321_88]
    simp only [B321_88, xSeq, i_push, i_load, i_iload, i_lload, i_dload, i_aload, i_istore, i_astore, i_lstore, i_dstore, i_iinc, i_ii, i_iiz, i_ll, i_llz, i_lli, i_li, i_i, i_l, i_i2l, i_l2i, i_dup, i_dup2, i_dup2w, i_dupx1, i_pop, i_pop2, i_goto, i_ifc, i_icmp, i_getI, i_getL, i_getR, i_putI, i_putZ, i_putL, i_putR, i_aldI, i_aldB, i_aldL, i_aldD, i_astI, i_astL, i_astD, i_alen, i_ret, i_iret, i_zret, i_lret, i_fret, i_dret, i_aret, i_invS0, i_invV0, i_m2, i_m1, i_ml, i_obj, lk, lkp, stf1, stf2, Value.category, rV, xTo, lv_args, xCk, xCat, xRc, xAk, hg_S, hg_I, hg_J, hg_D, hg_R, hs_I, hs_J, hs_D, hs_R, uI_at, uJ_at, uD_at, uR_at, List.take_succ_cons, List.take_zero, List.drop_succ_cons, List.drop_zero, List.reverse_cons, List.reverse_nil, List.nil_append, List.cons_append, List.map_cons, List.map_nil, List.sum_cons, List.sum_nil, List.length_cons, List.length_nil, Option.toList_some, Option.toList_none, true_and, and_true, false_and, and_false, true_implies, false_implies, implies_true, not_true_eq_false, not_false_eq_true, ne_eq, if_true, if_false, Bool.and_true, Bool.true_and, decide_true, decide_false, reduceIte, reduceCtorEq, Bool.and_self, Bool.and_eq_true, decide_eq_true_eq, and_self, true_or, or_true, false_or, or_false, Nat.zero_add, Nat.add_zero, eq_self, Nat.reduceEqDiff, Nat.reduceLeDiff, Nat.reduceLT, Nat.reduceAdd, Nat.reduceSub, Nat.reduceMul, LM_out hL, R303 hL h10' (show n < 31 by omega), nI_leP (show 2 ^ n < 2147483648 by omega) (show 2 ^ n < 2147483648 by omega), Nat.le_refl]
    exact kk I h
  | j + 1, i, I, hi, h => by
    have hp := pow16 hB.1
    have hn := hB.1
    have h10' : I 300 10 = nI n := (h.2 _ _ (by decide) (by decide)).trans h10
    have hX := GM_XM h hX0
    have hc : i < 2 ^ n := by omega
    obtain ⟨u1, u2⟩ := gd_c hB hc
    have nx := fun I => L321_88 hL hX0 h10 hB hs ht kk j (i + 1) I (by omega)
    obtain ⟨g1, g2⟩ := h.1 (ui E n i) (by omega)
    obtain ⟨z, hz⟩ : ∃ z, z = gd E n + ui E n i := ⟨_, rfl⟩
    rw [← hz] at u1 u2 g1 g2
    have h238 := fun (k : Nat) (hk : k < 16) (b : Nat × Nat) (Q : xQ) => R238 (S := S) (I := I) (J := J) (D := D) (R := R) (b := b) (Q := Q) (s := i) (i := k) (by omega) (by omega)
    have h238' := fun (I : xI) (k : Nat) (hk : k < 16) (b : Nat × Nat) (Q : xQ) => R238 (S := S) (I := I) (J := J) (D := D) (R := R) (b := b) (Q := Q) (s := i) (i := k) (by omega) (by omega)
    have ev : sg (i.testBit s) * sg (i.testBit t) = (if i.testBit s = i.testBit t then 1 else -1) := by
      cases i.testBit s <;> cases i.testBit t <;> rfl
    have fin : GM E n s t (i + 1) I0 (uI (uI I 353 z (am E n s t (ui E n i) i + (if i.testBit s = i.testBit t then 1 else -1))) 354 z (nI (pc E n i (ui E n i) + 1))) := by
      refine ⟨fun k hk => ?_, fun o k h1 h2 => ?_⟩
      · have e1 : pc E n (i + 1) k = pc E n i k + if decide (ui E n i = k) = true then 1 else 0 := rfl
        have e2 : am E n s t k (i + 1) = am E n s t k i + (if ui E n i = k then (if i.testBit s = i.testBit t then 1 else -1) else 0) := rfl
        rw [e1, e2]
        obtain ⟨k1, k2⟩ := h.1 k hk
        by_cases e : ui E n i = k
        · have e3 : gd E n + k = z := by omega
          simp only [uI_at, true_and, and_true, false_and, and_false, true_implies, false_implies, implies_true, not_true_eq_false, not_false_eq_true, ne_eq, if_true, if_false, Bool.and_true, Bool.true_and, decide_true, decide_false, reduceIte, reduceCtorEq, Bool.and_self, Bool.and_eq_true, decide_eq_true_eq, and_self, true_or, or_true, false_or, or_false, Nat.zero_add, Nat.add_zero, eq_self, Nat.reduceEqDiff, Nat.reduceLeDiff, Nat.reduceLT, Nat.reduceAdd, Nat.reduceSub, Nat.reduceMul, e, e3, if_true, decide_true]
        · have e3 : ¬ gd E n + k = z := by omega
          simp only [uI_at, true_and, and_true, false_and, and_false, true_implies, false_implies, implies_true, not_true_eq_false, not_false_eq_true, ne_eq, if_true, if_false, Bool.and_true, Bool.true_and, decide_true, decide_false, reduceIte, reduceCtorEq, Bool.and_self, Bool.and_eq_true, decide_eq_true_eq, and_self, true_or, or_true, false_or, or_false, Nat.zero_add, Nat.add_zero, eq_self, Nat.reduceEqDiff, Nat.reduceLeDiff, Nat.reduceLT, Nat.reduceAdd, Nat.reduceSub, Nat.reduceMul, e, e3, if_false, decide_false, Nat.add_zero, Int32.add_zero, and_false]
          exact ⟨k1, k2⟩
      · rw [uI_at, if_neg (fun e => h2 e.1), uI_at, if_neg (fun e => h1 e.1)]
        exact h.2 o k h1 h2
    rw [e321_88]
    simp only [B321_88, xSeq, i_push, i_load, i_iload, i_lload, i_dload, i_aload, i_istore, i_astore, i_lstore, i_dstore, i_iinc, i_ii, i_iiz, i_ll, i_llz, i_lli, i_li, i_i, i_l, i_i2l, i_l2i, i_dup, i_dup2, i_dup2w, i_dupx1, i_pop, i_pop2, i_goto, i_ifc, i_icmp, i_getI, i_getL, i_getR, i_putI, i_putZ, i_putL, i_putR, i_aldI, i_aldB, i_aldL, i_aldD, i_astI, i_astL, i_astD, i_alen, i_ret, i_iret, i_zret, i_lret, i_fret, i_dret, i_aret, i_invS0, i_invV0, i_m2, i_m1, i_ml, i_obj, lk, lkp, stf1, stf2, Value.category, rV, xTo, lv_args, xCk, xCat, xRc, xAk, hg_S, hg_I, hg_J, hg_D, hg_R, hs_I, hs_J, hs_D, hs_R, uI_at, uJ_at, uD_at, uR_at, List.take_succ_cons, List.take_zero, List.drop_succ_cons, List.drop_zero, List.reverse_cons, List.reverse_nil, List.nil_append, List.cons_append, List.map_cons, List.map_nil, List.sum_cons, List.sum_nil, List.length_cons, List.length_nil, Option.toList_some, Option.toList_none, true_and, and_true, false_and, and_false, true_implies, false_implies, implies_true, not_true_eq_false, not_false_eq_true, ne_eq, if_true, if_false, Bool.and_true, Bool.true_and, decide_true, decide_false, reduceIte, reduceCtorEq, Bool.and_self, Bool.and_eq_true, decide_eq_true_eq, and_self, true_or, or_true, false_or, or_false, Nat.zero_add, Nat.add_zero, eq_self, Nat.reduceEqDiff, Nat.reduceLeDiff, Nat.reduceLT, Nat.reduceAdd, Nat.reduceSub, Nat.reduceMul, LM_out hL, R303 hL h10' (show n < 31 by omega), nI_leP (show 2 ^ n < 2147483648 by omega) (show i < 2147483648 by omega), show (2 ^ n ≤ i) = False from eq_false (by omega), nI_inP (show i < 65536 by omega) (by decide), nI_ix (show i < 2147483648 by omega), hX.2.2.2.2 i hc, u1, nI_inP (show z < 401 by omega) (by decide), nI_ix (show z < 2147483648 by omega), g1, g2, nI_l (show i < 2147483648 by omega), h238 s hs, h238 t ht, ev, nI_1]
    exact nx _ fin
/-- a double from the weights -/
theorem R321_180 (hL : LM S R) (hB : EB E n) (h : AB x y) (hX : XM n E I) (hI : ∀ k, gd E n + k < 401 → I 354 (gd E n + k) = nI (pc E n (2 ^ n) k) ∧ I 353 (gd E n + k) = am E n s t k (2 ^ n)) (hD : ∀ k, k < 401 → D 352 k = wP (rtP x y) k) : ∀ (j i : Nat) (p q : UInt64), gd E n + i + j = 401 → p = cS E n s t (rtP x y) i → q = cA E n (rtP x y) i → xRun xT 321 180 [(0, .ref 200), (5, .double p), (7, .double q), (9, .int (nI (gd E n + i)))] [] (S, I, J, D, R) b Q = Q (.ok (some (.double (co E n s t (rtP x y))))) (S, I, J, D, R) b
  | 0, i, p, q, hi, hp, hq => by
    have hr := rtP_gp h
    obtain ⟨d1, d2⟩ := gd_ok hB
    have e2 : FP.ddiv p q = co E n s t (rtP x y) := by
      have hz : ∀ k, i ≤ k → pc E n (2 ^ n) k = 0 := fun k hk => pc_no hB (fun c hc e => by
        have := (gd_c hB hc).2
        omega)
      have hz2 : ∀ k, 289 ≤ k → pc E n (2 ^ n) k = 0 := fun k hk => pc_no hB (fun c hc e => by
        have := (ui_ok hB hc).2
        omega)
      have ee : cS E n s t (rtP x y) i = cS E n s t (rtP x y) 289 ∧ cA E n (rtP x y) i = cA E n (rtP x y) 289 := by
        by_cases hle : i ≤ 289
        · obtain ⟨f1, f2⟩ := c_far (s := s) (t := t) hB hr (289 - i) i (by omega) (fun k a _ => hz k a)
          rw [show i + (289 - i) = 289 by omega] at f1 f2
          exact ⟨f1.symm, f2.symm⟩
        · obtain ⟨f1, f2⟩ := c_far (s := s) (t := t) hB hr (i - 289) 289 (by omega) (fun k a _ => hz2 k a)
          rw [show 289 + (i - 289) = i by omega] at f1 f2
          exact ⟨f1, f2⟩
      rw [hp, hq, ee.1, ee.2]
      rfl
    have h2 : isNaN64 (co E n s t (rtP x y)) = false := fb_n (co_fb (s := s) (t := t) hB hr)
    have e1 : gd E n + i = 401 := by omega
    rw [e321_180, e1]
    simp only [B321_180, xSeq, i_push, i_load, i_iload, i_lload, i_dload, i_aload, i_istore, i_astore, i_lstore, i_dstore, i_iinc, i_ii, i_iiz, i_ll, i_llz, i_lli, i_li, i_i, i_l, i_i2l, i_l2i, i_dup, i_dup2, i_dup2w, i_dupx1, i_pop, i_pop2, i_goto, i_ifc, i_icmp, i_getI, i_getL, i_getR, i_putI, i_putZ, i_putL, i_putR, i_aldI, i_aldB, i_aldL, i_aldD, i_astI, i_astL, i_astD, i_alen, i_ret, i_iret, i_zret, i_lret, i_fret, i_dret, i_aret, i_invS0, i_invV0, i_m2, i_m1, i_ml, i_obj, lk, lkp, stf1, stf2, Value.category, rV, xTo, lv_args, xCk, xCat, xRc, xAk, hg_S, hg_I, hg_J, hg_D, hg_R, hs_I, hs_J, hs_D, hs_R, uI_at, uJ_at, uD_at, uR_at, List.take_succ_cons, List.take_zero, List.drop_succ_cons, List.drop_zero, List.reverse_cons, List.reverse_nil, List.nil_append, List.cons_append, List.map_cons, List.map_nil, List.sum_cons, List.sum_nil, List.length_cons, List.length_nil, Option.toList_some, Option.toList_none, true_and, and_true, false_and, and_false, true_implies, false_implies, implies_true, not_true_eq_false, not_false_eq_true, ne_eq, if_true, if_false, Bool.and_true, Bool.true_and, decide_true, decide_false, reduceIte, reduceCtorEq, Bool.and_self, Bool.and_eq_true, decide_eq_true_eq, and_self, true_or, or_true, false_or, or_false, Nat.zero_add, Nat.add_zero, eq_self, Nat.reduceEqDiff, Nat.reduceLeDiff, Nat.reduceLT, Nat.reduceAdd, Nat.reduceSub, Nat.reduceMul, LM_out hL, show ((401 : Int32) ≤ nI 401) = True from eq_true (by decide), e321_257, B321_257, i_dd, e2, al_eq h2]
  | j + 1, i, p, q, hi, hp, hq => by
    have hr := rtP_gp h
    obtain ⟨d1, d2⟩ := gd_ok hB
    obtain ⟨g1, g2⟩ := hI i (by omega)
    have g3 := hD i (by omega)
    have hpl := pc_le (n := n) hB i
    have e0 : ((401 : Int32) ≤ nI (gd E n + i)) = False := by rw [show (401 : Int32) = nI 401 from rfl, nI_leP (by decide) (show gd E n + i < 2147483648 by omega)]; exact eq_false (by omega)
    have ei : nI (gd E n + i) - 200 - I 200 50 = nI i := by
      rw [hX.2.2.1, ← nI_add, ← d1]
      grind
    have ez : (nI (pc E n (2 ^ n) i) = 0) = (pc E n (2 ^ n) i = 0) := by
      rw [show (0 : Int32) = nI 0 from rfl, nI_iff (by omega) (by decide)]
    obtain ⟨a, ha⟩ : ∃ a, a = am E n s t i (2 ^ n) := ⟨_, rfl⟩
    obtain ⟨c, hc⟩ : ∃ c, c = nI (pc E n (2 ^ n) i) := ⟨_, rfl⟩
    obtain ⟨w, hw⟩ : ∃ w, w = wP (rtP x y) i := ⟨_, rfl⟩
    obtain ⟨v1, h1⟩ : ∃ v, v = cT E n s t (rtP x y) i := ⟨_, rfl⟩
    obtain ⟨v2, h2⟩ : ∃ v, v = cB E n (rtP x y) i := ⟨_, rfl⟩
    obtain ⟨v3, h3⟩ : ∃ v, v = cS E n s t (rtP x y) (i + 1) := ⟨_, rfl⟩
    obtain ⟨v4, h4⟩ : ∃ v, v = cA E n (rtP x y) (i + 1) := ⟨_, rfl⟩
    have ih := fun p q => R321_180 hL hB h hX hI hD j (i + 1) p q (by omega)
    rw [← Nat.add_assoc] at ih
    rw [← ha] at g2
    rw [← hc] at g1 ez
    rw [← hw] at g3
    have e1 : FP.dmul (FP.i2d a) w = v1 := by rw [ha, hw, h1]; rfl
    have e2 : FP.dmul (FP.i2d c) w = v2 := by rw [hc, hw, h2]; rfl
    have e3 : FP.dadd p v1 = v3 := by rw [hp, h1, h3]; rfl
    have e4 : FP.dadd q v2 = v4 := by rw [hq, h2, h4]; rfl
    have n1 : isNaN64 v1 = false := by rw [h1]; exact fb_n (cT_fb hB hr i)
    have n2 : isNaN64 v2 = false := by rw [h2]; exact fb_n (gp_fb (cB_gp hB hr i))
    have n3 : isNaN64 v3 = false := by rw [h3]; exact fb_n (cS_ok hB hr (i + 1) (by omega)).1
    have n4 : isNaN64 v4 = false := by rw [h4]; exact (cA_n hB hr (by omega)).1
    obtain ⟨z, hz⟩ : ∃ z, z = gd E n + i := ⟨_, rfl⟩
    rw [← hz] at g1 g2 e0 ei ih ⊢
    rw [e321_180]
    simp only [B321_180, xSeq, i_push, i_load, i_iload, i_lload, i_dload, i_aload, i_istore, i_astore, i_lstore, i_dstore, i_iinc, i_ii, i_iiz, i_ll, i_llz, i_lli, i_li, i_i, i_l, i_i2l, i_l2i, i_dup, i_dup2, i_dup2w, i_dupx1, i_pop, i_pop2, i_goto, i_ifc, i_icmp, i_getI, i_getL, i_getR, i_putI, i_putZ, i_putL, i_putR, i_aldI, i_aldB, i_aldL, i_aldD, i_astI, i_astL, i_astD, i_alen, i_ret, i_iret, i_zret, i_lret, i_fret, i_dret, i_aret, i_invS0, i_invV0, i_m2, i_m1, i_ml, i_obj, lk, lkp, stf1, stf2, Value.category, rV, xTo, lv_args, xCk, xCat, xRc, xAk, hg_S, hg_I, hg_J, hg_D, hg_R, hs_I, hs_J, hs_D, hs_R, uI_at, uJ_at, uD_at, uR_at, List.take_succ_cons, List.take_zero, List.drop_succ_cons, List.drop_zero, List.reverse_cons, List.reverse_nil, List.nil_append, List.cons_append, List.map_cons, List.map_nil, List.sum_cons, List.sum_nil, List.length_cons, List.length_nil, Option.toList_some, Option.toList_none, true_and, and_true, false_and, and_false, true_implies, false_implies, implies_true, not_true_eq_false, not_false_eq_true, ne_eq, if_true, if_false, Bool.and_true, Bool.true_and, decide_true, decide_false, reduceIte, reduceCtorEq, Bool.and_self, Bool.and_eq_true, decide_eq_true_eq, and_self, true_or, or_true, false_or, or_false, Nat.zero_add, Nat.add_zero, eq_self, Nat.reduceEqDiff, Nat.reduceLeDiff, Nat.reduceLT, Nat.reduceAdd, Nat.reduceSub, Nat.reduceMul, LM_out hL, e0, nI_inP (show z < 401 by omega) (by decide), nI_ix (show z < 2147483648 by omega), g1, ez, e321_201, B321_201, g2, ei, nI_inP (show i < 401 by omega) (by decide), nI_ix (show i < 2147483648 by omega), g3, i_i2d, i_dd, e1, al_eq n1, e3, al_eq n3, e2, al_eq n2, e4, al_eq n4, e321_251, B321_251, nI_1]
    by_cases h0 : pc E n (2 ^ n) i = 0
    · obtain ⟨f1, f2⟩ := c_skip (s := s) (t := t) hB hr (k := i) (by omega) h0
      simp only [h0, true_and, and_true, false_and, and_false, true_implies, false_implies, implies_true, not_true_eq_false, not_false_eq_true, ne_eq, if_true, if_false, Bool.and_true, Bool.true_and, decide_true, decide_false, reduceIte, reduceCtorEq, Bool.and_self, Bool.and_eq_true, decide_eq_true_eq, and_self, true_or, or_true, false_or, or_false, Nat.zero_add, Nat.add_zero, eq_self, Nat.reduceEqDiff, Nat.reduceLeDiff, Nat.reduceLT, Nat.reduceAdd, Nat.reduceSub, Nat.reduceMul]
      exact ih p q (by rw [f1]; exact hp) (by rw [f2]; exact hq)
    · simp only [h0, true_and, and_true, false_and, and_false, true_implies, false_implies, implies_true, not_true_eq_false, not_false_eq_true, ne_eq, if_true, if_false, Bool.and_true, Bool.true_and, decide_true, decide_false, reduceIte, reduceCtorEq, Bool.and_self, Bool.and_eq_true, decide_eq_true_eq, and_self, true_or, or_true, false_or, or_false, Nat.zero_add, Nat.add_zero, eq_self, Nat.reduceEqDiff, Nat.reduceLeDiff, Nat.reduceLT, Nat.reduceAdd, Nat.reduceSub, Nat.reduceMul]
      exact ih v3 v4 h3 h4
theorem L321_48 (hL : LM S R) (hX : XM n E I) (h10 : I 300 10 = nI n) (hB : EB E n) (h : AB x y) (hs : s < 16) (ht : t < 16)
    (kk : ∀ I' D', (∀ o k, o ≠ 353 → o ≠ 354 → I' o k = I o k) → (∀ o k, o ≠ 352 → D' o k = D o k) → Q (.ok (some (.double (co E n s t (rtP x y))))) (S, I', J, D', R) b) : xRun xT 321 55 [(0, .ref 200), (1, .int (nI s)), (2, .int (nI t)), (3, .int (nI x)), (4, .int (nI y)), (5, .int 0)] [] (S, I, J, D, R) b Q := by
  have h55 := L321_55 (S := S) (R := R) (J := J) (D := D) (b := b) (Q := Q) (I0 := I) (l1 := nI s) (l2 := nI t) (l3 := nI x) (l4 := nI y) hL (fun I1 z1 z2 => by
    rw [e321_85]
    simp only [B321_85, xSeq, i_push, i_load, i_iload, i_lload, i_dload, i_aload, i_istore, i_astore, i_lstore, i_dstore, i_iinc, i_ii, i_iiz, i_ll, i_llz, i_lli, i_li, i_i, i_l, i_i2l, i_l2i, i_dup, i_dup2, i_dup2w, i_dupx1, i_pop, i_pop2, i_goto, i_ifc, i_icmp, i_getI, i_getL, i_getR, i_putI, i_putZ, i_putL, i_putR, i_aldI, i_aldB, i_aldL, i_aldD, i_astI, i_astL, i_astD, i_alen, i_ret, i_iret, i_zret, i_lret, i_fret, i_dret, i_aret, i_invS0, i_invV0, i_m2, i_m1, i_ml, i_obj, lk, lkp, stf1, stf2, Value.category, rV, xTo, lv_args, xCk, xCat, xRc, xAk, hg_S, hg_I, hg_J, hg_D, hg_R, hs_I, hs_J, hs_D, hs_R, uI_at, uJ_at, uD_at, uR_at, List.take_succ_cons, List.take_zero, List.drop_succ_cons, List.drop_zero, List.reverse_cons, List.reverse_nil, List.nil_append, List.cons_append, List.map_cons, List.map_nil, List.sum_cons, List.sum_nil, List.length_cons, List.length_nil, Option.toList_some, Option.toList_none, true_and, and_true, false_and, and_false, true_implies, false_implies, implies_true, not_true_eq_false, not_false_eq_true, ne_eq, if_true, if_false, Bool.and_true, Bool.true_and, decide_true, decide_false, reduceIte, reduceCtorEq, Bool.and_self, Bool.and_eq_true, decide_eq_true_eq, and_self, true_or, or_true, false_or, or_false, Nat.zero_add, Nat.add_zero, eq_self, Nat.reduceEqDiff, Nat.reduceLeDiff, Nat.reduceLT, Nat.reduceAdd, Nat.reduceSub, Nat.reduceMul]
    refine L321_88 (I0 := I) hL hX h10 hB hs ht (fun I2 h2 => ?_) (2 ^ n) 0 I1 (by omega) ⟨fun k hk => ?_, z2⟩
    · have hX2 := GM_XM h2 hX
      obtain ⟨d1, d2⟩ := gd_ok hB
      rw [e321_157]
      simp only [B321_157, xSeq, i_push, i_load, i_iload, i_lload, i_dload, i_aload, i_istore, i_astore, i_lstore, i_dstore, i_iinc, i_ii, i_iiz, i_ll, i_llz, i_lli, i_li, i_i, i_l, i_i2l, i_l2i, i_dup, i_dup2, i_dup2w, i_dupx1, i_pop, i_pop2, i_goto, i_ifc, i_icmp, i_getI, i_getL, i_getR, i_putI, i_putZ, i_putL, i_putR, i_aldI, i_aldB, i_aldL, i_aldD, i_astI, i_astL, i_astD, i_alen, i_ret, i_iret, i_zret, i_lret, i_fret, i_dret, i_aret, i_invS0, i_invV0, i_m2, i_m1, i_ml, i_obj, lk, lkp, stf1, stf2, Value.category, rV, xTo, lv_args, xCk, xCat, xRc, xAk, hg_S, hg_I, hg_J, hg_D, hg_R, hs_I, hs_J, hs_D, hs_R, uI_at, uJ_at, uD_at, uR_at, List.take_succ_cons, List.take_zero, List.drop_succ_cons, List.drop_zero, List.reverse_cons, List.reverse_nil, List.nil_append, List.cons_append, List.map_cons, List.map_nil, List.sum_cons, List.sum_nil, List.length_cons, List.length_nil, Option.toList_some, Option.toList_none, true_and, and_true, false_and, and_false, true_implies, false_implies, implies_true, not_true_eq_false, not_false_eq_true, ne_eq, if_true, if_false, Bool.and_true, Bool.true_and, decide_true, decide_false, reduceIte, reduceCtorEq, Bool.and_self, Bool.and_eq_true, decide_eq_true_eq, and_self, true_or, or_true, false_or, or_false, Nat.zero_add, Nat.add_zero, eq_self, Nat.reduceEqDiff, Nat.reduceLeDiff, Nat.reduceLT, Nat.reduceAdd, Nat.reduceSub, Nat.reduceMul, LM_out hL]
      refine L316 hL h (fun D2 w1 w2 => ?_)
      simp only [xSeq, i_push, i_load, i_iload, i_lload, i_dload, i_aload, i_istore, i_astore, i_lstore, i_dstore, i_iinc, i_ii, i_iiz, i_ll, i_llz, i_lli, i_li, i_i, i_l, i_i2l, i_l2i, i_dup, i_dup2, i_dup2w, i_dupx1, i_pop, i_pop2, i_goto, i_ifc, i_icmp, i_getI, i_getL, i_getR, i_putI, i_putZ, i_putL, i_putR, i_aldI, i_aldB, i_aldL, i_aldD, i_astI, i_astL, i_astD, i_alen, i_ret, i_iret, i_zret, i_lret, i_fret, i_dret, i_aret, i_invS0, i_invV0, i_m2, i_m1, i_ml, i_obj, lk, lkp, stf1, stf2, Value.category, rV, xTo, lv_args, xCk, xCat, xRc, xAk, hg_S, hg_I, hg_J, hg_D, hg_R, hs_I, hs_J, hs_D, hs_R, uI_at, uJ_at, uD_at, uR_at, List.take_succ_cons, List.take_zero, List.drop_succ_cons, List.drop_zero, List.reverse_cons, List.reverse_nil, List.nil_append, List.cons_append, List.map_cons, List.map_nil, List.sum_cons, List.sum_nil, List.length_cons, List.length_nil, Option.toList_some, Option.toList_none, true_and, and_true, false_and, and_false, true_implies, false_implies, implies_true, not_true_eq_false, not_false_eq_true, ne_eq, if_true, if_false, Bool.and_true, Bool.true_and, decide_true, decide_false, reduceIte, reduceCtorEq, Bool.and_self, Bool.and_eq_true, decide_eq_true_eq, and_self, true_or, or_true, false_or, or_false, Nat.zero_add, Nat.add_zero, eq_self, Nat.reduceEqDiff, Nat.reduceLeDiff, Nat.reduceLT, Nat.reduceAdd, Nat.reduceSub, Nat.reduceMul, LM_out hL, hX2.2.2.1, d1]
      have h5 := R321_180 (S := S) (R := R) (I := I2) (J := J) (D := D2) (b := b) (Q := Q) hL hB h hX2 h2.1 w1 (401 - gd E n) 0 FP.dconst0 FP.dconst0 (by omega) rfl rfl
      rw [Nat.add_zero] at h5
      rw [h5]
      exact kk I2 D2 h2.2 w2
    · obtain ⟨k1, k2⟩ := z1 (gd E n + k) hk
      exact ⟨k2, k1⟩) 401 0 I (by omega) (fun k hk => absurd hk (Nat.not_lt_zero _)) (fun _ _ _ _ => rfl)
  exact h55
end
/-! ===== the flood of the lab ===== -/
section
/-- reached over heights up to h -/
def RK (e : Nat → Nat) (n h a : Nat) : Nat → Nat → Prop
  | 0, c => c = a ∧ e a ≤ h
  | k + 1, c => ∃ d t, RK e n h a k d ∧ t < n ∧ c = d ^^^ 2 ^ t ∧ e c ≤ h
def RC (e : Nat → Nat) (n h a c : Nat) : Prop := ∃ k, RK e n h a k c
theorem RC.refl {e : Nat → Nat} {n h a : Nat} (h1 : e a ≤ h) : RC e n h a a := ⟨0, rfl, h1⟩
theorem RC.step {e : Nat → Nat} {n h a c t : Nat} (r : RC e n h a c) (h2 : t < n) (h3 : e (c ^^^ 2 ^ t) ≤ h) : RC e n h a (c ^^^ 2 ^ t) := by
  obtain ⟨k, r⟩ := r
  exact ⟨k + 1, c, t, r, h2, rfl, h3⟩
theorem RC_ind {e : Nat → Nat} {n h a : Nat} {P : Nat → Prop} (h0 : e a ≤ h → P a) (hs : ∀ c t, RC e n h a c → P c → t < n → e (c ^^^ 2 ^ t) ≤ h → P (c ^^^ 2 ^ t)) {c : Nat} (r : RC e n h a c) : P c := by
  obtain ⟨k, r⟩ := r
  have key : ∀ k c, RK e n h a k c → P c := by
    intro k
    induction k with
    | zero =>
      intro c r
      obtain ⟨e1, e2⟩ := r
      rw [e1]
      exact h0 e2
    | succ k ih =>
      intro c r
      obtain ⟨d, t, r1, h2, h3, h4⟩ := r
      rw [h3] at h4 ⊢
      exact hs d t ⟨k, r1⟩ (ih d r1) h2 h4
  exact key k c r
theorem RC_mono {e : Nat → Nat} {n h h' a c : Nat} (hh : h ≤ h') (r : RC e n h a c) : RC e n h' a c :=
  RC_ind (fun h1 => .refl (Nat.le_trans h1 hh)) (fun _ _ _ ih h2 h3 => .step ih h2 (Nat.le_trans h3 hh)) r
theorem RC_lt {e : Nat → Nat} {n h a c : Nat} (ha : a < 2 ^ n) (r : RC e n h a c) : c < 2 ^ n :=
  RC_ind (P := fun c => c < 2 ^ n) (fun _ => ha) (fun _ _ _ ih h2 _ => Nat.xor_lt_two_pow ih (Nat.pow_lt_pow_right (by decide) h2)) r
theorem RC_le {e : Nat → Nat} {n h a c : Nat} (r : RC e n h a c) : e c ≤ h :=
  RC_ind (P := fun c => e c ≤ h) (fun h1 => h1) (fun _ _ _ _ _ h3 => h3) r
/-- all are reached over the greatest height -/
theorem RC_top {e : Nat → Nat} {n H a c : Nat} (ha : a < 2 ^ n) (hc : c < 2 ^ n) (he : ∀ k, k < 2 ^ n → e k ≤ H) : RC e n H a c := by
  have key : ∀ k, k ≤ n → ∃ m, RC e n H a m ∧ (∀ i, i < k → m.testBit i = c.testBit i) ∧ ∀ i, k ≤ i → m.testBit i = a.testBit i := by
    intro k
    induction k with
    | zero => intro _; exact ⟨a, .refl (he a ha), fun i hi => absurd hi (Nat.not_lt_zero _), fun _ _ => rfl⟩
    | succ k ih =>
      intro hk
      obtain ⟨m, r, h1, h2⟩ := ih (by omega)
      by_cases hb : m.testBit k = c.testBit k
      · refine ⟨m, r, fun i hi => ?_, fun i hi => h2 i (by omega)⟩
        by_cases e1 : i = k
        · rw [e1]; exact hb
        · exact h1 i (by omega)
      · have hm := RC_lt ha r
        have hx : m ^^^ 2 ^ k < 2 ^ n := Nat.xor_lt_two_pow hm (Nat.pow_lt_pow_right (by decide) (by omega))
        refine ⟨m ^^^ 2 ^ k, .step r (by omega) (he _ hx), fun i hi => ?_, fun i hi => ?_⟩
        · rw [bit_x]
          by_cases e1 : k = i
          · subst e1
            rw [decide_eq_true rfl]
            cases h3 : m.testBit k <;> cases h4 : c.testBit k <;> rw [h3, h4] at hb <;> first | rfl | exact absurd rfl hb
          · rw [decide_eq_false e1, Bool.xor_false]
            exact h1 i (by omega)
        · rw [bit_x, decide_eq_false (by omega), Bool.xor_false]
          exact h2 i (by omega)
  obtain ⟨m, r, h1, h2⟩ := key n (Nat.le_refl n)
  have e1 : m = c := by
    apply Nat.eq_of_testBit_eq
    intro i
    by_cases hi : i < n
    · exact h1 i hi
    · rw [h2 i (by omega), Nat.testBit_lt_two_pow (Nat.lt_of_lt_of_le ha (Nat.pow_le_pow_right (by decide) (by omega))), Nat.testBit_lt_two_pow (Nat.lt_of_lt_of_le hc (Nat.pow_le_pow_right (by decide) (by omega)))]
  rw [← e1]
  exact r
/-- the least height over which one comes to the other -/
def bar (e : Nat → Nat) (n a c h : Nat) : Prop := RC e n h a c ∧ ∀ h', RC e n h' a c → h ≤ h'
theorem bar_one {e : Nat → Nat} {n a c h h' : Nat} (h1 : bar e n a c h) (h2 : bar e n a c h') : h = h' := Nat.le_antisymm (h1.2 _ h2.1) (h2.2 _ h1.1)
/-- visited, done, the height of each, what waits at each height, the height now; u is under way -/
def FS (e : Nat → Nat) (n a u : Nat) (vis done : Nat → Bool) (L : Nat → Nat) (B : Nat → List Nat) (ht : Nat) : Prop :=
  (∀ c, vis c = true → c < 2 ^ n ∧ e c ≤ L c ∧ L c ≤ 288 ∧ RC e n (L c) a c ∧ L c ≤ max ht (e c)) ∧
  (∀ c, vis c = true → done c = false → c ≠ u → c ∈ B (L c)) ∧
  (∀ l, l < ht → B l = []) ∧
  (∀ l c, c ∈ B l → vis c = true ∧ done c = false ∧ L c = l ∧ c ≠ u) ∧
  (∀ l, (B l).Nodup) ∧
  (∀ c, done c = true → vis c = true ∧ ∀ t, t < n → vis (c ^^^ 2 ^ t) = true ∧ L (c ^^^ 2 ^ t) ≤ max (L c) (e (c ^^^ 2 ^ t))) ∧
  vis a = true ∧ L a = e a
variable {e : Nat → Nat} {n a u : Nat} {vis done : Nat → Bool} {L : Nat → Nat} {B : Nat → List Nat} {ht : Nat}
theorem FS.v1 (h : FS e n a u vis done L B ht) : ∀ c, vis c = true → c < 2 ^ n ∧ e c ≤ L c ∧ L c ≤ 288 ∧ RC e n (L c) a c ∧ L c ≤ max ht (e c) := h.1
theorem FS.v2 (h : FS e n a u vis done L B ht) : ∀ c, vis c = true → done c = false → c ≠ u → c ∈ B (L c) := h.2.1
theorem FS.v3 (h : FS e n a u vis done L B ht) : ∀ l, l < ht → B l = [] := h.2.2.1
theorem FS.v4 (h : FS e n a u vis done L B ht) : ∀ l c, c ∈ B l → vis c = true ∧ done c = false ∧ L c = l ∧ c ≠ u := h.2.2.2.1
theorem FS.v5 (h : FS e n a u vis done L B ht) : ∀ l, (B l).Nodup := h.2.2.2.2.1
theorem FS.v6 (h : FS e n a u vis done L B ht) : ∀ c, done c = true → vis c = true ∧ ∀ t, t < n → vis (c ^^^ 2 ^ t) = true ∧ L (c ^^^ 2 ^ t) ≤ max (L c) (e (c ^^^ 2 ^ t)) := h.2.2.2.2.2.1
theorem FS.v7 (h : FS e n a u vis done L B ht) : vis a = true ∧ L a = e a := h.2.2.2.2.2.2
theorem FS_path (h : FS e n a (2 ^ n) vis done L B ht) {x c : Nat} (hx : x < ht) (r : RC e n x a c) : vis c = true ∧ L c ≤ x := by
  have dn : ∀ c, vis c = true → L c ≤ x → done c = true := fun c h1 h2 => by
    cases hd : done c
    · have h3 := h.v2 c h1 hd (Nat.ne_of_lt (h.v1 c h1).1)
      rw [h.v3 (L c) (by omega)] at h3
      exact absurd h3 (List.not_mem_nil)
    · rfl
  refine RC_ind (P := fun c => vis c = true ∧ L c ≤ x) (fun h1 => ⟨h.v7.1, by rw [h.v7.2]; exact h1⟩) (fun d t _ ih h2 h3 => ?_) r
  obtain ⟨i1, i2⟩ := ih
  obtain ⟨j1, j2⟩ := (h.v6 _ (dn _ i1 i2)).2 _ h2
  exact ⟨j1, Nat.le_trans j2 (Nat.max_le.mpr ⟨i2, h3⟩)⟩
theorem FS_dn (h : FS e n a (2 ^ n) vis done L B ht) {x c : Nat} (hx : x < ht) (r : RC e n x a c) : done c = true := by
  obtain ⟨h1, h2⟩ := FS_path h hx r
  cases hd : done c
  · have h3 := h.v2 c h1 hd (Nat.ne_of_lt (h.v1 c h1).1)
    rw [h.v3 (L c) (by omega)] at h3
    exact absurd h3 (List.not_mem_nil)
  · rfl
theorem FS_bar (h : FS e n a (2 ^ n) vis done L B ht) {c : Nat} (hc : c ∈ B ht) : bar e n a c ht := by
  obtain ⟨h1, h2, h3, -⟩ := h.v4 ht c hc
  refine ⟨by rw [← h3]; exact (h.v1 c h1).2.2.2.1, fun x r => Nat.le_of_not_lt (fun hx => ?_)⟩
  have := FS_dn h hx r
  rw [h2] at this
  exact absurd this (by decide)
theorem FS_up (h : FS e n a (2 ^ n) vis done L B ht) (hb : B ht = []) : FS e n a (2 ^ n) vis done L B (ht + 1) := by
  refine ⟨fun c hc => ?_, h.v2, fun l hl => ?_, h.v4, h.v5, h.v6, h.v7⟩
  · obtain ⟨a1, a2, a3, a4, a5⟩ := h.v1 c hc
    exact ⟨a1, a2, a3, a4, by omega⟩
  · by_cases hh : l = ht
    · rw [hh]; exact hb
    · exact h.v3 l (by omega)
theorem FS_pop (h : FS e n a (2 ^ n) vis done L B ht) {c : Nat} {q : List Nat} (hb : B ht = c :: q) : FS e n a c vis done L (fun l => if l = ht then q else B l) ht ∧ vis c = true ∧ L c = ht ∧ done c = false := by
  have hm : c ∈ B ht := by rw [hb]; exact List.mem_cons_self
  obtain ⟨m1, m2, m3, m4⟩ := h.v4 ht c hm
  have hnd := h.v5 ht
  rw [hb] at hnd
  have hq : c ∉ q := (List.nodup_cons.mp hnd).1
  refine ⟨⟨h.v1, fun d h1 h2 h3 => ?_, fun l hl => ?_, fun l d hd => ?_, fun l => ?_, h.v6, h.v7⟩, m1, m3, m2⟩
  · have h4 := h.v2 d h1 h2 (Nat.ne_of_lt (h.v1 d h1).1)
    by_cases hl : L d = ht
    · rw [hl, hb] at h4
      simp only [hl, if_true]
      rcases List.mem_cons.mp h4 with h5 | h5
      · exact absurd h5 h3
      · exact h5
    · simp only [hl, if_false]
      exact h4
  · simp only [show ¬ l = ht by omega, if_false]
    exact h.v3 l hl
  · by_cases hl : l = ht
    · subst hl
      simp only [if_true] at hd
      have h4 : d ∈ B l := by rw [hb]; exact List.mem_cons_of_mem _ hd
      obtain ⟨p1, p2, p3, p4⟩ := h.v4 l d h4
      exact ⟨p1, p2, p3, fun e2 => hq (e2 ▸ hd)⟩
    · simp only [hl, if_false] at hd
      obtain ⟨p1, p2, p3, p4⟩ := h.v4 l d hd
      exact ⟨p1, p2, p3, fun e2 => hl (by rw [← p3, e2, m3])⟩
  · by_cases hl : l = ht
    · simp only [hl, if_true]
      exact (List.nodup_cons.mp hnd).2
    · simp only [hl, if_false]
      exact h.v5 l
theorem FS_new (h : FS e n a u vis done L B ht) (hu : vis u = true) (hL : L u = ht) {t : Nat} (ht' : t < n) (he : ∀ k, k < 2 ^ n → e k ≤ 288) (hv : vis (u ^^^ 2 ^ t) = false) :
    FS e n a u (fun k => if k = u ^^^ 2 ^ t then true else vis k) done (fun k => if k = u ^^^ 2 ^ t then max ht (e k) else L k) (fun l => if l = max ht (e (u ^^^ 2 ^ t)) then (u ^^^ 2 ^ t) :: B l else B l) ht := by
  obtain ⟨u1, u2, u3, u4, u5⟩ := h.v1 u hu
  have hx : u ^^^ 2 ^ t < 2 ^ n := Nat.xor_lt_two_pow u1 (Nat.pow_lt_pow_right (by decide) ht')
  have hex := he _ hx
  obtain ⟨o, ho⟩ : ∃ o, o = u ^^^ 2 ^ t := ⟨_, rfl⟩
  have rc : RC e n (max ht (e o)) a o := by
    rw [ho]
    exact .step (RC_mono (by rw [hL]; exact Nat.le_max_left _ _) u4) ht' (Nat.le_max_right _ _)
  rw [← ho] at hv hx hex ⊢
  have hou : o ≠ u := fun e2 => by rw [e2, hu] at hv; exact absurd hv (by decide)
  have hdo : done o = false := by
    cases hd : done o
    · rfl
    · have := (h.v6 o hd).1
      rw [hv] at this
      exact absurd this (by decide)
  have nb : ∀ l, o ∉ B l := fun l hm => by
    have := (h.v4 l o hm).1
    rw [hv] at this
    exact absurd this (by decide)
  refine ⟨fun c hc => ?_, fun d h1 h2 h3 => ?_, fun l hl => ?_, fun l d hd => ?_, fun l => ?_, fun c hd => ?_, ?_⟩
  · by_cases ec : c = o
    · subst ec
      simp only [if_true]
      exact ⟨hx, Nat.le_max_right _ _, Nat.max_le.mpr ⟨by omega, hex⟩, rc, Nat.le_refl _⟩
    · simp only [ec, if_false] at hc ⊢
      exact h.v1 c hc
  · by_cases ec : d = o
    · subst ec
      simp only [if_true]
      exact List.mem_cons_self
    · simp only [ec, if_false] at h1 ⊢
      have h4 := h.v2 d h1 h2 h3
      split
      · exact List.mem_cons_of_mem _ h4
      · exact h4
  · have : ¬ l = max ht (e o) := by have := Nat.le_max_left ht (e o); omega
    simp only [this, if_false]
    exact h.v3 l hl
  · by_cases ed : d = o
    · subst ed
      by_cases el : l = max ht (e d)
      · simp only [if_true]
        exact ⟨trivial, hdo, el.symm, hou⟩
      · simp only [el, if_false] at hd
        exact absurd hd (nb l)
    · have hd2 : d ∈ B l := by
        by_cases el : l = max ht (e o)
        · simp only [el, if_true] at hd
          rcases List.mem_cons.mp hd with h5 | h5
          · exact absurd h5 ed
          · rw [el]; exact h5
        · simp only [el, if_false] at hd
          exact hd
      simp only [ed, if_false]
      exact h.v4 l d hd2
  · by_cases el : l = max ht (e o)
    · simp only [el, if_true]
      exact List.nodup_cons.mpr ⟨nb _, h.v5 _⟩
    · simp only [el, if_false]
      exact h.v5 l
  · obtain ⟨c1, c2⟩ := h.v6 c hd
    have hco : c ≠ o := fun e2 => by rw [e2, hdo] at hd; exact absurd hd (by decide)
    simp only [hco, if_false]
    refine ⟨c1, fun t ht2 => ?_⟩
    obtain ⟨c3, c4⟩ := c2 t ht2
    have hne : c ^^^ 2 ^ t ≠ o := fun e2 => by rw [e2, hv] at c3; exact absurd c3 (by decide)
    simp only [hne, if_false]
    exact ⟨c3, c4⟩
  · have hao : a ≠ o := fun e2 => by have := h.v7.1; rw [e2, hv] at this; exact absurd this (by decide)
    simp only [hao, if_false]
    exact h.v7
theorem FS_end (h : FS e n a u vis done L B ht) (hu : vis u = true) (hL : L u = ht) (hn : ∀ t, t < n → vis (u ^^^ 2 ^ t) = true) (hd : done u = false) : FS e n a (2 ^ n) vis (fun k => done k || decide (u = k)) L B ht := by
  refine ⟨h.v1, fun d h1 h2 _ => ?_, h.v3, fun l d hm => ?_, h.v5, fun c hc => ?_, h.v7⟩
  · simp only [Bool.or_eq_false_iff, decide_eq_false_iff_not] at h2
    exact h.v2 d h1 h2.1 (fun e2 => h2.2 e2.symm)
  · obtain ⟨p1, p2, p3, p4⟩ := h.v4 l d hm
    refine ⟨p1, ?_, p3, Nat.ne_of_lt (h.v1 d p1).1⟩
    show (done d || decide (u = d)) = false
    rw [p2, decide_eq_false (fun e2 => p4 e2.symm)]
    rfl
  · simp only [Bool.or_eq_true, decide_eq_true_eq] at hc
    rcases hc with hc | hc
    · exact h.v6 c hc
    · subst hc
      refine ⟨hu, fun t ht2 => ⟨hn t ht2, ?_⟩⟩
      have := (h.v1 _ (hn t ht2)).2.2.2.2
      rw [hL]
      exact this
end
/-! ===== the lab's flood runs ===== -/
section
/-- a chain in a row -/
def Ch (f : Nat → Int32) : Int32 → List Nat → Prop
  | h, [] => h = -1
  | h, c :: l => h = nI c ∧ Ch f (f c) l
theorem Ch_up {f : Nat → Int32} {o : Nat} {v : Int32} : ∀ (l : List Nat) (h : Int32), o ∉ l → Ch f h l → Ch (fun k => if k = o then v else f k) h l
  | [], h, _, hc => hc
  | c :: l, h, hn, hc => by
    obtain ⟨h1, h2⟩ := hc
    have hne : ¬ c = o := fun e => hn (e ▸ List.mem_cons_self)
    refine ⟨h1, ?_⟩
    simp only [hne, if_false]
    exact Ch_up l _ (fun hm => hn (List.mem_cons_of_mem _ hm)) h2
/-- chains of what waits, marks of what is visited -/
def HF (n : Nat) (vis : Nat → Bool) (B : Nat → List Nat) (I0 I : xI) : Prop :=
  (∀ l, l < 289 → Ch (I 152) (I 137 l) (B l)) ∧ (∀ c, c < 2 ^ n → (vis c = false → I 152 c = -2) ∧ (vis c = true → I 152 c ≠ -2)) ∧ ∀ o k, o ≠ 137 → o ≠ 152 → I o k = I0 o k
variable {S : xS} {I : xI} {J : xJ} {D : xDb} {R : xR} {b : Nat × Nat} {Q : xQ} {E : Nat → Int32} {n a u : Nat} {vis done : Nat → Bool} {L : Nat → Nat} {B : Nat → List Nat} {ht : Nat}
theorem HF_XL {I0 : xI} (h : HF n vis B I0 I) (hX : XL n E S I0 R) : XL n E S I R := by
  obtain ⟨x1, x2, x3, x4, x5, x6, x7, x8⟩ := hX
  have f := h.2.2
  refine ⟨x1, ?_, ?_, ?_, ?_, ?_, ?_, fun c hc => ?_⟩
  · rw [f _ _ (by decide) (by decide)]; exact x2
  · rw [f _ _ (by decide) (by decide)]; exact x3
  · rw [f _ _ (by decide) (by decide)]; exact x4
  · rw [f _ _ (by decide) (by decide)]; exact x5
  · rw [f _ _ (by decide) (by decide)]; exact x6
  · intro i hi
    rw [f _ _ (by decide) (by decide), f _ _ (by decide) (by decide), f _ _ (by decide) (by decide)]
    exact x7 i hi
  · rw [f _ _ (by decide) (by decide)]; exact x8 c hc
theorem n1_n2 : ((-1 : Int32) = -2) = False := eq_false (by decide)
theorem nI_n2 {k : Nat} (hk : k < 2147483648) : (nI k = -2) = False := eq_false (fun e => by
  have h := nI_toInt hk
  rw [e] at h
  exact absurd h (by
    show ¬ (-2 : Int) = (k : Int)
    omega))
theorem nI_n1 {k : Nat} (hk : k < 2147483648) : (nI k = -1) = False := eq_false (fun e => by
  have h := nI_toInt hk
  rw [e] at h
  exact absurd h (by
    show ¬ (-1 : Int) = (k : Int)
    omega))
theorem HF_new {I0 : xI} (hf : HF n vis B I0 I) {o l : Nat} (hl : l < 289) (hv : vis o = false) (hB : ∀ l c, c ∈ B l → vis c = true) (hk : ∀ l c, c ∈ B l → c < 65536) :
    HF n (fun k => if k = o then true else vis k) (fun k => if k = l then o :: B k else B k) I0 (uI (uI I 152 o (I 137 l)) 137 l (nI o)) := by
  obtain ⟨h1, h2, h3⟩ := hf
  have ne : I 137 l ≠ -2 := by
    have := h1 l hl
    cases hb : B l with
    | nil =>
      rw [hb] at this
      have e : I 137 l = -1 := this
      rw [e]
      decide
    | cons c q =>
      rw [hb] at this
      have e : I 137 l = nI c := this.1
      have := hk l c (by rw [hb]; exact List.mem_cons_self)
      rw [e]
      intro e2
      exact (iff_of_eq (nI_n2 (show c < 2147483648 by omega))).mp e2
  have nb : ∀ l, o ∉ B l := fun l hm => by
    have := hB l o hm
    rw [hv] at this
    exact absurd this (by decide)
  have er : (uI (uI I 152 o (I 137 l)) 137 l (nI o)) 152 = fun k => if k = o then I 137 l else I 152 k := by
    funext k
    rw [uI_at, if_neg (fun e => absurd e.1 (by decide)), uI_at]
    by_cases e : k = o
    · rw [if_pos ⟨rfl, e⟩, if_pos e]
    · rw [if_neg (fun h => e h.2), if_neg e]
  refine ⟨fun k hk => ?_, fun c hc => ?_, fun p k p1 p2 => ?_⟩
  · rw [er]
    by_cases e : k = l
    · subst e
      simp only [if_true]
      rw [uI_at, if_pos ⟨rfl, rfl⟩]
      refine ⟨rfl, ?_⟩
      simp only [if_true]
      exact Ch_up _ _ (nb k) (h1 k hk)
    · simp only [e, if_false]
      rw [uI_at, if_neg (fun h => e h.2), uI_at, if_neg (fun h => absurd h.1 (by decide))]
      exact Ch_up _ _ (nb k) (h1 k hk)
  · rw [er]
    by_cases e : c = o
    · simp only [e, if_true]
      exact ⟨fun h => absurd h (by decide), fun _ => ne⟩
    · simp only [e, if_false]
      exact h2 c hc
  · rw [uI_at, if_neg (fun e => p1 e.1), uI_at, if_neg (fun e => p2 e.1)]
    exact h3 p k p1 p2
theorem L115_2 {I0 : xI} (hL : LC S R) (hX0 : XL n E S I0 R) (hE : EB E n) (hu : u < 2 ^ n) (hth : ht ≤ 288)
    (kk : ∀ I vis L B, FS (eN E) n a u vis done L B ht → vis u = true → L u = ht → (∀ t, t < n → vis (u ^^^ 2 ^ t) = true) → HF n vis B I0 I → Q (.ok none) (S, I, J, D, R) b) :
    ∀ (j i : Nat) (I : xI) (vis : Nat → Bool) (L : Nat → Nat) (B : Nat → List Nat), i + j = n → FS (eN E) n a u vis done L B ht → vis u = true → L u = ht → (∀ t, t < i → vis (u ^^^ 2 ^ t) = true) → HF n vis B I0 I →
      xRun xT 115 2 [(0, .ref 130), (1, .int (nI u)), (2, .int (nI ht)), (3, .int (nI i))] [] (S, I, J, D, R) b Q
  | 0, i, I, vis, L, B, hi, hS, hv, hl, hn, hf => by
    have hn16 := hE.1
    have hX := HF_XL hf hX0
    have e : i = n := by omega
    subst e
    rw [e115_2]
    simp only [B115_2, xSeq, i_push, i_load, i_iload, i_lload, i_dload, i_aload, i_istore, i_astore, i_lstore, i_dstore, i_iinc, i_ii, i_iiz, i_ll, i_llz, i_lli, i_li, i_i, i_l, i_i2l, i_l2i, i_dup, i_dup2, i_dup2w, i_dupx1, i_pop, i_pop2, i_goto, i_ifc, i_icmp, i_getI, i_getL, i_getR, i_putI, i_putZ, i_putL, i_putR, i_aldI, i_aldB, i_aldL, i_aldD, i_astI, i_astL, i_astD, i_alen, i_ret, i_iret, i_zret, i_lret, i_fret, i_dret, i_aret, i_invS0, i_invV0, i_m2, i_m1, i_ml, i_obj, lk, lkp, stf1, stf2, Value.category, rV, xTo, lv_args, xCk, xCat, xRc, xAk, hg_S, hg_I, hg_J, hg_D, hg_R, hs_I, hs_J, hs_D, hs_R, uI_at, uJ_at, uD_at, uR_at, List.take_succ_cons, List.take_zero, List.drop_succ_cons, List.drop_zero, List.reverse_cons, List.reverse_nil, List.nil_append, List.cons_append, List.map_cons, List.map_nil, List.sum_cons, List.sum_nil, List.length_cons, List.length_nil, Option.toList_some, Option.toList_none, true_and, and_true, false_and, and_false, true_implies, false_implies, implies_true, not_true_eq_false, not_false_eq_true, ne_eq, if_true, if_false, Bool.and_true, Bool.true_and, decide_true, decide_false, reduceIte, reduceCtorEq, Bool.and_self, Bool.and_eq_true, decide_eq_true_eq, and_self, true_or, or_true, false_or, or_false, Nat.zero_add, Nat.add_zero, eq_self, Nat.reduceEqDiff, Nat.reduceLeDiff, Nat.reduceLT, Nat.reduceAdd, Nat.reduceSub, Nat.reduceMul, LC_out hL, hX.2.2.1, nI_leP (show i < 2147483648 by omega) (show i < 2147483648 by omega), Nat.le_refl, e115_75, B115_75]
    exact kk I vis L B hS hv hl hn hf
  | j + 1, i, I, vis, L, B, hi, hS, hv, hl, hn, hf => by
    have hp := pow16 hE.1
    have hn16 := hE.1
    have hX := HF_XL hf hX0
    have hx : u ^^^ 2 ^ i < 2 ^ n := Nat.xor_lt_two_pow hu (Nat.pow_lt_pow_right (by decide) (by omega))
    obtain ⟨e1, -, e3, -⟩ := eN_ok hE hx
    have hm : max ht (eN E (u ^^^ 2 ^ i)) ≤ 288 := Nat.max_le.mpr ⟨hth, e3⟩
    have he : ∀ k, k < 2 ^ n → eN E k ≤ 288 := fun k hk => (eN_ok hE hk).2.2.1
    obtain ⟨f1, f2⟩ := hf.2.1 _ hx
    have nx := fun I vis L B => L115_2 hL hX0 hE hu hth kk j (i + 1) I vis L B (by omega)
    have hw : (I 151 (u ^^^ 2 ^ i)) = E (u ^^^ 2 ^ i) := hX.2.2.2.2.2.2.2 _ hx
    rw [e115_2]
    simp only [B115_2, xSeq, i_push, i_load, i_iload, i_lload, i_dload, i_aload, i_istore, i_astore, i_lstore, i_dstore, i_iinc, i_ii, i_iiz, i_ll, i_llz, i_lli, i_li, i_i, i_l, i_i2l, i_l2i, i_dup, i_dup2, i_dup2w, i_dupx1, i_pop, i_pop2, i_goto, i_ifc, i_icmp, i_getI, i_getL, i_getR, i_putI, i_putZ, i_putL, i_putR, i_aldI, i_aldB, i_aldL, i_aldD, i_astI, i_astL, i_astD, i_alen, i_ret, i_iret, i_zret, i_lret, i_fret, i_dret, i_aret, i_invS0, i_invV0, i_m2, i_m1, i_ml, i_obj, lk, lkp, stf1, stf2, Value.category, rV, xTo, lv_args, xCk, xCat, xRc, xAk, hg_S, hg_I, hg_J, hg_D, hg_R, hs_I, hs_J, hs_D, hs_R, uI_at, uJ_at, uD_at, uR_at, List.take_succ_cons, List.take_zero, List.drop_succ_cons, List.drop_zero, List.reverse_cons, List.reverse_nil, List.nil_append, List.cons_append, List.map_cons, List.map_nil, List.sum_cons, List.sum_nil, List.length_cons, List.length_nil, Option.toList_some, Option.toList_none, true_and, and_true, false_and, and_false, true_implies, false_implies, implies_true, not_true_eq_false, not_false_eq_true, ne_eq, if_true, if_false, Bool.and_true, Bool.true_and, decide_true, decide_false, reduceIte, reduceCtorEq, Bool.and_self, Bool.and_eq_true, decide_eq_true_eq, and_self, true_or, or_true, false_or, or_false, Nat.zero_add, Nat.add_zero, eq_self, Nat.reduceEqDiff, Nat.reduceLeDiff, Nat.reduceLT, Nat.reduceAdd, Nat.reduceSub, Nat.reduceMul, LC_out hL, LE_out hX.1, hX.2.2.1, nI_leP (show n < 2147483648 by omega) (show i < 2147483648 by omega), show (n ≤ i) = False from eq_false (by omega), q_1shl (show i < 31 by omega), i_xorN, nI_inP (show u ^^^ 2 ^ i < 65536 by omega) (by decide), nI_ix (show u ^^^ 2 ^ i < 2147483648 by omega), hw, e1, jMax_nI (show ht < 2147483648 by omega) (show eN E (u ^^^ 2 ^ i) < 2147483648 by omega), nI_inP (show max ht (eN E (u ^^^ 2 ^ i)) < 289 by omega) (by decide), nI_ix (show max ht (eN E (u ^^^ 2 ^ i)) < 2147483648 by omega), e115_69, B115_69, nI_1]
    cases hb : vis (u ^^^ 2 ^ i)
    · have g1 := f1 hb
      have hou : u ≠ u ^^^ 2 ^ i := fun e2 => by rw [← e2, hv] at hb; exact absurd hb (by decide)
      simp only [g1, true_and, and_true, false_and, and_false, true_implies, false_implies, implies_true, not_true_eq_false, not_false_eq_true, ne_eq, if_true, if_false, Bool.and_true, Bool.true_and, decide_true, decide_false, reduceIte, reduceCtorEq, Bool.and_self, Bool.and_eq_true, decide_eq_true_eq, and_self, true_or, or_true, false_or, or_false, Nat.zero_add, Nat.add_zero, eq_self, Nat.reduceEqDiff, Nat.reduceLeDiff, Nat.reduceLT, Nat.reduceAdd, Nat.reduceSub, Nat.reduceMul]
      refine nx _ _ _ _ (FS_new hS hv hl (show i < n by omega) he hb) ?_ ?_ (fun t ht2 => ?_) (HF_new hf (by omega) hb (fun l c hc => (hS.v4 l c hc).1) (fun l c hc => Nat.lt_of_lt_of_le (hS.v1 c (hS.v4 l c hc).1).1 hp))
      · simp only [hou, if_false]; exact hv
      · simp only [hou, if_false]; exact hl
      · by_cases e : t = i
        · subst e
          simp only [if_true]
        · have := hn t (by omega)
          split
          · rfl
          · exact this
    · have g2 := f2 hb
      simp only [g2, true_and, and_true, false_and, and_false, true_implies, false_implies, implies_true, not_true_eq_false, not_false_eq_true, ne_eq, if_true, if_false, Bool.and_true, Bool.true_and, decide_true, decide_false, reduceIte, reduceCtorEq, Bool.and_self, Bool.and_eq_true, decide_eq_true_eq, and_self, true_or, or_true, false_or, or_false, Nat.zero_add, Nat.add_zero, eq_self, Nat.reduceEqDiff, Nat.reduceLeDiff, Nat.reduceLT, Nat.reduceAdd, Nat.reduceSub, Nat.reduceMul]
      refine nx _ _ _ _ hS hv hl (fun t ht2 => ?_) hf
      by_cases e : t = i
      · rw [e]; exact hb
      · exact hn t (by omega)
end
/-! ===== the lab's barrier ===== -/
section
variable {S : xS} {I : xI} {J : xJ} {D : xDb} {R : xR} {b : Nat × Nat} {Q : xQ} {E : Nat → Int32} {n a u z : Nat} {vis done : Nat → Bool} {L : Nat → Nat} {B : Nat → List Nat} {ht : Nat}
theorem HF_pop {I0 : xI} (hf : HF n vis B I0 I) {c : Nat} {q : List Nat} (hl : ht < 289) (hb : B ht = c :: q) : HF n vis (fun l => if l = ht then q else B l) I0 (uI I 137 ht (I 152 c)) ∧ I 137 ht = nI c := by
  obtain ⟨h1, h2, h3⟩ := hf
  have h4 := h1 ht hl
  rw [hb] at h4
  have er : (uI I 137 ht (I 152 c)) 152 = I 152 := by
    funext k
    rw [uI_at, if_neg (fun e => absurd e.1 (by decide))]
  refine ⟨⟨fun k hk => ?_, fun c hc => ?_, fun p k p1 p2 => ?_⟩, h4.1⟩
  · rw [er]
    by_cases e : k = ht
    · subst e
      simp only [if_true]
      rw [uI_at, if_pos ⟨rfl, rfl⟩]
      exact h4.2
    · simp only [e, if_false]
      rw [uI_at, if_neg (fun h => e h.2)]
      exact h1 k hk
  · rw [er]
    exact h2 c hc
  · rw [uI_at, if_neg (fun e => p1 e.1)]
    exact h3 p k p1 p2
theorem ct_dn {c : Nat} (hd : done c = false) (hc : c < 2 ^ n) : ct (fun k => done k || decide (c = k)) (2 ^ n) = ct done (2 ^ n) + 1 := by
  rw [ct_set hd, if_pos hc]
theorem L114_45 {I0 : xI} (hL : LC S R) (hX0 : XL n E S I0 R) (hE : EB E n) (ha : a < 2 ^ n) (hz : z < 2 ^ n)
    (kk : ∀ I h, bar (eN E) n a z h → (∀ o k, o ≠ 137 → o ≠ 152 → I o k = I0 o k) → Q (.ok (some (.int (nI h - 144)))) (S, I, J, D, R) b) :
    ∀ (j i : Nat) (I : xI) (vis done : Nat → Bool) (L : Nat → Nat) (B : Nat → List Nat) (ht : Nat), i + j = 65825 → FS (eN E) n a (2 ^ n) vis done L B ht → done z = false → HF n vis B I0 I → ht ≤ 288 → i + eN E a = ht + ct done (2 ^ n) →
      xRun xT 114 45 [(0, .ref 130), (2, .int (nI z)), (3, .int (nI ht)), (4, .int (nI i))] [] (S, I, J, D, R) b Q
  | 0, i, I, vis, done, L, B, ht, hi, hS, hd, hf, hh, hc => by
    have hp := pow16 hE.1
    have h1 := ct_lt hd hz
    omega
  | j + 1, i, I, vis, done, L, B, ht, hi, hS, hd, hf, hh, hc => by
    have hp := pow16 hE.1
    have hX := HF_XL hf hX0
    have nx := fun I vis done L B ht => L114_45 hL hX0 hE ha hz kk j (i + 1) I vis done L B ht (by omega)
    have e1 : ((65825 : Int32) ≤ nI i) = False := by rw [show (65825 : Int32) = nI 65825 from rfl, nI_leP (by decide) (show i < 2147483648 by omega)]; exact eq_false (by omega)
    have e2 : ((289 : Int32) ≤ nI ht) = False := by rw [show (289 : Int32) = nI 289 from rfl, nI_leP (by decide) (show ht < 2147483648 by omega)]; exact eq_false (by omega)
    cases hb : B ht with
    | nil =>
      have h4 := hf.1 ht (by omega)
      rw [hb] at h4
      have h5 : I 137 ht = -1 := h4
      have hu := FS_up hS hb
      have hz1 : (-1 = nI z) = False := eq_false (fun e => (iff_of_eq (nI_n1 (show z < 2147483648 by omega))).mp e.symm)
      have h288 : ht + 1 ≤ 288 := by
        refine Nat.le_of_not_lt (fun hlt => ?_)
        have e9 : ht + 1 = 289 := by omega
        rw [e9] at hu
        have := FS_dn hu (show 288 < 289 by decide) (RC_top ha hz (fun k hk => (eN_ok hE hk).2.2.1))
        rw [hd] at this
        exact absurd this (by decide)
      rw [e114_45]
      simp only [B114_45, xSeq, i_push, i_load, i_iload, i_lload, i_dload, i_aload, i_istore, i_astore, i_lstore, i_dstore, i_iinc, i_ii, i_iiz, i_ll, i_llz, i_lli, i_li, i_i, i_l, i_i2l, i_l2i, i_dup, i_dup2, i_dup2w, i_dupx1, i_pop, i_pop2, i_goto, i_ifc, i_icmp, i_getI, i_getL, i_getR, i_putI, i_putZ, i_putL, i_putR, i_aldI, i_aldB, i_aldL, i_aldD, i_astI, i_astL, i_astD, i_alen, i_ret, i_iret, i_zret, i_lret, i_fret, i_dret, i_aret, i_invS0, i_invV0, i_m2, i_m1, i_ml, i_obj, lk, lkp, stf1, stf2, Value.category, rV, xTo, lv_args, xCk, xCat, xRc, xAk, hg_S, hg_I, hg_J, hg_D, hg_R, hs_I, hs_J, hs_D, hs_R, uI_at, uJ_at, uD_at, uR_at, List.take_succ_cons, List.take_zero, List.drop_succ_cons, List.drop_zero, List.reverse_cons, List.reverse_nil, List.nil_append, List.cons_append, List.map_cons, List.map_nil, List.sum_cons, List.sum_nil, List.length_cons, List.length_nil, Option.toList_some, Option.toList_none, true_and, and_true, false_and, and_false, true_implies, false_implies, implies_true, not_true_eq_false, not_false_eq_true, ne_eq, if_true, if_false, Bool.and_true, Bool.true_and, decide_true, decide_false, reduceIte, reduceCtorEq, Bool.and_self, Bool.and_eq_true, decide_eq_true_eq, and_self, true_or, or_true, false_or, or_false, Nat.zero_add, Nat.add_zero, eq_self, Nat.reduceEqDiff, Nat.reduceLeDiff, Nat.reduceLT, Nat.reduceAdd, Nat.reduceSub, Nat.reduceMul, LC_out hL, e1, e2, nI_inP (show ht < 289 by omega) (by decide), nI_ix (show ht < 2147483648 by omega), h5, hz1, ne_eq, e114_76, B114_76, e114_108, B114_108, nI_1]
      exact nx I vis done L B (ht + 1) hu hd hf h288 (by omega)
    | cons c q =>
      obtain ⟨p1, p2⟩ := HF_pop hf (show ht < 289 by omega) hb
      obtain ⟨q1, q2, q3, q4⟩ := FS_pop hS hb
      have hc2 : c < 2 ^ n := (q1.v1 c q2).1
      have ec : (nI c = nI z) = (c = z) := nI_iff (show c < 2147483648 by omega) (show z < 2147483648 by omega)
      by_cases hcz : c = z
      · have hbar := FS_bar hS (c := z) (by rw [hb, hcz]; exact List.mem_cons_self)
        rw [e114_45]
        simp only [B114_45, xSeq, i_push, i_load, i_iload, i_lload, i_dload, i_aload, i_istore, i_astore, i_lstore, i_dstore, i_iinc, i_ii, i_iiz, i_ll, i_llz, i_lli, i_li, i_i, i_l, i_i2l, i_l2i, i_dup, i_dup2, i_dup2w, i_dupx1, i_pop, i_pop2, i_goto, i_ifc, i_icmp, i_getI, i_getL, i_getR, i_putI, i_putZ, i_putL, i_putR, i_aldI, i_aldB, i_aldL, i_aldD, i_astI, i_astL, i_astD, i_alen, i_ret, i_iret, i_zret, i_lret, i_fret, i_dret, i_aret, i_invS0, i_invV0, i_m2, i_m1, i_ml, i_obj, lk, lkp, stf1, stf2, Value.category, rV, xTo, lv_args, xCk, xCat, xRc, xAk, hg_S, hg_I, hg_J, hg_D, hg_R, hs_I, hs_J, hs_D, hs_R, uI_at, uJ_at, uD_at, uR_at, List.take_succ_cons, List.take_zero, List.drop_succ_cons, List.drop_zero, List.reverse_cons, List.reverse_nil, List.nil_append, List.cons_append, List.map_cons, List.map_nil, List.sum_cons, List.sum_nil, List.length_cons, List.length_nil, Option.toList_some, Option.toList_none, true_and, and_true, false_and, and_false, true_implies, false_implies, implies_true, not_true_eq_false, not_false_eq_true, ne_eq, if_true, if_false, Bool.and_true, Bool.true_and, decide_true, decide_false, reduceIte, reduceCtorEq, Bool.and_self, Bool.and_eq_true, decide_eq_true_eq, and_self, true_or, or_true, false_or, or_false, Nat.zero_add, Nat.add_zero, eq_self, Nat.reduceEqDiff, Nat.reduceLeDiff, Nat.reduceLT, Nat.reduceAdd, Nat.reduceSub, Nat.reduceMul, LC_out hL, e1, e2, nI_inP (show ht < 289 by omega) (by decide), nI_ix (show ht < 2147483648 by omega), p2, hcz, ne_eq, e114_114, B114_114]
        exact kk I ht hbar hf.2.2
      · rw [e114_45]
        simp only [B114_45, xSeq, i_push, i_load, i_iload, i_lload, i_dload, i_aload, i_istore, i_astore, i_lstore, i_dstore, i_iinc, i_ii, i_iiz, i_ll, i_llz, i_lli, i_li, i_i, i_l, i_i2l, i_l2i, i_dup, i_dup2, i_dup2w, i_dupx1, i_pop, i_pop2, i_goto, i_ifc, i_icmp, i_getI, i_getL, i_getR, i_putI, i_putZ, i_putL, i_putR, i_aldI, i_aldB, i_aldL, i_aldD, i_astI, i_astL, i_astD, i_alen, i_ret, i_iret, i_zret, i_lret, i_fret, i_dret, i_aret, i_invS0, i_invV0, i_m2, i_m1, i_ml, i_obj, lk, lkp, stf1, stf2, Value.category, rV, xTo, lv_args, xCk, xCat, xRc, xAk, hg_S, hg_I, hg_J, hg_D, hg_R, hs_I, hs_J, hs_D, hs_R, uI_at, uJ_at, uD_at, uR_at, List.take_succ_cons, List.take_zero, List.drop_succ_cons, List.drop_zero, List.reverse_cons, List.reverse_nil, List.nil_append, List.cons_append, List.map_cons, List.map_nil, List.sum_cons, List.sum_nil, List.length_cons, List.length_nil, Option.toList_some, Option.toList_none, true_and, and_true, false_and, and_false, true_implies, false_implies, implies_true, not_true_eq_false, not_false_eq_true, ne_eq, if_true, if_false, Bool.and_true, Bool.true_and, decide_true, decide_false, reduceIte, reduceCtorEq, Bool.and_self, Bool.and_eq_true, decide_eq_true_eq, and_self, true_or, or_true, false_or, or_false, Nat.zero_add, Nat.add_zero, eq_self, Nat.reduceEqDiff, Nat.reduceLeDiff, Nat.reduceLT, Nat.reduceAdd, Nat.reduceSub, Nat.reduceMul, LC_out hL, LE_out hX.1, e1, e2, nI_inP (show ht < 289 by omega) (by decide), nI_ix (show ht < 2147483648 by omega), p2, ec, hcz, ne_eq, e114_76, B114_76, nI_n1 (show c < 2147483648 by omega), e114_88, B114_88, nI_inP (show c < 65536 by omega) (by decide), nI_ix (show c < 2147483648 by omega)]
        rw [e115_0]
        simp only [B115_0, xSeq, i_push, i_load, i_iload, i_lload, i_dload, i_aload, i_istore, i_astore, i_lstore, i_dstore, i_iinc, i_ii, i_iiz, i_ll, i_llz, i_lli, i_li, i_i, i_l, i_i2l, i_l2i, i_dup, i_dup2, i_dup2w, i_dupx1, i_pop, i_pop2, i_goto, i_ifc, i_icmp, i_getI, i_getL, i_getR, i_putI, i_putZ, i_putL, i_putR, i_aldI, i_aldB, i_aldL, i_aldD, i_astI, i_astL, i_astD, i_alen, i_ret, i_iret, i_zret, i_lret, i_fret, i_dret, i_aret, i_invS0, i_invV0, i_m2, i_m1, i_ml, i_obj, lk, lkp, stf1, stf2, Value.category, rV, xTo, lv_args, xCk, xCat, xRc, xAk, hg_S, hg_I, hg_J, hg_D, hg_R, hs_I, hs_J, hs_D, hs_R, uI_at, uJ_at, uD_at, uR_at, List.take_succ_cons, List.take_zero, List.drop_succ_cons, List.drop_zero, List.reverse_cons, List.reverse_nil, List.nil_append, List.cons_append, List.map_cons, List.map_nil, List.sum_cons, List.sum_nil, List.length_cons, List.length_nil, Option.toList_some, Option.toList_none, true_and, and_true, false_and, and_false, true_implies, false_implies, implies_true, not_true_eq_false, not_false_eq_true, ne_eq, if_true, if_false, Bool.and_true, Bool.true_and, decide_true, decide_false, reduceIte, reduceCtorEq, Bool.and_self, Bool.and_eq_true, decide_eq_true_eq, and_self, true_or, or_true, false_or, or_false, Nat.zero_add, Nat.add_zero, eq_self, Nat.reduceEqDiff, Nat.reduceLeDiff, Nat.reduceLT, Nat.reduceAdd, Nat.reduceSub, Nat.reduceMul]
        refine L115_2 (E := E) (n := n) (a := a) (u := c) (done := done) (ht := ht) hL hX0 hE hc2 hh (fun I' vis' L' B' f1 f2 f3 f4 f5 => ?_) n 0 _ vis L _ (by omega) q1 q2 q3 (fun t ht2 => absurd ht2 (Nat.not_lt_zero _)) p1
        simp only [xSeq, i_push, i_load, i_iload, i_lload, i_dload, i_aload, i_istore, i_astore, i_lstore, i_dstore, i_iinc, i_ii, i_iiz, i_ll, i_llz, i_lli, i_li, i_i, i_l, i_i2l, i_l2i, i_dup, i_dup2, i_dup2w, i_dupx1, i_pop, i_pop2, i_goto, i_ifc, i_icmp, i_getI, i_getL, i_getR, i_putI, i_putZ, i_putL, i_putR, i_aldI, i_aldB, i_aldL, i_aldD, i_astI, i_astL, i_astD, i_alen, i_ret, i_iret, i_zret, i_lret, i_fret, i_dret, i_aret, i_invS0, i_invV0, i_m2, i_m1, i_ml, i_obj, lk, lkp, stf1, stf2, Value.category, rV, xTo, lv_args, xCk, xCat, xRc, xAk, hg_S, hg_I, hg_J, hg_D, hg_R, hs_I, hs_J, hs_D, hs_R, uI_at, uJ_at, uD_at, uR_at, List.take_succ_cons, List.take_zero, List.drop_succ_cons, List.drop_zero, List.reverse_cons, List.reverse_nil, List.nil_append, List.cons_append, List.map_cons, List.map_nil, List.sum_cons, List.sum_nil, List.length_cons, List.length_nil, Option.toList_some, Option.toList_none, true_and, and_true, false_and, and_false, true_implies, false_implies, implies_true, not_true_eq_false, not_false_eq_true, ne_eq, if_true, if_false, Bool.and_true, Bool.true_and, decide_true, decide_false, reduceIte, reduceCtorEq, Bool.and_self, Bool.and_eq_true, decide_eq_true_eq, and_self, true_or, or_true, false_or, or_false, Nat.zero_add, Nat.add_zero, eq_self, Nat.reduceEqDiff, Nat.reduceLeDiff, Nat.reduceLT, Nat.reduceAdd, Nat.reduceSub, Nat.reduceMul, e114_108, B114_108, nI_1]
        have hfin := FS_end f1 f2 f3 f4 q4
        refine nx I' vis' _ L' B' ht hfin ?_ f5 hh ?_
        · show (done z || decide (c = z)) = false
          rw [hd, decide_eq_false hcz]
          rfl
        · rw [ct_dn q4 hc2]
          omega
theorem L114 (hL : LC S R) (hX : XL n E S I R) (hE : EB E n) (ha : a < 2 ^ n) (hz : z < 2 ^ n)
    (kk : ∀ I' h, bar (eN E) n a z h → (∀ o k, o ≠ 137 → o ≠ 152 → I' o k = I o k) → Q (.ok (some (.int (nI h - 144)))) (S, I', J, D, R) b) :
    xRun xT 114 0 [(0, .ref 130), (1, .int (nI a)), (2, .int (nI z))] [] (S, I, J, D, R) b Q := by
  have hp := pow16 hE.1
  obtain ⟨e1, -, e3, -⟩ := eN_ok hE ha
  have xE := hX.1
  have s137 : S 137 = (100, 289) := by simp only [LC_out hL]
  have s152 : S 152 = (100, 65536) := by simp only [LE_out xE]
  have y1 := fun (I : xI) (b : Nat × Nat) (Q : xQ) => Y6 (S := S) (I := I) (J := J) (D := D) (R := R) (b := b) (Q := Q) (v := -1) s137 (by decide)
  have y2 := fun (I : xI) (b : Nat × Nat) (Q : xQ) => Y6 (S := S) (I := I) (J := J) (D := D) (R := R) (b := b) (Q := Q) (v := -2) s152 (by decide)
  obtain ⟨N, hN⟩ : ∃ N, N = 65536 := ⟨_, rfl⟩
  rw [← hN] at y2
  have hw : I 151 a = E a := hX.2.2.2.2.2.2.2 _ ha
  have hw2 : rI (rI I 152 (fill (I 152) (-2) N)) 137 (fill (rI I 152 (fill (I 152) (-2) N) 137) (-1) 289) 151 a = E a := hw
  rw [e114_0]
  simp only [B114_0, xSeq, i_push, i_load, i_iload, i_lload, i_dload, i_aload, i_istore, i_astore, i_lstore, i_dstore, i_iinc, i_ii, i_iiz, i_ll, i_llz, i_lli, i_li, i_i, i_l, i_i2l, i_l2i, i_dup, i_dup2, i_dup2w, i_dupx1, i_pop, i_pop2, i_goto, i_ifc, i_icmp, i_getI, i_getL, i_getR, i_putI, i_putZ, i_putL, i_putR, i_aldI, i_aldB, i_aldL, i_aldD, i_astI, i_astL, i_astD, i_alen, i_ret, i_iret, i_zret, i_lret, i_fret, i_dret, i_aret, i_invS0, i_invV0, i_m2, i_m1, i_ml, i_obj, lk, lkp, stf1, stf2, Value.category, rV, xTo, lv_args, xCk, xCat, xRc, xAk, hg_S, hg_I, hg_J, hg_D, hg_R, hs_I, hs_J, hs_D, hs_R, uI_at, uJ_at, uD_at, uR_at, List.take_succ_cons, List.take_zero, List.drop_succ_cons, List.drop_zero, List.reverse_cons, List.reverse_nil, List.nil_append, List.cons_append, List.map_cons, List.map_nil, List.sum_cons, List.sum_nil, List.length_cons, List.length_nil, Option.toList_some, Option.toList_none, true_and, and_true, false_and, and_false, true_implies, false_implies, implies_true, not_true_eq_false, not_false_eq_true, ne_eq, if_true, if_false, Bool.and_true, Bool.true_and, decide_true, decide_false, reduceIte, reduceCtorEq, Bool.and_self, Bool.and_eq_true, decide_eq_true_eq, and_self, true_or, or_true, false_or, or_false, Nat.zero_add, Nat.add_zero, eq_self, Nat.reduceEqDiff, Nat.reduceLeDiff, Nat.reduceLT, Nat.reduceAdd, Nat.reduceSub, Nat.reduceMul, LC_out hL, LE_out xE, y1, y2, nI_inP (show a < 65536 by omega) (by decide), nI_ix (show a < 2147483648 by omega), hw2, e1, nI_inP (show eN E a < 289 by omega) (by decide), nI_ix (show eN E a < 2147483648 by omega)]
  refine L114_45 (I0 := I) (a := a) (z := z) hL hX hE ha hz kk 65825 0 _ (fun k => decide (k = a)) (fun _ => false) (eN E) (fun l => if l = eN E a then [a] else []) (eN E a) (by omega) ?_ rfl ?_ e3 ?_
  · refine ⟨fun c hc => ?_, fun c hc _ _ => ?_, fun l hl => ?_, fun l c hc => ?_, fun l => ?_, fun c hc => Bool.noConfusion hc, ?_⟩
    · have e := of_decide_eq_true hc
      subst e
      exact ⟨ha, Nat.le_refl _, e3, .refl (Nat.le_refl _), Nat.le_max_right _ _⟩
    · have e := of_decide_eq_true hc
      subst e
      simp only [if_true]
      exact List.mem_cons_self
    · simp only [show ¬ l = eN E a by omega, if_false]
    · by_cases el : l = eN E a
      · simp only [el, if_true] at hc
        have e := List.mem_singleton.mp hc
        subst e
        exact ⟨decide_eq_true rfl, rfl, el.symm, Nat.ne_of_lt ha⟩
      · simp only [el, if_false] at hc
        exact absurd hc (List.not_mem_nil)
    · by_cases el : l = eN E a
      · simp only [el, if_true]
        exact List.nodup_cons.mpr ⟨List.not_mem_nil, List.nodup_nil⟩
      · simp only [el, if_false]
        exact List.nodup_nil
    · exact ⟨decide_eq_true rfl, rfl⟩
  · refine ⟨fun l hl => ?_, fun c hc => ?_, fun o k h1 h2 => ?_⟩
    · by_cases el : l = eN E a
      · simp only [el, if_true]
        refine ⟨?_, ?_⟩
        · rw [uI_at, if_pos ⟨rfl, rfl⟩]
        · show uI (uI _ 152 a (-1)) 137 (eN E a) (nI a) 152 a = -1
          rw [uI_at, if_neg (fun e => absurd e.1 (by decide)), uI_at, if_pos ⟨rfl, rfl⟩]
      · simp only [el, if_false]
        show uI (uI _ 152 a (-1)) 137 (eN E a) (nI a) 137 l = -1
        rw [uI_at, if_neg (fun e => el e.2), uI_at, if_neg (fun e => absurd e.1 (by decide)), rI_at, if_pos rfl, fill_at, if_pos hl]
    · have ev : uI (uI (rI (rI I 152 (fill (I 152) (-2) N)) 137 (fill (rI I 152 (fill (I 152) (-2) N) 137) (-1) 289)) 152 a (-1)) 137 (eN E a) (nI a) 152 c = if c = a then -1 else -2 := by
        rw [uI_at, if_neg (fun e => absurd e.1 (by decide)), uI_at]
        by_cases ec : c = a
        · rw [if_pos ⟨rfl, ec⟩, if_pos ec]
        · rw [if_neg (fun e => ec e.2), if_neg ec, rI_at, if_neg (by decide), rI_at, if_pos rfl, fill_at, if_pos (by omega)]
      rw [ev]
      show (decide (c = a) = false → _) ∧ (decide (c = a) = true → _)
      by_cases ec : c = a
      · rw [if_pos ec, decide_eq_true ec]
        exact ⟨fun h => absurd h (by decide), fun _ => by decide⟩
      · rw [if_neg ec, decide_eq_false ec]
        exact ⟨fun _ => rfl, fun h => absurd h (by decide)⟩
    · rw [uI_at, if_neg (fun e => h1 e.1), uI_at, if_neg (fun e => h2 e.1), rI_at, if_neg h1, rI_at, if_neg h2]
  · rw [ct_no]
    omega
end
/-! ===== configurations in order ===== -/
section
theorem ct_or {p q : Nat → Bool} (h : ∀ k, p k = true → q k = false) : ∀ n, ct (fun k => p k || q k) n = ct p n + ct q n
  | 0 => rfl
  | n + 1 => by
    rw [ct, ct, ct, ct_or h n]
    cases h1 : p n
    · cases q n <;> simp <;> omega
    · rw [h n h1]
      simp
      omega
theorem ct_cut {q : Nat → Bool} {c : Nat} : ∀ n, c ≤ n → ct (fun k => q k && decide (k < c)) n = ct q c
  | 0, h => by
    rw [show c = 0 by omega]
    rfl
  | n + 1, h => by
    by_cases e : c = n + 1
    · subst e
      refine ct_congr (fun k hk => ?_)
      rw [decide_eq_true hk, Bool.and_true]
    · rw [ct, ct_cut n (by omega), decide_eq_false (show ¬ n < c by omega), Bool.and_false]
      rfl
theorem ct_mono {p q : Nat → Bool} : ∀ {n : Nat}, (∀ k, k < n → p k = true → q k = true) → ct p n ≤ ct q n
  | 0, _ => Nat.le_refl _
  | n + 1, h => by
    have ih := ct_mono (p := p) (q := q) (n := n) (fun k hk => h k (by omega))
    have h2 := h n (Nat.lt_succ_self n)
    rw [ct, ct]
    cases h1 : p n
    · simp
      omega
    · rw [h2 h1]
      simp
      exact ih
theorem ct_more {p q : Nat → Bool} {n o : Nat} (h : ∀ k, k < n → p k = true → q k = true) (ho : o < n) (h1 : p o = false) (h2 : q o = true) : ct p n < ct q n := by
  have h3 := ct_set h1 (n := n)
  rw [if_pos ho] at h3
  have h4 : ct (fun k => p k || decide (o = k)) n ≤ ct q n := ct_mono (fun k hk hp => by
    simp only [Bool.or_eq_true, decide_eq_true_eq] at hp
    rcases hp with hp | hp
    · exact h k hk hp
    · rw [← hp]; exact h2)
  omega
theorem inj_ct {g : Nat → Nat} {N : Nat} : ∀ (M : Nat) (p : Nat → Bool), (∀ i, i < M → g i < N ∧ p (g i) = true) → (∀ i j, i < M → j < M → g i = g j → i = j) → M ≤ ct p N
  | 0, _, _, _ => Nat.zero_le _
  | M + 1, p, h, hi => by
    obtain ⟨h1, h2⟩ := h M (Nat.lt_succ_self M)
    have ih := inj_ct M (fun k => p k && !decide (g M = k)) (fun i hk => by
      obtain ⟨h3, h4⟩ := h i (by omega)
      refine ⟨h3, ?_⟩
      have : ¬ g M = g i := fun e => by
        have := hi M i (by omega) (by omega) e
        omega
      show (p (g i) && !decide (g M = g i)) = true
      rw [h4, decide_eq_false this]
      rfl) (fun i j a b => hi i j (by omega) (by omega))
    have h5 : (fun k => p k && !decide (g M = k)) (g M) = false := by
      show (p (g M) && !decide (g M = g M)) = false
      rw [decide_eq_true rfl]
      simp
    have h6 := ct_set (p := fun k => p k && !decide (g M = k)) (o := g M) h5 (n := N)
    rw [if_pos h1] at h6
    have h7 : ct (fun k => (p k && !decide (g M = k)) || decide (g M = k)) N = ct p N := ct_congr (fun k _ => by
      by_cases e : g M = k
      · rw [← e, h2, decide_eq_true rfl]
        rfl
      · rw [decide_eq_false e]
        simp)
    rw [h7] at h6
    omega
theorem inj_sur {g : Nat → Nat} {N : Nat} (h : ∀ i, i < N → g i < N) (hi : ∀ i j, i < N → j < N → g i = g j → i = j) {k : Nat} (hk : k < N) : ∃ i, i < N ∧ g i = k := by
  refine Classical.byContradiction (fun hn => ?_)
  have h1 := inj_ct N (fun x => !decide (x = k)) (fun i hlt => ⟨h i hlt, by
    have : ¬ g i = k := fun e => hn ⟨i, hlt, e⟩
    show (!decide (g i = k)) = true
    rw [decide_eq_false this]
    rfl⟩) hi
  have h2 := ct_lt (p := fun x => !decide (x = k)) (o := k) (n := N) (by
    show (!decide (k = k)) = false
    rw [decide_eq_true rfl]
    rfl) hk
  omega
/-- a place in the order: by energy, then by number -/
def bf (f : Nat → Nat) (d c : Nat) : Bool := decide (f d < f c) || (decide (f d = f c) && decide (d < c))
def ps2 (f : Nat → Nat) (N c : Nat) : Nat := ct (fun d => bf f d c) N
theorem bf_self (f : Nat → Nat) (c : Nat) : bf f c c = false := by
  unfold bf
  rw [decide_eq_false (Nat.lt_irrefl _), decide_eq_false (Nat.lt_irrefl c), Bool.and_false]
  rfl
theorem bf_iff {f : Nat → Nat} {d c : Nat} : bf f d c = true ↔ f d < f c ∨ (f d = f c ∧ d < c) := by
  unfold bf
  simp
theorem ps2_lt {f : Nat → Nat} {N c : Nat} (hc : c < N) : ps2 f N c < N := ct_lt (bf_self f c) hc
theorem ps2_mono {f : Nat → Nat} {N d c : Nat} (hd : d < N) (h : bf f d c = true) : ps2 f N d < ps2 f N c := by
  refine ct_more (fun k _ hk => ?_) hd (bf_self f d) h
  have h1 := bf_iff.mp hk
  have h2 := bf_iff.mp h
  exact bf_iff.mpr (by omega)
theorem ps2_inj {f : Nat → Nat} {N d c : Nat} (hd : d < N) (hc : c < N) (h : ps2 f N d = ps2 f N c) : d = c := by
  refine Classical.byContradiction (fun hn => ?_)
  by_cases h1 : bf f d c = true
  · have := ps2_mono hd h1
    omega
  · have h2 : bf f c d = true := by
      have h3 : ¬ (f d < f c ∨ (f d = f c ∧ d < c)) := fun e => h1 (bf_iff.mpr e)
      exact bf_iff.mpr (by omega)
    have := ps2_mono hc h2
    omega
theorem ps2_sur {f : Nat → Nat} {N k : Nat} (hk : k < N) : ∃ c, c < N ∧ ps2 f N c = k := inj_sur (fun i hi => ps2_lt hi) (fun i j hi hj h => ps2_inj hi hj h) hk
theorem ps2_le {f : Nat → Nat} {N d c : Nat} (hc : c < N) (h : ps2 f N d ≤ ps2 f N c) : f d ≤ f c := by
  refine Nat.le_of_not_lt (fun hlt => ?_)
  have := ps2_mono (N := N) hc (bf_iff.mpr (Or.inl hlt))
  omega
/-- the counts from which places are taken -/
theorem ps2_eq {f : Nat → Nat} {N c : Nat} (hc : c ≤ N) : ps2 f N c = ct (fun d => decide (f d < f c)) N + ct (fun d => decide (f d = f c)) c := by
  unfold ps2 bf
  rw [ct_or (fun k hk => by
    have := of_decide_eq_true hk
    rw [decide_eq_false (show ¬ f k = f c by omega)]
    rfl), ct_cut N hc]
theorem ct_step {f : Nat → Nat} {N k : Nat} : ct (fun d => decide (f d < k + 1)) N = ct (fun d => decide (f d + 1 = k + 1)) N + ct (fun d => decide (f d < k)) N := by
  rw [← ct_or (fun d hd => by
    have := of_decide_eq_true hd
    exact decide_eq_false (by omega))]
  refine ct_congr (fun d _ => ?_)
  by_cases h1 : f d = k
  · rw [h1, decide_eq_true (Nat.lt_succ_self k), decide_eq_true rfl]
    rfl
  · by_cases h2 : f d < k
    · rw [decide_eq_true (show f d < k + 1 by omega), decide_eq_true h2, Bool.or_true]
    · rw [decide_eq_false (show ¬ f d < k + 1 by omega), decide_eq_false (show ¬ f d + 1 = k + 1 by omega), decide_eq_false h2]
      rfl
end
/-! ===== the model lays the order ===== -/
section
variable {S : xS} {I : xI} {J : xJ} {D : xDb} {R : xR} {b : Nat × Nat} {Q : xQ} {E : Nat → Int32} {n : Nat}
/-- the key of a configuration -/
def fk (E : Nat → Int32) (c : Nat) : Nat := eN E c + 56
theorem fk_ok (hE : EB E n) {c : Nat} (hc : c < 2 ^ n) : E c + 200 = nI (fk E c) ∧ fk E c ≤ 344 := by
  obtain ⟨-, h1, h2, -⟩ := eN_ok hE hc
  exact ⟨h1, by unfold fk; omega⟩
abbrev oX (o : Nat) : Prop := o ≠ 355 ∧ o ≠ 356 ∧ o ≠ 357
theorem L324_2 {I0 : xI} (hL : LM S R)
    (kk : ∀ I, (∀ k, k < 402 → I 357 k = 0) → (∀ o k, oX o → I o k = I0 o k) → xRun xT 324 22 [(0, .ref 200)] [] (S, I, J, D, R) b Q) :
    ∀ (j i : Nat) (I : xI), i + j = 402 → (∀ k, k < i → I 357 k = 0) → (∀ o k, oX o → I o k = I0 o k) → xRun xT 324 2 [(0, .ref 200), (1, .int (nI i))] [] (S, I, J, D, R) b Q
  | 0, i, I, hi, h1, h2 => by
    have e : i = 402 := by omega
    subst e
    rw [e324_2]
    simp only [B324_2, xSeq, i_push, i_load, i_iload, i_lload, i_dload, i_aload, i_istore, i_astore, i_lstore, i_dstore, i_iinc, i_ii, i_iiz, i_ll, i_llz, i_lli, i_li, i_i, i_l, i_i2l, i_l2i, i_dup, i_dup2, i_dup2w, i_dupx1, i_pop, i_pop2, i_goto, i_ifc, i_icmp, i_getI, i_getL, i_getR, i_putI, i_putZ, i_putL, i_putR, i_aldI, i_aldB, i_aldL, i_aldD, i_astI, i_astL, i_astD, i_alen, i_ret, i_iret, i_zret, i_lret, i_fret, i_dret, i_aret, i_invS0, i_invV0, i_m2, i_m1, i_ml, i_obj, lk, lkp, stf1, stf2, Value.category, rV, xTo, lv_args, xCk, xCat, xRc, xAk, hg_S, hg_I, hg_J, hg_D, hg_R, hs_I, hs_J, hs_D, hs_R, uI_at, uJ_at, uD_at, uR_at, List.take_succ_cons, List.take_zero, List.drop_succ_cons, List.drop_zero, List.reverse_cons, List.reverse_nil, List.nil_append, List.cons_append, List.map_cons, List.map_nil, List.sum_cons, List.sum_nil, List.length_cons, List.length_nil, Option.toList_some, Option.toList_none, true_and, and_true, false_and, and_false, true_implies, false_implies, implies_true, not_true_eq_false, not_false_eq_true, ne_eq, if_true, if_false, Bool.and_true, Bool.true_and, decide_true, decide_false, reduceIte, reduceCtorEq, Bool.and_self, Bool.and_eq_true, decide_eq_true_eq, and_self, true_or, or_true, false_or, or_false, Nat.zero_add, Nat.add_zero, eq_self, Nat.reduceEqDiff, Nat.reduceLeDiff, Nat.reduceLT, Nat.reduceAdd, Nat.reduceSub, Nat.reduceMul, LM_out hL, show ((402 : Int32) ≤ nI 402) = True from eq_true (by decide)]
    exact kk I h1 h2
  | j + 1, i, I, hi, h1, h2 => by
    have e0 : ((402 : Int32) ≤ nI i) = False := by rw [show (402 : Int32) = nI 402 from rfl, nI_leP (by decide) (show i < 2147483648 by omega)]; exact eq_false (by omega)
    rw [e324_2]
    simp only [B324_2, xSeq, i_push, i_load, i_iload, i_lload, i_dload, i_aload, i_istore, i_astore, i_lstore, i_dstore, i_iinc, i_ii, i_iiz, i_ll, i_llz, i_lli, i_li, i_i, i_l, i_i2l, i_l2i, i_dup, i_dup2, i_dup2w, i_dupx1, i_pop, i_pop2, i_goto, i_ifc, i_icmp, i_getI, i_getL, i_getR, i_putI, i_putZ, i_putL, i_putR, i_aldI, i_aldB, i_aldL, i_aldD, i_astI, i_astL, i_astD, i_alen, i_ret, i_iret, i_zret, i_lret, i_fret, i_dret, i_aret, i_invS0, i_invV0, i_m2, i_m1, i_ml, i_obj, lk, lkp, stf1, stf2, Value.category, rV, xTo, lv_args, xCk, xCat, xRc, xAk, hg_S, hg_I, hg_J, hg_D, hg_R, hs_I, hs_J, hs_D, hs_R, uI_at, uJ_at, uD_at, uR_at, List.take_succ_cons, List.take_zero, List.drop_succ_cons, List.drop_zero, List.reverse_cons, List.reverse_nil, List.nil_append, List.cons_append, List.map_cons, List.map_nil, List.sum_cons, List.sum_nil, List.length_cons, List.length_nil, Option.toList_some, Option.toList_none, true_and, and_true, false_and, and_false, true_implies, false_implies, implies_true, not_true_eq_false, not_false_eq_true, ne_eq, if_true, if_false, Bool.and_true, Bool.true_and, decide_true, decide_false, reduceIte, reduceCtorEq, Bool.and_self, Bool.and_eq_true, decide_eq_true_eq, and_self, true_or, or_true, false_or, or_false, Nat.zero_add, Nat.add_zero, eq_self, Nat.reduceEqDiff, Nat.reduceLeDiff, Nat.reduceLT, Nat.reduceAdd, Nat.reduceSub, Nat.reduceMul, LM_out hL, e0, nI_inP (show i < 402 by omega) (by decide), nI_ix (show i < 2147483648 by omega), nI_1]
    refine L324_2 hL kk j (i + 1) _ (by omega) (fun k hk => ?_) (fun o k ho => ?_)
    · by_cases e : k = i
      · simp only [uI_at, true_and, and_true, false_and, and_false, true_implies, false_implies, implies_true, not_true_eq_false, not_false_eq_true, ne_eq, if_true, if_false, Bool.and_true, Bool.true_and, decide_true, decide_false, reduceIte, reduceCtorEq, Bool.and_self, Bool.and_eq_true, decide_eq_true_eq, and_self, true_or, or_true, false_or, or_false, Nat.zero_add, Nat.add_zero, eq_self, Nat.reduceEqDiff, Nat.reduceLeDiff, Nat.reduceLT, Nat.reduceAdd, Nat.reduceSub, Nat.reduceMul, e]
      · simp only [uI_at, true_and, and_true, false_and, and_false, true_implies, false_implies, implies_true, not_true_eq_false, not_false_eq_true, ne_eq, if_true, if_false, Bool.and_true, Bool.true_and, decide_true, decide_false, reduceIte, reduceCtorEq, Bool.and_self, Bool.and_eq_true, decide_eq_true_eq, and_self, true_or, or_true, false_or, or_false, Nat.zero_add, Nat.add_zero, eq_self, Nat.reduceEqDiff, Nat.reduceLeDiff, Nat.reduceLT, Nat.reduceAdd, Nat.reduceSub, Nat.reduceMul, e, and_false, if_false]
        exact h1 k (by omega)
    · rw [uI_at, if_neg (fun e => ho.2.2 e.1)]
      exact h2 o k ho
theorem L324_24 {I0 : xI} (hL : LM S R) (hX : XM n E I0) (h10 : I0 300 10 = nI n) (hE : EB E n)
    (kk : ∀ I, (∀ k, k < 402 → I 357 k = nI (ct (fun d => decide (fk E d + 1 = k)) (2 ^ n))) → (∀ o k, oX o → I o k = I0 o k) → xRun xT 324 59 [(0, .ref 200)] [] (S, I, J, D, R) b Q) :
    ∀ (j i : Nat) (I : xI), i + j = 2 ^ n → (∀ k, k < 402 → I 357 k = nI (ct (fun d => decide (fk E d + 1 = k)) i)) → (∀ o k, oX o → I o k = I0 o k) → xRun xT 324 24 [(0, .ref 200), (1, .int (nI i))] [] (S, I, J, D, R) b Q
  | 0, i, I, hi, h1, h2 => by
    have hp := pow16 hE.1
    have hn := hE.1
    have h10' : I 300 10 = nI n := (h2 _ _ (by decide)).trans h10
    have e : i = 2 ^ n := by omega
    subst e
    rw [e324_24]
    simp only [B324_24, xSeq, i_push, i_load, i_iload, i_lload, i_dload, i_aload, i_istore, i_astore, i_lstore, i_dstore, i_iinc, i_ii, i_iiz, i_ll, i_llz, i_lli, i_li, i_i, i_l, i_i2l, i_l2i, i_dup, i_dup2, i_dup2w, i_dupx1, i_pop, i_pop2, i_goto, i_ifc, i_icmp, i_getI, i_getL, i_getR, i_putI, i_putZ, i_putL, i_putR, i_aldI, i_aldB, i_aldL, i_aldD, i_astI, i_astL, i_astD, i_alen, i_ret, i_iret, i_zret, i_lret, i_fret, i_dret, i_aret, i_invS0, i_invV0, i_m2, i_m1, i_ml, i_obj, lk, lkp, stf1, stf2, Value.category, rV, xTo, lv_args, xCk, xCat, xRc, xAk, hg_S, hg_I, hg_J, hg_D, hg_R, hs_I, hs_J, hs_D, hs_R, uI_at, uJ_at, uD_at, uR_at, List.take_succ_cons, List.take_zero, List.drop_succ_cons, List.drop_zero, List.reverse_cons, List.reverse_nil, List.nil_append, List.cons_append, List.map_cons, List.map_nil, List.sum_cons, List.sum_nil, List.length_cons, List.length_nil, Option.toList_some, Option.toList_none, true_and, and_true, false_and, and_false, true_implies, false_implies, implies_true, not_true_eq_false, not_false_eq_true, ne_eq, if_true, if_false, Bool.and_true, Bool.true_and, decide_true, decide_false, reduceIte, reduceCtorEq, Bool.and_self, Bool.and_eq_true, decide_eq_true_eq, and_self, true_or, or_true, false_or, or_false, Nat.zero_add, Nat.add_zero, eq_self, Nat.reduceEqDiff, Nat.reduceLeDiff, Nat.reduceLT, Nat.reduceAdd, Nat.reduceSub, Nat.reduceMul, LM_out hL, R303 hL h10' (show n < 31 by omega), nI_leP (show 2 ^ n < 2147483648 by omega) (show 2 ^ n < 2147483648 by omega), Nat.le_refl]
    exact kk I h1 h2
  | j + 1, i, I, hi, h1, h2 => by
    have hp := pow16 hE.1
    have hn := hE.1
    have h10' : I 300 10 = nI n := (h2 _ _ (by decide)).trans h10
    have hc : i < 2 ^ n := by omega
    obtain ⟨f1, f2⟩ := fk_ok hE hc
    have hw : I 343 i = E i := (h2 _ _ (by decide)).trans (hX.2.2.2.2 i hc)
    have g1 := h1 (fk E i + 1) (by omega)
    rw [e324_24]
    simp only [B324_24, xSeq, i_push, i_load, i_iload, i_lload, i_dload, i_aload, i_istore, i_astore, i_lstore, i_dstore, i_iinc, i_ii, i_iiz, i_ll, i_llz, i_lli, i_li, i_i, i_l, i_i2l, i_l2i, i_dup, i_dup2, i_dup2w, i_dupx1, i_pop, i_pop2, i_goto, i_ifc, i_icmp, i_getI, i_getL, i_getR, i_putI, i_putZ, i_putL, i_putR, i_aldI, i_aldB, i_aldL, i_aldD, i_astI, i_astL, i_astD, i_alen, i_ret, i_iret, i_zret, i_lret, i_fret, i_dret, i_aret, i_invS0, i_invV0, i_m2, i_m1, i_ml, i_obj, lk, lkp, stf1, stf2, Value.category, rV, xTo, lv_args, xCk, xCat, xRc, xAk, hg_S, hg_I, hg_J, hg_D, hg_R, hs_I, hs_J, hs_D, hs_R, uI_at, uJ_at, uD_at, uR_at, List.take_succ_cons, List.take_zero, List.drop_succ_cons, List.drop_zero, List.reverse_cons, List.reverse_nil, List.nil_append, List.cons_append, List.map_cons, List.map_nil, List.sum_cons, List.sum_nil, List.length_cons, List.length_nil, Option.toList_some, Option.toList_none, true_and, and_true, false_and, and_false, true_implies, false_implies, implies_true, not_true_eq_false, not_false_eq_true, ne_eq, if_true, if_false, Bool.and_true, Bool.true_and, decide_true, decide_false, reduceIte, reduceCtorEq, Bool.and_self, Bool.and_eq_true, decide_eq_true_eq, and_self, true_or, or_true, false_or, or_false, Nat.zero_add, Nat.add_zero, eq_self, Nat.reduceEqDiff, Nat.reduceLeDiff, Nat.reduceLT, Nat.reduceAdd, Nat.reduceSub, Nat.reduceMul, LM_out hL, R303 hL h10' (show n < 31 by omega), nI_leP (show 2 ^ n < 2147483648 by omega) (show i < 2147483648 by omega), show (2 ^ n ≤ i) = False from eq_false (by omega), nI_inP (show i < 65536 by omega) (by decide), nI_ix (show i < 2147483648 by omega), hw, f1, nI_1, nI_inP (show fk E i + 1 < 402 by omega) (by decide), nI_ix (show fk E i + 1 < 2147483648 by omega), g1]
    refine L324_24 hL hX h10 hE kk j (i + 1) _ (by omega) (fun k hk => ?_) (fun o k ho => ?_)
    · rw [ct]
      by_cases e : fk E i + 1 = k
      · simp only [uI_at, true_and, and_true, false_and, and_false, true_implies, false_implies, implies_true, not_true_eq_false, not_false_eq_true, ne_eq, if_true, if_false, Bool.and_true, Bool.true_and, decide_true, decide_false, reduceIte, reduceCtorEq, Bool.and_self, Bool.and_eq_true, decide_eq_true_eq, and_self, true_or, or_true, false_or, or_false, Nat.zero_add, Nat.add_zero, eq_self, Nat.reduceEqDiff, Nat.reduceLeDiff, Nat.reduceLT, Nat.reduceAdd, Nat.reduceSub, Nat.reduceMul, e, if_true, decide_true]
        exact congrArg (fun z => nI (z + 1)) (ct_congr (fun d _ => decide_eq_decide.mpr (by omega)))
      · have e' : ¬ k = fk E i + 1 := fun h => e h.symm
        simp only [uI_at, true_and, and_true, false_and, and_false, true_implies, false_implies, implies_true, not_true_eq_false, not_false_eq_true, ne_eq, if_true, if_false, Bool.and_true, Bool.true_and, decide_true, decide_false, reduceIte, reduceCtorEq, Bool.and_self, Bool.and_eq_true, decide_eq_true_eq, and_self, true_or, or_true, false_or, or_false, Nat.zero_add, Nat.add_zero, eq_self, Nat.reduceEqDiff, Nat.reduceLeDiff, Nat.reduceLT, Nat.reduceAdd, Nat.reduceSub, Nat.reduceMul, e, e', and_false, if_false, decide_false, Nat.add_zero]
        exact h1 k hk
    · rw [uI_at, if_neg (fun e => ho.2.2 e.1)]
      exact h2 o k ho
theorem L324_61 {I0 : xI} (hL : LM S R) (hE : EB E n)
    (kk : ∀ I, (∀ k, k < 402 → I 357 k = nI (ct (fun d => decide (fk E d < k)) (2 ^ n))) → (∀ o k, oX o → I o k = I0 o k) → xRun xT 324 91 [(0, .ref 200)] [] (S, I, J, D, R) b Q) :
    ∀ (j i : Nat) (I : xI), i + j = 402 → 0 < i → (∀ k, k < 402 → I 357 k = nI (if k < i then ct (fun d => decide (fk E d < k)) (2 ^ n) else ct (fun d => decide (fk E d + 1 = k)) (2 ^ n))) → (∀ o k, oX o → I o k = I0 o k) → xRun xT 324 61 [(0, .ref 200), (1, .int (nI i))] [] (S, I, J, D, R) b Q
  | 0, i, I, hi, h0, h1, h2 => by
    have e : i = 402 := by omega
    subst e
    rw [e324_61]
    simp only [B324_61, xSeq, i_push, i_load, i_iload, i_lload, i_dload, i_aload, i_istore, i_astore, i_lstore, i_dstore, i_iinc, i_ii, i_iiz, i_ll, i_llz, i_lli, i_li, i_i, i_l, i_i2l, i_l2i, i_dup, i_dup2, i_dup2w, i_dupx1, i_pop, i_pop2, i_goto, i_ifc, i_icmp, i_getI, i_getL, i_getR, i_putI, i_putZ, i_putL, i_putR, i_aldI, i_aldB, i_aldL, i_aldD, i_astI, i_astL, i_astD, i_alen, i_ret, i_iret, i_zret, i_lret, i_fret, i_dret, i_aret, i_invS0, i_invV0, i_m2, i_m1, i_ml, i_obj, lk, lkp, stf1, stf2, Value.category, rV, xTo, lv_args, xCk, xCat, xRc, xAk, hg_S, hg_I, hg_J, hg_D, hg_R, hs_I, hs_J, hs_D, hs_R, uI_at, uJ_at, uD_at, uR_at, List.take_succ_cons, List.take_zero, List.drop_succ_cons, List.drop_zero, List.reverse_cons, List.reverse_nil, List.nil_append, List.cons_append, List.map_cons, List.map_nil, List.sum_cons, List.sum_nil, List.length_cons, List.length_nil, Option.toList_some, Option.toList_none, true_and, and_true, false_and, and_false, true_implies, false_implies, implies_true, not_true_eq_false, not_false_eq_true, ne_eq, if_true, if_false, Bool.and_true, Bool.true_and, decide_true, decide_false, reduceIte, reduceCtorEq, Bool.and_self, Bool.and_eq_true, decide_eq_true_eq, and_self, true_or, or_true, false_or, or_false, Nat.zero_add, Nat.add_zero, eq_self, Nat.reduceEqDiff, Nat.reduceLeDiff, Nat.reduceLT, Nat.reduceAdd, Nat.reduceSub, Nat.reduceMul, LM_out hL, show ((402 : Int32) ≤ nI 402) = True from eq_true (by decide)]
    refine kk I (fun k hk => ?_) h2
    have := h1 k hk
    rw [if_pos hk] at this
    exact this
  | j + 1, i, I, hi, h0, h1, h2 => by
    have e0 : ((402 : Int32) ≤ nI i) = False := by rw [show (402 : Int32) = nI 402 from rfl, nI_leP (by decide) (show i < 2147483648 by omega)]; exact eq_false (by omega)
    have g1 := h1 i (by omega)
    rw [if_neg (Nat.lt_irrefl _)] at g1
    have g2 := h1 (i - 1) (by omega)
    rw [if_pos (by omega)] at g2
    have em : nI i - 1 = nI (i - 1) := by rw [show (1 : Int32) = nI 1 from rfl, nI_subn h0]
    have es : ct (fun d => decide (fk E d + 1 = i)) (2 ^ n) + ct (fun d => decide (fk E d < i - 1)) (2 ^ n) = ct (fun d => decide (fk E d < i)) (2 ^ n) := by
      obtain ⟨i', rfl⟩ : ∃ i', i = i' + 1 := ⟨i - 1, by omega⟩
      exact ct_step.symm
    rw [e324_61]
    simp only [B324_61, xSeq, i_push, i_load, i_iload, i_lload, i_dload, i_aload, i_istore, i_astore, i_lstore, i_dstore, i_iinc, i_ii, i_iiz, i_ll, i_llz, i_lli, i_li, i_i, i_l, i_i2l, i_l2i, i_dup, i_dup2, i_dup2w, i_dupx1, i_pop, i_pop2, i_goto, i_ifc, i_icmp, i_getI, i_getL, i_getR, i_putI, i_putZ, i_putL, i_putR, i_aldI, i_aldB, i_aldL, i_aldD, i_astI, i_astL, i_astD, i_alen, i_ret, i_iret, i_zret, i_lret, i_fret, i_dret, i_aret, i_invS0, i_invV0, i_m2, i_m1, i_ml, i_obj, lk, lkp, stf1, stf2, Value.category, rV, xTo, lv_args, xCk, xCat, xRc, xAk, hg_S, hg_I, hg_J, hg_D, hg_R, hs_I, hs_J, hs_D, hs_R, uI_at, uJ_at, uD_at, uR_at, List.take_succ_cons, List.take_zero, List.drop_succ_cons, List.drop_zero, List.reverse_cons, List.reverse_nil, List.nil_append, List.cons_append, List.map_cons, List.map_nil, List.sum_cons, List.sum_nil, List.length_cons, List.length_nil, Option.toList_some, Option.toList_none, true_and, and_true, false_and, and_false, true_implies, false_implies, implies_true, not_true_eq_false, not_false_eq_true, ne_eq, if_true, if_false, Bool.and_true, Bool.true_and, decide_true, decide_false, reduceIte, reduceCtorEq, Bool.and_self, Bool.and_eq_true, decide_eq_true_eq, and_self, true_or, or_true, false_or, or_false, Nat.zero_add, Nat.add_zero, eq_self, Nat.reduceEqDiff, Nat.reduceLeDiff, Nat.reduceLT, Nat.reduceAdd, Nat.reduceSub, Nat.reduceMul, LM_out hL, e0, nI_inP (show i < 402 by omega) (by decide), nI_ix (show i < 2147483648 by omega), em, nI_inP (show i - 1 < 402 by omega) (by decide), nI_ix (show i - 1 < 2147483648 by omega), g1, g2, nI_add, es, nI_1]
    refine L324_61 hL hE kk j (i + 1) _ (by omega) (by omega) (fun k hk => ?_) (fun o k ho => ?_)
    · by_cases e : k = i
      · subst e
        rw [uI_at, if_pos ⟨rfl, rfl⟩, if_pos (Nat.lt_succ_self k)]
      · rw [uI_at, if_neg (fun h => e h.2), h1 k hk]
        by_cases e2 : k < i
        · rw [if_pos e2, if_pos (by omega)]
        · rw [if_neg e2, if_neg (by omega)]
    · rw [uI_at, if_neg (fun e => ho.2.2 e.1)]
      exact h2 o k ho
/-- the order is laid, none is under a top -/
def OL (E : Nat → Int32) (n : Nat) (I0 I : xI) : Prop := (∀ c, c < 2 ^ n → I 355 (ps2 (fk E) (2 ^ n) c) = nI c) ∧ (∀ c, c < 2 ^ n → I 356 c = -1) ∧ ∀ o k, oX o → I o k = I0 o k
theorem L324_93 {I0 : xI} (hL : LM S R) (hX : XM n E I0) (h10 : I0 300 10 = nI n) (hE : EB E n)
    (kk : ∀ I, OL E n I0 I → Q (.ok none) (S, I, J, D, R) b) :
    ∀ (j i : Nat) (I : xI), i + j = 2 ^ n → (∀ k, k < 402 → I 357 k = nI (ct (fun d => decide (fk E d < k)) (2 ^ n) + ct (fun d => decide (fk E d = k)) i)) → (∀ c, c < i → I 355 (ps2 (fk E) (2 ^ n) c) = nI c) → (∀ c, c < i → I 356 c = -1) → (∀ o k, oX o → I o k = I0 o k) → xRun xT 324 93 [(0, .ref 200), (1, .int (nI i))] [] (S, I, J, D, R) b Q
  | 0, i, I, hi, h1, h3, h4, h2 => by
    have hp := pow16 hE.1
    have hn := hE.1
    have h10' : I 300 10 = nI n := (h2 _ _ (by decide)).trans h10
    have e : i = 2 ^ n := by omega
    subst e
    rw [e324_93]
    simp only [B324_93, xSeq, i_push, i_load, i_iload, i_lload, i_dload, i_aload, i_istore, i_astore, i_lstore, i_dstore, i_iinc, i_ii, i_iiz, i_ll, i_llz, i_lli, i_li, i_i, i_l, i_i2l, i_l2i, i_dup, i_dup2, i_dup2w, i_dupx1, i_pop, i_pop2, i_goto, i_ifc, i_icmp, i_getI, i_getL, i_getR, i_putI, i_putZ, i_putL, i_putR, i_aldI, i_aldB, i_aldL, i_aldD, i_astI, i_astL, i_astD, i_alen, i_ret, i_iret, i_zret, i_lret, i_fret, i_dret, i_aret, i_invS0, i_invV0, i_m2, i_m1, i_ml, i_obj, lk, lkp, stf1, stf2, Value.category, rV, xTo, lv_args, xCk, xCat, xRc, xAk, hg_S, hg_I, hg_J, hg_D, hg_R, hs_I, hs_J, hs_D, hs_R, uI_at, uJ_at, uD_at, uR_at, List.take_succ_cons, List.take_zero, List.drop_succ_cons, List.drop_zero, List.reverse_cons, List.reverse_nil, List.nil_append, List.cons_append, List.map_cons, List.map_nil, List.sum_cons, List.sum_nil, List.length_cons, List.length_nil, Option.toList_some, Option.toList_none, true_and, and_true, false_and, and_false, true_implies, false_implies, implies_true, not_true_eq_false, not_false_eq_true, ne_eq, if_true, if_false, Bool.and_true, Bool.true_and, decide_true, decide_false, reduceIte, reduceCtorEq, Bool.and_self, Bool.and_eq_true, decide_eq_true_eq, and_self, true_or, or_true, false_or, or_false, Nat.zero_add, Nat.add_zero, eq_self, Nat.reduceEqDiff, Nat.reduceLeDiff, Nat.reduceLT, Nat.reduceAdd, Nat.reduceSub, Nat.reduceMul, LM_out hL, R303 hL h10' (show n < 31 by omega), nI_leP (show 2 ^ n < 2147483648 by omega) (show 2 ^ n < 2147483648 by omega), Nat.le_refl, e324_154, B324_154]
    exact kk I ⟨h3, h4, h2⟩
  | j + 1, i, I, hi, h1, h3, h4, h2 => by
    have hp := pow16 hE.1
    have hn := hE.1
    have h10' : I 300 10 = nI n := (h2 _ _ (by decide)).trans h10
    have hc : i < 2 ^ n := by omega
    obtain ⟨f1, f2⟩ := fk_ok hE hc
    have hw : I 343 i = E i := (h2 _ _ (by decide)).trans (hX.2.2.2.2 i hc)
    have g1 := h1 (fk E i) (by omega)
    rw [← ps2_eq (show i ≤ 2 ^ n by omega)] at g1
    have hlt := ps2_lt (f := fk E) hc
    obtain ⟨z, hz⟩ : ∃ z, z = ps2 (fk E) (2 ^ n) i := ⟨_, rfl⟩
    rw [← hz] at g1 hlt
    rw [e324_93]
    simp only [B324_93, xSeq, i_push, i_load, i_iload, i_lload, i_dload, i_aload, i_istore, i_astore, i_lstore, i_dstore, i_iinc, i_ii, i_iiz, i_ll, i_llz, i_lli, i_li, i_i, i_l, i_i2l, i_l2i, i_dup, i_dup2, i_dup2w, i_dupx1, i_pop, i_pop2, i_goto, i_ifc, i_icmp, i_getI, i_getL, i_getR, i_putI, i_putZ, i_putL, i_putR, i_aldI, i_aldB, i_aldL, i_aldD, i_astI, i_astL, i_astD, i_alen, i_ret, i_iret, i_zret, i_lret, i_fret, i_dret, i_aret, i_invS0, i_invV0, i_m2, i_m1, i_ml, i_obj, lk, lkp, stf1, stf2, Value.category, rV, xTo, lv_args, xCk, xCat, xRc, xAk, hg_S, hg_I, hg_J, hg_D, hg_R, hs_I, hs_J, hs_D, hs_R, uI_at, uJ_at, uD_at, uR_at, List.take_succ_cons, List.take_zero, List.drop_succ_cons, List.drop_zero, List.reverse_cons, List.reverse_nil, List.nil_append, List.cons_append, List.map_cons, List.map_nil, List.sum_cons, List.sum_nil, List.length_cons, List.length_nil, Option.toList_some, Option.toList_none, true_and, and_true, false_and, and_false, true_implies, false_implies, implies_true, not_true_eq_false, not_false_eq_true, ne_eq, if_true, if_false, Bool.and_true, Bool.true_and, decide_true, decide_false, reduceIte, reduceCtorEq, Bool.and_self, Bool.and_eq_true, decide_eq_true_eq, and_self, true_or, or_true, false_or, or_false, Nat.zero_add, Nat.add_zero, eq_self, Nat.reduceEqDiff, Nat.reduceLeDiff, Nat.reduceLT, Nat.reduceAdd, Nat.reduceSub, Nat.reduceMul, LM_out hL, R303 hL h10' (show n < 31 by omega), nI_leP (show 2 ^ n < 2147483648 by omega) (show i < 2147483648 by omega), show (2 ^ n ≤ i) = False from eq_false (by omega), nI_inP (show i < 65536 by omega) (by decide), nI_ix (show i < 2147483648 by omega), hw, f1, nI_1, nI_inP (show fk E i < 402 by omega) (by decide), nI_ix (show fk E i < 2147483648 by omega), g1, nI_inP (show z < 65536 by omega) (by decide), nI_ix (show z < 2147483648 by omega)]
    refine L324_93 hL hX h10 hE kk j (i + 1) _ (by omega) (fun k hk => ?_) (fun c hc2 => ?_) (fun c hc2 => ?_) (fun o k ho => ?_)
    · rw [uI_at, if_neg (fun e => absurd e.1 (by decide)), ct]
      by_cases e : fk E i = k
      · subst e
        rw [uI_at, if_pos ⟨rfl, rfl⟩, if_pos (decide_eq_true rfl), hz, ps2_eq (show i ≤ 2 ^ n by omega)]
        rfl
      · rw [uI_at, if_neg (fun h => e h.2.symm), uI_at, if_neg (fun e => absurd e.1 (by decide)), if_neg (by rw [decide_eq_false e]; decide), Nat.add_zero]
        exact h1 k hk
    · rw [uI_at, if_neg (fun e => absurd e.1 (by decide)), uI_at, if_neg (fun e => absurd e.1 (by decide)), uI_at]
      by_cases e : c = i
      · subst e
        rw [if_pos ⟨rfl, hz.symm⟩]
      · rw [if_neg (fun h => e (ps2_inj (show c < 2 ^ n by omega) hc (h.2.trans hz)))]
        exact h3 c (by omega)
    · rw [uI_at]
      by_cases e : c = i
      · subst e
        rw [if_pos ⟨rfl, rfl⟩]
      · rw [if_neg (fun h => e h.2), uI_at, if_neg (fun e => absurd e.1 (by decide)), uI_at, if_neg (fun e => absurd e.1 (by decide))]
        exact h4 c (by omega)
    · rw [uI_at, if_neg (fun e => ho.2.1 e.1), uI_at, if_neg (fun e => ho.2.2 e.1), uI_at, if_neg (fun e => ho.1 e.1)]
      exact h2 o k ho
theorem L324 (hL : LM S R) (hX : XM n E I) (h10 : I 300 10 = nI n) (hE : EB E n) (kk : ∀ I', OL E n I I' → Q (.ok none) (S, I', J, D, R) b) : xRun xT 324 0 [(0, .ref 200)] [] (S, I, J, D, R) b Q := by
  rw [e324_0]
  simp only [B324_0, xSeq, i_push, i_load, i_iload, i_lload, i_dload, i_aload, i_istore, i_astore, i_lstore, i_dstore, i_iinc, i_ii, i_iiz, i_ll, i_llz, i_lli, i_li, i_i, i_l, i_i2l, i_l2i, i_dup, i_dup2, i_dup2w, i_dupx1, i_pop, i_pop2, i_goto, i_ifc, i_icmp, i_getI, i_getL, i_getR, i_putI, i_putZ, i_putL, i_putR, i_aldI, i_aldB, i_aldL, i_aldD, i_astI, i_astL, i_astD, i_alen, i_ret, i_iret, i_zret, i_lret, i_fret, i_dret, i_aret, i_invS0, i_invV0, i_m2, i_m1, i_ml, i_obj, lk, lkp, stf1, stf2, Value.category, rV, xTo, lv_args, xCk, xCat, xRc, xAk, hg_S, hg_I, hg_J, hg_D, hg_R, hs_I, hs_J, hs_D, hs_R, uI_at, uJ_at, uD_at, uR_at, List.take_succ_cons, List.take_zero, List.drop_succ_cons, List.drop_zero, List.reverse_cons, List.reverse_nil, List.nil_append, List.cons_append, List.map_cons, List.map_nil, List.sum_cons, List.sum_nil, List.length_cons, List.length_nil, Option.toList_some, Option.toList_none, true_and, and_true, false_and, and_false, true_implies, false_implies, implies_true, not_true_eq_false, not_false_eq_true, ne_eq, if_true, if_false, Bool.and_true, Bool.true_and, decide_true, decide_false, reduceIte, reduceCtorEq, Bool.and_self, Bool.and_eq_true, decide_eq_true_eq, and_self, true_or, or_true, false_or, or_false, Nat.zero_add, Nat.add_zero, eq_self, Nat.reduceEqDiff, Nat.reduceLeDiff, Nat.reduceLT, Nat.reduceAdd, Nat.reduceSub, Nat.reduceMul]
  refine L324_2 (I0 := I) hL (fun I1 a1 a2 => ?_) 402 0 I (by omega) (fun k hk => absurd hk (Nat.not_lt_zero _)) (fun _ _ _ => rfl)
  rw [e324_22]
  simp only [B324_22, xSeq, i_push, i_load, i_iload, i_lload, i_dload, i_aload, i_istore, i_astore, i_lstore, i_dstore, i_iinc, i_ii, i_iiz, i_ll, i_llz, i_lli, i_li, i_i, i_l, i_i2l, i_l2i, i_dup, i_dup2, i_dup2w, i_dupx1, i_pop, i_pop2, i_goto, i_ifc, i_icmp, i_getI, i_getL, i_getR, i_putI, i_putZ, i_putL, i_putR, i_aldI, i_aldB, i_aldL, i_aldD, i_astI, i_astL, i_astD, i_alen, i_ret, i_iret, i_zret, i_lret, i_fret, i_dret, i_aret, i_invS0, i_invV0, i_m2, i_m1, i_ml, i_obj, lk, lkp, stf1, stf2, Value.category, rV, xTo, lv_args, xCk, xCat, xRc, xAk, hg_S, hg_I, hg_J, hg_D, hg_R, hs_I, hs_J, hs_D, hs_R, uI_at, uJ_at, uD_at, uR_at, List.take_succ_cons, List.take_zero, List.drop_succ_cons, List.drop_zero, List.reverse_cons, List.reverse_nil, List.nil_append, List.cons_append, List.map_cons, List.map_nil, List.sum_cons, List.sum_nil, List.length_cons, List.length_nil, Option.toList_some, Option.toList_none, true_and, and_true, false_and, and_false, true_implies, false_implies, implies_true, not_true_eq_false, not_false_eq_true, ne_eq, if_true, if_false, Bool.and_true, Bool.true_and, decide_true, decide_false, reduceIte, reduceCtorEq, Bool.and_self, Bool.and_eq_true, decide_eq_true_eq, and_self, true_or, or_true, false_or, or_false, Nat.zero_add, Nat.add_zero, eq_self, Nat.reduceEqDiff, Nat.reduceLeDiff, Nat.reduceLT, Nat.reduceAdd, Nat.reduceSub, Nat.reduceMul]
  refine L324_24 (I0 := I) hL hX h10 hE (fun I2 b1 b2 => ?_) (2 ^ n) 0 I1 (by omega) (fun k hk => a1 k hk) a2
  rw [e324_59]
  simp only [B324_59, xSeq, i_push, i_load, i_iload, i_lload, i_dload, i_aload, i_istore, i_astore, i_lstore, i_dstore, i_iinc, i_ii, i_iiz, i_ll, i_llz, i_lli, i_li, i_i, i_l, i_i2l, i_l2i, i_dup, i_dup2, i_dup2w, i_dupx1, i_pop, i_pop2, i_goto, i_ifc, i_icmp, i_getI, i_getL, i_getR, i_putI, i_putZ, i_putL, i_putR, i_aldI, i_aldB, i_aldL, i_aldD, i_astI, i_astL, i_astD, i_alen, i_ret, i_iret, i_zret, i_lret, i_fret, i_dret, i_aret, i_invS0, i_invV0, i_m2, i_m1, i_ml, i_obj, lk, lkp, stf1, stf2, Value.category, rV, xTo, lv_args, xCk, xCat, xRc, xAk, hg_S, hg_I, hg_J, hg_D, hg_R, hs_I, hs_J, hs_D, hs_R, uI_at, uJ_at, uD_at, uR_at, List.take_succ_cons, List.take_zero, List.drop_succ_cons, List.drop_zero, List.reverse_cons, List.reverse_nil, List.nil_append, List.cons_append, List.map_cons, List.map_nil, List.sum_cons, List.sum_nil, List.length_cons, List.length_nil, Option.toList_some, Option.toList_none, true_and, and_true, false_and, and_false, true_implies, false_implies, implies_true, not_true_eq_false, not_false_eq_true, ne_eq, if_true, if_false, Bool.and_true, Bool.true_and, decide_true, decide_false, reduceIte, reduceCtorEq, Bool.and_self, Bool.and_eq_true, decide_eq_true_eq, and_self, true_or, or_true, false_or, or_false, Nat.zero_add, Nat.add_zero, eq_self, Nat.reduceEqDiff, Nat.reduceLeDiff, Nat.reduceLT, Nat.reduceAdd, Nat.reduceSub, Nat.reduceMul]
  have h0 : ct (fun d => decide (fk E d < 0)) (2 ^ n) = ct (fun d => decide (fk E d + 1 = 0)) (2 ^ n) := ct_congr (fun d _ => by
    rw [decide_eq_false (Nat.not_lt_zero _), decide_eq_false (by omega)])
  refine L324_61 (I0 := I) (n := n) (E := E) hL hE (fun I3 c1 c2 => ?_) 401 1 I2 (by omega) (by decide) (fun k hk => ?_) b2
  · rw [e324_91]
    simp only [B324_91, xSeq, i_push, i_load, i_iload, i_lload, i_dload, i_aload, i_istore, i_astore, i_lstore, i_dstore, i_iinc, i_ii, i_iiz, i_ll, i_llz, i_lli, i_li, i_i, i_l, i_i2l, i_l2i, i_dup, i_dup2, i_dup2w, i_dupx1, i_pop, i_pop2, i_goto, i_ifc, i_icmp, i_getI, i_getL, i_getR, i_putI, i_putZ, i_putL, i_putR, i_aldI, i_aldB, i_aldL, i_aldD, i_astI, i_astL, i_astD, i_alen, i_ret, i_iret, i_zret, i_lret, i_fret, i_dret, i_aret, i_invS0, i_invV0, i_m2, i_m1, i_ml, i_obj, lk, lkp, stf1, stf2, Value.category, rV, xTo, lv_args, xCk, xCat, xRc, xAk, hg_S, hg_I, hg_J, hg_D, hg_R, hs_I, hs_J, hs_D, hs_R, uI_at, uJ_at, uD_at, uR_at, List.take_succ_cons, List.take_zero, List.drop_succ_cons, List.drop_zero, List.reverse_cons, List.reverse_nil, List.nil_append, List.cons_append, List.map_cons, List.map_nil, List.sum_cons, List.sum_nil, List.length_cons, List.length_nil, Option.toList_some, Option.toList_none, true_and, and_true, false_and, and_false, true_implies, false_implies, implies_true, not_true_eq_false, not_false_eq_true, ne_eq, if_true, if_false, Bool.and_true, Bool.true_and, decide_true, decide_false, reduceIte, reduceCtorEq, Bool.and_self, Bool.and_eq_true, decide_eq_true_eq, and_self, true_or, or_true, false_or, or_false, Nat.zero_add, Nat.add_zero, eq_self, Nat.reduceEqDiff, Nat.reduceLeDiff, Nat.reduceLT, Nat.reduceAdd, Nat.reduceSub, Nat.reduceMul]
    exact L324_93 (I0 := I) hL hX h10 hE kk (2 ^ n) 0 I3 (by omega) (fun k hk => c1 k hk) (fun c hc => absurd hc (Nat.not_lt_zero _)) (fun c hc => absurd hc (Nat.not_lt_zero _)) c2
  · rw [b1 k hk]
    by_cases e : k < 1
    · rw [if_pos e, show k = 0 by omega, h0]
    · rw [if_neg e]
end
/-! ===== tops ===== -/
section
theorem RC_trans {e : Nat → Nat} {n h a c d : Nat} (h1 : RC e n h a c) (h2 : RC e n h c d) : RC e n h a d :=
  RC_ind (P := fun d => RC e n h a d) (fun _ => h1) (fun _ _ _ ih h3 h4 => .step ih h3 h4) h2
theorem RC_one {e : Nat → Nat} {n h c t : Nat} (ht : t < n) (h1 : e c ≤ h) (h2 : e (c ^^^ 2 ^ t) ≤ h) : RC e n h c (c ^^^ 2 ^ t) ∧ RC e n h (c ^^^ 2 ^ t) c := by
  refine ⟨.step (.refl h1) ht h2, ?_⟩
  have h3 : RC e n h (c ^^^ 2 ^ t) (c ^^^ 2 ^ t ^^^ 2 ^ t) := .step (.refl h2) ht (by rw [Nat.xor_assoc, Nat.xor_self, Nat.xor_zero]; exact h1)
  rw [Nat.xor_assoc, Nat.xor_self, Nat.xor_zero] at h3
  exact h3
theorem RC_sym {e : Nat → Nat} {n h a c : Nat} (r : RC e n h a c) : RC e n h c a :=
  RC_ind (P := fun d => RC e n h d a) (fun h1 => .refl h1) (fun _ _ r1 ih h2 h3 => RC_trans (RC_one h2 (RC_le r1) h3).2 ih) r
/-- tops that lead on in the order, and where they end -/
def WU (inc : Nat → Bool) (po p r : Nat → Nat) : Prop := ∀ d, inc d = true → inc (p d) = true ∧ r (p d) = r d ∧ (p d ≠ d → po d < po (p d)) ∧ (p d = d → r d = d)
variable {inc : Nat → Bool} {po p r : Nat → Nat} {M : Nat}
theorem WU_root (h : WU inc po p r) (hM : ∀ d, inc d = true → po d < M) : ∀ (j d : Nat), M ≤ po d + j → inc d = true → inc (r d) = true ∧ p (r d) = r d ∧ r (r d) = r d
  | 0, d, hj, hd => by
    have := hM d hd
    omega
  | j + 1, d, hj, hd => by
    obtain ⟨h1, h2, h3, h4⟩ := h d hd
    by_cases e : p d = d
    · have e2 := h4 e
      rw [e2]
      exact ⟨hd, e, e2⟩
    · have ih := WU_root h hM j (p d) (by have := h3 e; omega) h1
      rw [h2] at ih
      exact ih
theorem WU_halve (h : WU inc po p r) {k : Nat} (hk : inc k = true) (hne : p k ≠ k) : WU inc po (fun d => if d = k then p (p k) else p d) r := by
  intro d hd
  obtain ⟨h1, h2, h3, h4⟩ := h k hk
  obtain ⟨g1, g2, g3, g4⟩ := h (p k) h1
  by_cases e : d = k
  · subst e
    simp only [if_true]
    have hlt : po d < po (p (p d)) := by
      by_cases e2 : p (p d) = p d
      · rw [e2]; exact h3 hne
      · have := h3 hne
        have := g3 e2
        omega
    refine ⟨g1, g2.trans h2, fun _ => hlt, fun e2 => ?_⟩
    rw [e2] at hlt
    exact absurd hlt (Nat.lt_irrefl _)
  · simp only [e, if_false]
    exact h d hd
theorem WU_join (h : WU inc po p r) (hM : ∀ d, inc d = true → po d < M) {c o : Nat} (hc : inc c = true) (hpc : p c = c) (hmax : ∀ d, inc d = true → d ≠ c → po d < po c) (ho : inc o = true) : WU inc po (fun d => if d = r o then c else p d) (fun d => if r d = r o then c else r d) := by
  obtain ⟨u1, u2, u3⟩ := WU_root h hM M o (by omega) ho
  have rc : r c = c := (h c hc).2.2.2 hpc
  obtain ⟨u, hu⟩ : ∃ u, u = r o := ⟨_, rfl⟩
  rw [← hu] at u1 u2 u3 ⊢
  intro d hd
  obtain ⟨h1, h2, h3, h4⟩ := h d hd
  by_cases e : d = u
  · subst e
    simp only [if_true, u3, rc]
    refine ⟨hc, ?_, fun hne => hmax d hd (fun e2 => hne e2.symm), fun e2 => e2⟩
    split <;> rfl
  · simp only [e, if_false, h2]
    refine ⟨h1, trivial, h3, fun e2 => ?_⟩
    rw [h4 e2, if_neg e]
/-- the row of tops -/
def HT (inc : Nat → Bool) (p : Nat → Nat) (N : Nat) (I0 I : xI) : Prop := (∀ d, d < N → (inc d = true → I 356 d = nI (p d)) ∧ (inc d = false → I 356 d = -1)) ∧ ∀ o k, o ≠ 356 → I o k = I0 o k
theorem HT_up {N : Nat} {I0 I : xI} (h : HT inc p N I0 I) {k v : Nat} (hk : inc k = true) : HT inc (fun d => if d = k then v else p d) N I0 (uI I 356 k (nI v)) := by
  refine ⟨fun d hd => ?_, fun o q ho => ?_⟩
  · rw [uI_at]
    by_cases e : d = k
    · subst e
      simp only [if_true, and_self]
      exact ⟨fun _ => trivial, fun h2 => by rw [hk] at h2; exact absurd h2 (by decide)⟩
    · rw [if_neg (fun h => e h.2)]
      simp only [e, if_false]
      exact h.1 d hd
  · rw [uI_at, if_neg (fun e => ho e.1)]
    exact h.2 o q ho
variable {S : xS} {I : xI} {J : xJ} {D : xDb} {R : xR} {b : Nat × Nat} {Q : xQ} {N : Nat}
theorem L325_2 {I0 : xI} (hL : LM S R) (hN : N ≤ 65536) (hi : ∀ d, inc d = true → d < N) (hM : ∀ d, inc d = true → po d < M) {v : Nat}
    (kk : ∀ I p, WU inc po p r → HT inc p N I0 I → Q (.ok (some (.int (nI v)))) (S, I, J, D, R) b) :
    ∀ (j d : Nat) (p : Nat → Nat) (I : xI), M ≤ po d + j → inc d = true → r d = v → WU inc po p r → HT inc p N I0 I → xRun xT 325 2 [(0, .ref 200), (2, .int (nI d))] [] (S, I, J, D, R) b Q
  | 0, d, p, I, hj, hd, hv, hW, hT => by
    have := hM d hd
    omega
  | j + 1, d, p, I, hj, hd, hv, hW, hT => by
    obtain ⟨h1, h2, h3, h4⟩ := hW d hd
    have d1 := hi d hd
    have d2 := hi _ h1
    have d3 := hi _ (hW _ h1).1
    have t1 := (hT.1 d d1).1 hd
    have t2 := (hT.1 _ d2).1 h1
    rw [e325_2]
    by_cases e : p d = d
    · have e2 := h4 e
      simp only [B325_2, xSeq, i_push, i_load, i_iload, i_lload, i_dload, i_aload, i_istore, i_astore, i_lstore, i_dstore, i_iinc, i_ii, i_iiz, i_ll, i_llz, i_lli, i_li, i_i, i_l, i_i2l, i_l2i, i_dup, i_dup2, i_dup2w, i_dupx1, i_pop, i_pop2, i_goto, i_ifc, i_icmp, i_getI, i_getL, i_getR, i_putI, i_putZ, i_putL, i_putR, i_aldI, i_aldB, i_aldL, i_aldD, i_astI, i_astL, i_astD, i_alen, i_ret, i_iret, i_zret, i_lret, i_fret, i_dret, i_aret, i_invS0, i_invV0, i_m2, i_m1, i_ml, i_obj, lk, lkp, stf1, stf2, Value.category, rV, xTo, lv_args, xCk, xCat, xRc, xAk, hg_S, hg_I, hg_J, hg_D, hg_R, hs_I, hs_J, hs_D, hs_R, uI_at, uJ_at, uD_at, uR_at, List.take_succ_cons, List.take_zero, List.drop_succ_cons, List.drop_zero, List.reverse_cons, List.reverse_nil, List.nil_append, List.cons_append, List.map_cons, List.map_nil, List.sum_cons, List.sum_nil, List.length_cons, List.length_nil, Option.toList_some, Option.toList_none, true_and, and_true, false_and, and_false, true_implies, false_implies, implies_true, not_true_eq_false, not_false_eq_true, ne_eq, if_true, if_false, Bool.and_true, Bool.true_and, decide_true, decide_false, reduceIte, reduceCtorEq, Bool.and_self, Bool.and_eq_true, decide_eq_true_eq, and_self, true_or, or_true, false_or, or_false, Nat.zero_add, Nat.add_zero, eq_self, Nat.reduceEqDiff, Nat.reduceLeDiff, Nat.reduceLT, Nat.reduceAdd, Nat.reduceSub, Nat.reduceMul, LM_out hL, nI_inP (show d < 65536 by omega) (by decide), nI_ix (show d < 2147483648 by omega), t1, e, e325_39, B325_39]
      rw [← e2, hv]
      exact kk I p hW hT
    · have e2 : (nI (p d) = nI d) = False := by rw [nI_iff (show p d < 2147483648 by omega) (show d < 2147483648 by omega)]; exact eq_false e
      have hw := WU_halve hW hd e
      have hlt : po d < po (p (p d)) := by
        obtain ⟨g1, g2, g3, g4⟩ := hW (p d) h1
        by_cases e3 : p (p d) = p d
        · rw [e3]; exact h3 e
        · have := h3 e
          have := g3 e3
          omega
      have hr : r (p (p d)) = v := by rw [(hW _ h1).2.1, h2, hv]
      simp only [B325_2, xSeq, i_push, i_load, i_iload, i_lload, i_dload, i_aload, i_istore, i_astore, i_lstore, i_dstore, i_iinc, i_ii, i_iiz, i_ll, i_llz, i_lli, i_li, i_i, i_l, i_i2l, i_l2i, i_dup, i_dup2, i_dup2w, i_dupx1, i_pop, i_pop2, i_goto, i_ifc, i_icmp, i_getI, i_getL, i_getR, i_putI, i_putZ, i_putL, i_putR, i_aldI, i_aldB, i_aldL, i_aldD, i_astI, i_astL, i_astD, i_alen, i_ret, i_iret, i_zret, i_lret, i_fret, i_dret, i_aret, i_invS0, i_invV0, i_m2, i_m1, i_ml, i_obj, lk, lkp, stf1, stf2, Value.category, rV, xTo, lv_args, xCk, xCat, xRc, xAk, hg_S, hg_I, hg_J, hg_D, hg_R, hs_I, hs_J, hs_D, hs_R, uI_at, uJ_at, uD_at, uR_at, List.take_succ_cons, List.take_zero, List.drop_succ_cons, List.drop_zero, List.reverse_cons, List.reverse_nil, List.nil_append, List.cons_append, List.map_cons, List.map_nil, List.sum_cons, List.sum_nil, List.length_cons, List.length_nil, Option.toList_some, Option.toList_none, true_and, and_true, false_and, and_false, true_implies, false_implies, implies_true, not_true_eq_false, not_false_eq_true, ne_eq, if_true, if_false, Bool.and_true, Bool.true_and, decide_true, decide_false, reduceIte, reduceCtorEq, Bool.and_self, Bool.and_eq_true, decide_eq_true_eq, and_self, true_or, or_true, false_or, or_false, Nat.zero_add, Nat.add_zero, eq_self, Nat.reduceEqDiff, Nat.reduceLeDiff, Nat.reduceLT, Nat.reduceAdd, Nat.reduceSub, Nat.reduceMul, LM_out hL, nI_inP (show d < 65536 by omega) (by decide), nI_ix (show d < 2147483648 by omega), t1, e2, nI_inP (show p d < 65536 by omega) (by decide), nI_ix (show p d < 2147483648 by omega), t2]
      exact L325_2 hL hN hi hM kk j (p (p d)) _ _ (by omega) (hW _ h1).1 hr hw (HT_up hT hd)
theorem L325 {I0 : xI} (hL : LM S R) (hN : N ≤ 65536) (hi : ∀ d, inc d = true → d < N) (hM : ∀ d, inc d = true → po d < M) {d : Nat} (hd : inc d = true) (hW : WU inc po p r) (hT : HT inc p N I0 I)
    (kk : ∀ I p, WU inc po p r → HT inc p N I0 I → Q (.ok (some (.int (nI (r d))))) (S, I, J, D, R) b) : xRun xT 325 0 [(0, .ref 200), (1, .int (nI d))] [] (S, I, J, D, R) b Q := by
  rw [e325_0]
  simp only [B325_0, xSeq, i_push, i_load, i_iload, i_lload, i_dload, i_aload, i_istore, i_astore, i_lstore, i_dstore, i_iinc, i_ii, i_iiz, i_ll, i_llz, i_lli, i_li, i_i, i_l, i_i2l, i_l2i, i_dup, i_dup2, i_dup2w, i_dupx1, i_pop, i_pop2, i_goto, i_ifc, i_icmp, i_getI, i_getL, i_getR, i_putI, i_putZ, i_putL, i_putR, i_aldI, i_aldB, i_aldL, i_aldD, i_astI, i_astL, i_astD, i_alen, i_ret, i_iret, i_zret, i_lret, i_fret, i_dret, i_aret, i_invS0, i_invV0, i_m2, i_m1, i_ml, i_obj, lk, lkp, stf1, stf2, Value.category, rV, xTo, lv_args, xCk, xCat, xRc, xAk, hg_S, hg_I, hg_J, hg_D, hg_R, hs_I, hs_J, hs_D, hs_R, uI_at, uJ_at, uD_at, uR_at, List.take_succ_cons, List.take_zero, List.drop_succ_cons, List.drop_zero, List.reverse_cons, List.reverse_nil, List.nil_append, List.cons_append, List.map_cons, List.map_nil, List.sum_cons, List.sum_nil, List.length_cons, List.length_nil, Option.toList_some, Option.toList_none, true_and, and_true, false_and, and_false, true_implies, false_implies, implies_true, not_true_eq_false, not_false_eq_true, ne_eq, if_true, if_false, Bool.and_true, Bool.true_and, decide_true, decide_false, reduceIte, reduceCtorEq, Bool.and_self, Bool.and_eq_true, decide_eq_true_eq, and_self, true_or, or_true, false_or, or_false, Nat.zero_add, Nat.add_zero, eq_self, Nat.reduceEqDiff, Nat.reduceLeDiff, Nat.reduceLT, Nat.reduceAdd, Nat.reduceSub, Nat.reduceMul]
  exact L325_2 hL hN hi hM kk M d p I (by omega) hd rfl hW hT
end
/-! ===== the model's barrier ===== -/
section
variable {S : xS} {I : xI} {J : xJ} {D : xDb} {R : xR} {b : Nat × Nat} {Q : xQ} {E : Nat → Int32} {n M a z : Nat} {inc : Nat → Bool} {po : Nat → Nat}
/-- equal ends are connected; neighbours have equal ends -/
def C1 (e : Nat → Nat) (n h : Nat) (inc : Nat → Bool) (r : Nat → Nat) : Prop := ∀ d d', inc d = true → inc d' = true → r d = r d' → RC e n h d d'
def C2 (n : Nat) (inc : Nat → Bool) (r : Nat → Nat) : Prop := ∀ d t, t < n → inc d = true → inc (d ^^^ 2 ^ t) = true → r d = r (d ^^^ 2 ^ t)
theorem C2_path {e : Nat → Nat} {n h : Nat} {r : Nat → Nat} (hr : C2 n inc r) (hi : ∀ d, d < 2 ^ n → e d ≤ h → inc d = true) {a c : Nat} (ha : a < 2 ^ n) (p : RC e n h a c) : r a = r c ∧ c < 2 ^ n ∧ inc c = true := by
  refine RC_ind (P := fun c => r a = r c ∧ c < 2 ^ n ∧ inc c = true) (fun h1 => ⟨rfl, ha, hi a ha h1⟩) (fun d t _ ih h2 h3 => ?_) p
  obtain ⟨i1, i2, i3⟩ := ih
  have hx : d ^^^ 2 ^ t < 2 ^ n := Nat.xor_lt_two_pow i2 (Nat.pow_lt_pow_right (by decide) h2)
  have hy := hi _ hx h3
  exact ⟨i1.trans (hr d t h2 i3 hy), hx, hy⟩
theorem L323_93 {I0 : xI} (hL : LM S R) (h10 : I0 300 10 = nI n) (hE : EB E n) {c k : Nat} (hi : ∀ d, inc d = true → d < 2 ^ n) (hM : ∀ d, inc d = true → po d < M) (hc : inc c = true) (hmax : ∀ d, inc d = true → d ≠ c → po d < po c) (hle : ∀ d, inc d = true → eN E d ≤ eN E c)
    (kk : ∀ I p r, WU inc po p r → HT inc p (2 ^ n) I0 I → C1 (eN E) n (eN E c) inc r → C2 n inc r → xRun xT 323 159 [(0, .ref 200), (5, .int (nI a)), (6, .int (nI z)), (7, .int (nI k)), (8, .int (nI c))] [] (S, I, J, D, R) b Q) :
    ∀ (j i : Nat) (p r : Nat → Nat) (I : xI), i + j = n → WU inc po p r → HT inc p (2 ^ n) I0 I → C1 (eN E) n (eN E c) inc r → (∀ d t, t < n → d ≠ c → d ^^^ 2 ^ t ≠ c → inc d = true → inc (d ^^^ 2 ^ t) = true → r d = r (d ^^^ 2 ^ t)) → (∀ t, t < i → inc (c ^^^ 2 ^ t) = true → r (c ^^^ 2 ^ t) = c) →
      xRun xT 323 93 [(0, .ref 200), (5, .int (nI a)), (6, .int (nI z)), (7, .int (nI k)), (8, .int (nI c)), (9, .int (nI i))] [] (S, I, J, D, R) b Q
  | 0, i, p, r, I, hij, hW, hT, h1, h2, h3 => by
    have hn := hE.1
    have e : i = n := by omega
    subst e
    have pc' : p c = c := Classical.byContradiction (fun hne => by
      obtain ⟨a1, a2, a3, a4⟩ := hW c hc
      have := a3 hne
      have := hmax _ a1 hne
      omega)
    have rc : r c = c := (hW c hc).2.2.2 pc'
    rw [e323_93]
    simp only [B323_93, xSeq, i_push, i_load, i_iload, i_lload, i_dload, i_aload, i_istore, i_astore, i_lstore, i_dstore, i_iinc, i_ii, i_iiz, i_ll, i_llz, i_lli, i_li, i_i, i_l, i_i2l, i_l2i, i_dup, i_dup2, i_dup2w, i_dupx1, i_pop, i_pop2, i_goto, i_ifc, i_icmp, i_getI, i_getL, i_getR, i_putI, i_putZ, i_putL, i_putR, i_aldI, i_aldB, i_aldL, i_aldD, i_astI, i_astL, i_astD, i_alen, i_ret, i_iret, i_zret, i_lret, i_fret, i_dret, i_aret, i_invS0, i_invV0, i_m2, i_m1, i_ml, i_obj, lk, lkp, stf1, stf2, Value.category, rV, xTo, lv_args, xCk, xCat, xRc, xAk, hg_S, hg_I, hg_J, hg_D, hg_R, hs_I, hs_J, hs_D, hs_R, uI_at, uJ_at, uD_at, uR_at, List.take_succ_cons, List.take_zero, List.drop_succ_cons, List.drop_zero, List.reverse_cons, List.reverse_nil, List.nil_append, List.cons_append, List.map_cons, List.map_nil, List.sum_cons, List.sum_nil, List.length_cons, List.length_nil, Option.toList_some, Option.toList_none, true_and, and_true, false_and, and_false, true_implies, false_implies, implies_true, not_true_eq_false, not_false_eq_true, ne_eq, if_true, if_false, Bool.and_true, Bool.true_and, decide_true, decide_false, reduceIte, reduceCtorEq, Bool.and_self, Bool.and_eq_true, decide_eq_true_eq, and_self, true_or, or_true, false_or, or_false, Nat.zero_add, Nat.add_zero, eq_self, Nat.reduceEqDiff, Nat.reduceLeDiff, Nat.reduceLT, Nat.reduceAdd, Nat.reduceSub, Nat.reduceMul, xi144_0, ix_0, xi144_1, ix_1, xi144_2, ix_2, xi144_3, ix_3, xi144_4, ix_4, xi144_5, ix_5, xi144_6, ix_6, xi144_7, ix_7, xi144_8, ix_8, xi144_9, ix_9, xi144_10, ix_10, LM_out hL, (hT.2 _ _ (by decide)).trans h10, nI_leP (show i < 2147483648 by omega) (show i < 2147483648 by omega), Nat.le_refl]
    refine kk I p r hW hT h1 (fun d t ht hd hd2 => ?_)
    by_cases e1 : d = c
    · subst e1
      rw [rc, h3 t ht hd2]
    · by_cases e2 : d ^^^ 2 ^ t = c
      · have e3 : d = c ^^^ 2 ^ t := by rw [← e2, Nat.xor_assoc, Nat.xor_self, Nat.xor_zero]
        rw [e2, rc]
        rw [e3] at hd ⊢
        exact h3 t ht hd
      · exact h2 d t ht e1 e2 hd hd2
  | j + 1, i, p, r, I, hij, hW, hT, h1, h2, h3 => by
    have hn := hE.1
    have hp := pow16 hE.1
    have hcn := hi c hc
    have pc' : ∀ p, WU inc po p r → p c = c := fun p hW => Classical.byContradiction (fun hne => by
      obtain ⟨a1, a2, a3, a4⟩ := hW c hc
      have := a3 hne
      have := hmax _ a1 hne
      omega)
    have rc : r c = c := (hW c hc).2.2.2 (pc' p hW)
    have hx : c ^^^ 2 ^ i < 2 ^ n := Nat.xor_lt_two_pow hcn (Nat.pow_lt_pow_right (by decide) (by omega))
    have nx := fun p r I => L323_93 hL h10 hE hi hM hc hmax hle kk j (i + 1) p r I (by omega)
    obtain ⟨t1, t2⟩ := hT.1 _ hx
    rw [e323_93]
    simp only [B323_93, xSeq, i_push, i_load, i_iload, i_lload, i_dload, i_aload, i_istore, i_astore, i_lstore, i_dstore, i_iinc, i_ii, i_iiz, i_ll, i_llz, i_lli, i_li, i_i, i_l, i_i2l, i_l2i, i_dup, i_dup2, i_dup2w, i_dupx1, i_pop, i_pop2, i_goto, i_ifc, i_icmp, i_getI, i_getL, i_getR, i_putI, i_putZ, i_putL, i_putR, i_aldI, i_aldB, i_aldL, i_aldD, i_astI, i_astL, i_astD, i_alen, i_ret, i_iret, i_zret, i_lret, i_fret, i_dret, i_aret, i_invS0, i_invV0, i_m2, i_m1, i_ml, i_obj, lk, lkp, stf1, stf2, Value.category, rV, xTo, lv_args, xCk, xCat, xRc, xAk, hg_S, hg_I, hg_J, hg_D, hg_R, hs_I, hs_J, hs_D, hs_R, uI_at, uJ_at, uD_at, uR_at, List.take_succ_cons, List.take_zero, List.drop_succ_cons, List.drop_zero, List.reverse_cons, List.reverse_nil, List.nil_append, List.cons_append, List.map_cons, List.map_nil, List.sum_cons, List.sum_nil, List.length_cons, List.length_nil, Option.toList_some, Option.toList_none, true_and, and_true, false_and, and_false, true_implies, false_implies, implies_true, not_true_eq_false, not_false_eq_true, ne_eq, if_true, if_false, Bool.and_true, Bool.true_and, decide_true, decide_false, reduceIte, reduceCtorEq, Bool.and_self, Bool.and_eq_true, decide_eq_true_eq, and_self, true_or, or_true, false_or, or_false, Nat.zero_add, Nat.add_zero, eq_self, Nat.reduceEqDiff, Nat.reduceLeDiff, Nat.reduceLT, Nat.reduceAdd, Nat.reduceSub, Nat.reduceMul, xi144_0, ix_0, xi144_1, ix_1, xi144_2, ix_2, xi144_3, ix_3, xi144_4, ix_4, xi144_5, ix_5, xi144_6, ix_6, xi144_7, ix_7, xi144_8, ix_8, xi144_9, ix_9, xi144_10, ix_10, LM_out hL, (hT.2 300 10 (by decide)).trans h10, nI_leP (show n < 2147483648 by omega) (show i < 2147483648 by omega), show (n ≤ i) = False from eq_false (by omega), q_1shl (show i < 31 by omega), i_xorN, nI_inP (show c ^^^ 2 ^ i < 65536 by omega) (by decide), nI_ix (show c ^^^ 2 ^ i < 2147483648 by omega)]
    cases ho : inc (c ^^^ 2 ^ i)
    · have t3 := t2 ho
      simp only [t3, true_and, and_true, false_and, and_false, true_implies, false_implies, implies_true, not_true_eq_false, not_false_eq_true, ne_eq, if_true, if_false, Bool.and_true, Bool.true_and, decide_true, decide_false, reduceIte, reduceCtorEq, Bool.and_self, Bool.and_eq_true, decide_eq_true_eq, and_self, true_or, or_true, false_or, or_false, Nat.zero_add, Nat.add_zero, eq_self, Nat.reduceEqDiff, Nat.reduceLeDiff, Nat.reduceLT, Nat.reduceAdd, Nat.reduceSub, Nat.reduceMul, e323_153, B323_153, xSeq, i_push, i_load, i_iload, i_lload, i_dload, i_aload, i_istore, i_astore, i_lstore, i_dstore, i_iinc, i_ii, i_iiz, i_ll, i_llz, i_lli, i_li, i_i, i_l, i_i2l, i_l2i, i_dup, i_dup2, i_dup2w, i_dupx1, i_pop, i_pop2, i_goto, i_ifc, i_icmp, i_getI, i_getL, i_getR, i_putI, i_putZ, i_putL, i_putR, i_aldI, i_aldB, i_aldL, i_aldD, i_astI, i_astL, i_astD, i_alen, i_ret, i_iret, i_zret, i_lret, i_fret, i_dret, i_aret, i_invS0, i_invV0, i_m2, i_m1, i_ml, i_obj, lk, lkp, stf1, stf2, Value.category, rV, xTo, lv_args, xCk, xCat, xRc, xAk, hg_S, hg_I, hg_J, hg_D, hg_R, hs_I, hs_J, hs_D, hs_R, uI_at, uJ_at, uD_at, uR_at, List.take_succ_cons, List.take_zero, List.drop_succ_cons, List.drop_zero, List.reverse_cons, List.reverse_nil, List.nil_append, List.cons_append, List.map_cons, List.map_nil, List.sum_cons, List.sum_nil, List.length_cons, List.length_nil, Option.toList_some, Option.toList_none, true_and, and_true, false_and, and_false, true_implies, false_implies, implies_true, not_true_eq_false, not_false_eq_true, ne_eq, if_true, if_false, Bool.and_true, Bool.true_and, decide_true, decide_false, reduceIte, reduceCtorEq, Bool.and_self, Bool.and_eq_true, decide_eq_true_eq, and_self, true_or, or_true, false_or, or_false, Nat.zero_add, Nat.add_zero, eq_self, Nat.reduceEqDiff, Nat.reduceLeDiff, Nat.reduceLT, Nat.reduceAdd, Nat.reduceSub, Nat.reduceMul, nI_1]
      refine nx p r I hW hT h1 h2 (fun t ht hd => ?_)
      by_cases e : t = i
      · subst e
        rw [ho] at hd
        exact absurd hd (by decide)
      · exact h3 t (by omega) hd
    · have t3 := t1 ho
      have d2 := hi _ (hW _ ho).1
      simp only [t3, nI_n1 (show p (c ^^^ 2 ^ i) < 2147483648 by omega), ne_eq, not_false_eq_true, true_and, and_true, false_and, and_false, true_implies, false_implies, implies_true, not_true_eq_false, not_false_eq_true, ne_eq, if_true, if_false, Bool.and_true, Bool.true_and, decide_true, decide_false, reduceIte, reduceCtorEq, Bool.and_self, Bool.and_eq_true, decide_eq_true_eq, and_self, true_or, or_true, false_or, or_false, Nat.zero_add, Nat.add_zero, eq_self, Nat.reduceEqDiff, Nat.reduceLeDiff, Nat.reduceLT, Nat.reduceAdd, Nat.reduceSub, Nat.reduceMul]
      obtain ⟨o, hO⟩ : ∃ o, o = c ^^^ 2 ^ i := ⟨_, rfl⟩
      rw [← hO] at hx ho ⊢
      rw [e323_128]
      simp only [B323_128, xSeq, i_push, i_load, i_iload, i_lload, i_dload, i_aload, i_istore, i_astore, i_lstore, i_dstore, i_iinc, i_ii, i_iiz, i_ll, i_llz, i_lli, i_li, i_i, i_l, i_i2l, i_l2i, i_dup, i_dup2, i_dup2w, i_dupx1, i_pop, i_pop2, i_goto, i_ifc, i_icmp, i_getI, i_getL, i_getR, i_putI, i_putZ, i_putL, i_putR, i_aldI, i_aldB, i_aldL, i_aldD, i_astI, i_astL, i_astD, i_alen, i_ret, i_iret, i_zret, i_lret, i_fret, i_dret, i_aret, i_invS0, i_invV0, i_m2, i_m1, i_ml, i_obj, lk, lkp, stf1, stf2, Value.category, rV, xTo, lv_args, xCk, xCat, xRc, xAk, hg_S, hg_I, hg_J, hg_D, hg_R, hs_I, hs_J, hs_D, hs_R, uI_at, uJ_at, uD_at, uR_at, List.take_succ_cons, List.take_zero, List.drop_succ_cons, List.drop_zero, List.reverse_cons, List.reverse_nil, List.nil_append, List.cons_append, List.map_cons, List.map_nil, List.sum_cons, List.sum_nil, List.length_cons, List.length_nil, Option.toList_some, Option.toList_none, true_and, and_true, false_and, and_false, true_implies, false_implies, implies_true, not_true_eq_false, not_false_eq_true, ne_eq, if_true, if_false, Bool.and_true, Bool.true_and, decide_true, decide_false, reduceIte, reduceCtorEq, Bool.and_self, Bool.and_eq_true, decide_eq_true_eq, and_self, true_or, or_true, false_or, or_false, Nat.zero_add, Nat.add_zero, eq_self, Nat.reduceEqDiff, Nat.reduceLeDiff, Nat.reduceLT, Nat.reduceAdd, Nat.reduceSub, Nat.reduceMul, LM_out hL]
      refine L325 (N := 2 ^ n) (r := r) (I0 := I0) hL hp hi hM ho hW hT (fun I1 p1 w1 q1 => ?_)
      simp only [xSeq, i_push, i_load, i_iload, i_lload, i_dload, i_aload, i_istore, i_astore, i_lstore, i_dstore, i_iinc, i_ii, i_iiz, i_ll, i_llz, i_lli, i_li, i_i, i_l, i_i2l, i_l2i, i_dup, i_dup2, i_dup2w, i_dupx1, i_pop, i_pop2, i_goto, i_ifc, i_icmp, i_getI, i_getL, i_getR, i_putI, i_putZ, i_putL, i_putR, i_aldI, i_aldB, i_aldL, i_aldD, i_astI, i_astL, i_astD, i_alen, i_ret, i_iret, i_zret, i_lret, i_fret, i_dret, i_aret, i_invS0, i_invV0, i_m2, i_m1, i_ml, i_obj, lk, lkp, stf1, stf2, Value.category, rV, xTo, lv_args, xCk, xCat, xRc, xAk, hg_S, hg_I, hg_J, hg_D, hg_R, hs_I, hs_J, hs_D, hs_R, uI_at, uJ_at, uD_at, uR_at, List.take_succ_cons, List.take_zero, List.drop_succ_cons, List.drop_zero, List.reverse_cons, List.reverse_nil, List.nil_append, List.cons_append, List.map_cons, List.map_nil, List.sum_cons, List.sum_nil, List.length_cons, List.length_nil, Option.toList_some, Option.toList_none, true_and, and_true, false_and, and_false, true_implies, false_implies, implies_true, not_true_eq_false, not_false_eq_true, ne_eq, if_true, if_false, Bool.and_true, Bool.true_and, decide_true, decide_false, reduceIte, reduceCtorEq, Bool.and_self, Bool.and_eq_true, decide_eq_true_eq, and_self, true_or, or_true, false_or, or_false, Nat.zero_add, Nat.add_zero, eq_self, Nat.reduceEqDiff, Nat.reduceLeDiff, Nat.reduceLT, Nat.reduceAdd, Nat.reduceSub, Nat.reduceMul, LM_out hL]
      refine L325 (N := 2 ^ n) (r := r) (I0 := I0) hL hp hi hM hc w1 q1 (fun I2 p2 w2 q2 => ?_)
      obtain ⟨u1, u2, u3⟩ := WU_root w2 hM M o (by omega) ho
      have un := hi _ u1
      have hedge : RC (eN E) n (eN E c) c o := by
        rw [hO]
        exact (RC_one (show i < n by omega) (Nat.le_refl _) (by rw [← hO]; exact hle o ho)).1
      simp only [xSeq, i_push, i_load, i_iload, i_lload, i_dload, i_aload, i_istore, i_astore, i_lstore, i_dstore, i_iinc, i_ii, i_iiz, i_ll, i_llz, i_lli, i_li, i_i, i_l, i_i2l, i_l2i, i_dup, i_dup2, i_dup2w, i_dupx1, i_pop, i_pop2, i_goto, i_ifc, i_icmp, i_getI, i_getL, i_getR, i_putI, i_putZ, i_putL, i_putR, i_aldI, i_aldB, i_aldL, i_aldD, i_astI, i_astL, i_astD, i_alen, i_ret, i_iret, i_zret, i_lret, i_fret, i_dret, i_aret, i_invS0, i_invV0, i_m2, i_m1, i_ml, i_obj, lk, lkp, stf1, stf2, Value.category, rV, xTo, lv_args, xCk, xCat, xRc, xAk, hg_S, hg_I, hg_J, hg_D, hg_R, hs_I, hs_J, hs_D, hs_R, uI_at, uJ_at, uD_at, uR_at, List.take_succ_cons, List.take_zero, List.drop_succ_cons, List.drop_zero, List.reverse_cons, List.reverse_nil, List.nil_append, List.cons_append, List.map_cons, List.map_nil, List.sum_cons, List.sum_nil, List.length_cons, List.length_nil, Option.toList_some, Option.toList_none, true_and, and_true, false_and, and_false, true_implies, false_implies, implies_true, not_true_eq_false, not_false_eq_true, ne_eq, if_true, if_false, Bool.and_true, Bool.true_and, decide_true, decide_false, reduceIte, reduceCtorEq, Bool.and_self, Bool.and_eq_true, decide_eq_true_eq, and_self, true_or, or_true, false_or, or_false, Nat.zero_add, Nat.add_zero, eq_self, Nat.reduceEqDiff, Nat.reduceLeDiff, Nat.reduceLT, Nat.reduceAdd, Nat.reduceSub, Nat.reduceMul, LM_out hL, rc, nI_inP (show r o < 65536 by omega) (by decide), nI_ix (show r o < 2147483648 by omega), e323_153, B323_153, nI_1]
      refine nx _ _ _ (WU_join w2 hM hc (pc' p2 w2) hmax ho) (HT_up q2 u1) (fun d d' hd hd' hr => ?_) (fun d t ht a1 a2 a3 a4 => ?_) (fun t ht hd => ?_)
      · have toc : ∀ d, inc d = true → r d = r o → RC (eN E) n (eN E c) d c := fun d hd e => RC_trans (h1 d o hd ho e) (RC_sym hedge)
        by_cases e1 : r d = r o
        · by_cases e2 : r d' = r o
          · exact h1 d d' hd hd' (e1.trans e2.symm)
          · rw [if_pos e1, if_neg e2] at hr
            exact RC_trans (toc d hd e1) (h1 c d' hc hd' (rc.trans hr))
        · by_cases e2 : r d' = r o
          · rw [if_neg e1, if_pos e2] at hr
            exact RC_trans (h1 d c hd hc (hr.trans rc.symm)) (RC_sym (toc d' hd' e2))
          · rw [if_neg e1, if_neg e2] at hr
            exact h1 d d' hd hd' hr
      · rw [h2 d t ht a1 a2 a3 a4]
      · by_cases e : t = i
        · rw [e, ← hO, if_pos rfl]
        · rw [h3 t (by omega) hd]
          split <;> rfl
/-- the first places of the order -/
def in2 (N : Nat) (po : Nat → Nat) (k d : Nat) : Bool := decide (d < N) && decide (po d < k)
theorem in2_iff {N k d : Nat} : in2 N po k d = true ↔ d < N ∧ po d < k := by
  unfold in2
  simp
theorem L323_63 {I0 : xI} (hL : LM S R) (h10 : I0 300 10 = nI n) (hE : EB E n) (hw : ∀ c, c < 2 ^ n → I0 343 c = E c) (hor : ∀ c, c < 2 ^ n → I0 355 (ps2 (fk E) (2 ^ n) c) = nI c) (ha : a < 2 ^ n) (hz : z < 2 ^ n)
    (kk : ∀ I c, c < 2 ^ n → bar (eN E) n a z (eN E c) → (∀ o k, o ≠ 356 → I o k = I0 o k) → Q (.ok (some (.int (E c)))) (S, I, J, D, R) b) :
    ∀ (j k : Nat) (p r : Nat → Nat) (I : xI), k + j = 2 ^ n → WU (in2 (2 ^ n) (ps2 (fk E) (2 ^ n)) k) (ps2 (fk E) (2 ^ n)) p r → HT (in2 (2 ^ n) (ps2 (fk E) (2 ^ n)) k) p (2 ^ n) I0 I → (∀ h, (∀ d, in2 (2 ^ n) (ps2 (fk E) (2 ^ n)) k d = true → eN E d ≤ h) → C1 (eN E) n h (in2 (2 ^ n) (ps2 (fk E) (2 ^ n)) k) r) → C2 n (in2 (2 ^ n) (ps2 (fk E) (2 ^ n)) k) r → ¬ (in2 (2 ^ n) (ps2 (fk E) (2 ^ n)) k a = true ∧ in2 (2 ^ n) (ps2 (fk E) (2 ^ n)) k z = true ∧ r a = r z) →
      xRun xT 323 63 [(0, .ref 200), (5, .int (nI a)), (6, .int (nI z)), (7, .int (nI k))] [] (S, I, J, D, R) b Q
  | 0, k, p, r, I, hk, hW, hT, h1, h2, h3 => by
    have hall : ∀ d, d < 2 ^ n → in2 (2 ^ n) (ps2 (fk E) (2 ^ n)) k d = true := fun d hd => in2_iff.mpr ⟨hd, by
      have := ps2_lt (f := fk E) hd
      omega⟩
    have hp := C2_path (inc := in2 (2 ^ n) (ps2 (fk E) (2 ^ n)) k) h2 (fun d hd _ => hall d hd) ha (RC_top ha hz (fun k hk => (eN_ok hE hk).2.2.1))
    exact absurd ⟨hall a ha, hall z hz, hp.1⟩ h3
  | j + 1, k, p, r, I, hk, hW, hT, h1, h2, h3 => by
    have hn := hE.1
    have hp := pow16 hE.1
    have nx := fun p r I => L323_63 hL h10 hE hw hor ha hz kk j (k + 1) p r I (by omega)
    obtain ⟨c, hc, hpc⟩ := ps2_sur (f := fk E) (N := 2 ^ n) (show k < 2 ^ n by omega)
    have hor' := hor c hc
    rw [hpc] at hor'
    have hps : ∀ d, d < 2 ^ n → ps2 (fk E) (2 ^ n) d = k → d = c := fun d hd e => ps2_inj hd hc (e.trans hpc.symm)
    have hple : ∀ d, d < 2 ^ n → ps2 (fk E) (2 ^ n) d ≤ k → eN E d ≤ eN E c := fun d hd e => by
      have := ps2_le (f := fk E) hc (show ps2 (fk E) (2 ^ n) d ≤ ps2 (fk E) (2 ^ n) c by omega)
      unfold fk at this
      omega
    have hpre : ∀ d, d < 2 ^ n → eN E d < eN E c → ps2 (fk E) (2 ^ n) d < k := fun d hd e => by
      have := ps2_mono (f := fk E) (N := 2 ^ n) (c := c) hd (bf_iff.mpr (Or.inl (by unfold fk; omega)))
      omega
    obtain ⟨po, hpo⟩ : ∃ po, po = ps2 (fk E) (2 ^ n) := ⟨_, rfl⟩
    rw [← hpo] at hW hT h1 h2 h3 nx hpc hps hple hpre
    have hold : ∀ d, in2 (2 ^ n) po (k + 1) d = true → d ≠ c → in2 (2 ^ n) po k d = true := fun d hd hne => by
      obtain ⟨g1, g2⟩ := in2_iff.mp hd
      refine in2_iff.mpr ⟨g1, ?_⟩
      have : po d ≠ k := fun e => hne (hps d g1 e)
      omega
    have hnew : ∀ d, in2 (2 ^ n) po k d = true → in2 (2 ^ n) po (k + 1) d = true ∧ d ≠ c := fun d hd => by
      obtain ⟨g1, g2⟩ := in2_iff.mp hd
      refine ⟨in2_iff.mpr ⟨g1, by omega⟩, fun e => ?_⟩
      rw [e, hpc] at g2
      exact absurd g2 (Nat.lt_irrefl _)
    have hcin : in2 (2 ^ n) po (k + 1) c = true := in2_iff.mpr ⟨hc, by omega⟩
    have hcout : in2 (2 ^ n) po k c = false := by
      cases hb : in2 (2 ^ n) po k c
      · rfl
      · exact absurd rfl (hnew c hb).2
    have h10' : I 300 10 = nI n := (hT.2 _ _ (by decide)).trans h10
    have ho' : I 355 k = nI c := (hT.2 _ _ (by decide)).trans hor'
    have hW' : WU (in2 (2 ^ n) po (k + 1)) po (fun d => if d = c then c else p d) (fun d => if d = c then c else r d) := by
      intro d hd
      by_cases e : d = c
      · subst e
        simp only [if_true]
        exact ⟨hcin, trivial, fun hne => absurd rfl hne, fun _ => trivial⟩
      · obtain ⟨w1, w2, w3, w4⟩ := hW d (hold d hd e)
        obtain ⟨v1, v2⟩ := hnew _ w1
        simp only [e, v2, if_false]
        exact ⟨v1, w2, w3, w4⟩
    have hT' : HT (in2 (2 ^ n) po (k + 1)) (fun d => if d = c then c else p d) (2 ^ n) I0 (uI I 356 c (nI c)) := by
      refine ⟨fun d hd => ?_, fun o q ho => ?_⟩
      · rw [uI_at]
        by_cases e : d = c
        · subst e
          simp only [if_true, and_self]
          exact ⟨fun _ => trivial, fun h => by rw [hcin] at h; exact absurd h (by decide)⟩
        · rw [if_neg (fun h => e h.2)]
          simp only [e, if_false]
          obtain ⟨w1, w2⟩ := hT.1 d hd
          refine ⟨fun h => w1 (hold d h e), fun h => w2 ?_⟩
          cases hb : in2 (2 ^ n) po k d
          · rfl
          · rw [(hnew d hb).1] at h
            exact absurd h (by decide)
      · rw [uI_at, if_neg (fun e => ho e.1)]
        exact hT.2 o q ho
    have hle : ∀ d, in2 (2 ^ n) po (k + 1) d = true → eN E d ≤ eN E c := fun d hd => by
      obtain ⟨g1, g2⟩ := in2_iff.mp hd
      exact hple d g1 (by omega)
    have rne : ∀ d, in2 (2 ^ n) po k d = true → r d ≠ c := fun d hd e => by
      have := (WU_root hW (M := k) (fun d hd => (in2_iff.mp hd).2) k d (by omega) hd).1
      rw [e, hcout] at this
      exact absurd this (by decide)
    have hC1 : C1 (eN E) n (eN E c) (in2 (2 ^ n) po (k + 1)) (fun d => if d = c then c else r d) := by
      intro d d' hd hd' hr
      simp only at hr
      by_cases e1 : d = c
      · by_cases e2 : d' = c
        · rw [e1, e2]
          exact .refl (Nat.le_refl _)
        · rw [if_pos e1, if_neg e2] at hr
          exact absurd hr.symm (rne d' (hold d' hd' e2))
      · by_cases e2 : d' = c
        · rw [if_neg e1, if_pos e2] at hr
          exact absurd hr (rne d (hold d hd e1))
        · rw [if_neg e1, if_neg e2] at hr
          exact h1 (eN E c) (fun x hx => hle x (hnew x hx).1) d d' (hold d hd e1) (hold d' hd' e2) hr
    rw [e323_63]
    simp only [B323_63, xSeq, i_push, i_load, i_iload, i_lload, i_dload, i_aload, i_istore, i_astore, i_lstore, i_dstore, i_iinc, i_ii, i_iiz, i_ll, i_llz, i_lli, i_li, i_i, i_l, i_i2l, i_l2i, i_dup, i_dup2, i_dup2w, i_dupx1, i_pop, i_pop2, i_goto, i_ifc, i_icmp, i_getI, i_getL, i_getR, i_putI, i_putZ, i_putL, i_putR, i_aldI, i_aldB, i_aldL, i_aldD, i_astI, i_astL, i_astD, i_alen, i_ret, i_iret, i_zret, i_lret, i_fret, i_dret, i_aret, i_invS0, i_invV0, i_m2, i_m1, i_ml, i_obj, lk, lkp, stf1, stf2, Value.category, rV, xTo, lv_args, xCk, xCat, xRc, xAk, hg_S, hg_I, hg_J, hg_D, hg_R, hs_I, hs_J, hs_D, hs_R, uI_at, uJ_at, uD_at, uR_at, List.take_succ_cons, List.take_zero, List.drop_succ_cons, List.drop_zero, List.reverse_cons, List.reverse_nil, List.nil_append, List.cons_append, List.map_cons, List.map_nil, List.sum_cons, List.sum_nil, List.length_cons, List.length_nil, Option.toList_some, Option.toList_none, true_and, and_true, false_and, and_false, true_implies, false_implies, implies_true, not_true_eq_false, not_false_eq_true, ne_eq, if_true, if_false, Bool.and_true, Bool.true_and, decide_true, decide_false, reduceIte, reduceCtorEq, Bool.and_self, Bool.and_eq_true, decide_eq_true_eq, and_self, true_or, or_true, false_or, or_false, Nat.zero_add, Nat.add_zero, eq_self, Nat.reduceEqDiff, Nat.reduceLeDiff, Nat.reduceLT, Nat.reduceAdd, Nat.reduceSub, Nat.reduceMul, LM_out hL, R303 hL h10' (show n < 31 by omega), nI_leP (show 2 ^ n < 2147483648 by omega) (show k < 2147483648 by omega), show (2 ^ n ≤ k) = False from eq_false (by omega), nI_inP (show k < 65536 by omega) (by decide), nI_ix (show k < 2147483648 by omega), ho', nI_inP (show c < 65536 by omega) (by decide), nI_ix (show c < 2147483648 by omega)]
    refine L323_93 (I0 := I0) (E := E) (n := n) (M := k + 1) (inc := in2 (2 ^ n) po (k + 1)) (po := po) (c := c) hL h10 hE (fun d hd => (in2_iff.mp hd).1) (fun d hd => (in2_iff.mp hd).2) hcin (fun d hd hne => by
      have := (in2_iff.mp (hold d hd hne)).2
      omega) hle (fun I2 p2 r2 w2 q2 g1 g2 => ?_) n 0 _ _ _ (by omega) hW' hT' hC1 (fun d t ht a1 a2 a3 a4 => ?_) (fun t ht => absurd ht (Nat.not_lt_zero _))
    · have hMk : ∀ d, in2 (2 ^ n) po (k + 1) d = true → po d < k + 1 := fun d hd => (in2_iff.mp hd).2
      have hik : ∀ d, in2 (2 ^ n) po (k + 1) d = true → d < 2 ^ n := fun d hd => (in2_iff.mp hd).1
      have next : ∀ (I3 : xI) (p3 : Nat → Nat), WU (in2 (2 ^ n) po (k + 1)) po p3 r2 → HT (in2 (2 ^ n) po (k + 1)) p3 (2 ^ n) I0 I3 → ¬ (in2 (2 ^ n) po (k + 1) a = true ∧ in2 (2 ^ n) po (k + 1) z = true ∧ r2 a = r2 z) → xRun xT 323 204 [(0, .ref 200), (5, .int (nI a)), (6, .int (nI z)), (7, .int (nI k))] [] (S, I3, J, D, R) b Q := fun I3 p3 w3 q3 hno => by
        rw [e323_204]
        simp only [B323_204, xSeq, i_push, i_load, i_iload, i_lload, i_dload, i_aload, i_istore, i_astore, i_lstore, i_dstore, i_iinc, i_ii, i_iiz, i_ll, i_llz, i_lli, i_li, i_i, i_l, i_i2l, i_l2i, i_dup, i_dup2, i_dup2w, i_dupx1, i_pop, i_pop2, i_goto, i_ifc, i_icmp, i_getI, i_getL, i_getR, i_putI, i_putZ, i_putL, i_putR, i_aldI, i_aldB, i_aldL, i_aldD, i_astI, i_astL, i_astD, i_alen, i_ret, i_iret, i_zret, i_lret, i_fret, i_dret, i_aret, i_invS0, i_invV0, i_m2, i_m1, i_ml, i_obj, lk, lkp, stf1, stf2, Value.category, rV, xTo, lv_args, xCk, xCat, xRc, xAk, hg_S, hg_I, hg_J, hg_D, hg_R, hs_I, hs_J, hs_D, hs_R, uI_at, uJ_at, uD_at, uR_at, List.take_succ_cons, List.take_zero, List.drop_succ_cons, List.drop_zero, List.reverse_cons, List.reverse_nil, List.nil_append, List.cons_append, List.map_cons, List.map_nil, List.sum_cons, List.sum_nil, List.length_cons, List.length_nil, Option.toList_some, Option.toList_none, true_and, and_true, false_and, and_false, true_implies, false_implies, implies_true, not_true_eq_false, not_false_eq_true, ne_eq, if_true, if_false, Bool.and_true, Bool.true_and, decide_true, decide_false, reduceIte, reduceCtorEq, Bool.and_self, Bool.and_eq_true, decide_eq_true_eq, and_self, true_or, or_true, false_or, or_false, Nat.zero_add, Nat.add_zero, eq_self, Nat.reduceEqDiff, Nat.reduceLeDiff, Nat.reduceLT, Nat.reduceAdd, Nat.reduceSub, Nat.reduceMul, nI_1]
        exact nx p3 r2 I3 w3 q3 (fun h hh d d' hd hd' hr => RC_mono (hh c hcin) (g1 d d' hd hd' hr)) g2 hno
      obtain ⟨ta1, ta2⟩ := q2.1 a ha
      obtain ⟨tz1, tz2⟩ := q2.1 z hz
      rw [e323_159]
      simp only [B323_159, xSeq, i_push, i_load, i_iload, i_lload, i_dload, i_aload, i_istore, i_astore, i_lstore, i_dstore, i_iinc, i_ii, i_iiz, i_ll, i_llz, i_lli, i_li, i_i, i_l, i_i2l, i_l2i, i_dup, i_dup2, i_dup2w, i_dupx1, i_pop, i_pop2, i_goto, i_ifc, i_icmp, i_getI, i_getL, i_getR, i_putI, i_putZ, i_putL, i_putR, i_aldI, i_aldB, i_aldL, i_aldD, i_astI, i_astL, i_astD, i_alen, i_ret, i_iret, i_zret, i_lret, i_fret, i_dret, i_aret, i_invS0, i_invV0, i_m2, i_m1, i_ml, i_obj, lk, lkp, stf1, stf2, Value.category, rV, xTo, lv_args, xCk, xCat, xRc, xAk, hg_S, hg_I, hg_J, hg_D, hg_R, hs_I, hs_J, hs_D, hs_R, uI_at, uJ_at, uD_at, uR_at, List.take_succ_cons, List.take_zero, List.drop_succ_cons, List.drop_zero, List.reverse_cons, List.reverse_nil, List.nil_append, List.cons_append, List.map_cons, List.map_nil, List.sum_cons, List.sum_nil, List.length_cons, List.length_nil, Option.toList_some, Option.toList_none, true_and, and_true, false_and, and_false, true_implies, false_implies, implies_true, not_true_eq_false, not_false_eq_true, ne_eq, if_true, if_false, Bool.and_true, Bool.true_and, decide_true, decide_false, reduceIte, reduceCtorEq, Bool.and_self, Bool.and_eq_true, decide_eq_true_eq, and_self, true_or, or_true, false_or, or_false, Nat.zero_add, Nat.add_zero, eq_self, Nat.reduceEqDiff, Nat.reduceLeDiff, Nat.reduceLT, Nat.reduceAdd, Nat.reduceSub, Nat.reduceMul, LM_out hL, nI_inP (show a < 65536 by omega) (by decide), nI_ix (show a < 2147483648 by omega), nI_inP (show z < 65536 by omega) (by decide), nI_ix (show z < 2147483648 by omega)]
      cases hia : in2 (2 ^ n) po (k + 1) a
      · simp only [ta2 hia, true_and, and_true, false_and, and_false, true_implies, false_implies, implies_true, not_true_eq_false, not_false_eq_true, ne_eq, if_true, if_false, Bool.and_true, Bool.true_and, decide_true, decide_false, reduceIte, reduceCtorEq, Bool.and_self, Bool.and_eq_true, decide_eq_true_eq, and_self, true_or, or_true, false_or, or_false, Nat.zero_add, Nat.add_zero, eq_self, Nat.reduceEqDiff, Nat.reduceLeDiff, Nat.reduceLT, Nat.reduceAdd, Nat.reduceSub, Nat.reduceMul]
        exact next I2 p2 w2 q2 (fun h => by rw [hia] at h; exact absurd h.1 (by decide))
      · have pa := hik _ (w2 a hia).1
        cases hiz : in2 (2 ^ n) po (k + 1) z
        · simp only [ta1 hia, tz2 hiz, nI_n1 (show p2 a < 2147483648 by omega), true_and, and_true, false_and, and_false, true_implies, false_implies, implies_true, not_true_eq_false, not_false_eq_true, ne_eq, if_true, if_false, Bool.and_true, Bool.true_and, decide_true, decide_false, reduceIte, reduceCtorEq, Bool.and_self, Bool.and_eq_true, decide_eq_true_eq, and_self, true_or, or_true, false_or, or_false, Nat.zero_add, Nat.add_zero, eq_self, Nat.reduceEqDiff, Nat.reduceLeDiff, Nat.reduceLT, Nat.reduceAdd, Nat.reduceSub, Nat.reduceMul]
          exact next I2 p2 w2 q2 (fun h => by rw [hiz] at h; exact absurd h.2.1 (by decide))
        · have pz := hik _ (w2 z hiz).1
          simp only [ta1 hia, tz1 hiz, nI_n1 (show p2 a < 2147483648 by omega), nI_n1 (show p2 z < 2147483648 by omega), true_and, and_true, false_and, and_false, true_implies, false_implies, implies_true, not_true_eq_false, not_false_eq_true, ne_eq, if_true, if_false, Bool.and_true, Bool.true_and, decide_true, decide_false, reduceIte, reduceCtorEq, Bool.and_self, Bool.and_eq_true, decide_eq_true_eq, and_self, true_or, or_true, false_or, or_false, Nat.zero_add, Nat.add_zero, eq_self, Nat.reduceEqDiff, Nat.reduceLeDiff, Nat.reduceLT, Nat.reduceAdd, Nat.reduceSub, Nat.reduceMul]
          refine L325 (N := 2 ^ n) (r := r2) (I0 := I0) hL hp hik hMk hia w2 q2 (fun I3 p3 w3 q3 => ?_)
          simp only [xSeq, i_push, i_load, i_iload, i_lload, i_dload, i_aload, i_istore, i_astore, i_lstore, i_dstore, i_iinc, i_ii, i_iiz, i_ll, i_llz, i_lli, i_li, i_i, i_l, i_i2l, i_l2i, i_dup, i_dup2, i_dup2w, i_dupx1, i_pop, i_pop2, i_goto, i_ifc, i_icmp, i_getI, i_getL, i_getR, i_putI, i_putZ, i_putL, i_putR, i_aldI, i_aldB, i_aldL, i_aldD, i_astI, i_astL, i_astD, i_alen, i_ret, i_iret, i_zret, i_lret, i_fret, i_dret, i_aret, i_invS0, i_invV0, i_m2, i_m1, i_ml, i_obj, lk, lkp, stf1, stf2, Value.category, rV, xTo, lv_args, xCk, xCat, xRc, xAk, hg_S, hg_I, hg_J, hg_D, hg_R, hs_I, hs_J, hs_D, hs_R, uI_at, uJ_at, uD_at, uR_at, List.take_succ_cons, List.take_zero, List.drop_succ_cons, List.drop_zero, List.reverse_cons, List.reverse_nil, List.nil_append, List.cons_append, List.map_cons, List.map_nil, List.sum_cons, List.sum_nil, List.length_cons, List.length_nil, Option.toList_some, Option.toList_none, true_and, and_true, false_and, and_false, true_implies, false_implies, implies_true, not_true_eq_false, not_false_eq_true, ne_eq, if_true, if_false, Bool.and_true, Bool.true_and, decide_true, decide_false, reduceIte, reduceCtorEq, Bool.and_self, Bool.and_eq_true, decide_eq_true_eq, and_self, true_or, or_true, false_or, or_false, Nat.zero_add, Nat.add_zero, eq_self, Nat.reduceEqDiff, Nat.reduceLeDiff, Nat.reduceLT, Nat.reduceAdd, Nat.reduceSub, Nat.reduceMul, LM_out hL]
          refine L325 (N := 2 ^ n) (r := r2) (I0 := I0) hL hp hik hMk hiz w3 q3 (fun I4 p4 w4 q4 => ?_)
          have ra := hik _ (WU_root w4 hMk (k + 1) a (by omega) hia).1
          have rz := hik _ (WU_root w4 hMk (k + 1) z (by omega) hiz).1
          have hwc : I4 343 c = E c := (q4.2 _ _ (by decide)).trans (hw c hc)
          simp only [xSeq, i_push, i_load, i_iload, i_lload, i_dload, i_aload, i_istore, i_astore, i_lstore, i_dstore, i_iinc, i_ii, i_iiz, i_ll, i_llz, i_lli, i_li, i_i, i_l, i_i2l, i_l2i, i_dup, i_dup2, i_dup2w, i_dupx1, i_pop, i_pop2, i_goto, i_ifc, i_icmp, i_getI, i_getL, i_getR, i_putI, i_putZ, i_putL, i_putR, i_aldI, i_aldB, i_aldL, i_aldD, i_astI, i_astL, i_astD, i_alen, i_ret, i_iret, i_zret, i_lret, i_fret, i_dret, i_aret, i_invS0, i_invV0, i_m2, i_m1, i_ml, i_obj, lk, lkp, stf1, stf2, Value.category, rV, xTo, lv_args, xCk, xCat, xRc, xAk, hg_S, hg_I, hg_J, hg_D, hg_R, hs_I, hs_J, hs_D, hs_R, uI_at, uJ_at, uD_at, uR_at, List.take_succ_cons, List.take_zero, List.drop_succ_cons, List.drop_zero, List.reverse_cons, List.reverse_nil, List.nil_append, List.cons_append, List.map_cons, List.map_nil, List.sum_cons, List.sum_nil, List.length_cons, List.length_nil, Option.toList_some, Option.toList_none, true_and, and_true, false_and, and_false, true_implies, false_implies, implies_true, not_true_eq_false, not_false_eq_true, ne_eq, if_true, if_false, Bool.and_true, Bool.true_and, decide_true, decide_false, reduceIte, reduceCtorEq, Bool.and_self, Bool.and_eq_true, decide_eq_true_eq, and_self, true_or, or_true, false_or, or_false, Nat.zero_add, Nat.add_zero, eq_self, Nat.reduceEqDiff, Nat.reduceLeDiff, Nat.reduceLT, Nat.reduceAdd, Nat.reduceSub, Nat.reduceMul, LM_out hL, ne_eq, nI_iff (show r2 a < 2147483648 by omega) (show r2 z < 2147483648 by omega), nI_inP (show c < 65536 by omega) (by decide), nI_ix (show c < 2147483648 by omega), hwc]
          by_cases e : r2 a = r2 z
          · simp only [e, true_and, and_true, false_and, and_false, true_implies, false_implies, implies_true, not_true_eq_false, not_false_eq_true, ne_eq, if_true, if_false, Bool.and_true, Bool.true_and, decide_true, decide_false, reduceIte, reduceCtorEq, Bool.and_self, Bool.and_eq_true, decide_eq_true_eq, and_self, true_or, or_true, false_or, or_false, Nat.zero_add, Nat.add_zero, eq_self, Nat.reduceEqDiff, Nat.reduceLeDiff, Nat.reduceLT, Nat.reduceAdd, Nat.reduceSub, Nat.reduceMul]
            refine kk I4 c hc ⟨g1 a z hia hiz e, fun h hr => Nat.le_of_not_lt (fun hlt => ?_)⟩ q4.2
            have hinc : ∀ d, d < 2 ^ n → eN E d ≤ h → in2 (2 ^ n) po k d = true := fun d hd he => in2_iff.mpr ⟨hd, hpre d hd (by omega)⟩
            have hpth := C2_path (inc := in2 (2 ^ n) po k) h2 hinc ha hr
            have haa := (C2_path (inc := in2 (2 ^ n) po k) h2 hinc hz (RC_sym hr)).2.2
            exact h3 ⟨haa, hpth.2.2, hpth.1⟩
          · simp only [e, true_and, and_true, false_and, and_false, true_implies, false_implies, implies_true, not_true_eq_false, not_false_eq_true, ne_eq, if_true, if_false, Bool.and_true, Bool.true_and, decide_true, decide_false, reduceIte, reduceCtorEq, Bool.and_self, Bool.and_eq_true, decide_eq_true_eq, and_self, true_or, or_true, false_or, or_false, Nat.zero_add, Nat.add_zero, eq_self, Nat.reduceEqDiff, Nat.reduceLeDiff, Nat.reduceLT, Nat.reduceAdd, Nat.reduceSub, Nat.reduceMul]
            exact next I4 p4 w4 q4 (fun h => e h.2.2)
    · simp only [a1, a2, if_false]
      exact h2 d t ht (hold d a3 a1) (hold _ a4 a2)
theorem L323_o {I0 : xI} (hL : LM S R) (hX : XM n E I0) (h10 : I0 300 10 = nI n) (hE : EB E n) (hO : OL E n I0 I) (ha : a < 2 ^ n) (hz : z < 2 ^ n)
    (kk : ∀ I' h, bar (eN E) n a z h → (∀ o k, oX o → I' o k = I0 o k) → Q (.ok (some (.int (nI h - 144)))) (S, I', J, D, R) b) :
    xRun xT 323 63 [(0, .ref 200), (5, .int (nI a)), (6, .int (nI z)), (7, .int 0)] [] (S, I, J, D, R) b Q := by
  obtain ⟨o1, o2, o3⟩ := hO
  have no : ∀ k, in2 (2 ^ n) (ps2 (fk E) (2 ^ n)) 0 k = true → False := fun k hk => absurd (in2_iff.mp hk).2 (Nat.not_lt_zero _)
  have h := L323_63 (I0 := I) (E := E) (n := n) (a := a) (z := z) (S := S) (R := R) (J := J) (D := D) (b := b) (Q := Q) hL ((o3 _ _ (by decide)).trans h10) hE (fun c hc => (o3 _ _ (by decide)).trans (hX.2.2.2.2 c hc)) o1 ha hz (fun I5 m hm hb k5 => by
    rw [(eN_ok hE hm).2.2.2]
    exact kk I5 _ hb (fun o k ho => (k5 o k ho.2.1).trans (o3 o k ho))) (2 ^ n) 0 (fun k => k) (fun k => k) I (Nat.zero_add _) (fun k hk => (no k hk).elim) ⟨fun k hk => ⟨fun h => (no k h).elim, fun _ => o2 k hk⟩, fun _ _ _ => rfl⟩ (fun h _ k k' hk => (no k hk).elim) (fun k t _ hk => (no k hk).elim) (fun hk => (no a hk.1).elim)
  rw [nI_0] at h
  exact h
end
/-! ===== digits ===== -/
section
def dg (m : Nat) : Nat := if m < 10 then 1 else if m < 100 then 2 else if m < 1000 then 3 else if m < 10000 then 4 else if m < 100000 then 5 else if m < 1000000 then 6 else if m < 10000000 then 7 else if m < 100000000 then 8 else if m < 1000000000 then 9 else 10
theorem dg_k (m : Nat) : (m < 10 ∧ dg m = 1) ∨ (10 ≤ m ∧ m < 100 ∧ dg m = 2) ∨ (100 ≤ m ∧ m < 1000 ∧ dg m = 3) ∨ (1000 ≤ m ∧ m < 10000 ∧ dg m = 4) ∨ (10000 ≤ m ∧ m < 100000 ∧ dg m = 5) ∨ (100000 ≤ m ∧ m < 1000000 ∧ dg m = 6) ∨ (1000000 ≤ m ∧ m < 10000000 ∧ dg m = 7) ∨ (10000000 ≤ m ∧ m < 100000000 ∧ dg m = 8) ∨ (100000000 ≤ m ∧ m < 1000000000 ∧ dg m = 9) ∨ (1000000000 ≤ m ∧ dg m = 10) := by
  by_cases h1 : m < 10
  · exact Or.inl ⟨h1, by rw [dg, if_pos h1]⟩
  by_cases h2 : m < 100
  · exact Or.inr (Or.inl ⟨Nat.le_of_not_lt h1, h2, by rw [dg, if_neg h1, if_pos h2]⟩)
  by_cases h3 : m < 1000
  · exact Or.inr (Or.inr (Or.inl ⟨Nat.le_of_not_lt h2, h3, by rw [dg, if_neg h1, if_neg h2, if_pos h3]⟩))
  by_cases h4 : m < 10000
  · exact Or.inr (Or.inr (Or.inr (Or.inl ⟨Nat.le_of_not_lt h3, h4, by rw [dg, if_neg h1, if_neg h2, if_neg h3, if_pos h4]⟩)))
  by_cases h5 : m < 100000
  · exact Or.inr (Or.inr (Or.inr (Or.inr (Or.inl ⟨Nat.le_of_not_lt h4, h5, by rw [dg, if_neg h1, if_neg h2, if_neg h3, if_neg h4, if_pos h5]⟩))))
  by_cases h6 : m < 1000000
  · exact Or.inr (Or.inr (Or.inr (Or.inr (Or.inr (Or.inl ⟨Nat.le_of_not_lt h5, h6, by rw [dg, if_neg h1, if_neg h2, if_neg h3, if_neg h4, if_neg h5, if_pos h6]⟩)))))
  by_cases h7 : m < 10000000
  · exact Or.inr (Or.inr (Or.inr (Or.inr (Or.inr (Or.inr (Or.inl ⟨Nat.le_of_not_lt h6, h7, by rw [dg, if_neg h1, if_neg h2, if_neg h3, if_neg h4, if_neg h5, if_neg h6, if_pos h7]⟩))))))
  by_cases h8 : m < 100000000
  · exact Or.inr (Or.inr (Or.inr (Or.inr (Or.inr (Or.inr (Or.inr (Or.inl ⟨Nat.le_of_not_lt h7, h8, by rw [dg, if_neg h1, if_neg h2, if_neg h3, if_neg h4, if_neg h5, if_neg h6, if_neg h7, if_pos h8]⟩)))))))
  by_cases h9 : m < 1000000000
  · exact Or.inr (Or.inr (Or.inr (Or.inr (Or.inr (Or.inr (Or.inr (Or.inr (Or.inl ⟨Nat.le_of_not_lt h8, h9, by rw [dg, if_neg h1, if_neg h2, if_neg h3, if_neg h4, if_neg h5, if_neg h6, if_neg h7, if_neg h8, if_pos h9]⟩))))))))
  exact Or.inr (Or.inr (Or.inr (Or.inr (Or.inr (Or.inr (Or.inr (Or.inr (Or.inr (⟨Nat.le_of_not_lt h9, by rw [dg, if_neg h1, if_neg h2, if_neg h3, if_neg h4, if_neg h5, if_neg h6, if_neg h7, if_neg h8, if_neg h9]⟩)))))))))
theorem dg_bd (m : Nat) : 1 ≤ dg m ∧ dg m ≤ 10 := by
  have := dg_k m
  omega
theorem dg_100 {m : Nat} (h : 100 ≤ m) (h2 : m ≤ 2147483648) : dg m = dg (m / 100) + 2 := by
  have k := dg_k (m / 100)
  rcases dg_k m with h9 | h9 | h9 | h9 | h9 | h9 | h9 | h9 | h9 | h9 <;> omega
theorem dg_10 {m : Nat} : (m < 10 → dg m = 1) ∧ (10 ≤ m → m < 100 → dg m = 2) := by
  unfold dg
  refine ⟨fun h => by rw [if_pos h], fun h h2 => by rw [if_neg (by omega), if_pos h2]⟩
theorem dg_pow {m : Nat} (h : m ≤ 2147483648) {i : Nat} (hi : i ≤ 9) : (10 ^ i ≤ m ∨ i = 0) ↔ i < dg m := by
  have k := dg_k m
  have h10 : i = 0 ∨ i = 1 ∨ i = 2 ∨ i = 3 ∨ i = 4 ∨ i = 5 ∨ i = 6 ∨ i = 7 ∨ i = 8 ∨ i = 9 := by omega
  rcases h10 with rfl | rfl | rfl | rfl | rfl | rfl | rfl | rfl | rfl | rfl <;> simp only [Nat.reducePow, or_true, true_iff] <;> omega
/-- the characters of a number -/
def nch (x : Int32) : Nat := (if x < 0 then 1 else 0) + dg x.toInt.natAbs
theorem nch_bd (x : Int32) : 1 ≤ nch x ∧ nch x ≤ 11 := by
  have := dg_bd x.toInt.natAbs
  unfold nch
  split <;> omega
theorem neg_I {m : Nat} (h : m ≤ 2147483648) : (-(nI m)).toInt = -(m : Int) := by
  have e : -(nI m) = Int32.ofInt (-(m : Int)) := by
    rw [Int32.ofInt_neg]
    rfl
  have hs : (Int32.size : Nat) = 4294967296 := rfl
  rw [e, Int32.toInt_ofInt, hs]
  exact Int.bmod_eq_of_le (by omega) (by omega)
theorem num_cases (x : Int32) : ∃ m, m ≤ 2147483648 ∧ x.toInt.natAbs = m ∧ ((x < 0 ∧ x = -(nI m) ∧ 0 < m) ∨ (¬ x < 0 ∧ x = nI m ∧ m < 2147483648)) := by
  have h1 := Int32.le_toInt x
  have h2 := Int32.toInt_lt x
  refine ⟨x.toInt.natAbs, by omega, rfl, ?_⟩
  have hx : (x < 0) = (x.toInt < 0) := by
    rw [Int32.lt_iff_toInt_lt]
    rfl
  by_cases h : x < 0
  · have h3 : x.toInt < 0 := by rw [← hx]; exact h
    refine Or.inl ⟨h, ?_, by omega⟩
    apply Int32.toInt_inj.mp
    rw [neg_I (by omega)]
    omega
  · have h3 : ¬ x.toInt < 0 := by rw [← hx]; exact h
    refine Or.inr ⟨h, ?_, by omega⟩
    apply Int32.toInt_inj.mp
    rw [nI_toInt (by omega)]
    omega
theorem neg_neg (x : Int32) : -(-x) = x := Int32.neg_neg
/-- comparing with a number below 0 -/
theorem neg_le {m p : Nat} (hm : m ≤ 2147483648) (hp : p ≤ 2147483648) : (-(nI m) ≤ -(nI p)) = (p ≤ m) := by
  rw [Int32.le_iff_toInt_le, neg_I hm, neg_I hp]
  exact propext ⟨fun h => by omega, fun h => by omega⟩
theorem neg_lt {m p : Nat} (hm : m ≤ 2147483648) (hp : p ≤ 2147483648) : (-(nI p) < -(nI m)) = (m < p) := by
  rw [Int32.lt_iff_toInt_lt, neg_I hm, neg_I hp]
  exact propext ⟨fun h => by omega, fun h => by omega⟩
theorem neg_div {m : Nat} (hm : m ≤ 2147483648) : -(nI m) / 100 = -(nI (m / 100)) := by
  apply Int32.toInt_inj.mp
  rw [Int32.toInt_div, neg_I hm, neg_I (by omega), show (100 : Int32).toInt = 100 from rfl, Int.neg_tdiv, Int.tdiv_eq_ediv_of_nonneg (by omega)]
  rw [Int.bmod_eq_of_le (by omega) (by omega)]
  omega
theorem neg_rest {m : Nat} : -(nI (m / 100)) * 100 - -(nI m) = nI (m % 100) := by
  have e : nI m = nI (m / 100) * 100 + nI (m % 100) := by
    rw [show (100 : Int32) = nI 100 from rfl, pk_mul, nI_add]
    congr 1
    omega
  rw [e]
  grind
variable {S : xS} {I : xI} {J : xJ} {D : xDb} {R : xR} {b : Nat × Nat} {Q : xQ}
theorem R30_16 {m d : Nat} (hm : m ≤ 2147483648) : ∀ (j i : Nat) (p : Int32), i + j = 10 → 0 < i → i ≤ dg m → (i ≤ 9 → p = -(nI (10 ^ i))) → xRun xT 30 16 [(0, .int (-(nI m))), (1, .int (nI d)), (2, .int p), (3, .int (nI i))] [] (S, I, J, D, R) b Q = Q (.ok (some (.int (nI (d + dg m))))) (S, I, J, D, R) b
  | 0, i, p, hi, h0, h, hp => by
    have := dg_bd m
    have e2 : dg m = 10 := by omega
    have e3 : i = 10 := by omega
    have e4 : ((10 : Int32) ≤ nI i) = True := by rw [e3]; exact eq_true (by decide)
    have e5 : (10 : Int32) + nI d = nI (d + 10) := by rw [show (10 : Int32) = nI 10 from rfl, nI_add, Nat.add_comm]
    rw [e30_16]
    simp only [B30_16, xSeq, i_push, i_load, i_iload, i_lload, i_dload, i_aload, i_istore, i_astore, i_lstore, i_dstore, i_iinc, i_ii, i_iiz, i_ll, i_llz, i_lli, i_li, i_i, i_l, i_i2l, i_l2i, i_dup, i_dup2, i_dup2w, i_dupx1, i_pop, i_pop2, i_goto, i_ifc, i_icmp, i_getI, i_getL, i_getR, i_putI, i_putZ, i_putL, i_putR, i_aldI, i_aldB, i_aldL, i_aldD, i_astI, i_astL, i_astD, i_alen, i_ret, i_iret, i_zret, i_lret, i_fret, i_dret, i_aret, i_invS0, i_invV0, i_m2, i_m1, i_ml, i_obj, lk, lkp, stf1, stf2, Value.category, rV, xTo, lv_args, xCk, xCat, xRc, xAk, hg_S, hg_I, hg_J, hg_D, hg_R, hs_I, hs_J, hs_D, hs_R, uI_at, uJ_at, uD_at, uR_at, List.take_succ_cons, List.take_zero, List.drop_succ_cons, List.drop_zero, List.reverse_cons, List.reverse_nil, List.nil_append, List.cons_append, List.map_cons, List.map_nil, List.sum_cons, List.sum_nil, List.length_cons, List.length_nil, Option.toList_some, Option.toList_none, true_and, and_true, false_and, and_false, true_implies, false_implies, implies_true, not_true_eq_false, not_false_eq_true, ne_eq, if_true, if_false, Bool.and_true, Bool.true_and, decide_true, decide_false, reduceIte, reduceCtorEq, Bool.and_self, Bool.and_eq_true, decide_eq_true_eq, and_self, true_or, or_true, false_or, or_false, Nat.zero_add, Nat.add_zero, eq_self, Nat.reduceEqDiff, Nat.reduceLeDiff, Nat.reduceLT, Nat.reduceAdd, Nat.reduceSub, Nat.reduceMul, e4, e30_42, B30_42, e5, e2]
  | j + 1, i, p, hi, h0, h, hpp => by
    have hp : 10 ^ i ≤ 10 ^ 9 := Nat.pow_le_pow_right (by decide) (by omega)
    have hp2 : (10 : Nat) ^ 9 = 1000000000 := rfl
    have e0 : ((10 : Int32) ≤ nI i) = False := by rw [show (10 : Int32) = nI 10 from rfl, nI_leP (by decide) (show i < 2147483648 by omega)]; exact eq_false (by omega)
    have h1 := dg_pow hm (i := i) (by omega)
    have ep : 10 * p = -(nI (10 ^ (i + 1))) := by
      rw [hpp (by omega), Nat.pow_succ, ← pk_mul]
      show _ = -(nI (10 ^ i) * 10)
      grind
    have el : (-(nI m) ≤ p) = (10 ^ i ≤ m) := by rw [hpp (by omega), neg_le hm (show 10 ^ i ≤ 2147483648 by omega)]
    obtain ⟨x, hx⟩ : ∃ x, x = -(nI m) := ⟨_, rfl⟩
    rw [e30_16]
    rw [← hx] at el ⊢
    by_cases hc : 10 ^ i ≤ m
    · have h2 := h1.mp (Or.inl hc)
      simp only [B30_16, xSeq, i_push, i_load, i_iload, i_lload, i_dload, i_aload, i_istore, i_astore, i_lstore, i_dstore, i_iinc, i_ii, i_iiz, i_ll, i_llz, i_lli, i_li, i_i, i_l, i_i2l, i_l2i, i_dup, i_dup2, i_dup2w, i_dupx1, i_pop, i_pop2, i_goto, i_ifc, i_icmp, i_getI, i_getL, i_getR, i_putI, i_putZ, i_putL, i_putR, i_aldI, i_aldB, i_aldL, i_aldD, i_astI, i_astL, i_astD, i_alen, i_ret, i_iret, i_zret, i_lret, i_fret, i_dret, i_aret, i_invS0, i_invV0, i_m2, i_m1, i_ml, i_obj, lk, lkp, stf1, stf2, Value.category, rV, xTo, lv_args, xCk, xCat, xRc, xAk, hg_S, hg_I, hg_J, hg_D, hg_R, hs_I, hs_J, hs_D, hs_R, uI_at, uJ_at, uD_at, uR_at, List.take_succ_cons, List.take_zero, List.drop_succ_cons, List.drop_zero, List.reverse_cons, List.reverse_nil, List.nil_append, List.cons_append, List.map_cons, List.map_nil, List.sum_cons, List.sum_nil, List.length_cons, List.length_nil, Option.toList_some, Option.toList_none, true_and, and_true, false_and, and_false, true_implies, false_implies, implies_true, not_true_eq_false, not_false_eq_true, ne_eq, if_true, if_false, Bool.and_true, Bool.true_and, decide_true, decide_false, reduceIte, reduceCtorEq, Bool.and_self, Bool.and_eq_true, decide_eq_true_eq, and_self, true_or, or_true, false_or, or_false, Nat.zero_add, Nat.add_zero, eq_self, Nat.reduceEqDiff, Nat.reduceLeDiff, Nat.reduceLT, Nat.reduceAdd, Nat.reduceSub, Nat.reduceMul, e0, el, hc, e30_31, B30_31, nI_1]
      rw [hx]
      exact R30_16 hm j (i + 1) _ (by omega) (by omega) (by omega) (fun _ => ep)
    · have h2 : ¬ i < dg m := fun e => by
        rcases h1.mpr e with h3 | h3
        · exact hc h3
        · omega
      have e2 : i = dg m := by omega
      have e3 : nI i + nI d = nI (d + dg m) := by rw [nI_add, Nat.add_comm, e2]
      simp only [B30_16, xSeq, i_push, i_load, i_iload, i_lload, i_dload, i_aload, i_istore, i_astore, i_lstore, i_dstore, i_iinc, i_ii, i_iiz, i_ll, i_llz, i_lli, i_li, i_i, i_l, i_i2l, i_l2i, i_dup, i_dup2, i_dup2w, i_dupx1, i_pop, i_pop2, i_goto, i_ifc, i_icmp, i_getI, i_getL, i_getR, i_putI, i_putZ, i_putL, i_putR, i_aldI, i_aldB, i_aldL, i_aldD, i_astI, i_astL, i_astD, i_alen, i_ret, i_iret, i_zret, i_lret, i_fret, i_dret, i_aret, i_invS0, i_invV0, i_m2, i_m1, i_ml, i_obj, lk, lkp, stf1, stf2, Value.category, rV, xTo, lv_args, xCk, xCat, xRc, xAk, hg_S, hg_I, hg_J, hg_D, hg_R, hs_I, hs_J, hs_D, hs_R, uI_at, uJ_at, uD_at, uR_at, List.take_succ_cons, List.take_zero, List.drop_succ_cons, List.drop_zero, List.reverse_cons, List.reverse_nil, List.nil_append, List.cons_append, List.map_cons, List.map_nil, List.sum_cons, List.sum_nil, List.length_cons, List.length_nil, Option.toList_some, Option.toList_none, true_and, and_true, false_and, and_false, true_implies, false_implies, implies_true, not_true_eq_false, not_false_eq_true, ne_eq, if_true, if_false, Bool.and_true, Bool.true_and, decide_true, decide_false, reduceIte, reduceCtorEq, Bool.and_self, Bool.and_eq_true, decide_eq_true_eq, and_self, true_or, or_true, false_or, or_false, Nat.zero_add, Nat.add_zero, eq_self, Nat.reduceEqDiff, Nat.reduceLeDiff, Nat.reduceLT, Nat.reduceAdd, Nat.reduceSub, Nat.reduceMul, e0, el, hc, e3]
theorem R30 {x : Int32} : xRun xT 30 0 [(0, .int x)] [] (S, I, J, D, R) b Q = Q (.ok (some (.int (nI (nch x))))) (S, I, J, D, R) b := by
  obtain ⟨m, hm, e, h⟩ := num_cases x
  have hb := dg_bd m
  have hc : nch x = (if x < 0 then 1 else 0) + dg m := by unfold nch; rw [e]
  rw [hc]
  rcases h with ⟨h1, h2, h3⟩ | ⟨h1, h2, h3⟩
  · have hr := R30_16 (S := S) (I := I) (J := J) (D := D) (R := R) (b := b) (Q := Q) (d := 1) hm 9 1 (-10) rfl (by decide) (by omega) (fun _ => rfl)
    rw [if_pos h1]
    rw [h2] at h1 ⊢
    rw [e30_0]
    simp only [B30_0, xSeq, i_push, i_load, i_iload, i_lload, i_dload, i_aload, i_istore, i_astore, i_lstore, i_dstore, i_iinc, i_ii, i_iiz, i_ll, i_llz, i_lli, i_li, i_i, i_l, i_i2l, i_l2i, i_dup, i_dup2, i_dup2w, i_dupx1, i_pop, i_pop2, i_goto, i_ifc, i_icmp, i_getI, i_getL, i_getR, i_putI, i_putZ, i_putL, i_putR, i_aldI, i_aldB, i_aldL, i_aldD, i_astI, i_astL, i_astD, i_alen, i_ret, i_iret, i_zret, i_lret, i_fret, i_dret, i_aret, i_invS0, i_invV0, i_m2, i_m1, i_ml, i_obj, lk, lkp, stf1, stf2, Value.category, rV, xTo, lv_args, xCk, xCat, xRc, xAk, hg_S, hg_I, hg_J, hg_D, hg_R, hs_I, hs_J, hs_D, hs_R, uI_at, uJ_at, uD_at, uR_at, List.take_succ_cons, List.take_zero, List.drop_succ_cons, List.drop_zero, List.reverse_cons, List.reverse_nil, List.nil_append, List.cons_append, List.map_cons, List.map_nil, List.sum_cons, List.sum_nil, List.length_cons, List.length_nil, Option.toList_some, Option.toList_none, true_and, and_true, false_and, and_false, true_implies, false_implies, implies_true, not_true_eq_false, not_false_eq_true, ne_eq, if_true, if_false, Bool.and_true, Bool.true_and, decide_true, decide_false, reduceIte, reduceCtorEq, Bool.and_self, Bool.and_eq_true, decide_eq_true_eq, and_self, true_or, or_true, false_or, or_false, Nat.zero_add, Nat.add_zero, eq_self, Nat.reduceEqDiff, Nat.reduceLeDiff, Nat.reduceLT, Nat.reduceAdd, Nat.reduceSub, Nat.reduceMul, h1, e30_11, B30_11]
    exact hr
  · have hr := R30_16 (S := S) (I := I) (J := J) (D := D) (R := R) (b := b) (Q := Q) (d := 0) hm 9 1 (-10) rfl (by decide) (by omega) (fun _ => rfl)
    rw [if_neg h1]
    rw [h2] at h1 ⊢
    rw [Nat.zero_add] at hr ⊢
    rw [e30_0]
    simp only [B30_0, xSeq, i_push, i_load, i_iload, i_lload, i_dload, i_aload, i_istore, i_astore, i_lstore, i_dstore, i_iinc, i_ii, i_iiz, i_ll, i_llz, i_lli, i_li, i_i, i_l, i_i2l, i_l2i, i_dup, i_dup2, i_dup2w, i_dupx1, i_pop, i_pop2, i_goto, i_ifc, i_icmp, i_getI, i_getL, i_getR, i_putI, i_putZ, i_putL, i_putR, i_aldI, i_aldB, i_aldL, i_aldD, i_astI, i_astL, i_astD, i_alen, i_ret, i_iret, i_zret, i_lret, i_fret, i_dret, i_aret, i_invS0, i_invV0, i_m2, i_m1, i_ml, i_obj, lk, lkp, stf1, stf2, Value.category, rV, xTo, lv_args, xCk, xCat, xRc, xAk, hg_S, hg_I, hg_J, hg_D, hg_R, hs_I, hs_J, hs_D, hs_R, uI_at, uJ_at, uD_at, uR_at, List.take_succ_cons, List.take_zero, List.drop_succ_cons, List.drop_zero, List.reverse_cons, List.reverse_nil, List.nil_append, List.cons_append, List.map_cons, List.map_nil, List.sum_cons, List.sum_nil, List.length_cons, List.length_nil, Option.toList_some, Option.toList_none, true_and, and_true, false_and, and_false, true_implies, false_implies, implies_true, not_true_eq_false, not_false_eq_true, ne_eq, if_true, if_false, Bool.and_true, Bool.true_and, decide_true, decide_false, reduceIte, reduceCtorEq, Bool.and_self, Bool.and_eq_true, decide_eq_true_eq, and_self, true_or, or_true, false_or, or_false, Nat.zero_add, Nat.add_zero, eq_self, Nat.reduceEqDiff, Nat.reduceLeDiff, Nat.reduceLT, Nat.reduceAdd, Nat.reduceSub, Nat.reduceMul, h1, e30_11, B30_11]
    exact hr
end
/-! ===== numbers are appended ===== -/
section
/-- bytes in one row, all else as before -/
def AW (v cap : Nat) (I0 I : xI) : Prop := (∀ k, k < cap → bF (I v k)) ∧ ∀ o k, o ≠ v → I o k = I0 o k
theorem AW_w {v cap : Nat} {I0 I : xI} (h : AW v cap I0 I) (p : Nat) (x : Int32) : AW v cap I0 (uI I v p (vp_nar .byte x)) := by
  refine ⟨fun k hk => ?_, fun o k ho => ?_⟩
  · rw [uI_at]
    split
    · exact bF_n _
    · exact h.1 k hk
  · rw [uI_at, if_neg (fun e => ho e.1)]
    exact h.2 o k ho
theorem nI_dn {p : Nat} (h : 1 ≤ p) : nI p + -1 = nI (p - 1) := by
  rw [← nI_subn h]
  show _ = nI p - 1
  grind
variable {S : xS} {I : xI} {J : xJ} {D : xDb} {R : xR} {b : Nat × Nat} {Q : xQ}
theorem L31_104 {v cap p : Nat} {ng : Int32} {nn : Nat} {I0 : xI} (hS : S v = (103, cap)) (hcap : cap < 2147483648) (hn : (ng = 0 ∧ nn = 0) ∨ (ng = 1 ∧ nn = 1)) (hp : nn ≤ p) (hpc : p ≤ cap) (h : AW v cap I0 I)
    (kk : ∀ I' r, AW v cap I0 I' → Q (.ok (some (.int r))) (S, I', J, D, R) b) : xRun xT 31 104 [(2, .ref v), (5, .int (nI p)), (6, .int ng)] [] (S, I, J, D, R) b Q := by
  rw [e31_104]
  rcases hn with ⟨h1, h2⟩ | ⟨h1, h2⟩
  · simp only [B31_104, xSeq, i_push, i_load, i_iload, i_lload, i_dload, i_aload, i_istore, i_astore, i_lstore, i_dstore, i_iinc, i_ii, i_iiz, i_ll, i_llz, i_lli, i_li, i_i, i_l, i_i2l, i_l2i, i_dup, i_dup2, i_dup2w, i_dupx1, i_pop, i_pop2, i_goto, i_ifc, i_icmp, i_getI, i_getL, i_getR, i_putI, i_putZ, i_putL, i_putR, i_aldI, i_aldB, i_aldL, i_aldD, i_astI, i_astL, i_astD, i_alen, i_ret, i_iret, i_zret, i_lret, i_fret, i_dret, i_aret, i_invS0, i_invV0, i_m2, i_m1, i_ml, i_obj, lk, lkp, stf1, stf2, Value.category, rV, xTo, lv_args, xCk, xCat, xRc, xAk, hg_S, hg_I, hg_J, hg_D, hg_R, hs_I, hs_J, hs_D, hs_R, uI_at, uJ_at, uD_at, uR_at, List.take_succ_cons, List.take_zero, List.drop_succ_cons, List.drop_zero, List.reverse_cons, List.reverse_nil, List.nil_append, List.cons_append, List.map_cons, List.map_nil, List.sum_cons, List.sum_nil, List.length_cons, List.length_nil, Option.toList_some, Option.toList_none, true_and, and_true, false_and, and_false, true_implies, false_implies, implies_true, not_true_eq_false, not_false_eq_true, ne_eq, if_true, if_false, Bool.and_true, Bool.true_and, decide_true, decide_false, reduceIte, reduceCtorEq, Bool.and_self, Bool.and_eq_true, decide_eq_true_eq, and_self, true_or, or_true, false_or, or_false, Nat.zero_add, Nat.add_zero, eq_self, Nat.reduceEqDiff, Nat.reduceLeDiff, Nat.reduceLT, Nat.reduceAdd, Nat.reduceSub, Nat.reduceMul, h1, e31_118, B31_118]
    exact kk I _ h
  · have hsh : ((100 ≤ 103 ∧ 103 < 106) ∨ 103 = 107 ∨ 103 = 108) = True := eq_true (by decide)
    simp only [B31_104, xSeq, i_push, i_load, i_iload, i_lload, i_dload, i_aload, i_istore, i_astore, i_lstore, i_dstore, i_iinc, i_ii, i_iiz, i_ll, i_llz, i_lli, i_li, i_i, i_l, i_i2l, i_l2i, i_dup, i_dup2, i_dup2w, i_dupx1, i_pop, i_pop2, i_goto, i_ifc, i_icmp, i_getI, i_getL, i_getR, i_putI, i_putZ, i_putL, i_putR, i_aldI, i_aldB, i_aldL, i_aldD, i_astI, i_astL, i_astD, i_alen, i_ret, i_iret, i_zret, i_lret, i_fret, i_dret, i_aret, i_invS0, i_invV0, i_m2, i_m1, i_ml, i_obj, lk, lkp, stf1, stf2, Value.category, rV, xTo, lv_args, xCk, xCat, xRc, xAk, hg_S, hg_I, hg_J, hg_D, hg_R, hs_I, hs_J, hs_D, hs_R, uI_at, uJ_at, uD_at, uR_at, List.take_succ_cons, List.take_zero, List.drop_succ_cons, List.drop_zero, List.reverse_cons, List.reverse_nil, List.nil_append, List.cons_append, List.map_cons, List.map_nil, List.sum_cons, List.sum_nil, List.length_cons, List.length_nil, Option.toList_some, Option.toList_none, true_and, and_true, false_and, and_false, true_implies, false_implies, implies_true, not_true_eq_false, not_false_eq_true, ne_eq, if_true, if_false, Bool.and_true, Bool.true_and, decide_true, decide_false, reduceIte, reduceCtorEq, Bool.and_self, Bool.and_eq_true, decide_eq_true_eq, and_self, true_or, or_true, false_or, or_false, Nat.zero_add, Nat.add_zero, eq_self, Nat.reduceEqDiff, Nat.reduceLeDiff, Nat.reduceLT, Nat.reduceAdd, Nat.reduceSub, Nat.reduceMul, h1, i1_0, nI_dn (show 1 ≤ p by omega), hS, nI_inP (show p - 1 < cap by omega) hcap, nI_ix (show p - 1 < 2147483648 by omega), e31_118, B31_118]
    exact kk _ _ (AW_w h _ _)
theorem L31_72 {v cap p m : Nat} {ng : Int32} {nn : Nat} {I0 : xI} (hS : S v = (103, cap)) (hcap : cap < 2147483648) (hT : S 900800 = (107, 100)) (hO : S 900801 = (107, 100)) (hn : (ng = 0 ∧ nn = 0) ∨ (ng = 1 ∧ nn = 1)) (hm : m < 100) (hp : dg m + nn ≤ p) (hpc : p ≤ cap) (h : AW v cap I0 I)
    (kk : ∀ I' r, AW v cap I0 I' → Q (.ok (some (.int r))) (S, I', J, D, R) b) : xRun xT 31 72 [(0, .int (-(nI m))), (2, .ref v), (5, .int (nI p)), (6, .int ng)] [] (S, I, J, D, R) b Q := by
  have hd := dg_bd m
  have h9 : (-9 ≤ -(nI m)) = (m < 10) := by
    rw [show (-9 : Int32) = -(nI 9) from rfl, Int32.le_iff_toInt_le, neg_I (by decide), neg_I (by omega)]
    exact propext ⟨fun h => by omega, fun h => by omega⟩
  obtain ⟨d1, d2⟩ := dg_10 (m := m)
  have nn2 := neg_neg (nI m)
  have im : xIn (nI m) 100 = True := nI_inP hm (by decide)
  obtain ⟨x, hx⟩ : ∃ x, x = -(nI m) := ⟨_, rfl⟩
  obtain ⟨w, hw⟩ : ∃ w, w = nI m := ⟨_, rfl⟩
  rw [← hx] at h9 nn2 ⊢
  rw [← hw] at nn2 im
  have q1 := nI_dn (show 1 ≤ p by omega)
  have i1 : xIn (nI (p - 1)) cap = True := nI_inP (show p - 1 < cap by omega) hcap
  have x1 : ix (nI (p - 1)) = p - 1 := nI_ix (show p - 1 < 2147483648 by omega)
  have l1 := fun I => L31_104 (S := S) (I := I) (J := J) (D := D) (R := R) (b := b) (Q := Q) (p := p - 1) (ng := ng) (I0 := I0) hS hcap hn
  by_cases hc : m < 10
  · have e := d1 hc
    have l2 := fun I h => l1 I (by omega) (by omega) h kk
    obtain ⟨y, hy⟩ : ∃ y, y = nI p := ⟨_, rfl⟩
    obtain ⟨y1, hy1⟩ : ∃ y, y = nI (p - 1) := ⟨_, rfl⟩
    rw [← hy] at q1 ⊢
    rw [← hy1] at q1 i1 x1 l2
    rw [e31_72]
    simp only [B31_72]
    generalize (900801 : Nat) = t1 at hO ⊢
    generalize (900800 : Nat) = t0 at hT ⊢
    simp only [xSeq, i_push, i_load, i_iload, i_lload, i_dload, i_aload, i_istore, i_astore, i_lstore, i_dstore, i_iinc, i_ii, i_iiz, i_ll, i_llz, i_lli, i_li, i_i, i_l, i_i2l, i_l2i, i_dup, i_dup2, i_dup2w, i_dupx1, i_pop, i_pop2, i_goto, i_ifc, i_icmp, i_getI, i_getL, i_getR, i_putI, i_putZ, i_putL, i_putR, i_aldI, i_aldB, i_aldL, i_aldD, i_astI, i_astL, i_astD, i_alen, i_ret, i_iret, i_zret, i_lret, i_fret, i_dret, i_aret, i_invS0, i_invV0, i_m2, i_m1, i_ml, i_obj, lk, lkp, stf1, stf2, Value.category, rV, xTo, lv_args, xCk, xCat, xRc, xAk, hg_S, hg_I, hg_J, hg_D, hg_R, hs_I, hs_J, hs_D, hs_R, uI_at, uJ_at, uD_at, uR_at, List.take_succ_cons, List.take_zero, List.drop_succ_cons, List.drop_zero, List.reverse_cons, List.reverse_nil, List.nil_append, List.cons_append, List.map_cons, List.map_nil, List.sum_cons, List.sum_nil, List.length_cons, List.length_nil, Option.toList_some, Option.toList_none, true_and, and_true, false_and, and_false, true_implies, false_implies, implies_true, not_true_eq_false, not_false_eq_true, ne_eq, if_true, if_false, Bool.and_true, Bool.true_and, decide_true, decide_false, reduceIte, reduceCtorEq, Bool.and_self, Bool.and_eq_true, decide_eq_true_eq, and_self, true_or, or_true, false_or, or_false, Nat.zero_add, Nat.add_zero, eq_self, Nat.reduceEqDiff, Nat.reduceLeDiff, Nat.reduceLT, Nat.reduceAdd, Nat.reduceSub, Nat.reduceMul, -i_iinc]
    simp only [q1, hO, nn2, im, hS, i1, x1, h9, hc, true_and, and_true, false_and, and_false, true_implies, false_implies, implies_true, not_true_eq_false, not_false_eq_true, ne_eq, if_true, if_false, Bool.and_true, Bool.true_and, decide_true, decide_false, reduceIte, reduceCtorEq, Bool.and_self, Bool.and_eq_true, decide_eq_true_eq, and_self, true_or, or_true, false_or, or_false, Nat.zero_add, Nat.add_zero, eq_self, Nat.reduceEqDiff, Nat.reduceLeDiff, Nat.reduceLT, Nat.reduceAdd, Nat.reduceSub, Nat.reduceMul]
    exact l2 _ (AW_w h _ _)
  · have e := d2 (by omega) hm
    have q2 := nI_dn (show 1 ≤ p - 1 by omega)
    have i2 : xIn (nI (p - 1 - 1)) cap = True := nI_inP (show p - 1 - 1 < cap by omega) hcap
    have x2 : ix (nI (p - 1 - 1)) = p - 1 - 1 := nI_ix (show p - 1 - 1 < 2147483648 by omega)
    have l2 := fun I h => L31_104 (S := S) (I := I) (J := J) (D := D) (R := R) (b := b) (Q := Q) (p := p - 1 - 1) (ng := ng) (I0 := I0) hS hcap hn (by omega) (by omega) h kk
    obtain ⟨y, hy⟩ : ∃ y, y = nI p := ⟨_, rfl⟩
    obtain ⟨y1, hy1⟩ : ∃ y, y = nI (p - 1) := ⟨_, rfl⟩
    obtain ⟨y2, hy2⟩ : ∃ y, y = nI (p - 1 - 1) := ⟨_, rfl⟩
    rw [← hy] at q1 ⊢
    rw [← hy1] at q1 i1 x1 q2
    rw [← hy2] at q2 i2 x2 l2
    rw [e31_72]
    simp only [B31_72]
    generalize (900801 : Nat) = t1 at hO ⊢
    generalize (900800 : Nat) = t0 at hT ⊢
    simp only [xSeq, i_push, i_load, i_iload, i_lload, i_dload, i_aload, i_istore, i_astore, i_lstore, i_dstore, i_iinc, i_ii, i_iiz, i_ll, i_llz, i_lli, i_li, i_i, i_l, i_i2l, i_l2i, i_dup, i_dup2, i_dup2w, i_dupx1, i_pop, i_pop2, i_goto, i_ifc, i_icmp, i_getI, i_getL, i_getR, i_putI, i_putZ, i_putL, i_putR, i_aldI, i_aldB, i_aldL, i_aldD, i_astI, i_astL, i_astD, i_alen, i_ret, i_iret, i_zret, i_lret, i_fret, i_dret, i_aret, i_invS0, i_invV0, i_m2, i_m1, i_ml, i_obj, lk, lkp, stf1, stf2, Value.category, rV, xTo, lv_args, xCk, xCat, xRc, xAk, hg_S, hg_I, hg_J, hg_D, hg_R, hs_I, hs_J, hs_D, hs_R, uI_at, uJ_at, uD_at, uR_at, List.take_succ_cons, List.take_zero, List.drop_succ_cons, List.drop_zero, List.reverse_cons, List.reverse_nil, List.nil_append, List.cons_append, List.map_cons, List.map_nil, List.sum_cons, List.sum_nil, List.length_cons, List.length_nil, Option.toList_some, Option.toList_none, true_and, and_true, false_and, and_false, true_implies, false_implies, implies_true, not_true_eq_false, not_false_eq_true, ne_eq, if_true, if_false, Bool.and_true, Bool.true_and, decide_true, decide_false, reduceIte, reduceCtorEq, Bool.and_self, Bool.and_eq_true, decide_eq_true_eq, and_self, true_or, or_true, false_or, or_false, Nat.zero_add, Nat.add_zero, eq_self, Nat.reduceEqDiff, Nat.reduceLeDiff, Nat.reduceLT, Nat.reduceAdd, Nat.reduceSub, Nat.reduceMul, -i_iinc]
    simp only [q1, q2, hO, hT, nn2, im, hS, i1, x1, i2, x2, h9, hc, true_and, and_true, false_and, and_false, true_implies, false_implies, implies_true, not_true_eq_false, not_false_eq_true, ne_eq, if_true, if_false, Bool.and_true, Bool.true_and, decide_true, decide_false, reduceIte, reduceCtorEq, Bool.and_self, Bool.and_eq_true, decide_eq_true_eq, and_self, true_or, or_true, false_or, or_false, Nat.zero_add, Nat.add_zero, eq_self, Nat.reduceEqDiff, Nat.reduceLeDiff, Nat.reduceLT, Nat.reduceAdd, Nat.reduceSub, Nat.reduceMul]
    exact l2 _ (AW_w (AW_w h _ _) _ _)
theorem L31_22 {v cap : Nat} {ng : Int32} {nn : Nat} {I0 : xI} (hS : S v = (103, cap)) (hcap : cap < 2147483648) (hT : S 900800 = (107, 100)) (hO : S 900801 = (107, 100)) (hn : (ng = 0 ∧ nn = 0) ∨ (ng = 1 ∧ nn = 1))
    (kk : ∀ I' r, AW v cap I0 I' → Q (.ok (some (.int r))) (S, I', J, D, R) b) : ∀ (j m p : Nat) (I : xI), m ≤ 2147483648 → dg m ≤ 2 * j + 2 → dg m + nn ≤ p → p ≤ cap → AW v cap I0 I → xRun xT 31 22 [(0, .int (-(nI m))), (2, .ref v), (5, .int (nI p)), (6, .int ng)] [] (S, I, J, D, R) b Q := by
  intro j
  induction j with
  | zero =>
    intro m p I hm hd hp hpc h
    have hb := dg_bd m
    have hm2 : m < 100 := by
      refine Nat.lt_of_not_le (fun hle => ?_)
      have h1 := dg_100 hle hm
      have h2 := dg_bd (m / 100)
      omega
    have el : (-100 < -(nI m)) = (m < 100) := by rw [show (-100 : Int32) = -(nI 100) from rfl, neg_lt hm (by decide)]
    have l72 := L31_72 (S := S) (J := J) (D := D) (R := R) (b := b) (Q := Q) hS hcap hT hO hn hm2 hp hpc h kk
    obtain ⟨x, hx⟩ : ∃ x, x = -(nI m) := ⟨_, rfl⟩
    rw [← hx] at el l72 ⊢
    rw [e31_22]
    simp only [B31_22]
    generalize (900801 : Nat) = t1 at hO ⊢
    generalize (900800 : Nat) = t0 at hT ⊢
    simp only [xSeq, i_push, i_load, i_iload, i_lload, i_dload, i_aload, i_istore, i_astore, i_lstore, i_dstore, i_iinc, i_ii, i_iiz, i_ll, i_llz, i_lli, i_li, i_i, i_l, i_i2l, i_l2i, i_dup, i_dup2, i_dup2w, i_dupx1, i_pop, i_pop2, i_goto, i_ifc, i_icmp, i_getI, i_getL, i_getR, i_putI, i_putZ, i_putL, i_putR, i_aldI, i_aldB, i_aldL, i_aldD, i_astI, i_astL, i_astD, i_alen, i_ret, i_iret, i_zret, i_lret, i_fret, i_dret, i_aret, i_invS0, i_invV0, i_m2, i_m1, i_ml, i_obj, lk, lkp, stf1, stf2, Value.category, rV, xTo, lv_args, xCk, xCat, xRc, xAk, hg_S, hg_I, hg_J, hg_D, hg_R, hs_I, hs_J, hs_D, hs_R, uI_at, uJ_at, uD_at, uR_at, List.take_succ_cons, List.take_zero, List.drop_succ_cons, List.drop_zero, List.reverse_cons, List.reverse_nil, List.nil_append, List.cons_append, List.map_cons, List.map_nil, List.sum_cons, List.sum_nil, List.length_cons, List.length_nil, Option.toList_some, Option.toList_none, true_and, and_true, false_and, and_false, true_implies, false_implies, implies_true, not_true_eq_false, not_false_eq_true, ne_eq, if_true, if_false, Bool.and_true, Bool.true_and, decide_true, decide_false, reduceIte, reduceCtorEq, Bool.and_self, Bool.and_eq_true, decide_eq_true_eq, and_self, true_or, or_true, false_or, or_false, Nat.zero_add, Nat.add_zero, eq_self, Nat.reduceEqDiff, Nat.reduceLeDiff, Nat.reduceLT, Nat.reduceAdd, Nat.reduceSub, Nat.reduceMul, -i_iinc]
    simp only [el, hm2, true_and, and_true, false_and, and_false, true_implies, false_implies, implies_true, not_true_eq_false, not_false_eq_true, ne_eq, if_true, if_false, Bool.and_true, Bool.true_and, decide_true, decide_false, reduceIte, reduceCtorEq, Bool.and_self, Bool.and_eq_true, decide_eq_true_eq, and_self, true_or, or_true, false_or, or_false, Nat.zero_add, Nat.add_zero, eq_self, Nat.reduceEqDiff, Nat.reduceLeDiff, Nat.reduceLT, Nat.reduceAdd, Nat.reduceSub, Nat.reduceMul]
    exact l72
  | succ j ih =>
    intro m p I hm hd hp hpc h
    have hb := dg_bd m
    have el : (-100 < -(nI m)) = (m < 100) := by rw [show (-100 : Int32) = -(nI 100) from rfl, neg_lt hm (by decide)]
    by_cases hm2 : m < 100
    · have l72 := L31_72 (S := S) (J := J) (D := D) (R := R) (b := b) (Q := Q) hS hcap hT hO hn hm2 hp hpc h kk
      obtain ⟨x, hx⟩ : ∃ x, x = -(nI m) := ⟨_, rfl⟩
      rw [← hx] at el l72 ⊢
      rw [e31_22]
      simp only [B31_22]
      generalize (900801 : Nat) = t1 at hO ⊢
      generalize (900800 : Nat) = t0 at hT ⊢
      simp only [xSeq, i_push, i_load, i_iload, i_lload, i_dload, i_aload, i_istore, i_astore, i_lstore, i_dstore, i_iinc, i_ii, i_iiz, i_ll, i_llz, i_lli, i_li, i_i, i_l, i_i2l, i_l2i, i_dup, i_dup2, i_dup2w, i_dupx1, i_pop, i_pop2, i_goto, i_ifc, i_icmp, i_getI, i_getL, i_getR, i_putI, i_putZ, i_putL, i_putR, i_aldI, i_aldB, i_aldL, i_aldD, i_astI, i_astL, i_astD, i_alen, i_ret, i_iret, i_zret, i_lret, i_fret, i_dret, i_aret, i_invS0, i_invV0, i_m2, i_m1, i_ml, i_obj, lk, lkp, stf1, stf2, Value.category, rV, xTo, lv_args, xCk, xCat, xRc, xAk, hg_S, hg_I, hg_J, hg_D, hg_R, hs_I, hs_J, hs_D, hs_R, uI_at, uJ_at, uD_at, uR_at, List.take_succ_cons, List.take_zero, List.drop_succ_cons, List.drop_zero, List.reverse_cons, List.reverse_nil, List.nil_append, List.cons_append, List.map_cons, List.map_nil, List.sum_cons, List.sum_nil, List.length_cons, List.length_nil, Option.toList_some, Option.toList_none, true_and, and_true, false_and, and_false, true_implies, false_implies, implies_true, not_true_eq_false, not_false_eq_true, ne_eq, if_true, if_false, Bool.and_true, Bool.true_and, decide_true, decide_false, reduceIte, reduceCtorEq, Bool.and_self, Bool.and_eq_true, decide_eq_true_eq, and_self, true_or, or_true, false_or, or_false, Nat.zero_add, Nat.add_zero, eq_self, Nat.reduceEqDiff, Nat.reduceLeDiff, Nat.reduceLT, Nat.reduceAdd, Nat.reduceSub, Nat.reduceMul, -i_iinc]
      simp only [el, hm2, true_and, and_true, false_and, and_false, true_implies, false_implies, implies_true, not_true_eq_false, not_false_eq_true, ne_eq, if_true, if_false, Bool.and_true, Bool.true_and, decide_true, decide_false, reduceIte, reduceCtorEq, Bool.and_self, Bool.and_eq_true, decide_eq_true_eq, and_self, true_or, or_true, false_or, or_false, Nat.zero_add, Nat.add_zero, eq_self, Nat.reduceEqDiff, Nat.reduceLeDiff, Nat.reduceLT, Nat.reduceAdd, Nat.reduceSub, Nat.reduceMul]
      exact l72
    · have h1 := dg_100 (show 100 ≤ m by omega) hm
      have ed := neg_div hm
      have er := neg_rest (m := m)
      have nx := ih (m / 100) (p - 2)
      obtain ⟨x, hx⟩ : ∃ x, x = -(nI m) := ⟨_, rfl⟩
      obtain ⟨y, hy⟩ : ∃ y, y = -(nI (m / 100)) := ⟨_, rfl⟩
      rw [← hx] at el ed er ⊢
      rw [← hy] at ed er nx
      have hr : m % 100 < 100 := Nat.mod_lt _ (by decide)
      rw [e31_22]
      simp only [B31_22]
      generalize (900801 : Nat) = t1 at hO ⊢
      generalize (900800 : Nat) = t0 at hT ⊢
      simp only [xSeq, i_push, i_load, i_iload, i_lload, i_dload, i_aload, i_istore, i_astore, i_lstore, i_dstore, i_iinc, i_ii, i_iiz, i_ll, i_llz, i_lli, i_li, i_i, i_l, i_i2l, i_l2i, i_dup, i_dup2, i_dup2w, i_dupx1, i_pop, i_pop2, i_goto, i_ifc, i_icmp, i_getI, i_getL, i_getR, i_putI, i_putZ, i_putL, i_putR, i_aldI, i_aldB, i_aldL, i_aldD, i_astI, i_astL, i_astD, i_alen, i_ret, i_iret, i_zret, i_lret, i_fret, i_dret, i_aret, i_invS0, i_invV0, i_m2, i_m1, i_ml, i_obj, lk, lkp, stf1, stf2, Value.category, rV, xTo, lv_args, xCk, xCat, xRc, xAk, hg_S, hg_I, hg_J, hg_D, hg_R, hs_I, hs_J, hs_D, hs_R, uI_at, uJ_at, uD_at, uR_at, List.take_succ_cons, List.take_zero, List.drop_succ_cons, List.drop_zero, List.reverse_cons, List.reverse_nil, List.nil_append, List.cons_append, List.map_cons, List.map_nil, List.sum_cons, List.sum_nil, List.length_cons, List.length_nil, Option.toList_some, Option.toList_none, true_and, and_true, false_and, and_false, true_implies, false_implies, implies_true, not_true_eq_false, not_false_eq_true, ne_eq, if_true, if_false, Bool.and_true, Bool.true_and, decide_true, decide_false, reduceIte, reduceCtorEq, Bool.and_self, Bool.and_eq_true, decide_eq_true_eq, and_self, true_or, or_true, false_or, or_false, Nat.zero_add, Nat.add_zero, eq_self, Nat.reduceEqDiff, Nat.reduceLeDiff, Nat.reduceLT, Nat.reduceAdd, Nat.reduceSub, Nat.reduceMul, -i_iinc]
      simp only [true_and, and_true, false_and, and_false, true_implies, false_implies, implies_true, not_true_eq_false, not_false_eq_true, ne_eq, if_true, if_false, Bool.and_true, Bool.true_and, decide_true, decide_false, reduceIte, reduceCtorEq, Bool.and_self, Bool.and_eq_true, decide_eq_true_eq, and_self, true_or, or_true, false_or, or_false, Nat.zero_add, Nat.add_zero, eq_self, Nat.reduceEqDiff, Nat.reduceLeDiff, Nat.reduceLT, Nat.reduceAdd, Nat.reduceSub, Nat.reduceMul, el, hm2, show ((100 : Int32) = 0) = False from eq_false (by decide), ed, er, nI_dn (show 1 ≤ p by omega), nI_dn (show 1 ≤ p - 1 by omega), hO, hT, hS, nI_inP hr (by decide), nI_inP (show p - 1 < cap by omega) hcap, nI_ix (show p - 1 < 2147483648 by omega), nI_inP (show p - 1 - 1 < cap by omega) hcap, nI_ix (show p - 1 - 1 < 2147483648 by omega)]
      rw [show p - 1 - 1 = p - 2 by omega]
      exact nx _ (by omega) (by omega) (by omega) (by omega) (AW_w (AW_w h _ _) _ _)
theorem L31 {v cap p : Nat} {x : Int32} (hS : S v = (103, cap)) (hcap : cap < 2147483648) (hT : S 900800 = (107, 100)) (hO : S 900801 = (107, 100)) (hp : nch x ≤ p) (hpc : p ≤ cap) (h : ∀ k, k < cap → bF (I v k))
    (kk : ∀ I' r, AW v cap I I' → Q (.ok (some (.int r))) (S, I', J, D, R) b) : xRun xT 31 0 [(0, .int x), (1, .int (nI p)), (2, .ref v)] [] (S, I, J, D, R) b Q := by
  obtain ⟨m, hm, e, hx⟩ := num_cases x
  have hb := dg_bd m
  have hc : nch x = (if x < 0 then 1 else 0) + dg m := by unfold nch; rw [e]
  have h0 : AW v cap I I := ⟨h, fun _ _ _ => rfl⟩
  rcases hx with ⟨h1, h2, h3⟩ | ⟨h1, h2, h3⟩
  · rw [if_pos h1] at hc
    have l22 := L31_22 (S := S) (J := J) (D := D) (R := R) (b := b) (Q := Q) (ng := 1) (nn := 1) hS hcap hT hO (Or.inr ⟨rfl, rfl⟩) kk 4 m p I hm (by omega) (by omega) hpc h0
    have h4 : (0 ≤ x) = False := eq_false (Int32.not_le.mpr h1)
    rw [← h2] at l22
    rw [e31_0]
    simp only [B31_0, xSeq, i_push, i_load, i_iload, i_lload, i_dload, i_aload, i_istore, i_astore, i_lstore, i_dstore, i_iinc, i_ii, i_iiz, i_ll, i_llz, i_lli, i_li, i_i, i_l, i_i2l, i_l2i, i_dup, i_dup2, i_dup2w, i_dupx1, i_pop, i_pop2, i_goto, i_ifc, i_icmp, i_getI, i_getL, i_getR, i_putI, i_putZ, i_putL, i_putR, i_aldI, i_aldB, i_aldL, i_aldD, i_astI, i_astL, i_astD, i_alen, i_ret, i_iret, i_zret, i_lret, i_fret, i_dret, i_aret, i_invS0, i_invV0, i_m2, i_m1, i_ml, i_obj, lk, lkp, stf1, stf2, Value.category, rV, xTo, lv_args, xCk, xCat, xRc, xAk, hg_S, hg_I, hg_J, hg_D, hg_R, hs_I, hs_J, hs_D, hs_R, uI_at, uJ_at, uD_at, uR_at, List.take_succ_cons, List.take_zero, List.drop_succ_cons, List.drop_zero, List.reverse_cons, List.reverse_nil, List.nil_append, List.cons_append, List.map_cons, List.map_nil, List.sum_cons, List.sum_nil, List.length_cons, List.length_nil, Option.toList_some, Option.toList_none, true_and, and_true, false_and, and_false, true_implies, false_implies, implies_true, not_true_eq_false, not_false_eq_true, ne_eq, if_true, if_false, Bool.and_true, Bool.true_and, decide_true, decide_false, reduceIte, reduceCtorEq, Bool.and_self, Bool.and_eq_true, decide_eq_true_eq, and_self, true_or, or_true, false_or, or_false, Nat.zero_add, Nat.add_zero, eq_self, Nat.reduceEqDiff, Nat.reduceLeDiff, Nat.reduceLT, Nat.reduceAdd, Nat.reduceSub, Nat.reduceMul, h4, e31_12, B31_12, i1_0]
    exact l22
  · rw [if_neg h1] at hc
    have l22 := L31_22 (S := S) (J := J) (D := D) (R := R) (b := b) (Q := Q) (ng := 0) (nn := 0) hS hcap hT hO (Or.inl ⟨rfl, rfl⟩) kk 4 m p I hm (by omega) (by omega) hpc h0
    have h4 : (0 ≤ x) = True := eq_true (Int32.not_lt.mp h1)
    rw [← h2] at l22
    rw [e31_0]
    simp only [B31_0, xSeq, i_push, i_load, i_iload, i_lload, i_dload, i_aload, i_istore, i_astore, i_lstore, i_dstore, i_iinc, i_ii, i_iiz, i_ll, i_llz, i_lli, i_li, i_i, i_l, i_i2l, i_l2i, i_dup, i_dup2, i_dup2w, i_dupx1, i_pop, i_pop2, i_goto, i_ifc, i_icmp, i_getI, i_getL, i_getR, i_putI, i_putZ, i_putL, i_putR, i_aldI, i_aldB, i_aldL, i_aldD, i_astI, i_astL, i_astD, i_alen, i_ret, i_iret, i_zret, i_lret, i_fret, i_dret, i_aret, i_invS0, i_invV0, i_m2, i_m1, i_ml, i_obj, lk, lkp, stf1, stf2, Value.category, rV, xTo, lv_args, xCk, xCat, xRc, xAk, hg_S, hg_I, hg_J, hg_D, hg_R, hs_I, hs_J, hs_D, hs_R, uI_at, uJ_at, uD_at, uR_at, List.take_succ_cons, List.take_zero, List.drop_succ_cons, List.drop_zero, List.reverse_cons, List.reverse_nil, List.nil_append, List.cons_append, List.map_cons, List.map_nil, List.sum_cons, List.sum_nil, List.length_cons, List.length_nil, Option.toList_some, Option.toList_none, true_and, and_true, false_and, and_false, true_implies, false_implies, implies_true, not_true_eq_false, not_false_eq_true, ne_eq, if_true, if_false, Bool.and_true, Bool.true_and, decide_true, decide_false, reduceIte, reduceCtorEq, Bool.and_self, Bool.and_eq_true, decide_eq_true_eq, and_self, true_or, or_true, false_or, or_false, Nat.zero_add, Nat.add_zero, eq_self, Nat.reduceEqDiff, Nat.reduceLeDiff, Nat.reduceLT, Nat.reduceAdd, Nat.reduceSub, Nat.reduceMul, h4, e31_11, B31_11, e31_12, B31_12]
    exact l22
end
/-! ===== numbers in the output ===== -/
section
variable {S0 : xS} {I0 : xI} {J0 : xJ} {R0 : xR} {S : xS} {I : xI} {J : xJ} {D : xDb} {R : xR} {b : Nat × Nat} {Q : xQ}
theorem L29 (hL0 : LC S0 R0) (hT0 : S0 900800 = (107, 100)) (hO0 : S0 900801 = (107, 100)) {f v cap cnt : Nat} {x : Int32} (h : OS S0 I0 J0 R0 f v cap cnt S I J R) (hn : cnt < 900) (hf : f < 900000) (b1 : 1 ≤ b.1) (b2 : 5000 ≤ b.2)
    (kk : ∀ S' I' J' D' R' f' v' cap' b', OS S0 I0 J0 R0 f' v' cap' (cnt + nch x) S' I' J' R' → f' ≤ f + 1 → Q (.ok (some (.ref 140))) (S', I', J', D', R') b') :
    xRun xT 29 0 [(0, .ref 140), (1, .int x)] [] (S, I, J, D, R) b Q := by
  have hL : LC S R := LC_g hL0 h.2.2.2.1 h.2.2.2.2.1
  have hcap := h.1.2.2.2.2.2.1
  have hc16 := h.1.2.2.2.2.2.2.1
  have hx := nch_bd x
  rw [e29_0]
  simp only [B29_0, xSeq, i_push, i_load, i_iload, i_lload, i_dload, i_aload, i_istore, i_astore, i_lstore, i_dstore, i_iinc, i_ii, i_iiz, i_ll, i_llz, i_lli, i_li, i_i, i_l, i_i2l, i_l2i, i_dup, i_dup2, i_dup2w, i_dupx1, i_pop, i_pop2, i_goto, i_ifc, i_icmp, i_getI, i_getL, i_getR, i_putI, i_putZ, i_putL, i_putR, i_aldI, i_aldB, i_aldL, i_aldD, i_astI, i_astL, i_astD, i_alen, i_ret, i_iret, i_zret, i_lret, i_fret, i_dret, i_aret, i_invS0, i_invV0, i_m2, i_m1, i_ml, i_obj, lk, lkp, stf1, stf2, Value.category, rV, xTo, lv_args, xCk, xCat, xRc, xAk, hg_S, hg_I, hg_J, hg_D, hg_R, hs_I, hs_J, hs_D, hs_R, uI_at, uJ_at, uD_at, uR_at, List.take_succ_cons, List.take_zero, List.drop_succ_cons, List.drop_zero, List.reverse_cons, List.reverse_nil, List.nil_append, List.cons_append, List.map_cons, List.map_nil, List.sum_cons, List.sum_nil, List.length_cons, List.length_nil, Option.toList_some, Option.toList_none, true_and, and_true, false_and, and_false, true_implies, false_implies, implies_true, not_true_eq_false, not_false_eq_true, ne_eq, if_true, if_false, Bool.and_true, Bool.true_and, decide_true, decide_false, reduceIte, reduceCtorEq, Bool.and_self, Bool.and_eq_true, decide_eq_true_eq, and_self, true_or, or_true, false_or, or_false, Nat.zero_add, Nat.add_zero, eq_self, Nat.reduceEqDiff, Nat.reduceLeDiff, Nat.reduceLT, Nat.reduceAdd, Nat.reduceSub, Nat.reduceMul, LC_out hL, h.1.2.2.2.1, R30, nI_add]
  refine w_invVA (mc := 1) (ms := 5000) b1 b2 rfl (by simp only [xSeq, i_push, i_load, i_iload, i_lload, i_dload, i_aload, i_istore, i_astore, i_lstore, i_dstore, i_iinc, i_ii, i_iiz, i_ll, i_llz, i_lli, i_li, i_i, i_l, i_i2l, i_l2i, i_dup, i_dup2, i_dup2w, i_dupx1, i_pop, i_pop2, i_goto, i_ifc, i_icmp, i_getI, i_getL, i_getR, i_putI, i_putZ, i_putL, i_putR, i_aldI, i_aldB, i_aldL, i_aldD, i_astI, i_astL, i_astD, i_alen, i_ret, i_iret, i_zret, i_lret, i_fret, i_dret, i_aret, i_invS0, i_invV0, i_m2, i_m1, i_ml, i_obj, lk, lkp, stf1, stf2, Value.category, rV, xTo, lv_args, xCk, xCat, xRc, xAk, hg_S, hg_I, hg_J, hg_D, hg_R, hs_I, hs_J, hs_D, hs_R, uI_at, uJ_at, uD_at, uR_at, List.take_succ_cons, List.take_zero, List.drop_succ_cons, List.drop_zero, List.reverse_cons, List.reverse_nil, List.nil_append, List.cons_append, List.map_cons, List.map_nil, List.sum_cons, List.sum_nil, List.length_cons, List.length_nil, Option.toList_some, Option.toList_none, true_and, and_true, false_and, and_false, true_implies, false_implies, implies_true, not_true_eq_false, not_false_eq_true, ne_eq, if_true, if_false, Bool.and_true, Bool.true_and, decide_true, decide_false, reduceIte, reduceCtorEq, Bool.and_self, Bool.and_eq_true, decide_eq_true_eq, and_self, true_or, or_true, false_or, or_false, Nat.zero_add, Nat.add_zero, eq_self, Nat.reduceEqDiff, Nat.reduceLeDiff, Nat.reduceLT, Nat.reduceAdd, Nat.reduceSub, Nat.reduceMul, LC_out hL]) ?_
  simp only [xSeq, i_push, i_load, i_iload, i_lload, i_dload, i_aload, i_istore, i_astore, i_lstore, i_dstore, i_iinc, i_ii, i_iiz, i_ll, i_llz, i_lli, i_li, i_i, i_l, i_i2l, i_l2i, i_dup, i_dup2, i_dup2w, i_dupx1, i_pop, i_pop2, i_goto, i_ifc, i_icmp, i_getI, i_getL, i_getR, i_putI, i_putZ, i_putL, i_putR, i_aldI, i_aldB, i_aldL, i_aldD, i_astI, i_astL, i_astD, i_alen, i_ret, i_iret, i_zret, i_lret, i_fret, i_dret, i_aret, i_invS0, i_invV0, i_m2, i_m1, i_ml, i_obj, lk, lkp, stf1, stf2, Value.category, rV, xTo, lv_args, xCk, xCat, xRc, xAk, hg_S, hg_I, hg_J, hg_D, hg_R, hs_I, hs_J, hs_D, hs_R, uI_at, uJ_at, uD_at, uR_at, List.take_succ_cons, List.take_zero, List.drop_succ_cons, List.drop_zero, List.reverse_cons, List.reverse_nil, List.nil_append, List.cons_append, List.map_cons, List.map_nil, List.sum_cons, List.sum_nil, List.length_cons, List.length_nil, Option.toList_some, Option.toList_none, true_and, and_true, false_and, and_false, true_implies, false_implies, implies_true, not_true_eq_false, not_false_eq_true, ne_eq, if_true, if_false, Bool.and_true, Bool.true_and, decide_true, decide_false, reduceIte, reduceCtorEq, Bool.and_self, Bool.and_eq_true, decide_eq_true_eq, and_self, true_or, or_true, false_or, or_false, Nat.zero_add, Nat.add_zero, eq_self, Nat.reduceEqDiff, Nat.reduceLeDiff, Nat.reduceLT, Nat.reduceAdd, Nat.reduceSub, Nat.reduceMul]
  refine L18 hL h (by omega) (by omega) hf (by decide) (by decide) (fun S' I' J' D' R' f' v' cap' b' h' hf' hc' => ?_)
  have hL' : LC S' R' := LC_g hL0 h'.2.2.2.1 h'.2.2.2.2.1
  have h1' := h'
  obtain ⟨⟨o1, o2, o3, o4, o5, o6, o7, o8, o9⟩, o10, o11, f1, f2, f3, f4⟩ := h1'
  have t0 : S' 900800 = (107, 100) := (f1 _ (Or.inr (by decide))).trans hT0
  have t1 : S' 900801 = (107, 100) := (f1 _ (Or.inr (by decide))).trans hO0
  simp only [xSeq, i_push, i_load, i_iload, i_lload, i_dload, i_aload, i_istore, i_astore, i_lstore, i_dstore, i_iinc, i_ii, i_iiz, i_ll, i_llz, i_lli, i_li, i_i, i_l, i_i2l, i_l2i, i_dup, i_dup2, i_dup2w, i_dupx1, i_pop, i_pop2, i_goto, i_ifc, i_icmp, i_getI, i_getL, i_getR, i_putI, i_putZ, i_putL, i_putR, i_aldI, i_aldB, i_aldL, i_aldD, i_astI, i_astL, i_astD, i_alen, i_ret, i_iret, i_zret, i_lret, i_fret, i_dret, i_aret, i_invS0, i_invV0, i_m2, i_m1, i_ml, i_obj, lk, lkp, stf1, stf2, Value.category, rV, xTo, lv_args, xCk, xCat, xRc, xAk, hg_S, hg_I, hg_J, hg_D, hg_R, hs_I, hs_J, hs_D, hs_R, uI_at, uJ_at, uD_at, uR_at, List.take_succ_cons, List.take_zero, List.drop_succ_cons, List.drop_zero, List.reverse_cons, List.reverse_nil, List.nil_append, List.cons_append, List.map_cons, List.map_nil, List.sum_cons, List.sum_nil, List.length_cons, List.length_nil, Option.toList_some, Option.toList_none, true_and, and_true, false_and, and_false, true_implies, false_implies, implies_true, not_true_eq_false, not_false_eq_true, ne_eq, if_true, if_false, Bool.and_true, Bool.true_and, decide_true, decide_false, reduceIte, reduceCtorEq, Bool.and_self, Bool.and_eq_true, decide_eq_true_eq, and_self, true_or, or_true, false_or, or_false, Nat.zero_add, Nat.add_zero, eq_self, Nat.reduceEqDiff, Nat.reduceLeDiff, Nat.reduceLT, Nat.reduceAdd, Nat.reduceSub, Nat.reduceMul, R22 hL' o3, i1_0, LC_out hL', o1]
  refine L31 (v := v') (cap := cap') (p := cnt + nch x) (x := x) o2 (by omega) t0 t1 (by omega) hc' o9 (fun I'' r hw => ?_)
  obtain ⟨w1, w2⟩ := hw
  simp only [xSeq, i_push, i_load, i_iload, i_lload, i_dload, i_aload, i_istore, i_astore, i_lstore, i_dstore, i_iinc, i_ii, i_iiz, i_ll, i_llz, i_lli, i_li, i_i, i_l, i_i2l, i_l2i, i_dup, i_dup2, i_dup2w, i_dupx1, i_pop, i_pop2, i_goto, i_ifc, i_icmp, i_getI, i_getL, i_getR, i_putI, i_putZ, i_putL, i_putR, i_aldI, i_aldB, i_aldL, i_aldD, i_astI, i_astL, i_astD, i_alen, i_ret, i_iret, i_zret, i_lret, i_fret, i_dret, i_aret, i_invS0, i_invV0, i_m2, i_m1, i_ml, i_obj, lk, lkp, stf1, stf2, Value.category, rV, xTo, lv_args, xCk, xCat, xRc, xAk, hg_S, hg_I, hg_J, hg_D, hg_R, hs_I, hs_J, hs_D, hs_R, uI_at, uJ_at, uD_at, uR_at, List.take_succ_cons, List.take_zero, List.drop_succ_cons, List.drop_zero, List.reverse_cons, List.reverse_nil, List.nil_append, List.cons_append, List.map_cons, List.map_nil, List.sum_cons, List.sum_nil, List.length_cons, List.length_nil, Option.toList_some, Option.toList_none, true_and, and_true, false_and, and_false, true_implies, false_implies, implies_true, not_true_eq_false, not_false_eq_true, ne_eq, if_true, if_false, Bool.and_true, Bool.true_and, decide_true, decide_false, reduceIte, reduceCtorEq, Bool.and_self, Bool.and_eq_true, decide_eq_true_eq, and_self, true_or, or_true, false_or, or_false, Nat.zero_add, Nat.add_zero, eq_self, Nat.reduceEqDiff, Nat.reduceLeDiff, Nat.reduceLT, Nat.reduceAdd, Nat.reduceSub, Nat.reduceMul, e29_48, B29_48, LC_out hL']
  refine kk _ _ _ _ _ f' v' cap' _ ⟨⟨o1, o2, ?_, ?_, o5, hc', o7, o8, fun k hk => ?_⟩, o10, o11, f1, f2, fun o j g g2 g3 => ?_, f4⟩ hf'
  · rw [uI_at, if_neg (by omega), w2 _ _ (by omega)]
    exact o3
  · rw [uI_at, if_pos ⟨rfl, rfl⟩]
  · rw [uI_at, if_neg (by omega)]
    exact w1 k hk
  · rw [uI_at, if_neg (by omega), w2 _ _ (by omega)]
    exact f3 o j g g2 g3
theorem L28 (hL0 : LC S0 R0) (hT0 : S0 900800 = (107, 100)) (hO0 : S0 900801 = (107, 100)) {f v cap cnt : Nat} {x : Int32} (h : OS S0 I0 J0 R0 f v cap cnt S I J R) (hn : cnt < 900) (hf : f < 900000) (b1 : 1 ≤ b.1) (b2 : 5000 ≤ b.2)
    (kk : ∀ S' I' J' D' R' f' v' cap' b', OS S0 I0 J0 R0 f' v' cap' (cnt + nch x) S' I' J' R' → f' ≤ f + 1 → Q (.ok (some (.ref 140))) (S', I', J', D', R') b') :
    xRun xT 28 0 [(0, .ref 140), (1, .int x)] [] (S, I, J, D, R) b Q := by
  have hL : LC S R := LC_g hL0 h.2.2.2.1 h.2.2.2.2.1
  rw [e28_0]
  simp only [B28_0, xSeq, i_push, i_load, i_iload, i_lload, i_dload, i_aload, i_istore, i_astore, i_lstore, i_dstore, i_iinc, i_ii, i_iiz, i_ll, i_llz, i_lli, i_li, i_i, i_l, i_i2l, i_l2i, i_dup, i_dup2, i_dup2w, i_dupx1, i_pop, i_pop2, i_goto, i_ifc, i_icmp, i_getI, i_getL, i_getR, i_putI, i_putZ, i_putL, i_putR, i_aldI, i_aldB, i_aldL, i_aldD, i_astI, i_astL, i_astD, i_alen, i_ret, i_iret, i_zret, i_lret, i_fret, i_dret, i_aret, i_invS0, i_invV0, i_m2, i_m1, i_ml, i_obj, lk, lkp, stf1, stf2, Value.category, rV, xTo, lv_args, xCk, xCat, xRc, xAk, hg_S, hg_I, hg_J, hg_D, hg_R, hs_I, hs_J, hs_D, hs_R, uI_at, uJ_at, uD_at, uR_at, List.take_succ_cons, List.take_zero, List.drop_succ_cons, List.drop_zero, List.reverse_cons, List.reverse_nil, List.nil_append, List.cons_append, List.map_cons, List.map_nil, List.sum_cons, List.sum_nil, List.length_cons, List.length_nil, Option.toList_some, Option.toList_none, true_and, and_true, false_and, and_false, true_implies, false_implies, implies_true, not_true_eq_false, not_false_eq_true, ne_eq, if_true, if_false, Bool.and_true, Bool.true_and, decide_true, decide_false, reduceIte, reduceCtorEq, Bool.and_self, Bool.and_eq_true, decide_eq_true_eq, and_self, true_or, or_true, false_or, or_false, Nat.zero_add, Nat.add_zero, eq_self, Nat.reduceEqDiff, Nat.reduceLeDiff, Nat.reduceLT, Nat.reduceAdd, Nat.reduceSub, Nat.reduceMul]
  refine w_invVA (mc := 1) (ms := 5000) b1 b2 rfl (by simp only [xSeq, i_push, i_load, i_iload, i_lload, i_dload, i_aload, i_istore, i_astore, i_lstore, i_dstore, i_iinc, i_ii, i_iiz, i_ll, i_llz, i_lli, i_li, i_i, i_l, i_i2l, i_l2i, i_dup, i_dup2, i_dup2w, i_dupx1, i_pop, i_pop2, i_goto, i_ifc, i_icmp, i_getI, i_getL, i_getR, i_putI, i_putZ, i_putL, i_putR, i_aldI, i_aldB, i_aldL, i_aldD, i_astI, i_astL, i_astD, i_alen, i_ret, i_iret, i_zret, i_lret, i_fret, i_dret, i_aret, i_invS0, i_invV0, i_m2, i_m1, i_ml, i_obj, lk, lkp, stf1, stf2, Value.category, rV, xTo, lv_args, xCk, xCat, xRc, xAk, hg_S, hg_I, hg_J, hg_D, hg_R, hs_I, hs_J, hs_D, hs_R, uI_at, uJ_at, uD_at, uR_at, List.take_succ_cons, List.take_zero, List.drop_succ_cons, List.drop_zero, List.reverse_cons, List.reverse_nil, List.nil_append, List.cons_append, List.map_cons, List.map_nil, List.sum_cons, List.sum_nil, List.length_cons, List.length_nil, Option.toList_some, Option.toList_none, true_and, and_true, false_and, and_false, true_implies, false_implies, implies_true, not_true_eq_false, not_false_eq_true, ne_eq, if_true, if_false, Bool.and_true, Bool.true_and, decide_true, decide_false, reduceIte, reduceCtorEq, Bool.and_self, Bool.and_eq_true, decide_eq_true_eq, and_self, true_or, or_true, false_or, or_false, Nat.zero_add, Nat.add_zero, eq_self, Nat.reduceEqDiff, Nat.reduceLeDiff, Nat.reduceLT, Nat.reduceAdd, Nat.reduceSub, Nat.reduceMul, LC_out hL]) ?_
  simp only [xSeq, i_push, i_load, i_iload, i_lload, i_dload, i_aload, i_istore, i_astore, i_lstore, i_dstore, i_iinc, i_ii, i_iiz, i_ll, i_llz, i_lli, i_li, i_i, i_l, i_i2l, i_l2i, i_dup, i_dup2, i_dup2w, i_dupx1, i_pop, i_pop2, i_goto, i_ifc, i_icmp, i_getI, i_getL, i_getR, i_putI, i_putZ, i_putL, i_putR, i_aldI, i_aldB, i_aldL, i_aldD, i_astI, i_astL, i_astD, i_alen, i_ret, i_iret, i_zret, i_lret, i_fret, i_dret, i_aret, i_invS0, i_invV0, i_m2, i_m1, i_ml, i_obj, lk, lkp, stf1, stf2, Value.category, rV, xTo, lv_args, xCk, xCat, xRc, xAk, hg_S, hg_I, hg_J, hg_D, hg_R, hs_I, hs_J, hs_D, hs_R, uI_at, uJ_at, uD_at, uR_at, List.take_succ_cons, List.take_zero, List.drop_succ_cons, List.drop_zero, List.reverse_cons, List.reverse_nil, List.nil_append, List.cons_append, List.map_cons, List.map_nil, List.sum_cons, List.sum_nil, List.length_cons, List.length_nil, Option.toList_some, Option.toList_none, true_and, and_true, false_and, and_false, true_implies, false_implies, implies_true, not_true_eq_false, not_false_eq_true, ne_eq, if_true, if_false, Bool.and_true, Bool.true_and, decide_true, decide_false, reduceIte, reduceCtorEq, Bool.and_self, Bool.and_eq_true, decide_eq_true_eq, and_self, true_or, or_true, false_or, or_false, Nat.zero_add, Nat.add_zero, eq_self, Nat.reduceEqDiff, Nat.reduceLeDiff, Nat.reduceLT, Nat.reduceAdd, Nat.reduceSub, Nat.reduceMul]
  refine L29 hL0 hT0 hO0 h hn hf (by decide) (by decide) (fun S' I' J' D' R' f' v' cap' b' h' hf' => ?_)
  simp only [xSeq, i_push, i_load, i_iload, i_lload, i_dload, i_aload, i_istore, i_astore, i_lstore, i_dstore, i_iinc, i_ii, i_iiz, i_ll, i_llz, i_lli, i_li, i_i, i_l, i_i2l, i_l2i, i_dup, i_dup2, i_dup2w, i_dupx1, i_pop, i_pop2, i_goto, i_ifc, i_icmp, i_getI, i_getL, i_getR, i_putI, i_putZ, i_putL, i_putR, i_aldI, i_aldB, i_aldL, i_aldD, i_astI, i_astL, i_astD, i_alen, i_ret, i_iret, i_zret, i_lret, i_fret, i_dret, i_aret, i_invS0, i_invV0, i_m2, i_m1, i_ml, i_obj, lk, lkp, stf1, stf2, Value.category, rV, xTo, lv_args, xCk, xCat, xRc, xAk, hg_S, hg_I, hg_J, hg_D, hg_R, hs_I, hs_J, hs_D, hs_R, uI_at, uJ_at, uD_at, uR_at, List.take_succ_cons, List.take_zero, List.drop_succ_cons, List.drop_zero, List.reverse_cons, List.reverse_nil, List.nil_append, List.cons_append, List.map_cons, List.map_nil, List.sum_cons, List.sum_nil, List.length_cons, List.length_nil, Option.toList_some, Option.toList_none, true_and, and_true, false_and, and_false, true_implies, false_implies, implies_true, not_true_eq_false, not_false_eq_true, ne_eq, if_true, if_false, Bool.and_true, Bool.true_and, decide_true, decide_false, reduceIte, reduceCtorEq, Bool.and_self, Bool.and_eq_true, decide_eq_true_eq, and_self, true_or, or_true, false_or, or_false, Nat.zero_add, Nat.add_zero, eq_self, Nat.reduceEqDiff, Nat.reduceLeDiff, Nat.reduceLT, Nat.reduceAdd, Nat.reduceSub, Nat.reduceMul]
  exact kk S' I' J' D' R' f' v' cap' _ h' hf'
/-- the model writes a number -/
theorem lN_div {a c : Nat} (ha : a < 2 ^ 63) (h0 : 0 < c) (hc : c < 2 ^ 63) : lN a / lN c = lN (a / c) := by
  apply Int64.toInt_inj.mp
  have hd := Nat.div_le_self a c
  rw [Int64.toInt_div, pk_lT ha, pk_lT hc, pk_lT (by omega), Int.tdiv_eq_ediv_of_nonneg (by omega)]
  rw [← Int.natCast_ediv]
  obtain ⟨q, hq⟩ : ∃ q, q = a / c := ⟨_, rfl⟩
  rw [← hq] at hd ⊢
  exact Int.bmod_eq_of_le (by omega) (by omega)
theorem lg_le {a c : Nat} (ha : a < 2 ^ 63) (hc : c < 2 ^ 63) : (lg_cmp (lN a) (lN c) ≤ 0) = (a ≤ c) := by
  have h1 : (lN a > lN c) = (c < a) := by
    show (lN c < lN a) = (c < a)
    rw [Int64.lt_iff_toInt_lt, pk_lT ha, pk_lT hc]
    exact propext ⟨fun h => by omega, fun h => by omega⟩
  unfold lg_cmp
  by_cases h : c < a
  · rw [if_pos (by rw [h1]; exact h)]
    exact propext ⟨fun h2 => absurd h2 (by decide), fun h2 => by omega⟩
  · rw [if_neg (by rw [h1]; exact h)]
    split
    · exact propext ⟨fun _ => by omega, fun _ => by decide⟩
    · exact propext ⟨fun _ => by omega, fun _ => by decide⟩
theorem lN_n0 {c : Nat} (h0 : 0 < c) (hc : c < 2 ^ 63) : (lN c = 0) = False := eq_false (fun e => by
  have h := pk_lT hc
  rw [e] at h
  have h2 : (0 : Int) = (c : Int) := h
  omega)
theorem L329_41 {m : Nat} (hL : LM S R) (hm : m ≤ 2147483648) {I0 : xI} {N : Nat} (hN : N ≤ 800)
    (kk : ∀ I, OM I0 N I → Q (.ok none) (S, I, J, D, R) b) : ∀ (j k : Nat) (I : xI), j ≤ 10 → k + j = N → OM I0 k I → xRun xT 329 41 [(0, .ref 200), (2, .long (lN m)), (4, .long (lN (10 ^ j / 10)))] [] (S, I, J, D, R) b Q
  | 0, k, I, hj, hk, h => by
    have e : k = N := by omega
    subst e
    rw [e329_41]
    simp only [B329_41, xSeq, i_push, i_load, i_iload, i_lload, i_dload, i_aload, i_istore, i_astore, i_lstore, i_dstore, i_iinc, i_ii, i_iiz, i_ll, i_llz, i_lli, i_li, i_i, i_l, i_i2l, i_l2i, i_dup, i_dup2, i_dup2w, i_dupx1, i_pop, i_pop2, i_goto, i_ifc, i_icmp, i_getI, i_getL, i_getR, i_putI, i_putZ, i_putL, i_putR, i_aldI, i_aldB, i_aldL, i_aldD, i_astI, i_astL, i_astD, i_alen, i_ret, i_iret, i_zret, i_lret, i_fret, i_dret, i_aret, i_invS0, i_invV0, i_m2, i_m1, i_ml, i_obj, lk, lkp, stf1, stf2, Value.category, rV, xTo, lv_args, xCk, xCat, xRc, xAk, hg_S, hg_I, hg_J, hg_D, hg_R, hs_I, hs_J, hs_D, hs_R, uI_at, uJ_at, uD_at, uR_at, List.take_succ_cons, List.take_zero, List.drop_succ_cons, List.drop_zero, List.reverse_cons, List.reverse_nil, List.nil_append, List.cons_append, List.map_cons, List.map_nil, List.sum_cons, List.sum_nil, List.length_cons, List.length_nil, Option.toList_some, Option.toList_none, true_and, and_true, false_and, and_false, true_implies, false_implies, implies_true, not_true_eq_false, not_false_eq_true, ne_eq, if_true, if_false, Bool.and_true, Bool.true_and, decide_true, decide_false, reduceIte, reduceCtorEq, Bool.and_self, Bool.and_eq_true, decide_eq_true_eq, and_self, true_or, or_true, false_or, or_false, Nat.zero_add, Nat.add_zero, eq_self, Nat.reduceEqDiff, Nat.reduceLeDiff, Nat.reduceLT, Nat.reduceAdd, Nat.reduceSub, Nat.reduceMul, show (lg_cmp (lN (10 ^ 0 / 10)) 0 ≤ 0) = True from eq_true (by decide), e329_76, B329_76]
    exact kk I h
  | j + 1, k, I, hj, hk, h => by
    have hp : 10 ^ j ≤ 10 ^ 9 := Nat.pow_le_pow_right (by decide) (by omega)
    have hp0 : 0 < 10 ^ j := Nat.pow_pos (by decide)
    have hp2 : (10 : Nat) ^ 9 = 1000000000 := rfl
    have eu : 10 ^ (j + 1) / 10 = 10 ^ j := by rw [Nat.pow_succ, Nat.mul_div_cancel _ (by decide)]
    obtain ⟨u, hu⟩ : ∃ u, u = 10 ^ j := ⟨_, rfl⟩
    rw [eu]
    have e1 : (lg_cmp (lN u) 0 ≤ 0) = False := by
      rw [show (0 : Int64) = lN 0 from rfl, lg_le (by omega) (by decide)]
      exact eq_false (by omega)
    have e2 : lN u / 10 = lN (u / 10) := by rw [show (10 : Int64) = lN 10 from rfl, lN_div (by omega) (by decide) (by decide)]
    have e3 := lN_n0 (c := u) (by omega) (by omega)
    have nx := fun I => L329_41 hL hm hN kk j (k + 1) I (by omega) (by omega)
    rw [← hu] at nx ⊢
    rw [e329_41]
    simp only [B329_41, xSeq, i_push, i_load, i_iload, i_lload, i_dload, i_aload, i_istore, i_astore, i_lstore, i_dstore, i_iinc, i_ii, i_iiz, i_ll, i_llz, i_lli, i_li, i_i, i_l, i_i2l, i_l2i, i_dup, i_dup2, i_dup2w, i_dupx1, i_pop, i_pop2, i_goto, i_ifc, i_icmp, i_getI, i_getL, i_getR, i_putI, i_putZ, i_putL, i_putR, i_aldI, i_aldB, i_aldL, i_aldD, i_astI, i_astL, i_astD, i_alen, i_ret, i_iret, i_zret, i_lret, i_fret, i_dret, i_aret, i_invS0, i_invV0, i_m2, i_m1, i_ml, i_obj, lk, lkp, stf1, stf2, Value.category, rV, xTo, lv_args, xCk, xCat, xRc, xAk, hg_S, hg_I, hg_J, hg_D, hg_R, hs_I, hs_J, hs_D, hs_R, uI_at, uJ_at, uD_at, uR_at, List.take_succ_cons, List.take_zero, List.drop_succ_cons, List.drop_zero, List.reverse_cons, List.reverse_nil, List.nil_append, List.cons_append, List.map_cons, List.map_nil, List.sum_cons, List.sum_nil, List.length_cons, List.length_nil, Option.toList_some, Option.toList_none, true_and, and_true, false_and, and_false, true_implies, false_implies, implies_true, not_true_eq_false, not_false_eq_true, ne_eq, if_true, if_false, Bool.and_true, Bool.true_and, decide_true, decide_false, reduceIte, reduceCtorEq, Bool.and_self, Bool.and_eq_true, decide_eq_true_eq, and_self, true_or, or_true, false_or, or_false, Nat.zero_add, Nat.add_zero, eq_self, Nat.reduceEqDiff, Nat.reduceLeDiff, Nat.reduceLT, Nat.reduceAdd, Nat.reduceSub, Nat.reduceMul, e1, e3, LM_out hL, show ((10 : Int64) = 0) = False from eq_false (by decide)]
    rw [R327 hL h.1 (by omega)]
    simp only [xSeq, i_push, i_load, i_iload, i_lload, i_dload, i_aload, i_istore, i_astore, i_lstore, i_dstore, i_iinc, i_ii, i_iiz, i_ll, i_llz, i_lli, i_li, i_i, i_l, i_i2l, i_l2i, i_dup, i_dup2, i_dup2w, i_dupx1, i_pop, i_pop2, i_goto, i_ifc, i_icmp, i_getI, i_getL, i_getR, i_putI, i_putZ, i_putL, i_putR, i_aldI, i_aldB, i_aldL, i_aldD, i_astI, i_astL, i_astD, i_alen, i_ret, i_iret, i_zret, i_lret, i_fret, i_dret, i_aret, i_invS0, i_invV0, i_m2, i_m1, i_ml, i_obj, lk, lkp, stf1, stf2, Value.category, rV, xTo, lv_args, xCk, xCat, xRc, xAk, hg_S, hg_I, hg_J, hg_D, hg_R, hs_I, hs_J, hs_D, hs_R, uI_at, uJ_at, uD_at, uR_at, List.take_succ_cons, List.take_zero, List.drop_succ_cons, List.drop_zero, List.reverse_cons, List.reverse_nil, List.nil_append, List.cons_append, List.map_cons, List.map_nil, List.sum_cons, List.sum_nil, List.length_cons, List.length_nil, Option.toList_some, Option.toList_none, true_and, and_true, false_and, and_false, true_implies, false_implies, implies_true, not_true_eq_false, not_false_eq_true, ne_eq, if_true, if_false, Bool.and_true, Bool.true_and, decide_true, decide_false, reduceIte, reduceCtorEq, Bool.and_self, Bool.and_eq_true, decide_eq_true_eq, and_self, true_or, or_true, false_or, or_false, Nat.zero_add, Nat.add_zero, eq_self, Nat.reduceEqDiff, Nat.reduceLeDiff, Nat.reduceLT, Nat.reduceAdd, Nat.reduceSub, Nat.reduceMul, e2]
    exact ⟨by decide, nx _ (OM_w h)⟩
theorem L329_19 {m : Nat} (hL : LM S R) (hm : m ≤ 2147483648) {I0 : xI} {N : Nat} (hN : N ≤ 800)
    (kk : ∀ I, OM I0 N I → Q (.ok none) (S, I, J, D, R) b) {k : Nat} {I : xI} (hk : k + dg m = N) (h : OM I0 k I) : ∀ (j i : Nat), i + 1 + j = dg m → xRun xT 329 19 [(0, .ref 200), (2, .long (lN m)), (4, .long (lN (10 ^ i)))] [] (S, I, J, D, R) b Q
  | 0, i, hi => by
    have hb := dg_bd m
    have hp : 10 ^ i ≤ 10 ^ 9 := Nat.pow_le_pow_right (by decide) (by omega)
    have hp0 : 0 < 10 ^ i := Nat.pow_pos (by decide)
    have hp2 : (10 : Nat) ^ 9 = 1000000000 := rfl
    have eu : 10 ^ (i + 1) / 10 = 10 ^ i := by rw [Nat.pow_succ, Nat.mul_div_cancel _ (by decide)]
    have hmi : m < 10 ^ (i + 1) := by
      by_cases h9 : i + 1 ≤ 9
      · have h1 := dg_pow hm h9
        refine Nat.lt_of_not_le (fun hle => ?_)
        have := h1.mp (Or.inl hle)
        omega
      · have : i = 9 := by omega
        subst this
        have h3 : (10 : Nat) ^ (9 + 1) = 10000000000 := rfl
        omega
    have hdv : m / 10 ^ i ≤ 9 := by
      have h2 : m / 10 ^ i < 10 := by
        rw [Nat.div_lt_iff_lt_mul hp0, Nat.mul_comm, ← Nat.pow_succ]
        exact hmi
      omega
    have l41 := L329_41 (S := S) (J := J) (D := D) (R := R) (b := b) (Q := Q) hL hm hN kk (i + 1) k I (by omega) (by omega) h
    rw [eu] at l41
    have hdl := Nat.div_le_self m (10 ^ i)
    obtain ⟨u, hu⟩ : ∃ u, u = 10 ^ i := ⟨_, rfl⟩
    rw [← hu] at l41 hdv hdl ⊢
    have e1 : lN m / lN u = lN (m / u) := lN_div (by omega) (by omega) (by omega)
    have e2 : (lg_cmp (lN (m / u)) 9 ≤ 0) = True := by
      rw [show (9 : Int64) = lN 9 from rfl, lg_le (by omega) (by decide)]
      exact eq_true hdv
    have e3 := lN_n0 (c := u) (by omega) (by omega)
    rw [e329_19]
    simp only [B329_19, xSeq, i_push, i_load, i_iload, i_lload, i_dload, i_aload, i_istore, i_astore, i_lstore, i_dstore, i_iinc, i_ii, i_iiz, i_ll, i_llz, i_lli, i_li, i_i, i_l, i_i2l, i_l2i, i_dup, i_dup2, i_dup2w, i_dupx1, i_pop, i_pop2, i_goto, i_ifc, i_icmp, i_getI, i_getL, i_getR, i_putI, i_putZ, i_putL, i_putR, i_aldI, i_aldB, i_aldL, i_aldD, i_astI, i_astL, i_astD, i_alen, i_ret, i_iret, i_zret, i_lret, i_fret, i_dret, i_aret, i_invS0, i_invV0, i_m2, i_m1, i_ml, i_obj, lk, lkp, stf1, stf2, Value.category, rV, xTo, lv_args, xCk, xCat, xRc, xAk, hg_S, hg_I, hg_J, hg_D, hg_R, hs_I, hs_J, hs_D, hs_R, uI_at, uJ_at, uD_at, uR_at, List.take_succ_cons, List.take_zero, List.drop_succ_cons, List.drop_zero, List.reverse_cons, List.reverse_nil, List.nil_append, List.cons_append, List.map_cons, List.map_nil, List.sum_cons, List.sum_nil, List.length_cons, List.length_nil, Option.toList_some, Option.toList_none, true_and, and_true, false_and, and_false, true_implies, false_implies, implies_true, not_true_eq_false, not_false_eq_true, ne_eq, if_true, if_false, Bool.and_true, Bool.true_and, decide_true, decide_false, reduceIte, reduceCtorEq, Bool.and_self, Bool.and_eq_true, decide_eq_true_eq, and_self, true_or, or_true, false_or, or_false, Nat.zero_add, Nat.add_zero, eq_self, Nat.reduceEqDiff, Nat.reduceLeDiff, Nat.reduceLT, Nat.reduceAdd, Nat.reduceSub, Nat.reduceMul, e3, e1, e2]
    exact l41
  | j + 1, i, hi => by
    have hb := dg_bd m
    have hp : 10 ^ i ≤ 10 ^ 8 := Nat.pow_le_pow_right (by decide) (by omega)
    have hp0 : 0 < 10 ^ i := Nat.pow_pos (by decide)
    have hp2 : (10 : Nat) ^ 8 = 100000000 := rfl
    have hmi : 10 ^ (i + 1) ≤ m := by
      rcases (dg_pow hm (i := i + 1) (by omega)).mpr (by omega) with h1 | h1
      · exact h1
      · omega
    have hdv : ¬ m / 10 ^ i ≤ 9 := by
      have h2 : 10 ≤ m / 10 ^ i := by
        rw [Nat.le_div_iff_mul_le hp0, Nat.mul_comm, ← Nat.pow_succ]
        exact hmi
      omega
    have nx := L329_19 hL hm hN kk hk h j (i + 1) (by omega)
    rw [Nat.pow_succ] at nx
    have hdl := Nat.div_le_self m (10 ^ i)
    obtain ⟨u, hu⟩ : ∃ u, u = 10 ^ i := ⟨_, rfl⟩
    rw [← hu] at nx hdv hdl ⊢
    have e1 : lN m / lN u = lN (m / u) := lN_div (by omega) (by omega) (by omega)
    have e2 : (lg_cmp (lN (m / u)) 9 ≤ 0) = False := by
      rw [show (9 : Int64) = lN 9 from rfl, lg_le (by omega) (by decide)]
      exact eq_false hdv
    have e3 := lN_n0 (c := u) (by omega) (by omega)
    have e4 : lN u * 10 = lN (u * 10) := by rw [show (10 : Int64) = lN 10 from rfl, lN_mul]
    rw [e329_19]
    simp only [B329_19, xSeq, i_push, i_load, i_iload, i_lload, i_dload, i_aload, i_istore, i_astore, i_lstore, i_dstore, i_iinc, i_ii, i_iiz, i_ll, i_llz, i_lli, i_li, i_i, i_l, i_i2l, i_l2i, i_dup, i_dup2, i_dup2w, i_dupx1, i_pop, i_pop2, i_goto, i_ifc, i_icmp, i_getI, i_getL, i_getR, i_putI, i_putZ, i_putL, i_putR, i_aldI, i_aldB, i_aldL, i_aldD, i_astI, i_astL, i_astD, i_alen, i_ret, i_iret, i_zret, i_lret, i_fret, i_dret, i_aret, i_invS0, i_invV0, i_m2, i_m1, i_ml, i_obj, lk, lkp, stf1, stf2, Value.category, rV, xTo, lv_args, xCk, xCat, xRc, xAk, hg_S, hg_I, hg_J, hg_D, hg_R, hs_I, hs_J, hs_D, hs_R, uI_at, uJ_at, uD_at, uR_at, List.take_succ_cons, List.take_zero, List.drop_succ_cons, List.drop_zero, List.reverse_cons, List.reverse_nil, List.nil_append, List.cons_append, List.map_cons, List.map_nil, List.sum_cons, List.sum_nil, List.length_cons, List.length_nil, Option.toList_some, Option.toList_none, true_and, and_true, false_and, and_false, true_implies, false_implies, implies_true, not_true_eq_false, not_false_eq_true, ne_eq, if_true, if_false, Bool.and_true, Bool.true_and, decide_true, decide_false, reduceIte, reduceCtorEq, Bool.and_self, Bool.and_eq_true, decide_eq_true_eq, and_self, true_or, or_true, false_or, or_false, Nat.zero_add, Nat.add_zero, eq_self, Nat.reduceEqDiff, Nat.reduceLeDiff, Nat.reduceLT, Nat.reduceAdd, Nat.reduceSub, Nat.reduceMul, e3, e1, e2, e4]
    exact nx
theorem abs_n {m : Nat} (hm : m ≤ 2147483648) : (0 < m → jAbsL (-(nI m)).toInt64 = lN m) ∧ (m < 2147483648 → jAbsL (nI m).toInt64 = lN m) := by
  have hz : ((0 : Int64)).toInt = 0 := rfl
  refine ⟨fun h0 => ?_, fun h => ?_⟩
  · have e : (-(nI m)).toInt64 = -(lN m) := by
      apply Int64.toInt_inj.mp
      rw [Int32.toInt_toInt64, neg_I hm, Int64.toInt_neg, pk_lT (by omega)]
      exact (Int.bmod_eq_of_le (by omega) (by omega)).symm
    unfold jAbsL
    rw [e, if_neg (by
      rw [Int64.lt_iff_toInt_lt, hz, Int64.toInt_neg, pk_lT (by omega), Int.bmod_eq_of_le (by omega) (by omega)]
      omega)]
    exact Int64.neg_neg
  · unfold jAbsL
    rw [nI_l (by omega)]
    split
    · rfl
    · next h2 =>
      have h3 : m = 0 := by
        rw [Int64.lt_iff_toInt_lt, hz, pk_lT (by omega)] at h2
        omega
      subst h3
      rfl
theorem L329 {x : Int32} (hL : LM S R) {I0 : xI} {k : Nat} (h : OM I0 k I) (hk : k + nch x ≤ 800)
    (kk : ∀ I, OM I0 (k + nch x) I → Q (.ok none) (S, I, J, D, R) b) : xRun xT 329 0 [(0, .ref 200), (1, .int x)] [] (S, I, J, D, R) b Q := by
  obtain ⟨m, hm, e, hx⟩ := num_cases x
  have hb := dg_bd m
  have hc : nch x = (if x < 0 then 1 else 0) + dg m := by unfold nch; rw [e]
  obtain ⟨a1, a2⟩ := abs_n hm
  rcases hx with ⟨h1, h2, h3⟩ | ⟨h1, h2, h3⟩
  · rw [if_pos h1] at hc
    have h4 : (0 ≤ x) = False := eq_false (Int32.not_le.mpr h1)
    have ea := a1 h3
    rw [← h2] at ea
    have l19 := fun I h => L329_19 (S := S) (J := J) (D := D) (R := R) (b := b) (Q := Q) (m := m) (I0 := I0) (N := k + nch x) (k := k + 1) (I := I) hL hm hk kk (by omega) h (dg m - 1) 0 (by omega)
    rw [Nat.pow_zero] at l19
    rw [e329_0]
    simp only [B329_0, xSeq, i_push, i_load, i_iload, i_lload, i_dload, i_aload, i_istore, i_astore, i_lstore, i_dstore, i_iinc, i_ii, i_iiz, i_ll, i_llz, i_lli, i_li, i_i, i_l, i_i2l, i_l2i, i_dup, i_dup2, i_dup2w, i_dupx1, i_pop, i_pop2, i_goto, i_ifc, i_icmp, i_getI, i_getL, i_getR, i_putI, i_putZ, i_putL, i_putR, i_aldI, i_aldB, i_aldL, i_aldD, i_astI, i_astL, i_astD, i_alen, i_ret, i_iret, i_zret, i_lret, i_fret, i_dret, i_aret, i_invS0, i_invV0, i_m2, i_m1, i_ml, i_obj, lk, lkp, stf1, stf2, Value.category, rV, xTo, lv_args, xCk, xCat, xRc, xAk, hg_S, hg_I, hg_J, hg_D, hg_R, hs_I, hs_J, hs_D, hs_R, uI_at, uJ_at, uD_at, uR_at, List.take_succ_cons, List.take_zero, List.drop_succ_cons, List.drop_zero, List.reverse_cons, List.reverse_nil, List.nil_append, List.cons_append, List.map_cons, List.map_nil, List.sum_cons, List.sum_nil, List.length_cons, List.length_nil, Option.toList_some, Option.toList_none, true_and, and_true, false_and, and_false, true_implies, false_implies, implies_true, not_true_eq_false, not_false_eq_true, ne_eq, if_true, if_false, Bool.and_true, Bool.true_and, decide_true, decide_false, reduceIte, reduceCtorEq, Bool.and_self, Bool.and_eq_true, decide_eq_true_eq, and_self, true_or, or_true, false_or, or_false, Nat.zero_add, Nat.add_zero, eq_self, Nat.reduceEqDiff, Nat.reduceLeDiff, Nat.reduceLT, Nat.reduceAdd, Nat.reduceSub, Nat.reduceMul, h4, LM_out hL]
    rw [R327 hL h.1 (by omega)]
    simp only [xSeq, i_push, i_load, i_iload, i_lload, i_dload, i_aload, i_istore, i_astore, i_lstore, i_dstore, i_iinc, i_ii, i_iiz, i_ll, i_llz, i_lli, i_li, i_i, i_l, i_i2l, i_l2i, i_dup, i_dup2, i_dup2w, i_dupx1, i_pop, i_pop2, i_goto, i_ifc, i_icmp, i_getI, i_getL, i_getR, i_putI, i_putZ, i_putL, i_putR, i_aldI, i_aldB, i_aldL, i_aldD, i_astI, i_astL, i_astD, i_alen, i_ret, i_iret, i_zret, i_lret, i_fret, i_dret, i_aret, i_invS0, i_invV0, i_m2, i_m1, i_ml, i_obj, lk, lkp, stf1, stf2, Value.category, rV, xTo, lv_args, xCk, xCat, xRc, xAk, hg_S, hg_I, hg_J, hg_D, hg_R, hs_I, hs_J, hs_D, hs_R, uI_at, uJ_at, uD_at, uR_at, List.take_succ_cons, List.take_zero, List.drop_succ_cons, List.drop_zero, List.reverse_cons, List.reverse_nil, List.nil_append, List.cons_append, List.map_cons, List.map_nil, List.sum_cons, List.sum_nil, List.length_cons, List.length_nil, Option.toList_some, Option.toList_none, true_and, and_true, false_and, and_false, true_implies, false_implies, implies_true, not_true_eq_false, not_false_eq_true, ne_eq, if_true, if_false, Bool.and_true, Bool.true_and, decide_true, decide_false, reduceIte, reduceCtorEq, Bool.and_self, Bool.and_eq_true, decide_eq_true_eq, and_self, true_or, or_true, false_or, or_false, Nat.zero_add, Nat.add_zero, eq_self, Nat.reduceEqDiff, Nat.reduceLeDiff, Nat.reduceLT, Nat.reduceAdd, Nat.reduceSub, Nat.reduceMul, e329_10, B329_10, ea]
    exact l19 _ (OM_w h)
  · rw [if_neg h1] at hc
    have h4 : (0 ≤ x) = True := eq_true (Int32.not_lt.mp h1)
    have ea := a2 h3
    rw [← h2] at ea
    have l19 := L329_19 (S := S) (J := J) (D := D) (R := R) (b := b) (Q := Q) (m := m) (I0 := I0) (N := k + nch x) (k := k) (I := I) hL hm hk kk (by omega) h (dg m - 1) 0 (by omega)
    rw [Nat.pow_zero] at l19
    rw [e329_0]
    simp only [B329_0, xSeq, i_push, i_load, i_iload, i_lload, i_dload, i_aload, i_istore, i_astore, i_lstore, i_dstore, i_iinc, i_ii, i_iiz, i_ll, i_llz, i_lli, i_li, i_i, i_l, i_i2l, i_l2i, i_dup, i_dup2, i_dup2w, i_dupx1, i_pop, i_pop2, i_goto, i_ifc, i_icmp, i_getI, i_getL, i_getR, i_putI, i_putZ, i_putL, i_putR, i_aldI, i_aldB, i_aldL, i_aldD, i_astI, i_astL, i_astD, i_alen, i_ret, i_iret, i_zret, i_lret, i_fret, i_dret, i_aret, i_invS0, i_invV0, i_m2, i_m1, i_ml, i_obj, lk, lkp, stf1, stf2, Value.category, rV, xTo, lv_args, xCk, xCat, xRc, xAk, hg_S, hg_I, hg_J, hg_D, hg_R, hs_I, hs_J, hs_D, hs_R, uI_at, uJ_at, uD_at, uR_at, List.take_succ_cons, List.take_zero, List.drop_succ_cons, List.drop_zero, List.reverse_cons, List.reverse_nil, List.nil_append, List.cons_append, List.map_cons, List.map_nil, List.sum_cons, List.sum_nil, List.length_cons, List.length_nil, Option.toList_some, Option.toList_none, true_and, and_true, false_and, and_false, true_implies, false_implies, implies_true, not_true_eq_false, not_false_eq_true, ne_eq, if_true, if_false, Bool.and_true, Bool.true_and, decide_true, decide_false, reduceIte, reduceCtorEq, Bool.and_self, Bool.and_eq_true, decide_eq_true_eq, and_self, true_or, or_true, false_or, or_false, Nat.zero_add, Nat.add_zero, eq_self, Nat.reduceEqDiff, Nat.reduceLeDiff, Nat.reduceLT, Nat.reduceAdd, Nat.reduceSub, Nat.reduceMul, h4, e329_10, B329_10, ea]
    exact l19
end
