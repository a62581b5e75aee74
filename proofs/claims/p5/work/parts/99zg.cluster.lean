/-! ===== one cluster ===== -/
section
theorem ct_set {p : Nat → Bool} {o : Nat} (h : p o = false) : ∀ {n : Nat}, ct (fun k => p k || decide (o = k)) n = ct p n + if o < n then 1 else 0
  | 0 => by rw [if_neg (Nat.not_lt_zero _)]; rfl
  | n + 1 => by
    have ih := ct_set h (n := n)
    rw [ct, ct, ih]
    by_cases e : o = n
    · subst e
      rw [h, if_neg (Nat.lt_irrefl _), decide_eq_true rfl, if_pos (Nat.lt_succ_self _)]
      simp
    · rw [decide_eq_false e, Bool.or_false]
      by_cases h2 : o < n
      · rw [if_pos h2, if_pos (show o < n + 1 by omega)]; omega
      · rw [if_neg h2, if_neg (show ¬ o < n + 1 by omega)]; omega
theorem bit_o (s t : Nat) : Nat.testBit (s ||| 2 ^ t) = fun i => s.testBit i || decide (t = i) := by
  funext i
  rw [Nat.testBit_or, Nat.testBit_two_pow]
/-- members, the queue, the generator -/
abbrev xQu : Type := Nat × List Nat × Nat
def ot (fi se : Nat → Nat) (s k : Nat) : Nat := if fi k = s then se k else fi k
/-- one bond at a site in the queue -/
def tr (a bb : Nat) (st fi se : Nat → Nat) (x s k : Nat) (z : xQu) : xQu :=
  if z.1.testBit (ot fi se s k) = false ∧ x.testBit (fi k) = x.testBit (se k) then
    (if (pd a bb (2 * st k) z.2.2).1 = true then (z.1, z.2.1, (pd a bb (2 * st k) z.2.2).2) else (z.1 ||| 2 ^ ot fi se s k, z.2.1 ++ [ot fi se s k], (pd a bb (2 * st k) z.2.2).2))
  else z
/-- what holds of them -/
def VC (n : Nat) (z : xQu) : Prop := z.1 < 2 ^ n ∧ (∀ j, j < z.2.1.length → z.2.1.getD j 0 < n) ∧ z.2.1.length = ct (Nat.testBit z.1) n ∧ z.2.2 < 2147483648
theorem VC_len {n : Nat} {z : xQu} (h : VC n z) : z.2.1.length ≤ n := by rw [h.2.2.1]; exact ct_le _ n
theorem ct_lt {p : Nat → Bool} {o n : Nat} (h : p o = false) (ho : o < n) : ct p n < n := by
  have h2 := ct_set h (n := n)
  have h3 := ct_le (fun k => p k || decide (o = k)) n
  rw [if_pos ho] at h2
  omega
theorem VC_add {n : Nat} {z : xQu} {o g : Nat} (h : VC n z) (h2 : z.1.testBit o = false) (ho : o < n) (hg : g < 2147483648) : VC n (z.1 ||| 2 ^ o, z.2.1 ++ [o], g) ∧ z.2.1.length < n := by
  obtain ⟨v1, v2, v3, v4⟩ := h
  have h5 := ct_lt h2 ho
  refine ⟨⟨Nat.or_lt_two_pow v1 (Nat.pow_lt_pow_right (by decide) ho), fun j hj => ?_, ?_, hg⟩, by omega⟩
  · show (z.2.1 ++ [o]).getD j 0 < n
    have hj2 : j < (z.2.1 ++ [o]).length := hj
    rw [List.length_append, List.length_singleton] at hj2
    by_cases e : j < z.2.1.length
    · rw [getD_app1 _ _ _ e]; exact v2 j e
    · rw [show j = z.2.1.length by omega, getD_app2]; exact ho
  · show (z.2.1 ++ [o]).length = ct (Nat.testBit (z.1 ||| 2 ^ o)) n
    rw [bit_o, ct_set h2, if_pos ho, List.length_append, List.length_singleton, v3]
theorem tr_VC {n m a bb : Nat} {st fi se dg : Nat → Nat} {sb : Nat → Nat → Nat} (hG : GR n m fi se dg sb) {x s k : Nat} {z : xQu} (h : VC n z) (hk : k < m) : VC n (tr a bb st fi se x s k z) := by
  have hp := pd_lt a bb (2 * st k) z.2.2 h.2.2.2
  unfold tr
  split
  · next h2 =>
    split
    · exact ⟨h.1, h.2.1, h.2.2.1, hp⟩
    · refine (VC_add h h2.1 ?_ hp).1
      unfold ot
      split
      · exact hG.2.2.2.2.1 k hk
      · exact hG.2.2.2.1 k hk
  · exact h
/-- the first bonds at a site -/
def lb (a bb : Nat) (st fi se : Nat → Nat) (sb : Nat → Nat → Nat) (x s : Nat) (z : xQu) : Nat → xQu
  | 0 => z
  | i + 1 => tr a bb st fi se x s (sb s i) (lb a bb st fi se sb x s z i)
/-- the first bonds of all, those at the site -/
def mb (a bb : Nat) (st fi se : Nat → Nat) (x s : Nat) (z : xQu) : Nat → xQu
  | 0 => z
  | k + 1 => if fi k = s ∨ se k = s then tr a bb st fi se x s k (mb a bb st fi se x s z k) else mb a bb st fi se x s z k
theorem lb_VC {n m a bb : Nat} {st fi se dg : Nat → Nat} {sb : Nat → Nat → Nat} (hG : GR n m fi se dg sb) {x s : Nat} (hs : s < n) {z : xQu} (h : VC n z) : ∀ i, i ≤ dg s → VC n (lb a bb st fi se sb x s z i)
  | 0, _ => h
  | i + 1, hi => tr_VC hG (lb_VC hG hs h i (by omega)) (hG.2.2.2.2.2.2 s i hs (by omega))
theorem mb_VC {n m a bb : Nat} {st fi se dg : Nat → Nat} {sb : Nat → Nat → Nat} (hG : GR n m fi se dg sb) {x s : Nat} {z : xQu} (h : VC n z) : ∀ k, k ≤ m → VC n (mb a bb st fi se x s z k)
  | 0, _ => h
  | k + 1, hk => by
    rw [mb]
    split
    · exact tr_VC hG (mb_VC hG h k (by omega)) (by omega)
    · exact mb_VC hG h k (by omega)
/-- in a grid's order both are one -/
theorem lb_congr {a bb : Nat} {st fi se : Nat → Nat} {sb sb' : Nat → Nat → Nat} {x s : Nat} {z : xQu} : ∀ {d : Nat}, (∀ i, i < d → sb s i = sb' s i) → lb a bb st fi se sb x s z d = lb a bb st fi se sb' x s z d
  | 0, _ => rfl
  | d + 1, h => by rw [lb, lb, lb_congr (fun i hi => h i (by omega)), h d (by omega)]
theorem lb_fl (a bb : Nat) (st fi se : Nat → Nat) (x s : Nat) (z : xQu) : ∀ k, lb a bb st fi se (fun _ i => (fl (fun k => decide (fi k = s) || decide (se k = s)) k).getD i 0) x s z (fl (fun k => decide (fi k = s) || decide (se k = s)) k).length = mb a bb st fi se x s z k
  | 0 => rfl
  | k + 1 => by
    rw [mb, ← lb_fl a bb st fi se x s z k, fl]
    by_cases h : fi k = s ∨ se k = s
    · have h2 : (decide (fi k = s) || decide (se k = s)) = true := by simpa using h
      rw [if_pos h, if_pos h2, List.length_append, List.length_singleton, lb, getD_app2]
      exact congrArg _ (lb_congr (fun i hi => getD_app1 _ _ _ hi))
    · have h2 : (decide (fi k = s) || decide (se k = s)) ≠ true := by simpa using h
      rw [if_neg h, if_neg h2]
theorem lb_mb (a bb : Nat) (st : Nat → Nat) (l : List (Nat × Nat)) (x s : Nat) (z : xQu) : lb a bb st (fE l) (sE l) (bE l) x s z (dE l s) = mb a bb st (fE l) (sE l) x s z l.length := by
  have h := lb_fl a bb st (fE l) (sE l) x s z l.length
  have e : fl (fun k => decide (fE l k = s) || decide (sE l k = s)) l.length = ic l s := rfl
  rw [e] at h
  exact (lb_congr (sb := bE l) (sb' := fun _ i => (ic l s).getD i 0) (d := (ic l s).length) (fun i _ => rfl)).trans h
/-- site after site of the queue -/
def cq (f : Nat → xQu → xQu) : Nat → Nat → xQu → xQu
  | 0, _, z => z
  | j + 1, t, z => if t < z.2.1.length then cq f j (t + 1) (f (z.2.1.getD t 0) z) else z
theorem cq_VC {n : Nat} {f : Nat → xQu → xQu} (hf : ∀ s z, s < n → VC n z → VC n (f s z)) : ∀ j t z, VC n z → VC n (cq f j t z)
  | 0, _, _, h => h
  | j + 1, t, z, h => by
    rw [cq]
    split
    · next h2 => exact cq_VC hf j _ _ (hf _ _ (h.2.1 t h2) h)
    · exact h
theorem cq_congr {n : Nat} {f f' : Nat → xQu → xQu} (hf : ∀ s z, s < n → VC n z → VC n (f s z)) (he : ∀ s z, s < n → f s z = f' s z) : ∀ j t z, VC n z → cq f j t z = cq f' j t z
  | 0, _, _, _ => rfl
  | j + 1, t, z, h => by
    rw [cq, cq]
    split
    · next h2 => rw [← he _ _ (h.2.1 t h2), cq_congr hf he j _ _ (hf _ _ (h.2.1 t h2) h)]
    · rfl
/-- a queue in a row -/
def HQ (r : Nat) (I0 : xI) (q : List Nat) (I : xI) : Prop := (∀ j, j < q.length → I r j = nI (q.getD j 0)) ∧ ∀ o k, o ≠ r → I o k = I0 o k
theorem HQ_add {r : Nat} {I0 I : xI} {q : List Nat} (h : HQ r I0 q I) (o : Nat) : HQ r I0 (q ++ [o]) (uI I r q.length (nI o)) := by
  refine ⟨fun j hj => ?_, fun p k hp => ?_⟩
  · rw [List.length_append, List.length_singleton] at hj
    rw [uI_at]
    by_cases e : j = q.length
    · subst e
      rw [if_pos ⟨rfl, rfl⟩, getD_app2]
    · rw [if_neg (fun h => e h.2), getD_app1 _ _ _ (show j < q.length by omega)]
      exact h.1 j (by omega)
  · rw [uI_at, if_neg (fun e => hp e.1)]
    exact h.2 p k hp
theorem HQ_CL {I0 I : xI} {q : List Nat} {n m : Nat} {fi se dg : Nat → Nat} {sb : Nat → Nat → Nat} (h : HQ 116 I0 q I) (hC : CL I0 n m fi se dg sb) : CL I n m fi se dg sb := CL_k hC (fun o k _ ho => h.2 o k (by omega))
theorem HQ_CM {I0 I : xI} {q : List Nat} {n m : Nat} {fi se dg : Nat → Nat} {sb : Nat → Nat → Nat} (h : HQ 340 I0 q I) (hC : CM I0 n m fi se dg sb) : CM I n m fi se dg sb := CM_k hC (fun o k ho => h.2 o k (by omega))
variable {S : xS} {I : xI} {J : xJ} {D : xDb} {R : xR} {b : Nat × Nat} {Q : xQ} {n m : Nat} {fi se dg : Nat → Nat} {sb : Nat → Nat → Nat}
theorem dbl (v : Nat) : (2 : Int32) * nI v = nI (2 * v) := by rw [show (2 : Int32) = nI 2 from rfl, pk_mul]
theorem L87_43 {I0 : xI} {J0 : xJ} (hL : LC S R) (hG : GR n m fi se dg sb) (hC0 : CL I0 n m fi se dg sb) {a bb : Nat} (hA : I0 110 7 = nI a) (hB : I0 110 8 = nI bb) (ha : a < 2147483648) (h0 : 0 < bb) (hb : bb < 2147483648)
    {st : Nat → Nat} (hst : ∀ k, k < m → I0 111 k = nI (st k)) (hs3 : ∀ k, k < m → st k < 1000000) {x : Nat} (hx : x < 2 ^ 64) (hJ : J0 110 4 = lN x) {s t : Nat} (hs : s < n) {z : xQu} (hz : VC n z)
    (kk : ∀ I, HQ 116 I0 (lb a bb st fi se sb x s z (dg s)).2.1 I → xRun xT 87 171 [(0, .ref 110), (2, .long (lN (lb a bb st fi se sb x s z (dg s)).1)), (4, .int (nI (lb a bb st fi se sb x s z (dg s)).2.1.length)), (5, .int (nI t))] [] (S, I, uJ J0 110 5 (lN (lb a bb st fi se sb x s z (dg s)).2.2), D, R) b Q) :
    ∀ (j i : Nat) (I : xI), i + j = dg s → HQ 116 I0 (lb a bb st fi se sb x s z i).2.1 I →
      xRun xT 87 43 [(0, .ref 110), (2, .long (lN (lb a bb st fi se sb x s z i).1)), (4, .int (nI (lb a bb st fi se sb x s z i).2.1.length)), (5, .int (nI t)), (6, .int (nI s)), (7, .int (nI i))] [] (S, I, uJ J0 110 5 (lN (lb a bb st fi se sb x s z i).2.2), D, R) b Q
  | 0, i, I, hi, h => by
    have hC := HQ_CL h hC0
    obtain ⟨g0, g1, g2, g3, g4, g5, g6⟩ := hG
    obtain ⟨c1, c2, c3, c4, c5, c6⟩ := hC
    have h5 := g5 s hs
    have e : i = dg s := by omega
    subst e
    rw [e87_43]
    simp only [B87_43, xSeq, i_push, i_load, i_iload, i_lload, i_dload, i_aload, i_istore, i_astore, i_lstore, i_dstore, i_iinc, i_ii, i_iiz, i_ll, i_llz, i_lli, i_li, i_i, i_l, i_i2l, i_l2i, i_dup, i_dup2, i_dup2w, i_dupx1, i_pop, i_pop2, i_goto, i_ifc, i_icmp, i_getI, i_getL, i_getR, i_putI, i_putZ, i_putL, i_putR, i_aldI, i_aldB, i_aldL, i_aldD, i_astI, i_astL, i_astD, i_alen, i_ret, i_iret, i_zret, i_lret, i_fret, i_dret, i_aret, i_invS0, i_invV0, i_m2, i_m1, i_ml, i_obj, lk, lkp, stf1, stf2, Value.category, rV, xTo, lv_args, xCk, xCat, xRc, xAk, hg_S, hg_I, hg_J, hg_D, hg_R, hs_I, hs_J, hs_D, hs_R, uI_at, uJ_at, uD_at, uR_at, List.take_succ_cons, List.take_zero, List.drop_succ_cons, List.drop_zero, List.reverse_cons, List.reverse_nil, List.nil_append, List.cons_append, List.map_cons, List.map_nil, List.sum_cons, List.sum_nil, List.length_cons, List.length_nil, Option.toList_some, Option.toList_none, true_and, and_true, false_and, and_false, true_implies, false_implies, implies_true, not_true_eq_false, not_false_eq_true, ne_eq, if_true, if_false, Bool.and_true, Bool.true_and, decide_true, decide_false, reduceIte, reduceCtorEq, Bool.and_self, Bool.and_eq_true, decide_eq_true_eq, and_self, true_or, or_true, false_or, or_false, Nat.zero_add, Nat.add_zero, eq_self, Nat.reduceEqDiff, Nat.reduceLeDiff, Nat.reduceLT, Nat.reduceAdd, Nat.reduceSub, Nat.reduceMul, LC_out hL, nI_inP (show s < 64 by omega) (by decide), nI_ix (show s < 2147483648 by omega), c5 s hs, nI_leP (show dg s < 2147483648 by omega) (show dg s < 2147483648 by omega), Nat.le_refl]
    exact kk I h
  | j + 1, i, I, hi, h => by
    have hC := HQ_CL h hC0
    have hG' := hG
    have hC' := hC
    obtain ⟨g0, g1, g2, g3, g4, g5, g6⟩ := hG'
    obtain ⟨c1, c2, c3, c4, c5, c6⟩ := hC'
    have hw : 2 ^ n ≤ 2 ^ 64 := Nat.pow_le_pow_right (by decide) g1
    have h5 := g5 s hs
    have hk := g6 s i hs (by omega)
    have ho : ot fi se s (sb s i) < n := by
      unfold ot
      split
      · exact g4 _ hk
      · exact g3 _ hk
    have hv := lb_VC (a := a) (bb := bb) (st := st) (x := x) hG hs hz i (by omega)
    have nx := fun I => L87_43 hL hG hC0 hA hB ha h0 hb hst hs3 hx hJ hs hz kk j (i + 1) I (by omega)
    rw [lb] at nx
    obtain ⟨y, hy⟩ : ∃ y, y = lb a bb st fi se sb x s z i := ⟨_, rfl⟩
    rw [← hy] at h hv nx ⊢
    obtain ⟨k, hkk⟩ : ∃ k, k = sb s i := ⟨_, rfl⟩
    rw [← hkk] at hk ho nx
    have e52 := fun (J : xJ) (b : Nat × Nat) (Q : xQ) => R52 (S := S) (R := R) (I := I) (J := J) (D := D) (b := b) (Q := Q) hL hG hC hs (show i < dg s by omega)
    rw [← hkk] at e52
    have e54 : (if fi k = s then se k else fi k) = ot fi se s k := rfl
    obtain ⟨o, hO⟩ : ∃ o, o = ot fi se s k := ⟨_, rfl⟩
    have hvl := VC_len hv
    obtain ⟨v1, v2, v3, v4⟩ := hv
    have hst' := hst k hk
    have hs3' := hs3 k hk
    have f7 : I 110 7 = nI a := (h.2 _ _ (by decide)).trans hA
    have f8 : I 110 8 = nI bb := (h.2 _ _ (by decide)).trans hB
    have f1 : I 111 k = nI (st k) := (h.2 _ _ (by decide)).trans hst'
    have e83 := fun (b : Nat × Nat) (Q : xQ) => R83 (S := S) (R := R) (I := I) (J := uJ J0 110 5 (lN y.2.2)) (D := D) (b := b) (Q := Q) hL f7 f8 ha h0 hb (show 2 * st k < 2147483648 by omega) v4 rfl
    unfold tr at nx
    rw [← hO] at nx ho e54
    obtain ⟨r, hr⟩ : ∃ r, r = pd a bb (2 * st k) y.2.2 := ⟨_, rfl⟩
    rw [← hr] at e83 nx
    rw [e87_43]
    simp only [B87_43, xSeq, i_push, i_load, i_iload, i_lload, i_dload, i_aload, i_istore, i_astore, i_lstore, i_dstore, i_iinc, i_ii, i_iiz, i_ll, i_llz, i_lli, i_li, i_i, i_l, i_i2l, i_l2i, i_dup, i_dup2, i_dup2w, i_dupx1, i_pop, i_pop2, i_goto, i_ifc, i_icmp, i_getI, i_getL, i_getR, i_putI, i_putZ, i_putL, i_putR, i_aldI, i_aldB, i_aldL, i_aldD, i_astI, i_astL, i_astD, i_alen, i_ret, i_iret, i_zret, i_lret, i_fret, i_dret, i_aret, i_invS0, i_invV0, i_m2, i_m1, i_ml, i_obj, lk, lkp, stf1, stf2, Value.category, rV, xTo, lv_args, xCk, xCat, xRc, xAk, hg_S, hg_I, hg_J, hg_D, hg_R, hs_I, hs_J, hs_D, hs_R, uI_at, uJ_at, uD_at, uR_at, List.take_succ_cons, List.take_zero, List.drop_succ_cons, List.drop_zero, List.reverse_cons, List.reverse_nil, List.nil_append, List.cons_append, List.map_cons, List.map_nil, List.sum_cons, List.sum_nil, List.length_cons, List.length_nil, Option.toList_some, Option.toList_none, true_and, and_true, false_and, and_false, true_implies, false_implies, implies_true, not_true_eq_false, not_false_eq_true, ne_eq, if_true, if_false, Bool.and_true, Bool.true_and, decide_true, decide_false, reduceIte, reduceCtorEq, Bool.and_self, Bool.and_eq_true, decide_eq_true_eq, and_self, true_or, or_true, false_or, or_false, Nat.zero_add, Nat.add_zero, eq_self, Nat.reduceEqDiff, Nat.reduceLeDiff, Nat.reduceLT, Nat.reduceAdd, Nat.reduceSub, Nat.reduceMul, LC_out hL, nI_inP (show s < 64 by omega) (by decide), nI_ix (show s < 2147483648 by omega), c5 s hs, nI_leP (show dg s < 2147483648 by omega) (show i < 2147483648 by omega), show (dg s ≤ i) = False from eq_false (by omega), e52, R54 hL hG hC hs hk, e54, q_bit (show y.1 < 2 ^ 64 by omega) (show o < 64 by omega), q_cmp0, ne_eq, hJ, R53 hL hG hC hx hk, e87_122, B87_122, e87_123, B87_123, e87_165, B87_165, nI_1, nI_inP (show k < 128 by omega) (by decide), nI_ix (show k < 2147483648 by omega), f1, dbl, e83, uJ_uJ, q_1shlL (show o < 64 by omega), q_or (show y.1 < 2 ^ 64 by omega) (Nat.pow_lt_pow_right (show 1 < 2 by decide) (show o < 64 by omega))]
    cases hb1 : y.1.testBit o
    · by_cases hb2 : x.testBit (fi k) = x.testBit (se k)
      · have hlt : y.2.1.length < n := by rw [v3]; exact ct_lt hb1 ho
        have e64 : ((64 : Int32) ≤ nI y.2.1.length) = False := by rw [show (64 : Int32) = nI 64 from rfl, nI_leP (by decide) (show y.2.1.length < 2147483648 by omega)]; exact eq_false (by omega)
        rw [if_pos ⟨hb1, hb2⟩] at nx
        simp only [hb2, e64, true_and, and_true, false_and, and_false, true_implies, false_implies, implies_true, not_true_eq_false, not_false_eq_true, ne_eq, if_true, if_false, Bool.and_true, Bool.true_and, decide_true, decide_false, reduceIte, reduceCtorEq, Bool.and_self, Bool.and_eq_true, decide_eq_true_eq, and_self, true_or, or_true, false_or, or_false, Nat.zero_add, Nat.add_zero, eq_self, Nat.reduceEqDiff, Nat.reduceLeDiff, Nat.reduceLT, Nat.reduceAdd, Nat.reduceSub, Nat.reduceMul, i1_0]
        cases hr1 : r.1
        · rw [hr1, if_neg (by decide)] at nx
          simp only [true_and, and_true, false_and, and_false, true_implies, false_implies, implies_true, not_true_eq_false, not_false_eq_true, ne_eq, if_true, if_false, Bool.and_true, Bool.true_and, decide_true, decide_false, reduceIte, reduceCtorEq, Bool.and_self, Bool.and_eq_true, decide_eq_true_eq, and_self, true_or, or_true, false_or, or_false, Nat.zero_add, Nat.add_zero, eq_self, Nat.reduceEqDiff, Nat.reduceLeDiff, Nat.reduceLT, Nat.reduceAdd, Nat.reduceSub, Nat.reduceMul, nI_inP (show y.2.1.length < 64 by omega) (by decide), nI_ix (show y.2.1.length < 2147483648 by omega), nI_1]
          have e3 := nx _ (HQ_add h o)
          rw [show (y.2.1 ++ [o]).length = y.2.1.length + 1 by rw [List.length_append, List.length_singleton]] at e3
          exact e3
        · rw [hr1, if_pos rfl] at nx
          simp only [true_and, and_true, false_and, and_false, true_implies, false_implies, implies_true, not_true_eq_false, not_false_eq_true, ne_eq, if_true, if_false, Bool.and_true, Bool.true_and, decide_true, decide_false, reduceIte, reduceCtorEq, Bool.and_self, Bool.and_eq_true, decide_eq_true_eq, and_self, true_or, or_true, false_or, or_false, Nat.zero_add, Nat.add_zero, eq_self, Nat.reduceEqDiff, Nat.reduceLeDiff, Nat.reduceLT, Nat.reduceAdd, Nat.reduceSub, Nat.reduceMul, i1_0]
          exact nx _ h
      · rw [if_neg (fun e => hb2 e.2)] at nx
        simp only [hb2, true_and, and_true, false_and, and_false, true_implies, false_implies, implies_true, not_true_eq_false, not_false_eq_true, ne_eq, if_true, if_false, Bool.and_true, Bool.true_and, decide_true, decide_false, reduceIte, reduceCtorEq, Bool.and_self, Bool.and_eq_true, decide_eq_true_eq, and_self, true_or, or_true, false_or, or_false, Nat.zero_add, Nat.add_zero, eq_self, Nat.reduceEqDiff, Nat.reduceLeDiff, Nat.reduceLT, Nat.reduceAdd, Nat.reduceSub, Nat.reduceMul]
        exact ⟨fun _ => nx _ h, fun _ => nx _ h⟩
    · rw [if_neg (fun e => absurd (hb1.symm.trans e.1) (by decide))] at nx
      simp only [true_and, and_true, false_and, and_false, true_implies, false_implies, implies_true, not_true_eq_false, not_false_eq_true, ne_eq, if_true, if_false, Bool.and_true, Bool.true_and, decide_true, decide_false, reduceIte, reduceCtorEq, Bool.and_self, Bool.and_eq_true, decide_eq_true_eq, and_self, true_or, or_true, false_or, or_false, Nat.zero_add, Nat.add_zero, eq_self, Nat.reduceEqDiff, Nat.reduceLeDiff, Nat.reduceLT, Nat.reduceAdd, Nat.reduceSub, Nat.reduceMul]
      exact ⟨fun _ => nx _ h, fun _ => nx _ h⟩
theorem L87_17 {I0 : xI} {J0 : xJ} (hL : LC S R) (hG : GR n m fi se dg sb) (hC0 : CL I0 n m fi se dg sb) {a bb : Nat} (hA : I0 110 7 = nI a) (hB : I0 110 8 = nI bb) (ha : a < 2147483648) (h0 : 0 < bb) (hb : bb < 2147483648)
    {st : Nat → Nat} (hst : ∀ k, k < m → I0 111 k = nI (st k)) (hs3 : ∀ k, k < m → st k < 1000000) {x : Nat} (hx : x < 2 ^ 64) (hJ : J0 110 4 = lN x) {Z : xQu}
    (kk : ∀ I, HQ 116 I0 Z.2.1 I → xRun xT 87 177 [(0, .ref 110), (2, .long (lN Z.1)), (4, .int (nI Z.2.1.length))] [] (S, I, uJ J0 110 5 (lN Z.2.2), D, R) b Q) :
    ∀ (j t : Nat) (z : xQu) (I : xI), t + j = 64 → VC n z → HQ 116 I0 z.2.1 I → cq (fun s z => lb a bb st fi se sb x s z (dg s)) j t z = Z →
      xRun xT 87 17 [(0, .ref 110), (2, .long (lN z.1)), (4, .int (nI z.2.1.length)), (5, .int (nI t))] [] (S, I, uJ J0 110 5 (lN z.2.2), D, R) b Q
  | 0, t, z, I, ht, hz, h, e => by
    have hl := VC_len hz
    have g1 := hG.2.1
    rw [cq] at e
    rw [← e] at kk
    rw [e87_17]
    simp only [B87_17, xSeq, i_push, i_load, i_iload, i_lload, i_dload, i_aload, i_istore, i_astore, i_lstore, i_dstore, i_iinc, i_ii, i_iiz, i_ll, i_llz, i_lli, i_li, i_i, i_l, i_i2l, i_l2i, i_dup, i_dup2, i_dup2w, i_dupx1, i_pop, i_pop2, i_goto, i_ifc, i_icmp, i_getI, i_getL, i_getR, i_putI, i_putZ, i_putL, i_putR, i_aldI, i_aldB, i_aldL, i_aldD, i_astI, i_astL, i_astD, i_alen, i_ret, i_iret, i_zret, i_lret, i_fret, i_dret, i_aret, i_invS0, i_invV0, i_m2, i_m1, i_ml, i_obj, lk, lkp, stf1, stf2, Value.category, rV, xTo, lv_args, xCk, xCat, xRc, xAk, hg_S, hg_I, hg_J, hg_D, hg_R, hs_I, hs_J, hs_D, hs_R, uI_at, uJ_at, uD_at, uR_at, List.take_succ_cons, List.take_zero, List.drop_succ_cons, List.drop_zero, List.reverse_cons, List.reverse_nil, List.nil_append, List.cons_append, List.map_cons, List.map_nil, List.sum_cons, List.sum_nil, List.length_cons, List.length_nil, Option.toList_some, Option.toList_none, true_and, and_true, false_and, and_false, true_implies, false_implies, implies_true, not_true_eq_false, not_false_eq_true, ne_eq, if_true, if_false, Bool.and_true, Bool.true_and, decide_true, decide_false, reduceIte, reduceCtorEq, Bool.and_self, Bool.and_eq_true, decide_eq_true_eq, and_self, true_or, or_true, false_or, or_false, Nat.zero_add, Nat.add_zero, eq_self, Nat.reduceEqDiff, Nat.reduceLeDiff, Nat.reduceLT, Nat.reduceAdd, Nat.reduceSub, Nat.reduceMul, LC_out hL, nI_leP (show z.2.1.length < 2147483648 by omega) (show t < 2147483648 by omega), show (z.2.1.length ≤ t) = True from eq_true (by omega)]
    exact kk I h
  | j + 1, t, z, I, ht, hz, h, e => by
    have hl := VC_len hz
    have g1 := hG.2.1
    rw [cq] at e
    rw [e87_17]
    by_cases hlt : t < z.2.1.length
    · have hs := hz.2.1 t hlt
      have e64 : ((64 : Int32) ≤ nI t) = False := by rw [show (64 : Int32) = nI 64 from rfl, nI_leP (by decide) (show t < 2147483648 by omega)]; exact eq_false (by omega)
      rw [if_pos hlt] at e
      simp only [B87_17, xSeq, i_push, i_load, i_iload, i_lload, i_dload, i_aload, i_istore, i_astore, i_lstore, i_dstore, i_iinc, i_ii, i_iiz, i_ll, i_llz, i_lli, i_li, i_i, i_l, i_i2l, i_l2i, i_dup, i_dup2, i_dup2w, i_dupx1, i_pop, i_pop2, i_goto, i_ifc, i_icmp, i_getI, i_getL, i_getR, i_putI, i_putZ, i_putL, i_putR, i_aldI, i_aldB, i_aldL, i_aldD, i_astI, i_astL, i_astD, i_alen, i_ret, i_iret, i_zret, i_lret, i_fret, i_dret, i_aret, i_invS0, i_invV0, i_m2, i_m1, i_ml, i_obj, lk, lkp, stf1, stf2, Value.category, rV, xTo, lv_args, xCk, xCat, xRc, xAk, hg_S, hg_I, hg_J, hg_D, hg_R, hs_I, hs_J, hs_D, hs_R, uI_at, uJ_at, uD_at, uR_at, List.take_succ_cons, List.take_zero, List.drop_succ_cons, List.drop_zero, List.reverse_cons, List.reverse_nil, List.nil_append, List.cons_append, List.map_cons, List.map_nil, List.sum_cons, List.sum_nil, List.length_cons, List.length_nil, Option.toList_some, Option.toList_none, true_and, and_true, false_and, and_false, true_implies, false_implies, implies_true, not_true_eq_false, not_false_eq_true, ne_eq, if_true, if_false, Bool.and_true, Bool.true_and, decide_true, decide_false, reduceIte, reduceCtorEq, Bool.and_self, Bool.and_eq_true, decide_eq_true_eq, and_self, true_or, or_true, false_or, or_false, Nat.zero_add, Nat.add_zero, eq_self, Nat.reduceEqDiff, Nat.reduceLeDiff, Nat.reduceLT, Nat.reduceAdd, Nat.reduceSub, Nat.reduceMul, LC_out hL, nI_leP (show z.2.1.length < 2147483648 by omega) (show t < 2147483648 by omega), show (z.2.1.length ≤ t) = False from eq_false (by omega), e64, nI_inP (show t < 64 by omega) (by decide), nI_ix (show t < 2147483648 by omega), h.1 t hlt]
      refine L87_43 hL hG hC0 hA hB ha h0 hb hst hs3 hx hJ hs hz (fun I' h' => ?_) (dg (z.2.1.getD t 0)) 0 I (by omega) h
      rw [e87_171]
      simp only [B87_171, xSeq, i_push, i_load, i_iload, i_lload, i_dload, i_aload, i_istore, i_astore, i_lstore, i_dstore, i_iinc, i_ii, i_iiz, i_ll, i_llz, i_lli, i_li, i_i, i_l, i_i2l, i_l2i, i_dup, i_dup2, i_dup2w, i_dupx1, i_pop, i_pop2, i_goto, i_ifc, i_icmp, i_getI, i_getL, i_getR, i_putI, i_putZ, i_putL, i_putR, i_aldI, i_aldB, i_aldL, i_aldD, i_astI, i_astL, i_astD, i_alen, i_ret, i_iret, i_zret, i_lret, i_fret, i_dret, i_aret, i_invS0, i_invV0, i_m2, i_m1, i_ml, i_obj, lk, lkp, stf1, stf2, Value.category, rV, xTo, lv_args, xCk, xCat, xRc, xAk, hg_S, hg_I, hg_J, hg_D, hg_R, hs_I, hs_J, hs_D, hs_R, uI_at, uJ_at, uD_at, uR_at, List.take_succ_cons, List.take_zero, List.drop_succ_cons, List.drop_zero, List.reverse_cons, List.reverse_nil, List.nil_append, List.cons_append, List.map_cons, List.map_nil, List.sum_cons, List.sum_nil, List.length_cons, List.length_nil, Option.toList_some, Option.toList_none, true_and, and_true, false_and, and_false, true_implies, false_implies, implies_true, not_true_eq_false, not_false_eq_true, ne_eq, if_true, if_false, Bool.and_true, Bool.true_and, decide_true, decide_false, reduceIte, reduceCtorEq, Bool.and_self, Bool.and_eq_true, decide_eq_true_eq, and_self, true_or, or_true, false_or, or_false, Nat.zero_add, Nat.add_zero, eq_self, Nat.reduceEqDiff, Nat.reduceLeDiff, Nat.reduceLT, Nat.reduceAdd, Nat.reduceSub, Nat.reduceMul, nI_1]
      exact L87_17 hL hG hC0 hA hB ha h0 hb hst hs3 hx hJ kk j (t + 1) _ I' (by omega) (lb_VC hG hs hz _ (Nat.le_refl _)) h' e
    · rw [if_neg hlt] at e
      rw [← e] at kk
      simp only [B87_17, xSeq, i_push, i_load, i_iload, i_lload, i_dload, i_aload, i_istore, i_astore, i_lstore, i_dstore, i_iinc, i_ii, i_iiz, i_ll, i_llz, i_lli, i_li, i_i, i_l, i_i2l, i_l2i, i_dup, i_dup2, i_dup2w, i_dupx1, i_pop, i_pop2, i_goto, i_ifc, i_icmp, i_getI, i_getL, i_getR, i_putI, i_putZ, i_putL, i_putR, i_aldI, i_aldB, i_aldL, i_aldD, i_astI, i_astL, i_astD, i_alen, i_ret, i_iret, i_zret, i_lret, i_fret, i_dret, i_aret, i_invS0, i_invV0, i_m2, i_m1, i_ml, i_obj, lk, lkp, stf1, stf2, Value.category, rV, xTo, lv_args, xCk, xCat, xRc, xAk, hg_S, hg_I, hg_J, hg_D, hg_R, hs_I, hs_J, hs_D, hs_R, uI_at, uJ_at, uD_at, uR_at, List.take_succ_cons, List.take_zero, List.drop_succ_cons, List.drop_zero, List.reverse_cons, List.reverse_nil, List.nil_append, List.cons_append, List.map_cons, List.map_nil, List.sum_cons, List.sum_nil, List.length_cons, List.length_nil, Option.toList_some, Option.toList_none, true_and, and_true, false_and, and_false, true_implies, false_implies, implies_true, not_true_eq_false, not_false_eq_true, ne_eq, if_true, if_false, Bool.and_true, Bool.true_and, decide_true, decide_false, reduceIte, reduceCtorEq, Bool.and_self, Bool.and_eq_true, decide_eq_true_eq, and_self, true_or, or_true, false_or, or_false, Nat.zero_add, Nat.add_zero, eq_self, Nat.reduceEqDiff, Nat.reduceLeDiff, Nat.reduceLT, Nat.reduceAdd, Nat.reduceSub, Nat.reduceMul, LC_out hL, nI_leP (show z.2.1.length < 2147483648 by omega) (show t < 2147483648 by omega), show (z.2.1.length ≤ t) = True from eq_true (by omega)]
      exact kk I h
theorem ct_no : ∀ {n : Nat}, ct (fun _ => false) n = 0
  | 0 => rfl
  | n + 1 => by rw [ct, ct_no]; rfl
theorem VC_0 {s g : Nat} (hs : s < n) (hg : g < 2147483648) : VC n (2 ^ s, [s], g) := by
  refine ⟨Nat.pow_lt_pow_right (by decide) hs, fun j hj => ?_, ?_, hg⟩
  · have hj2 : j < 1 := hj
    rw [show j = 0 by omega]
    exact hs
  · show 1 = ct (Nat.testBit (2 ^ s)) n
    have e : Nat.testBit (2 ^ s) = fun k => (fun _ => false) k || decide (s = k) := by
      funext k
      rw [Nat.testBit_two_pow]
      rfl
    rw [e, ct_set rfl, if_pos hs, ct_no]
theorem xI64_0 : xIn (0 : Int32) 64 = True := nI_inP (k := 0) (by decide) (by decide)
theorem L87 {J : xJ} (hL : LC S R) (hG : GR n m fi se dg sb) (hC : CL I n m fi se dg sb) {a bb : Nat} (hA : I 110 7 = nI a) (hB : I 110 8 = nI bb) (ha : a < 2147483648) (h0 : 0 < bb) (hb : bb < 2147483648)
    {st : Nat → Nat} (hst : ∀ k, k < m → I 111 k = nI (st k)) (hs3 : ∀ k, k < m → st k < 1000000) {x g : Nat} (hx : x < 2 ^ 64) (hJ : J 110 4 = lN x) (hg : g < 2147483648) (hJ2 : J 110 5 = lN g) {s : Nat} (hs : s < n) {Z : xQu} (hZ : cq (fun s z => lb a bb st fi se sb x s z (dg s)) 64 0 (2 ^ s, [s], g) = Z)
    (kk : ∀ I', (∀ o k, o ≠ 116 → I' o k = I o k) → Q (.ok (some (.int (nI Z.2.1.length)))) (S, I', uJ (uJ J 110 5 (lN Z.2.2)) 110 4 (lN (x ^^^ Z.1)), D, R) b) :
    xRun xT 87 0 [(0, .ref 110), (1, .int (nI s))] [] (S, I, J, D, R) b Q := by
  have g1 := hG.2.1
  have hq : HQ 116 I [s] (uI I 116 0 (nI s)) := HQ_add (q := []) ⟨fun j hj => absurd hj (Nat.not_lt_zero _), fun _ _ _ => rfl⟩ s
  have hr := L87_17 (S := S) (R := R) (D := D) (b := b) (Q := Q) hL hG hC hA hB ha h0 hb hst hs3 hx hJ (Z := Z) (fun I' h' => by
    have e2 : uJ J 110 5 (lN Z.2.2) 110 4 = lN x := hJ
    rw [e87_177]
    simp only [B87_177, xSeq, i_push, i_load, i_iload, i_lload, i_dload, i_aload, i_istore, i_astore, i_lstore, i_dstore, i_iinc, i_ii, i_iiz, i_ll, i_llz, i_lli, i_li, i_i, i_l, i_i2l, i_l2i, i_dup, i_dup2, i_dup2w, i_dupx1, i_pop, i_pop2, i_goto, i_ifc, i_icmp, i_getI, i_getL, i_getR, i_putI, i_putZ, i_putL, i_putR, i_aldI, i_aldB, i_aldL, i_aldD, i_astI, i_astL, i_astD, i_alen, i_ret, i_iret, i_zret, i_lret, i_fret, i_dret, i_aret, i_invS0, i_invV0, i_m2, i_m1, i_ml, i_obj, lk, lkp, stf1, stf2, Value.category, rV, xTo, lv_args, xCk, xCat, xRc, xAk, hg_S, hg_I, hg_J, hg_D, hg_R, hs_I, hs_J, hs_D, hs_R, uI_at, uJ_at, uD_at, uR_at, List.take_succ_cons, List.take_zero, List.drop_succ_cons, List.drop_zero, List.reverse_cons, List.reverse_nil, List.nil_append, List.cons_append, List.map_cons, List.map_nil, List.sum_cons, List.sum_nil, List.length_cons, List.length_nil, Option.toList_some, Option.toList_none, true_and, and_true, false_and, and_false, true_implies, false_implies, implies_true, not_true_eq_false, not_false_eq_true, ne_eq, if_true, if_false, Bool.and_true, Bool.true_and, decide_true, decide_false, reduceIte, reduceCtorEq, Bool.and_self, Bool.and_eq_true, decide_eq_true_eq, and_self, true_or, or_true, false_or, or_false, Nat.zero_add, Nat.add_zero, eq_self, Nat.reduceEqDiff, Nat.reduceLeDiff, Nat.reduceLT, Nat.reduceAdd, Nat.reduceSub, Nat.reduceMul, LC_out hL, e2, hJ, q_xor]
    exact kk I' h'.2) 64 0 (2 ^ s, [s], g) _ (by omega) (VC_0 hs hg) hq hZ
  have e5 : uJ J 110 5 (lN (2 ^ s, [s], g).2.2) = J := uJ_same hJ2
  rw [e5] at hr
  rw [e87_0]
  simp only [B87_0, xSeq, i_push, i_load, i_iload, i_lload, i_dload, i_aload, i_istore, i_astore, i_lstore, i_dstore, i_iinc, i_ii, i_iiz, i_ll, i_llz, i_lli, i_li, i_i, i_l, i_i2l, i_l2i, i_dup, i_dup2, i_dup2w, i_dupx1, i_pop, i_pop2, i_goto, i_ifc, i_icmp, i_getI, i_getL, i_getR, i_putI, i_putZ, i_putL, i_putR, i_aldI, i_aldB, i_aldL, i_aldD, i_astI, i_astL, i_astD, i_alen, i_ret, i_iret, i_zret, i_lret, i_fret, i_dret, i_aret, i_invS0, i_invV0, i_m2, i_m1, i_ml, i_obj, lk, lkp, stf1, stf2, Value.category, rV, xTo, lv_args, xCk, xCat, xRc, xAk, hg_S, hg_I, hg_J, hg_D, hg_R, hs_I, hs_J, hs_D, hs_R, uI_at, uJ_at, uD_at, uR_at, List.take_succ_cons, List.take_zero, List.drop_succ_cons, List.drop_zero, List.reverse_cons, List.reverse_nil, List.nil_append, List.cons_append, List.map_cons, List.map_nil, List.sum_cons, List.sum_nil, List.length_cons, List.length_nil, Option.toList_some, Option.toList_none, true_and, and_true, false_and, and_false, true_implies, false_implies, implies_true, not_true_eq_false, not_false_eq_true, ne_eq, if_true, if_false, Bool.and_true, Bool.true_and, decide_true, decide_false, reduceIte, reduceCtorEq, Bool.and_self, Bool.and_eq_true, decide_eq_true_eq, and_self, true_or, or_true, false_or, or_false, Nat.zero_add, Nat.add_zero, eq_self, Nat.reduceEqDiff, Nat.reduceLeDiff, Nat.reduceLT, Nat.reduceAdd, Nat.reduceSub, Nat.reduceMul, LC_out hL, q_1shlL (show s < 64 by omega), xI64_0, ix_0]
  exact hr
theorem R279 (hL : LM S R) (hG : GR n m fi se dg sb) (hC : CM I n m fi se dg sb) {s k : Nat} (hs : s < n) (hk : k < m) : xRun xT 279 0 [(0, .ref 200), (1, .int (nI k)), (2, .int (nI s))] [] (S, I, J, D, R) b Q = Q (.ok (some (.int (nI (ot fi se s k))))) (S, I, J, D, R) b := by
  obtain ⟨g0, g1, g2, g3, g4, g5, g6⟩ := hG
  obtain ⟨c1, c2, c3, c4, c5, c6⟩ := hC
  have h3 := g3 k hk
  have h4 := g4 k hk
  unfold ot
  rw [e279_0]
  simp only [B279_0, xSeq, i_push, i_load, i_iload, i_lload, i_dload, i_aload, i_istore, i_astore, i_lstore, i_dstore, i_iinc, i_ii, i_iiz, i_ll, i_llz, i_lli, i_li, i_i, i_l, i_i2l, i_l2i, i_dup, i_dup2, i_dup2w, i_dupx1, i_pop, i_pop2, i_goto, i_ifc, i_icmp, i_getI, i_getL, i_getR, i_putI, i_putZ, i_putL, i_putR, i_aldI, i_aldB, i_aldL, i_aldD, i_astI, i_astL, i_astD, i_alen, i_ret, i_iret, i_zret, i_lret, i_fret, i_dret, i_aret, i_invS0, i_invV0, i_m2, i_m1, i_ml, i_obj, lk, lkp, stf1, stf2, Value.category, rV, xTo, lv_args, xCk, xCat, xRc, xAk, hg_S, hg_I, hg_J, hg_D, hg_R, hs_I, hs_J, hs_D, hs_R, uI_at, uJ_at, uD_at, uR_at, List.take_succ_cons, List.take_zero, List.drop_succ_cons, List.drop_zero, List.reverse_cons, List.reverse_nil, List.nil_append, List.cons_append, List.map_cons, List.map_nil, List.sum_cons, List.sum_nil, List.length_cons, List.length_nil, Option.toList_some, Option.toList_none, true_and, and_true, false_and, and_false, true_implies, false_implies, implies_true, not_true_eq_false, not_false_eq_true, ne_eq, if_true, if_false, Bool.and_true, Bool.true_and, decide_true, decide_false, reduceIte, reduceCtorEq, Bool.and_self, Bool.and_eq_true, decide_eq_true_eq, and_self, true_or, or_true, false_or, or_false, Nat.zero_add, Nat.add_zero, eq_self, Nat.reduceEqDiff, Nat.reduceLeDiff, Nat.reduceLT, Nat.reduceAdd, Nat.reduceSub, Nat.reduceMul, LM_out hL, nI_inP (show k < 128 by omega) (by decide), nI_ix (show k < 2147483648 by omega), c3 k hk, c4 k hk, nI_iff (show fi k < 2147483648 by omega) (show s < 2147483648 by omega), e279_19, B279_19, e279_25, B279_25, ne_eq]
  by_cases hb : fi k = s <;> simp [hb]
theorem L277_58 {I0 : xI} {J0 : xJ} (hL : LM S R) (hG : GR n m fi se dg sb) (hC0 : CM I0 n m fi se dg sb) {a bb : Nat} (hA : I0 300 2 = nI a) (hB : I0 300 3 = nI bb) (ha : a < 2147483648) (h0 : 0 < bb) (hb : bb < 2147483648)
    {st : Nat → Nat} (hst : ∀ k, k < m → I0 300 (16 + k) = nI (st k)) (hs3 : ∀ k, k < m → st k < 1000000) {x : Nat} (hx : x < 2 ^ 64) (hJ : J0 200 3 = lN x) {s t : Nat} (hs : s < n) {z : xQu} (hz : VC n z)
    (kk : ∀ I, HQ 340 I0 (mb a bb st fi se x s z m).2.1 I → xRun xT 277 174 [(0, .ref 200), (2, .long (lN (mb a bb st fi se x s z m).1)), (4, .int (nI (mb a bb st fi se x s z m).2.1.length)), (5, .int (nI t))] [] (S, I, uJ J0 200 4 (lN (mb a bb st fi se x s z m).2.2), D, R) b Q) :
    ∀ (j i : Nat) (I : xI), i + j = m → HQ 340 I0 (mb a bb st fi se x s z i).2.1 I →
      xRun xT 277 58 [(0, .ref 200), (2, .long (lN (mb a bb st fi se x s z i).1)), (4, .int (nI (mb a bb st fi se x s z i).2.1.length)), (5, .int (nI t)), (6, .int (nI s)), (7, .int (nI i))] [] (S, I, uJ J0 200 4 (lN (mb a bb st fi se x s z i).2.2), D, R) b Q
  | 0, i, I, hi, h => by
    have hC := HQ_CM h hC0
    have g2 := hG.2.2.1
    have e : i = m := by omega
    subst e
    rw [e277_58]
    simp only [B277_58, xSeq, i_push, i_load, i_iload, i_lload, i_dload, i_aload, i_istore, i_astore, i_lstore, i_dstore, i_iinc, i_ii, i_iiz, i_ll, i_llz, i_lli, i_li, i_i, i_l, i_i2l, i_l2i, i_dup, i_dup2, i_dup2w, i_dupx1, i_pop, i_pop2, i_goto, i_ifc, i_icmp, i_getI, i_getL, i_getR, i_putI, i_putZ, i_putL, i_putR, i_aldI, i_aldB, i_aldL, i_aldD, i_astI, i_astL, i_astD, i_alen, i_ret, i_iret, i_zret, i_lret, i_fret, i_dret, i_aret, i_invS0, i_invV0, i_m2, i_m1, i_ml, i_obj, lk, lkp, stf1, stf2, Value.category, rV, xTo, lv_args, xCk, xCat, xRc, xAk, hg_S, hg_I, hg_J, hg_D, hg_R, hs_I, hs_J, hs_D, hs_R, uI_at, uJ_at, uD_at, uR_at, List.take_succ_cons, List.take_zero, List.drop_succ_cons, List.drop_zero, List.reverse_cons, List.reverse_nil, List.nil_append, List.cons_append, List.map_cons, List.map_nil, List.sum_cons, List.sum_nil, List.length_cons, List.length_nil, Option.toList_some, Option.toList_none, true_and, and_true, false_and, and_false, true_implies, false_implies, implies_true, not_true_eq_false, not_false_eq_true, ne_eq, if_true, if_false, Bool.and_true, Bool.true_and, decide_true, decide_false, reduceIte, reduceCtorEq, Bool.and_self, Bool.and_eq_true, decide_eq_true_eq, and_self, true_or, or_true, false_or, or_false, Nat.zero_add, Nat.add_zero, eq_self, Nat.reduceEqDiff, Nat.reduceLeDiff, Nat.reduceLT, Nat.reduceAdd, Nat.reduceSub, Nat.reduceMul, xi144_0, ix_0, xi144_1, ix_1, xi144_2, ix_2, xi144_3, ix_3, xi144_4, ix_4, xi144_5, ix_5, xi144_6, ix_6, xi144_7, ix_7, xi144_8, ix_8, xi144_9, ix_9, xi144_10, ix_10, LM_out hL, hC.2.1, nI_leP (show i < 2147483648 by omega) (show i < 2147483648 by omega), Nat.le_refl]
    exact kk I h
  | j + 1, k, I, hi, h => by
    have hC := HQ_CM h hC0
    have hk : k < m := by omega
    have hG' := hG
    have hC' := hC
    obtain ⟨g0, g1, g2, g3, g4, g5, g6⟩ := hG'
    obtain ⟨c1, c2, c3, c4, c5, c6⟩ := hC'
    have hw : 2 ^ n ≤ 2 ^ 64 := Nat.pow_le_pow_right (by decide) g1
    have h3 := g3 k hk
    have h4 := g4 k hk
    have ho : ot fi se s k < n := by
      unfold ot
      split
      · exact h4
      · exact h3
    have hv := mb_VC (a := a) (bb := bb) (st := st) (x := x) (s := s) hG hz k (by omega)
    have nx := fun I => L277_58 hL hG hC0 hA hB ha h0 hb hst hs3 hx hJ hs hz kk j (k + 1) I (by omega)
    rw [mb] at nx
    obtain ⟨y, hy⟩ : ∃ y, y = mb a bb st fi se x s z k := ⟨_, rfl⟩
    rw [← hy] at h hv nx ⊢
    have e279 := fun (J : xJ) (b : Nat × Nat) (Q : xQ) => R279 (S := S) (R := R) (I := I) (J := J) (D := D) (b := b) (Q := Q) hL hG hC hs hk
    obtain ⟨o, hO⟩ : ∃ o, o = ot fi se s k := ⟨_, rfl⟩
    have hvl := VC_len hv
    obtain ⟨v1, v2, v3, v4⟩ := hv
    have hst' := hst k hk
    have hs3' := hs3 k hk
    have f7 : I 300 2 = nI a := (h.2 _ _ (by decide)).trans hA
    have f8 : I 300 3 = nI bb := (h.2 _ _ (by decide)).trans hB
    have f1 : I 300 (16 + k) = nI (st k) := (h.2 _ _ (by decide)).trans hst'
    have e272 := fun (b : Nat × Nat) (Q : xQ) => R272 (S := S) (R := R) (I := I) (J := uJ J0 200 4 (lN y.2.2)) (D := D) (b := b) (Q := Q) hL f7 f8 ha h0 hb (show 2 * st k < 2147483648 by omega) v4 rfl
    have e280 := fun (b : Nat × Nat) (Q : xQ) => R280 (S := S) (R := R) (I := I) (J := uJ J0 200 4 (lN y.2.2)) (D := D) (b := b) (Q := Q) hL hG hC hx hJ hk
    unfold tr at nx
    rw [← hO] at nx ho e279
    obtain ⟨r, hr⟩ : ∃ r, r = pd a bb (2 * st k) y.2.2 := ⟨_, rfl⟩
    rw [← hr] at e272 nx
    have ap : (fi k = s ∨ se k = s) → xRun xT 277 97 [(0, .ref 200), (2, .long (lN y.1)), (4, .int (nI y.2.1.length)), (5, .int (nI t)), (6, .int (nI s)), (7, .int (nI k))] [] (S, I, uJ J0 200 4 (lN y.2.2), D, R) b Q := fun hat => by
      rw [if_pos hat] at nx
      rw [e277_97]
      simp only [B277_97, xSeq, i_push, i_load, i_iload, i_lload, i_dload, i_aload, i_istore, i_astore, i_lstore, i_dstore, i_iinc, i_ii, i_iiz, i_ll, i_llz, i_lli, i_li, i_i, i_l, i_i2l, i_l2i, i_dup, i_dup2, i_dup2w, i_dupx1, i_pop, i_pop2, i_goto, i_ifc, i_icmp, i_getI, i_getL, i_getR, i_putI, i_putZ, i_putL, i_putR, i_aldI, i_aldB, i_aldL, i_aldD, i_astI, i_astL, i_astD, i_alen, i_ret, i_iret, i_zret, i_lret, i_fret, i_dret, i_aret, i_invS0, i_invV0, i_m2, i_m1, i_ml, i_obj, lk, lkp, stf1, stf2, Value.category, rV, xTo, lv_args, xCk, xCat, xRc, xAk, hg_S, hg_I, hg_J, hg_D, hg_R, hs_I, hs_J, hs_D, hs_R, uI_at, uJ_at, uD_at, uR_at, List.take_succ_cons, List.take_zero, List.drop_succ_cons, List.drop_zero, List.reverse_cons, List.reverse_nil, List.nil_append, List.cons_append, List.map_cons, List.map_nil, List.sum_cons, List.sum_nil, List.length_cons, List.length_nil, Option.toList_some, Option.toList_none, true_and, and_true, false_and, and_false, true_implies, false_implies, implies_true, not_true_eq_false, not_false_eq_true, ne_eq, if_true, if_false, Bool.and_true, Bool.true_and, decide_true, decide_false, reduceIte, reduceCtorEq, Bool.and_self, Bool.and_eq_true, decide_eq_true_eq, and_self, true_or, or_true, false_or, or_false, Nat.zero_add, Nat.add_zero, eq_self, Nat.reduceEqDiff, Nat.reduceLeDiff, Nat.reduceLT, Nat.reduceAdd, Nat.reduceSub, Nat.reduceMul, xi144_0, ix_0, xi144_1, ix_1, xi144_2, ix_2, xi144_3, ix_3, xi144_4, ix_4, xi144_5, ix_5, xi144_6, ix_6, xi144_7, ix_7, xi144_8, ix_8, xi144_9, ix_9, xi144_10, ix_10, LM_out hL, e279, q_bits (show y.1 < 2 ^ 64 by omega) (show o < 64 by omega), q_cmp1, e280, nI_c16, nI_inP (show 16 + k < 144 by omega) (by decide), nI_ix (show 16 + k < 2147483648 by omega), f1, dbl, e272, uJ_uJ, e277_168, B277_168, e277_149, B277_149, nI_1, q_1shlL (show o < 64 by omega), q_or (show y.1 < 2 ^ 64 by omega) (Nat.pow_lt_pow_right (show 1 < 2 by decide) (show o < 64 by omega))]
      cases hb1 : y.1.testBit o
      · by_cases hb2 : x.testBit (fi k) = x.testBit (se k)
        · have hlt : y.2.1.length < n := by rw [v3]; exact ct_lt hb1 ho
          rw [if_pos ⟨hb1, hb2⟩] at nx
          simp only [hb2, true_and, and_true, false_and, and_false, true_implies, false_implies, implies_true, not_true_eq_false, not_false_eq_true, ne_eq, if_true, if_false, Bool.and_true, Bool.true_and, decide_true, decide_false, reduceIte, reduceCtorEq, Bool.and_self, Bool.and_eq_true, decide_eq_true_eq, and_self, true_or, or_true, false_or, or_false, Nat.zero_add, Nat.add_zero, eq_self, Nat.reduceEqDiff, Nat.reduceLeDiff, Nat.reduceLT, Nat.reduceAdd, Nat.reduceSub, Nat.reduceMul, i1_0]
          cases hr1 : r.1
          · rw [hr1, if_neg (by decide)] at nx
            simp only [true_and, and_true, false_and, and_false, true_implies, false_implies, implies_true, not_true_eq_false, not_false_eq_true, ne_eq, if_true, if_false, Bool.and_true, Bool.true_and, decide_true, decide_false, reduceIte, reduceCtorEq, Bool.and_self, Bool.and_eq_true, decide_eq_true_eq, and_self, true_or, or_true, false_or, or_false, Nat.zero_add, Nat.add_zero, eq_self, Nat.reduceEqDiff, Nat.reduceLeDiff, Nat.reduceLT, Nat.reduceAdd, Nat.reduceSub, Nat.reduceMul, nI_inP (show y.2.1.length < 64 by omega) (by decide), nI_ix (show y.2.1.length < 2147483648 by omega), nI_1]
            have e3 := nx _ (HQ_add h o)
            rw [show (y.2.1 ++ [o]).length = y.2.1.length + 1 by rw [List.length_append, List.length_singleton]] at e3
            exact e3
          · rw [hr1, if_pos rfl] at nx
            simp only [true_and, and_true, false_and, and_false, true_implies, false_implies, implies_true, not_true_eq_false, not_false_eq_true, ne_eq, if_true, if_false, Bool.and_true, Bool.true_and, decide_true, decide_false, reduceIte, reduceCtorEq, Bool.and_self, Bool.and_eq_true, decide_eq_true_eq, and_self, true_or, or_true, false_or, or_false, Nat.zero_add, Nat.add_zero, eq_self, Nat.reduceEqDiff, Nat.reduceLeDiff, Nat.reduceLT, Nat.reduceAdd, Nat.reduceSub, Nat.reduceMul, i1_0]
            exact nx _ h
        · rw [if_neg (fun e => hb2 e.2)] at nx
          simp only [hb2, true_and, and_true, false_and, and_false, true_implies, false_implies, implies_true, not_true_eq_false, not_false_eq_true, ne_eq, if_true, if_false, Bool.and_true, Bool.true_and, decide_true, decide_false, reduceIte, reduceCtorEq, Bool.and_self, Bool.and_eq_true, decide_eq_true_eq, and_self, true_or, or_true, false_or, or_false, Nat.zero_add, Nat.add_zero, eq_self, Nat.reduceEqDiff, Nat.reduceLeDiff, Nat.reduceLT, Nat.reduceAdd, Nat.reduceSub, Nat.reduceMul]
          exact nx _ h
      · rw [if_neg (fun e => absurd (hb1.symm.trans e.1) (by decide))] at nx
        simp only [true_and, and_true, false_and, and_false, true_implies, false_implies, implies_true, not_true_eq_false, not_false_eq_true, ne_eq, if_true, if_false, Bool.and_true, Bool.true_and, decide_true, decide_false, reduceIte, reduceCtorEq, Bool.and_self, Bool.and_eq_true, decide_eq_true_eq, and_self, true_or, or_true, false_or, or_false, Nat.zero_add, Nat.add_zero, eq_self, Nat.reduceEqDiff, Nat.reduceLeDiff, Nat.reduceLT, Nat.reduceAdd, Nat.reduceSub, Nat.reduceMul]
        exact nx _ h
    rw [e277_58]
    simp only [B277_58, xSeq, i_push, i_load, i_iload, i_lload, i_dload, i_aload, i_istore, i_astore, i_lstore, i_dstore, i_iinc, i_ii, i_iiz, i_ll, i_llz, i_lli, i_li, i_i, i_l, i_i2l, i_l2i, i_dup, i_dup2, i_dup2w, i_dupx1, i_pop, i_pop2, i_goto, i_ifc, i_icmp, i_getI, i_getL, i_getR, i_putI, i_putZ, i_putL, i_putR, i_aldI, i_aldB, i_aldL, i_aldD, i_astI, i_astL, i_astD, i_alen, i_ret, i_iret, i_zret, i_lret, i_fret, i_dret, i_aret, i_invS0, i_invV0, i_m2, i_m1, i_ml, i_obj, lk, lkp, stf1, stf2, Value.category, rV, xTo, lv_args, xCk, xCat, xRc, xAk, hg_S, hg_I, hg_J, hg_D, hg_R, hs_I, hs_J, hs_D, hs_R, uI_at, uJ_at, uD_at, uR_at, List.take_succ_cons, List.take_zero, List.drop_succ_cons, List.drop_zero, List.reverse_cons, List.reverse_nil, List.nil_append, List.cons_append, List.map_cons, List.map_nil, List.sum_cons, List.sum_nil, List.length_cons, List.length_nil, Option.toList_some, Option.toList_none, true_and, and_true, false_and, and_false, true_implies, false_implies, implies_true, not_true_eq_false, not_false_eq_true, ne_eq, if_true, if_false, Bool.and_true, Bool.true_and, decide_true, decide_false, reduceIte, reduceCtorEq, Bool.and_self, Bool.and_eq_true, decide_eq_true_eq, and_self, true_or, or_true, false_or, or_false, Nat.zero_add, Nat.add_zero, eq_self, Nat.reduceEqDiff, Nat.reduceLeDiff, Nat.reduceLT, Nat.reduceAdd, Nat.reduceSub, Nat.reduceMul, xi144_0, ix_0, xi144_1, ix_1, xi144_2, ix_2, xi144_3, ix_3, xi144_4, ix_4, xi144_5, ix_5, xi144_6, ix_6, xi144_7, ix_7, xi144_8, ix_8, xi144_9, ix_9, xi144_10, ix_10, LM_out hL, c2, nI_leP (show m < 2147483648 by omega) (show k < 2147483648 by omega), show (m ≤ k) = False from eq_false (by omega), nI_inP (show k < 128 by omega) (by decide), nI_ix (show k < 2147483648 by omega), c3 k hk, c4 k hk, nI_iff (show fi k < 2147483648 by omega) (show s < 2147483648 by omega), nI_iff (show se k < 2147483648 by omega) (show s < 2147483648 by omega)]
    by_cases hf : fi k = s
    · simp only [hf, true_and, and_true, false_and, and_false, true_implies, false_implies, implies_true, not_true_eq_false, not_false_eq_true, ne_eq, if_true, if_false, Bool.and_true, Bool.true_and, decide_true, decide_false, reduceIte, reduceCtorEq, Bool.and_self, Bool.and_eq_true, decide_eq_true_eq, and_self, true_or, or_true, false_or, or_false, Nat.zero_add, Nat.add_zero, eq_self, Nat.reduceEqDiff, Nat.reduceLeDiff, Nat.reduceLT, Nat.reduceAdd, Nat.reduceSub, Nat.reduceMul]
      exact ap (Or.inl hf)
    · by_cases hf2 : se k = s
      · simp only [hf, hf2, true_and, and_true, false_and, and_false, true_implies, false_implies, implies_true, not_true_eq_false, not_false_eq_true, ne_eq, if_true, if_false, Bool.and_true, Bool.true_and, decide_true, decide_false, reduceIte, reduceCtorEq, Bool.and_self, Bool.and_eq_true, decide_eq_true_eq, and_self, true_or, or_true, false_or, or_false, Nat.zero_add, Nat.add_zero, eq_self, Nat.reduceEqDiff, Nat.reduceLeDiff, Nat.reduceLT, Nat.reduceAdd, Nat.reduceSub, Nat.reduceMul]
        exact ap (Or.inr hf2)
      · rw [if_neg (fun e => e.elim hf hf2)] at nx
        simp only [hf, hf2, true_and, and_true, false_and, and_false, true_implies, false_implies, implies_true, not_true_eq_false, not_false_eq_true, ne_eq, if_true, if_false, Bool.and_true, Bool.true_and, decide_true, decide_false, reduceIte, reduceCtorEq, Bool.and_self, Bool.and_eq_true, decide_eq_true_eq, and_self, true_or, or_true, false_or, or_false, Nat.zero_add, Nat.add_zero, eq_self, Nat.reduceEqDiff, Nat.reduceLeDiff, Nat.reduceLT, Nat.reduceAdd, Nat.reduceSub, Nat.reduceMul, e277_168, B277_168, nI_1, xSeq, i_push, i_load, i_iload, i_lload, i_dload, i_aload, i_istore, i_astore, i_lstore, i_dstore, i_iinc, i_ii, i_iiz, i_ll, i_llz, i_lli, i_li, i_i, i_l, i_i2l, i_l2i, i_dup, i_dup2, i_dup2w, i_dupx1, i_pop, i_pop2, i_goto, i_ifc, i_icmp, i_getI, i_getL, i_getR, i_putI, i_putZ, i_putL, i_putR, i_aldI, i_aldB, i_aldL, i_aldD, i_astI, i_astL, i_astD, i_alen, i_ret, i_iret, i_zret, i_lret, i_fret, i_dret, i_aret, i_invS0, i_invV0, i_m2, i_m1, i_ml, i_obj, lk, lkp, stf1, stf2, Value.category, rV, xTo, lv_args, xCk, xCat, xRc, xAk, hg_S, hg_I, hg_J, hg_D, hg_R, hs_I, hs_J, hs_D, hs_R, uI_at, uJ_at, uD_at, uR_at, List.take_succ_cons, List.take_zero, List.drop_succ_cons, List.drop_zero, List.reverse_cons, List.reverse_nil, List.nil_append, List.cons_append, List.map_cons, List.map_nil, List.sum_cons, List.sum_nil, List.length_cons, List.length_nil, Option.toList_some, Option.toList_none, true_and, and_true, false_and, and_false, true_implies, false_implies, implies_true, not_true_eq_false, not_false_eq_true, ne_eq, if_true, if_false, Bool.and_true, Bool.true_and, decide_true, decide_false, reduceIte, reduceCtorEq, Bool.and_self, Bool.and_eq_true, decide_eq_true_eq, and_self, true_or, or_true, false_or, or_false, Nat.zero_add, Nat.add_zero, eq_self, Nat.reduceEqDiff, Nat.reduceLeDiff, Nat.reduceLT, Nat.reduceAdd, Nat.reduceSub, Nat.reduceMul]
        exact nx _ h
theorem L277_39 {I0 : xI} {J0 : xJ} (hL : LM S R) (hG : GR n m fi se dg sb) (hC0 : CM I0 n m fi se dg sb) {a bb : Nat} (hA : I0 300 2 = nI a) (hB : I0 300 3 = nI bb) (ha : a < 2147483648) (h0 : 0 < bb) (hb : bb < 2147483648)
    {st : Nat → Nat} (hst : ∀ k, k < m → I0 300 (16 + k) = nI (st k)) (hs3 : ∀ k, k < m → st k < 1000000) {x : Nat} (hx : x < 2 ^ 64) (hJ : J0 200 3 = lN x) {Z : xQu}
    (kk : ∀ I, HQ 340 I0 Z.2.1 I → xRun xT 277 180 [(0, .ref 200), (2, .long (lN Z.1)), (4, .int (nI Z.2.1.length))] [] (S, I, uJ J0 200 4 (lN Z.2.2), D, R) b Q) :
    ∀ (j t : Nat) (z : xQu) (I : xI), t + j = 64 → VC n z → HQ 340 I0 z.2.1 I → cq (fun s z => mb a bb st fi se x s z m) j t z = Z →
      xRun xT 277 39 [(0, .ref 200), (2, .long (lN z.1)), (4, .int (nI z.2.1.length)), (5, .int (nI t))] [] (S, I, uJ J0 200 4 (lN z.2.2), D, R) b Q
  | 0, t, z, I, ht, hz, h, e => by
    have hl := VC_len hz
    have g1 := hG.2.1
    rw [cq] at e
    rw [← e] at kk
    rw [e277_39]
    simp only [B277_39, xSeq, i_push, i_load, i_iload, i_lload, i_dload, i_aload, i_istore, i_astore, i_lstore, i_dstore, i_iinc, i_ii, i_iiz, i_ll, i_llz, i_lli, i_li, i_i, i_l, i_i2l, i_l2i, i_dup, i_dup2, i_dup2w, i_dupx1, i_pop, i_pop2, i_goto, i_ifc, i_icmp, i_getI, i_getL, i_getR, i_putI, i_putZ, i_putL, i_putR, i_aldI, i_aldB, i_aldL, i_aldD, i_astI, i_astL, i_astD, i_alen, i_ret, i_iret, i_zret, i_lret, i_fret, i_dret, i_aret, i_invS0, i_invV0, i_m2, i_m1, i_ml, i_obj, lk, lkp, stf1, stf2, Value.category, rV, xTo, lv_args, xCk, xCat, xRc, xAk, hg_S, hg_I, hg_J, hg_D, hg_R, hs_I, hs_J, hs_D, hs_R, uI_at, uJ_at, uD_at, uR_at, List.take_succ_cons, List.take_zero, List.drop_succ_cons, List.drop_zero, List.reverse_cons, List.reverse_nil, List.nil_append, List.cons_append, List.map_cons, List.map_nil, List.sum_cons, List.sum_nil, List.length_cons, List.length_nil, Option.toList_some, Option.toList_none, true_and, and_true, false_and, and_false, true_implies, false_implies, implies_true, not_true_eq_false, not_false_eq_true, ne_eq, if_true, if_false, Bool.and_true, Bool.true_and, decide_true, decide_false, reduceIte, reduceCtorEq, Bool.and_self, Bool.and_eq_true, decide_eq_true_eq, and_self, true_or, or_true, false_or, or_false, Nat.zero_add, Nat.add_zero, eq_self, Nat.reduceEqDiff, Nat.reduceLeDiff, Nat.reduceLT, Nat.reduceAdd, Nat.reduceSub, Nat.reduceMul, LM_out hL, nI_leP (show z.2.1.length < 2147483648 by omega) (show t < 2147483648 by omega), show (z.2.1.length ≤ t) = True from eq_true (by omega)]
    exact kk I h
  | j + 1, t, z, I, ht, hz, h, e => by
    have hl := VC_len hz
    have g1 := hG.2.1
    rw [cq] at e
    rw [e277_39]
    by_cases hlt : t < z.2.1.length
    · have hs := hz.2.1 t hlt
      rw [if_pos hlt] at e
      simp only [B277_39, xSeq, i_push, i_load, i_iload, i_lload, i_dload, i_aload, i_istore, i_astore, i_lstore, i_dstore, i_iinc, i_ii, i_iiz, i_ll, i_llz, i_lli, i_li, i_i, i_l, i_i2l, i_l2i, i_dup, i_dup2, i_dup2w, i_dupx1, i_pop, i_pop2, i_goto, i_ifc, i_icmp, i_getI, i_getL, i_getR, i_putI, i_putZ, i_putL, i_putR, i_aldI, i_aldB, i_aldL, i_aldD, i_astI, i_astL, i_astD, i_alen, i_ret, i_iret, i_zret, i_lret, i_fret, i_dret, i_aret, i_invS0, i_invV0, i_m2, i_m1, i_ml, i_obj, lk, lkp, stf1, stf2, Value.category, rV, xTo, lv_args, xCk, xCat, xRc, xAk, hg_S, hg_I, hg_J, hg_D, hg_R, hs_I, hs_J, hs_D, hs_R, uI_at, uJ_at, uD_at, uR_at, List.take_succ_cons, List.take_zero, List.drop_succ_cons, List.drop_zero, List.reverse_cons, List.reverse_nil, List.nil_append, List.cons_append, List.map_cons, List.map_nil, List.sum_cons, List.sum_nil, List.length_cons, List.length_nil, Option.toList_some, Option.toList_none, true_and, and_true, false_and, and_false, true_implies, false_implies, implies_true, not_true_eq_false, not_false_eq_true, ne_eq, if_true, if_false, Bool.and_true, Bool.true_and, decide_true, decide_false, reduceIte, reduceCtorEq, Bool.and_self, Bool.and_eq_true, decide_eq_true_eq, and_self, true_or, or_true, false_or, or_false, Nat.zero_add, Nat.add_zero, eq_self, Nat.reduceEqDiff, Nat.reduceLeDiff, Nat.reduceLT, Nat.reduceAdd, Nat.reduceSub, Nat.reduceMul, LM_out hL, nI_leP (show z.2.1.length < 2147483648 by omega) (show t < 2147483648 by omega), show (z.2.1.length ≤ t) = False from eq_false (by omega), nI_inP (show t < 64 by omega) (by decide), nI_ix (show t < 2147483648 by omega), h.1 t hlt]
      refine L277_58 hL hG hC0 hA hB ha h0 hb hst hs3 hx hJ hs hz (fun I' h' => ?_) m 0 I (by omega) h
      rw [e277_174]
      simp only [B277_174, xSeq, i_push, i_load, i_iload, i_lload, i_dload, i_aload, i_istore, i_astore, i_lstore, i_dstore, i_iinc, i_ii, i_iiz, i_ll, i_llz, i_lli, i_li, i_i, i_l, i_i2l, i_l2i, i_dup, i_dup2, i_dup2w, i_dupx1, i_pop, i_pop2, i_goto, i_ifc, i_icmp, i_getI, i_getL, i_getR, i_putI, i_putZ, i_putL, i_putR, i_aldI, i_aldB, i_aldL, i_aldD, i_astI, i_astL, i_astD, i_alen, i_ret, i_iret, i_zret, i_lret, i_fret, i_dret, i_aret, i_invS0, i_invV0, i_m2, i_m1, i_ml, i_obj, lk, lkp, stf1, stf2, Value.category, rV, xTo, lv_args, xCk, xCat, xRc, xAk, hg_S, hg_I, hg_J, hg_D, hg_R, hs_I, hs_J, hs_D, hs_R, uI_at, uJ_at, uD_at, uR_at, List.take_succ_cons, List.take_zero, List.drop_succ_cons, List.drop_zero, List.reverse_cons, List.reverse_nil, List.nil_append, List.cons_append, List.map_cons, List.map_nil, List.sum_cons, List.sum_nil, List.length_cons, List.length_nil, Option.toList_some, Option.toList_none, true_and, and_true, false_and, and_false, true_implies, false_implies, implies_true, not_true_eq_false, not_false_eq_true, ne_eq, if_true, if_false, Bool.and_true, Bool.true_and, decide_true, decide_false, reduceIte, reduceCtorEq, Bool.and_self, Bool.and_eq_true, decide_eq_true_eq, and_self, true_or, or_true, false_or, or_false, Nat.zero_add, Nat.add_zero, eq_self, Nat.reduceEqDiff, Nat.reduceLeDiff, Nat.reduceLT, Nat.reduceAdd, Nat.reduceSub, Nat.reduceMul, nI_1]
      exact L277_39 hL hG hC0 hA hB ha h0 hb hst hs3 hx hJ kk j (t + 1) _ I' (by omega) (mb_VC hG hz _ (Nat.le_refl _)) h' e
    · rw [if_neg hlt] at e
      rw [← e] at kk
      simp only [B277_39, xSeq, i_push, i_load, i_iload, i_lload, i_dload, i_aload, i_istore, i_astore, i_lstore, i_dstore, i_iinc, i_ii, i_iiz, i_ll, i_llz, i_lli, i_li, i_i, i_l, i_i2l, i_l2i, i_dup, i_dup2, i_dup2w, i_dupx1, i_pop, i_pop2, i_goto, i_ifc, i_icmp, i_getI, i_getL, i_getR, i_putI, i_putZ, i_putL, i_putR, i_aldI, i_aldB, i_aldL, i_aldD, i_astI, i_astL, i_astD, i_alen, i_ret, i_iret, i_zret, i_lret, i_fret, i_dret, i_aret, i_invS0, i_invV0, i_m2, i_m1, i_ml, i_obj, lk, lkp, stf1, stf2, Value.category, rV, xTo, lv_args, xCk, xCat, xRc, xAk, hg_S, hg_I, hg_J, hg_D, hg_R, hs_I, hs_J, hs_D, hs_R, uI_at, uJ_at, uD_at, uR_at, List.take_succ_cons, List.take_zero, List.drop_succ_cons, List.drop_zero, List.reverse_cons, List.reverse_nil, List.nil_append, List.cons_append, List.map_cons, List.map_nil, List.sum_cons, List.sum_nil, List.length_cons, List.length_nil, Option.toList_some, Option.toList_none, true_and, and_true, false_and, and_false, true_implies, false_implies, implies_true, not_true_eq_false, not_false_eq_true, ne_eq, if_true, if_false, Bool.and_true, Bool.true_and, decide_true, decide_false, reduceIte, reduceCtorEq, Bool.and_self, Bool.and_eq_true, decide_eq_true_eq, and_self, true_or, or_true, false_or, or_false, Nat.zero_add, Nat.add_zero, eq_self, Nat.reduceEqDiff, Nat.reduceLeDiff, Nat.reduceLT, Nat.reduceAdd, Nat.reduceSub, Nat.reduceMul, LM_out hL, nI_leP (show z.2.1.length < 2147483648 by omega) (show t < 2147483648 by omega), show (z.2.1.length ≤ t) = True from eq_true (by omega)]
      exact kk I h
theorem L277_22 {J : xJ} (hL : LM S R) (hG : GR n m fi se dg sb) (hC : CM I n m fi se dg sb) {a bb : Nat} (hA : I 300 2 = nI a) (hB : I 300 3 = nI bb) (ha : a < 2147483648) (h0 : 0 < bb) (hb : bb < 2147483648)
    {st : Nat → Nat} (hst : ∀ k, k < m → I 300 (16 + k) = nI (st k)) (hs3 : ∀ k, k < m → st k < 1000000) {x g : Nat} (hx : x < 2 ^ 64) (hJ : J 200 3 = lN x) (hg : g < 2147483648) (hJ2 : J 200 4 = lN g) {s : Nat} (hs : s < n) {Z : xQu} (hZ : cq (fun s z => mb a bb st fi se x s z m) 64 0 (2 ^ s, [s], g) = Z)
    (kk : ∀ I', (∀ o k, o ≠ 340 → I' o k = I o k) → Q (.ok (some (.int (nI Z.2.1.length)))) (S, I', uJ (uJ J 200 4 (lN Z.2.2)) 200 3 (lN (x ^^^ Z.1)), D, R) b) :
    xRun xT 277 22 [(0, .ref 200), (1, .int (nI s))] [] (S, I, J, D, R) b Q := by
  have g1 := hG.2.1
  have hq : HQ 340 I [s] (uI I 340 0 (nI s)) := HQ_add (q := []) ⟨fun j hj => absurd hj (Nat.not_lt_zero _), fun _ _ _ => rfl⟩ s
  have hr := L277_39 (S := S) (R := R) (D := D) (b := b) (Q := Q) hL hG hC hA hB ha h0 hb hst hs3 hx hJ (Z := Z) (fun I' h' => by
    have e2 : uJ J 200 4 (lN Z.2.2) 200 3 = lN x := hJ
    rw [e277_180]
    simp only [B277_180, xSeq, i_push, i_load, i_iload, i_lload, i_dload, i_aload, i_istore, i_astore, i_lstore, i_dstore, i_iinc, i_ii, i_iiz, i_ll, i_llz, i_lli, i_li, i_i, i_l, i_i2l, i_l2i, i_dup, i_dup2, i_dup2w, i_dupx1, i_pop, i_pop2, i_goto, i_ifc, i_icmp, i_getI, i_getL, i_getR, i_putI, i_putZ, i_putL, i_putR, i_aldI, i_aldB, i_aldL, i_aldD, i_astI, i_astL, i_astD, i_alen, i_ret, i_iret, i_zret, i_lret, i_fret, i_dret, i_aret, i_invS0, i_invV0, i_m2, i_m1, i_ml, i_obj, lk, lkp, stf1, stf2, Value.category, rV, xTo, lv_args, xCk, xCat, xRc, xAk, hg_S, hg_I, hg_J, hg_D, hg_R, hs_I, hs_J, hs_D, hs_R, uI_at, uJ_at, uD_at, uR_at, List.take_succ_cons, List.take_zero, List.drop_succ_cons, List.drop_zero, List.reverse_cons, List.reverse_nil, List.nil_append, List.cons_append, List.map_cons, List.map_nil, List.sum_cons, List.sum_nil, List.length_cons, List.length_nil, Option.toList_some, Option.toList_none, true_and, and_true, false_and, and_false, true_implies, false_implies, implies_true, not_true_eq_false, not_false_eq_true, ne_eq, if_true, if_false, Bool.and_true, Bool.true_and, decide_true, decide_false, reduceIte, reduceCtorEq, Bool.and_self, Bool.and_eq_true, decide_eq_true_eq, and_self, true_or, or_true, false_or, or_false, Nat.zero_add, Nat.add_zero, eq_self, Nat.reduceEqDiff, Nat.reduceLeDiff, Nat.reduceLT, Nat.reduceAdd, Nat.reduceSub, Nat.reduceMul, LM_out hL, e2, hJ, q_xor]
    exact kk I' h'.2) 64 0 (2 ^ s, [s], g) _ (by omega) (VC_0 hs hg) hq hZ
  have e5 : uJ J 200 4 (lN (2 ^ s, [s], g).2.2) = J := uJ_same hJ2
  rw [e5] at hr
  rw [e277_22]
  simp only [B277_22, xSeq, i_push, i_load, i_iload, i_lload, i_dload, i_aload, i_istore, i_astore, i_lstore, i_dstore, i_iinc, i_ii, i_iiz, i_ll, i_llz, i_lli, i_li, i_i, i_l, i_i2l, i_l2i, i_dup, i_dup2, i_dup2w, i_dupx1, i_pop, i_pop2, i_goto, i_ifc, i_icmp, i_getI, i_getL, i_getR, i_putI, i_putZ, i_putL, i_putR, i_aldI, i_aldB, i_aldL, i_aldD, i_astI, i_astL, i_astD, i_alen, i_ret, i_iret, i_zret, i_lret, i_fret, i_dret, i_aret, i_invS0, i_invV0, i_m2, i_m1, i_ml, i_obj, lk, lkp, stf1, stf2, Value.category, rV, xTo, lv_args, xCk, xCat, xRc, xAk, hg_S, hg_I, hg_J, hg_D, hg_R, hs_I, hs_J, hs_D, hs_R, uI_at, uJ_at, uD_at, uR_at, List.take_succ_cons, List.take_zero, List.drop_succ_cons, List.drop_zero, List.reverse_cons, List.reverse_nil, List.nil_append, List.cons_append, List.map_cons, List.map_nil, List.sum_cons, List.sum_nil, List.length_cons, List.length_nil, Option.toList_some, Option.toList_none, true_and, and_true, false_and, and_false, true_implies, false_implies, implies_true, not_true_eq_false, not_false_eq_true, ne_eq, if_true, if_false, Bool.and_true, Bool.true_and, decide_true, decide_false, reduceIte, reduceCtorEq, Bool.and_self, Bool.and_eq_true, decide_eq_true_eq, and_self, true_or, or_true, false_or, or_false, Nat.zero_add, Nat.add_zero, eq_self, Nat.reduceEqDiff, Nat.reduceLeDiff, Nat.reduceLT, Nat.reduceAdd, Nat.reduceSub, Nat.reduceMul, LM_out hL, q_1shlL (show s < 64 by omega), xI64_0, ix_0]
  exact hr
/-- no strength below 0 and no field -/
theorem R86_2 (hL : LC S R) (hC : I 102 3 = nI m) (hm : m ≤ 128) (hF : I 110 6 = 0) (hst : ∀ k, k < m → 0 ≤ I 111 k) : ∀ (j i : Nat), i + j = m → xRun xT 86 2 [(0, .ref 110), (1, .int (nI i))] [] (S, I, J, D, R) b Q = Q (.ok (some (.int 1))) (S, I, J, D, R) b
  | 0, i, hi => by
    have e : i = m := by omega
    subst e
    rw [e86_2]
    simp only [B86_2, xSeq, i_push, i_load, i_iload, i_lload, i_dload, i_aload, i_istore, i_astore, i_lstore, i_dstore, i_iinc, i_ii, i_iiz, i_ll, i_llz, i_lli, i_li, i_i, i_l, i_i2l, i_l2i, i_dup, i_dup2, i_dup2w, i_dupx1, i_pop, i_pop2, i_goto, i_ifc, i_icmp, i_getI, i_getL, i_getR, i_putI, i_putZ, i_putL, i_putR, i_aldI, i_aldB, i_aldL, i_aldD, i_astI, i_astL, i_astD, i_alen, i_ret, i_iret, i_zret, i_lret, i_fret, i_dret, i_aret, i_invS0, i_invV0, i_m2, i_m1, i_ml, i_obj, lk, lkp, stf1, stf2, Value.category, rV, xTo, lv_args, xCk, xCat, xRc, xAk, hg_S, hg_I, hg_J, hg_D, hg_R, hs_I, hs_J, hs_D, hs_R, uI_at, uJ_at, uD_at, uR_at, List.take_succ_cons, List.take_zero, List.drop_succ_cons, List.drop_zero, List.reverse_cons, List.reverse_nil, List.nil_append, List.cons_append, List.map_cons, List.map_nil, List.sum_cons, List.sum_nil, List.length_cons, List.length_nil, Option.toList_some, Option.toList_none, true_and, and_true, false_and, and_false, true_implies, false_implies, implies_true, not_true_eq_false, not_false_eq_true, ne_eq, if_true, if_false, Bool.and_true, Bool.true_and, decide_true, decide_false, reduceIte, reduceCtorEq, Bool.and_self, Bool.and_eq_true, decide_eq_true_eq, and_self, true_or, or_true, false_or, or_false, Nat.zero_add, Nat.add_zero, eq_self, Nat.reduceEqDiff, Nat.reduceLeDiff, Nat.reduceLT, Nat.reduceAdd, Nat.reduceSub, Nat.reduceMul, LC_out hL, hC, nI_leP (show i < 2147483648 by omega) (show i < 2147483648 by omega), Nat.le_refl, e86_30, B86_30, hF, e86_42, B86_42]
  | j + 1, i, hi => by
    have h := R86_2 hL hC hm hF hst j (i + 1) (by omega)
    rw [e86_2]
    simp only [B86_2, xSeq, i_push, i_load, i_iload, i_lload, i_dload, i_aload, i_istore, i_astore, i_lstore, i_dstore, i_iinc, i_ii, i_iiz, i_ll, i_llz, i_lli, i_li, i_i, i_l, i_i2l, i_l2i, i_dup, i_dup2, i_dup2w, i_dupx1, i_pop, i_pop2, i_goto, i_ifc, i_icmp, i_getI, i_getL, i_getR, i_putI, i_putZ, i_putL, i_putR, i_aldI, i_aldB, i_aldL, i_aldD, i_astI, i_astL, i_astD, i_alen, i_ret, i_iret, i_zret, i_lret, i_fret, i_dret, i_aret, i_invS0, i_invV0, i_m2, i_m1, i_ml, i_obj, lk, lkp, stf1, stf2, Value.category, rV, xTo, lv_args, xCk, xCat, xRc, xAk, hg_S, hg_I, hg_J, hg_D, hg_R, hs_I, hs_J, hs_D, hs_R, uI_at, uJ_at, uD_at, uR_at, List.take_succ_cons, List.take_zero, List.drop_succ_cons, List.drop_zero, List.reverse_cons, List.reverse_nil, List.nil_append, List.cons_append, List.map_cons, List.map_nil, List.sum_cons, List.sum_nil, List.length_cons, List.length_nil, Option.toList_some, Option.toList_none, true_and, and_true, false_and, and_false, true_implies, false_implies, implies_true, not_true_eq_false, not_false_eq_true, ne_eq, if_true, if_false, Bool.and_true, Bool.true_and, decide_true, decide_false, reduceIte, reduceCtorEq, Bool.and_self, Bool.and_eq_true, decide_eq_true_eq, and_self, true_or, or_true, false_or, or_false, Nat.zero_add, Nat.add_zero, eq_self, Nat.reduceEqDiff, Nat.reduceLeDiff, Nat.reduceLT, Nat.reduceAdd, Nat.reduceSub, Nat.reduceMul, LC_out hL, hC, nI_leP (show m < 2147483648 by omega) (show i < 2147483648 by omega), show (m ≤ i) = False from eq_false (by omega), nI_inP (show i < 128 by omega) (by decide), nI_ix (show i < 2147483648 by omega), show (0 ≤ I 111 i) = True from eq_true (hst i (by omega)), e86_24, B86_24, nI_1, h]
theorem P165 (hL : LC S R) (hC : I 102 3 = nI m) (hm : m ≤ 128) (hF : I 110 6 = 0) (hst : ∀ k, k < m → 0 ≤ I 111 k) : xRun xT 165 0 [(0, .ref 100)] [] (S, I, J, D, R) b Q = Q (.ok none) (S, I, J, D, R) b := by
  have h := fun (b : Nat × Nat) (Q : xQ) => R86_2 (S := S) (R := R) (J := J) (D := D) (b := b) (Q := Q) hL hC hm hF hst m 0 (by omega)
  have h2 : ∀ (b : Nat × Nat) (Q : xQ), xRun xT 86 0 [(0, .ref 110)] [] (S, I, J, D, R) b Q = Q (.ok (some (.int 1))) (S, I, J, D, R) b := fun b Q => by
    rw [e86_0]
    simp only [B86_0, xSeq, i_push, i_load, i_iload, i_lload, i_dload, i_aload, i_istore, i_astore, i_lstore, i_dstore, i_iinc, i_ii, i_iiz, i_ll, i_llz, i_lli, i_li, i_i, i_l, i_i2l, i_l2i, i_dup, i_dup2, i_dup2w, i_dupx1, i_pop, i_pop2, i_goto, i_ifc, i_icmp, i_getI, i_getL, i_getR, i_putI, i_putZ, i_putL, i_putR, i_aldI, i_aldB, i_aldL, i_aldD, i_astI, i_astL, i_astD, i_alen, i_ret, i_iret, i_zret, i_lret, i_fret, i_dret, i_aret, i_invS0, i_invV0, i_m2, i_m1, i_ml, i_obj, lk, lkp, stf1, stf2, Value.category, rV, xTo, lv_args, xCk, xCat, xRc, xAk, hg_S, hg_I, hg_J, hg_D, hg_R, hs_I, hs_J, hs_D, hs_R, uI_at, uJ_at, uD_at, uR_at, List.take_succ_cons, List.take_zero, List.drop_succ_cons, List.drop_zero, List.reverse_cons, List.reverse_nil, List.nil_append, List.cons_append, List.map_cons, List.map_nil, List.sum_cons, List.sum_nil, List.length_cons, List.length_nil, Option.toList_some, Option.toList_none, true_and, and_true, false_and, and_false, true_implies, false_implies, implies_true, not_true_eq_false, not_false_eq_true, ne_eq, if_true, if_false, Bool.and_true, Bool.true_and, decide_true, decide_false, reduceIte, reduceCtorEq, Bool.and_self, Bool.and_eq_true, decide_eq_true_eq, and_self, true_or, or_true, false_or, or_false, Nat.zero_add, Nat.add_zero, eq_self, Nat.reduceEqDiff, Nat.reduceLeDiff, Nat.reduceLT, Nat.reduceAdd, Nat.reduceSub, Nat.reduceMul]
    exact h b Q
  rw [e165_0]
  simp only [B165_0, xSeq, i_push, i_load, i_iload, i_lload, i_dload, i_aload, i_istore, i_astore, i_lstore, i_dstore, i_iinc, i_ii, i_iiz, i_ll, i_llz, i_lli, i_li, i_i, i_l, i_i2l, i_l2i, i_dup, i_dup2, i_dup2w, i_dupx1, i_pop, i_pop2, i_goto, i_ifc, i_icmp, i_getI, i_getL, i_getR, i_putI, i_putZ, i_putL, i_putR, i_aldI, i_aldB, i_aldL, i_aldD, i_astI, i_astL, i_astD, i_alen, i_ret, i_iret, i_zret, i_lret, i_fret, i_dret, i_aret, i_invS0, i_invV0, i_m2, i_m1, i_ml, i_obj, lk, lkp, stf1, stf2, Value.category, rV, xTo, lv_args, xCk, xCat, xRc, xAk, hg_S, hg_I, hg_J, hg_D, hg_R, hs_I, hs_J, hs_D, hs_R, uI_at, uJ_at, uD_at, uR_at, List.take_succ_cons, List.take_zero, List.drop_succ_cons, List.drop_zero, List.reverse_cons, List.reverse_nil, List.nil_append, List.cons_append, List.map_cons, List.map_nil, List.sum_cons, List.sum_nil, List.length_cons, List.length_nil, Option.toList_some, Option.toList_none, true_and, and_true, false_and, and_false, true_implies, false_implies, implies_true, not_true_eq_false, not_false_eq_true, ne_eq, if_true, if_false, Bool.and_true, Bool.true_and, decide_true, decide_false, reduceIte, reduceCtorEq, Bool.and_self, Bool.and_eq_true, decide_eq_true_eq, and_self, true_or, or_true, false_or, or_false, Nat.zero_add, Nat.add_zero, eq_self, Nat.reduceEqDiff, Nat.reduceLeDiff, Nat.reduceLT, Nat.reduceAdd, Nat.reduceSub, Nat.reduceMul, LC_out hL, h2, e165_20, B165_20, i1_0]
theorem R278_2 (hL : LM S R) (hC : I 300 8 = nI m) (hm : m ≤ 128) (hF : I 300 4 = 0) (hst : ∀ k, k < m → 0 ≤ I 300 (16 + k)) : ∀ (j i : Nat), i + j = m → xRun xT 278 2 [(0, .ref 200), (1, .int (nI i))] [] (S, I, J, D, R) b Q = Q (.ok (some (.int 0))) (S, I, J, D, R) b
  | 0, i, hi => by
    have e : i = m := by omega
    subst e
    rw [e278_2]
    simp only [B278_2, xSeq, i_push, i_load, i_iload, i_lload, i_dload, i_aload, i_istore, i_astore, i_lstore, i_dstore, i_iinc, i_ii, i_iiz, i_ll, i_llz, i_lli, i_li, i_i, i_l, i_i2l, i_l2i, i_dup, i_dup2, i_dup2w, i_dupx1, i_pop, i_pop2, i_goto, i_ifc, i_icmp, i_getI, i_getL, i_getR, i_putI, i_putZ, i_putL, i_putR, i_aldI, i_aldB, i_aldL, i_aldD, i_astI, i_astL, i_astD, i_alen, i_ret, i_iret, i_zret, i_lret, i_fret, i_dret, i_aret, i_invS0, i_invV0, i_m2, i_m1, i_ml, i_obj, lk, lkp, stf1, stf2, Value.category, rV, xTo, lv_args, xCk, xCat, xRc, xAk, hg_S, hg_I, hg_J, hg_D, hg_R, hs_I, hs_J, hs_D, hs_R, uI_at, uJ_at, uD_at, uR_at, List.take_succ_cons, List.take_zero, List.drop_succ_cons, List.drop_zero, List.reverse_cons, List.reverse_nil, List.nil_append, List.cons_append, List.map_cons, List.map_nil, List.sum_cons, List.sum_nil, List.length_cons, List.length_nil, Option.toList_some, Option.toList_none, true_and, and_true, false_and, and_false, true_implies, false_implies, implies_true, not_true_eq_false, not_false_eq_true, ne_eq, if_true, if_false, Bool.and_true, Bool.true_and, decide_true, decide_false, reduceIte, reduceCtorEq, Bool.and_self, Bool.and_eq_true, decide_eq_true_eq, and_self, true_or, or_true, false_or, or_false, Nat.zero_add, Nat.add_zero, eq_self, Nat.reduceEqDiff, Nat.reduceLeDiff, Nat.reduceLT, Nat.reduceAdd, Nat.reduceSub, Nat.reduceMul, xi144_0, ix_0, xi144_1, ix_1, xi144_2, ix_2, xi144_3, ix_3, xi144_4, ix_4, xi144_5, ix_5, xi144_6, ix_6, xi144_7, ix_7, xi144_8, ix_8, xi144_9, ix_9, xi144_10, ix_10, LM_out hL, hC, nI_leP (show i < 2147483648 by omega) (show i < 2147483648 by omega), Nat.le_refl, e278_33, B278_33, hF, e278_46, B278_46, e278_47, B278_47]
  | j + 1, i, hi => by
    have h := R278_2 hL hC hm hF hst j (i + 1) (by omega)
    rw [e278_2]
    simp only [B278_2, xSeq, i_push, i_load, i_iload, i_lload, i_dload, i_aload, i_istore, i_astore, i_lstore, i_dstore, i_iinc, i_ii, i_iiz, i_ll, i_llz, i_lli, i_li, i_i, i_l, i_i2l, i_l2i, i_dup, i_dup2, i_dup2w, i_dupx1, i_pop, i_pop2, i_goto, i_ifc, i_icmp, i_getI, i_getL, i_getR, i_putI, i_putZ, i_putL, i_putR, i_aldI, i_aldB, i_aldL, i_aldD, i_astI, i_astL, i_astD, i_alen, i_ret, i_iret, i_zret, i_lret, i_fret, i_dret, i_aret, i_invS0, i_invV0, i_m2, i_m1, i_ml, i_obj, lk, lkp, stf1, stf2, Value.category, rV, xTo, lv_args, xCk, xCat, xRc, xAk, hg_S, hg_I, hg_J, hg_D, hg_R, hs_I, hs_J, hs_D, hs_R, uI_at, uJ_at, uD_at, uR_at, List.take_succ_cons, List.take_zero, List.drop_succ_cons, List.drop_zero, List.reverse_cons, List.reverse_nil, List.nil_append, List.cons_append, List.map_cons, List.map_nil, List.sum_cons, List.sum_nil, List.length_cons, List.length_nil, Option.toList_some, Option.toList_none, true_and, and_true, false_and, and_false, true_implies, false_implies, implies_true, not_true_eq_false, not_false_eq_true, ne_eq, if_true, if_false, Bool.and_true, Bool.true_and, decide_true, decide_false, reduceIte, reduceCtorEq, Bool.and_self, Bool.and_eq_true, decide_eq_true_eq, and_self, true_or, or_true, false_or, or_false, Nat.zero_add, Nat.add_zero, eq_self, Nat.reduceEqDiff, Nat.reduceLeDiff, Nat.reduceLT, Nat.reduceAdd, Nat.reduceSub, Nat.reduceMul, xi144_0, ix_0, xi144_1, ix_1, xi144_2, ix_2, xi144_3, ix_3, xi144_4, ix_4, xi144_5, ix_5, xi144_6, ix_6, xi144_7, ix_7, xi144_8, ix_8, xi144_9, ix_9, xi144_10, ix_10, LM_out hL, hC, nI_leP (show m < 2147483648 by omega) (show i < 2147483648 by omega), show (m ≤ i) = False from eq_false (by omega), nI_c16, nI_inP (show 16 + i < 144 by omega) (by decide), nI_ix (show 16 + i < 2147483648 by omega), show (0 ≤ I 300 (16 + i)) = True from eq_true (hst i (by omega)), e278_27, B278_27, nI_1, h]
theorem R278 (hL : LM S R) (hC : I 300 8 = nI m) (hm : m ≤ 128) (hF : I 300 4 = 0) (hst : ∀ k, k < m → 0 ≤ I 300 (16 + k)) : xRun xT 278 0 [(0, .ref 200)] [] (S, I, J, D, R) b Q = Q (.ok (some (.int 0))) (S, I, J, D, R) b := by
  have h := R278_2 (S := S) (R := R) (J := J) (D := D) (b := b) (Q := Q) hL hC hm hF hst m 0 (by omega)
  rw [e278_0]
  simp only [B278_0, xSeq, i_push, i_load, i_iload, i_lload, i_dload, i_aload, i_istore, i_astore, i_lstore, i_dstore, i_iinc, i_ii, i_iiz, i_ll, i_llz, i_lli, i_li, i_i, i_l, i_i2l, i_l2i, i_dup, i_dup2, i_dup2w, i_dupx1, i_pop, i_pop2, i_goto, i_ifc, i_icmp, i_getI, i_getL, i_getR, i_putI, i_putZ, i_putL, i_putR, i_aldI, i_aldB, i_aldL, i_aldD, i_astI, i_astL, i_astD, i_alen, i_ret, i_iret, i_zret, i_lret, i_fret, i_dret, i_aret, i_invS0, i_invV0, i_m2, i_m1, i_ml, i_obj, lk, lkp, stf1, stf2, Value.category, rV, xTo, lv_args, xCk, xCat, xRc, xAk, hg_S, hg_I, hg_J, hg_D, hg_R, hs_I, hs_J, hs_D, hs_R, uI_at, uJ_at, uD_at, uR_at, List.take_succ_cons, List.take_zero, List.drop_succ_cons, List.drop_zero, List.reverse_cons, List.reverse_nil, List.nil_append, List.cons_append, List.map_cons, List.map_nil, List.sum_cons, List.sum_nil, List.length_cons, List.length_nil, Option.toList_some, Option.toList_none, true_and, and_true, false_and, and_false, true_implies, false_implies, implies_true, not_true_eq_false, not_false_eq_true, ne_eq, if_true, if_false, Bool.and_true, Bool.true_and, decide_true, decide_false, reduceIte, reduceCtorEq, Bool.and_self, Bool.and_eq_true, decide_eq_true_eq, and_self, true_or, or_true, false_or, or_false, Nat.zero_add, Nat.add_zero, eq_self, Nat.reduceEqDiff, Nat.reduceLeDiff, Nat.reduceLT, Nat.reduceAdd, Nat.reduceSub, Nat.reduceMul]
  exact h
end
