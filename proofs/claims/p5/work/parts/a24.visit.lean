/-! ===== visited: printed by a24.visit.py ===== -/
section
variable {g : xGd} {x : xSt} {sv : Option xSt} {k : Nat} {by' : Nat → Nat} {e1 e2 : Int32} {z : xA} {N P f : Nat} {S : xS} {I : xI} {J : xJ} {D : xDb} {R : xR} {b : Nat × Nat} {Q : xQ} {n m : Nat}
/-- seen before; how many different ones -/
def sn (C : Nat → Nat) (i : Nat) : Bool := decide (0 < ct (fun j => decide (C j = C i)) i)
def dct (C : Nat → Nat) : Nat → Nat
  | 0 => 0
  | i + 1 => if sn C i = true then dct C i else dct C i + 1
theorem dct_le (C : Nat → Nat) : ∀ i, dct C i ≤ i
  | 0 => Nat.le_refl _
  | i + 1 => by
    have := dct_le C i
    rw [dct]
    split <;> omega
theorem sn_t {C : Nat → Nat} {i : Nat} : sn C i = true ↔ ∃ j, j < i ∧ C j = C i := by
  unfold sn
  rw [decide_eq_true_iff, ct_pos]
  simp
def hq (V s k : Nat) : Nat := (s + k) % V
theorem hq_lt {V : Nat} (hV : V = 32768) (s k : Nat) : hq V s k < V := Nat.mod_lt _ (by omega)
/-- a table of them -/
def TB (V : Nat) (h : Nat → Nat) (C : Nat → Nat) (i : Nat) (T : Nat → Nat) : Prop := (∀ p, p < V → T p ≤ i) ∧ ct (fun p => decide (T p ≠ 0)) V = dct C i ∧
  ∀ j, j < i → ∃ k, k < V ∧ (∀ k', k' < k → T (hq V (h (C j)) k') ≠ 0) ∧ T (hq V (h (C j)) k) ≠ 0 ∧ C (T (hq V (h (C j)) k) - 1) = C j
theorem ct_true : ∀ n, ct (fun _ => true) n = n
  | 0 => rfl
  | n + 1 => by rw [ct, ct_true n, if_pos rfl]
theorem TB_0 (V : Nat) (h : Nat → Nat) (C : Nat → Nat) : TB V h C 0 (fun _ => 0) := ⟨fun _ _ => Nat.le_refl _, by
  rw [ct_congr (q := fun _ => false) (fun k _ => by simp), ct_no]; rfl, fun j hj => absurd hj (Nat.not_lt_zero j)⟩
theorem TB_room {V : Nat} (hV : V = 32768) {h : Nat → Nat} {C : Nat → Nat} {i : Nat} {T : Nat → Nat} (ht : TB V h C i T) (hi : i < V) {s : Nat} (hs : s < V) : ∃ k, k < V ∧ T (hq V s k) = 0 := by
  have h1 : ∃ p, p < V ∧ T p = 0 := by
    refine Classical.byContradiction (fun hn => ?_)
    have e := ht.2.1
    have e3 : ct (fun p => decide (T p ≠ 0)) V = V := by
      have e4 : ct (fun p => decide (T p ≠ 0)) V = ct (fun _ => true) V := ct_congr (fun p hp => decide_eq_true (show T p ≠ 0 from fun e => hn ⟨p, hp, e⟩))
      rw [e4, ct_true]
    rw [e3] at e
    have := dct_le C i
    omega
  obtain ⟨p, hp, e⟩ := h1
  refine ⟨(p + V - s) % V, Nat.mod_lt _ (by omega), ?_⟩
  have e2 : hq V s ((p + V - s) % V) = p := by subst hV; unfold hq; omega
  rw [e2]
  exact e
theorem TB_no {V : Nat} (hV : V = 32768) {h : Nat → Nat} {C : Nat → Nat} {i : Nat} {T : Nat → Nat} (ht : TB V h C i T) {k : Nat} (h1 : ∀ k', k' < k → T (hq V (h (C i)) k') ≠ 0 ∧ C (T (hq V (h (C i)) k') - 1) ≠ C i) (h2 : T (hq V (h (C i)) k) = 0) : sn C i = false := by
  rw [Bool.eq_false_iff]
  intro e
  obtain ⟨j, hj, e2⟩ := sn_t.mp e
  obtain ⟨k2, a1, a2, a3, a4⟩ := ht.2.2 j hj
  rw [e2] at a2 a3 a4
  rcases Nat.lt_trichotomy k2 k with q | q | q
  · exact (h1 k2 q).2 a4
  · rw [q] at a3; exact a3 h2
  · exact a2 k q h2
theorem TB_new {V : Nat} (hV : V = 32768) {h : Nat → Nat} {C : Nat → Nat} {i : Nat} {T : Nat → Nat} (ht : TB V h C i T) (hi : i < V) {k : Nat} (hk : k < V) (h1 : ∀ k', k' < k → T (hq V (h (C i)) k') ≠ 0) (h2 : T (hq V (h (C i)) k) = 0) (hs : sn C i = false) : TB V h C (i + 1) (fun p => if p = hq V (h (C i)) k then i + 1 else T p) := by
  obtain ⟨a1, a2, a3⟩ := ht
  obtain ⟨p, hp⟩ : ∃ p, p = hq V (h (C i)) k := ⟨_, rfl⟩
  have hl : p < V := hp ▸ hq_lt hV _ _
  rw [← hp] at h2 ⊢
  have un : ∀ q, T q ≠ 0 → (fun p_1 => if p_1 = p then i + 1 else T p_1) q = T q := fun q hq' => if_neg (fun e => hq' (by rw [e]; exact h2))
  have up : (fun p_1 => if p_1 = p then i + 1 else T p_1) p = i + 1 := if_pos rfl
  refine ⟨fun q hq => ?_, ?_, fun j hj => ?_⟩
  · show (if q = p then i + 1 else T q) ≤ i + 1
    have := a1 q hq
    split <;> omega
  · rw [ct_congr (q := fun q => decide (T q ≠ 0) || decide (p = q)) (fun q _ => ?_), ct_set (by rw [h2]; rfl), a2, dct, hs, if_pos hl]
    · simp
    · by_cases e : q = p
      · subst e; simp
      · simp only [if_neg e, decide_eq_false (fun e2 : p = q => e e2.symm), Bool.or_false]
  · by_cases e : j = i
    · subst e
      refine ⟨k, hk, fun k' hk' => ?_, ?_, ?_⟩
      · rw [un _ (h1 k' hk')]; exact h1 k' hk'
      · rw [← hp, up]; omega
      · rw [← hp, up]; rfl
    · obtain ⟨k2, c1, c2, c3, c4⟩ := a3 j (by omega)
      refine ⟨k2, c1, fun k' hk' => ?_, ?_, ?_⟩
      · rw [un _ (c2 k' hk')]; exact c2 k' hk'
      · rw [un _ c3]; exact c3
      · rw [un _ c3]; exact c4
theorem TB_old {V : Nat} (hV : V = 32768) {h : Nat → Nat} {C : Nat → Nat} {i : Nat} {T : Nat → Nat} (ht : TB V h C i T) {k : Nat} (hk : k < V) (h1 : ∀ k', k' < k → T (hq V (h (C i)) k') ≠ 0) (h2 : T (hq V (h (C i)) k) ≠ 0) (h3 : C (T (hq V (h (C i)) k) - 1) = C i) : sn C i = true ∧ TB V h C (i + 1) T := by
  have hs : sn C i = true := sn_t.mpr ⟨T (hq V (h (C i)) k) - 1, by have := ht.1 _ (hq_lt hV (h (C i)) k); omega, h3⟩
  refine ⟨hs, fun p hp => Nat.le_succ_of_le (ht.1 p hp), ?_, fun j hj => ?_⟩
  · rw [ht.2.1, dct, if_pos hs]
  · by_cases e : j = i
    · subst e; exact ⟨k, hk, h1, h2, h3⟩
    · exact ht.2.2 j (by omega)
theorem lN_64 (n : Nat) : lN n = lN (n % 2 ^ 64) := by
  apply q_inj
  rw [q_tb, q_tb]
  apply BitVec.eq_of_toNat_eq
  rw [BitVec.toNat_ofNat, BitVec.toNat_ofNat, Nat.mod_mod]
theorem nI_15 (a : Nat) : nI a &&& 32767 = nI (a % 32768) := by
  rw [show (32767 : Int32) = nI 32767 from rfl, i_andN, show (32767 : Nat) = 2 ^ 15 - 1 from rfl, Nat.and_two_pow_sub_one_eq_mod]
/-- the hashes of both sides -/
def hsC (c : Nat) : Nat := c * 11400714819323198485 % 2 ^ 64 / 2 ^ 49
theorem hsC_lt (c : Nat) : hsC c < 32768 := by
  have := Nat.mod_lt (c * 11400714819323198485) (show 0 < 2 ^ 64 by decide)
  unfold hsC
  omega
theorem hsC_e (c : Nat) : (jLushr (lN c * -7046029254386353131) 49).toInt32 = nI (hsC c) := by
  rw [show (-7046029254386353131 : Int64) = lN 11400714819323198485 from by decide, lN_mul, lN_64, show (49 : Int32) = nI 49 from rfl, q_ushr (Nat.mod_lt _ (by decide)) (by decide), lN_i]
  rfl
def hsM (c : Nat) : Nat := (c ^^^ c / 2 ^ 15 ^^^ c / 2 ^ 31 ^^^ c / 2 ^ 47) % 32768
theorem hsM_lt (c : Nat) : hsM c < 32768 := Nat.mod_lt _ (by decide)
theorem hsM_e {c : Nat} (hc : c < 2 ^ 64) : ((lN c ^^^ jLushr (lN c) 15 ^^^ jLushr (lN c) 31 ^^^ jLushr (lN c) 47) &&& 32767).toInt32 = nI (hsM c) := by
  have h (k : Nat) : c / 2 ^ k < 2 ^ 64 := Nat.lt_of_le_of_lt (Nat.div_le_self _ _) hc
  rw [show (15 : Int32) = nI 15 from rfl, show (31 : Int32) = nI 31 from rfl, show (47 : Int32) = nI 47 from rfl, q_ushr hc (by decide), q_ushr hc (by decide), q_ushr hc (by decide), q_xor, q_xor, q_xor, show (32767 : Int64) = lN 32767 from rfl, q_and (Nat.xor_lt_two_pow (Nat.xor_lt_two_pow (Nat.xor_lt_two_pow hc (h 15)) (h 31)) (h 47)) (by decide), lN_i, show (32767 : Nat) = 2 ^ 15 - 1 from rfl, Nat.and_two_pow_sub_one_eq_mod]
  rfl
def HTv (V r : Nat) (I0 : xI) (T : Nat → Nat) (I : xI) : Prop := (∀ p, p < V → I r p = nI (T p)) ∧ ∀ o k, o ≠ r → I o k = I0 o k
theorem HTv_up {V r : Nat} {I0 I : xI} {T : Nat → Nat} (h : HTv V r I0 T I) (p v : Nat) : HTv V r I0 (fun q => if q = p then v else T q) (uI I r p (nI v)) := by
  refine ⟨fun q hq => ?_, fun o k ho => ?_⟩
  · rw [uI_at]
    by_cases e : q = p
    · subst e; rw [if_pos ⟨rfl, rfl⟩]; show nI v = nI (if q = q then v else T q); rw [if_pos rfl]
    · rw [if_neg (fun e2 => e e2.2), h.1 q hq]; show nI (T q) = nI (if q = p then v else T q); rw [if_neg e]
  · rw [uI_at, if_neg (fun e => ho e.1)]; exact h.2 o k ho
theorem nI_dec {v : Nat} (h : v ≠ 0) (h2 : v < 2147483648) : nI v - 1 = nI (v - 1) := by
  obtain ⟨w, rfl⟩ : ∃ w, v = w + 1 := ⟨v - 1, by omega⟩
  rw [← nI_1, Nat.add_sub_cancel]
  exact Int32.add_sub_cancel _ _
theorem nI_z {v : Nat} (h : v < 2147483648) : (nI v = 0) = (v = 0) := by rw [show (0 : Int32) = nI 0 from rfl, nI_iff h (by decide)]
/-- the class: one of them -/
theorem L38_21 {V : Nat} (hV : V = 32768) {hf : Nat → Nat} (hf1 : ∀ c, hf c < 32768) {I0 : xI} {C : Nat → Nat} {K : Nat} (hS : S 112 = (4, 0)) (h1 : R 112 1 = some 117) (h2 : S 117 = (101, 10000)) (h3 : R 112 3 = some 119) (h4 : S 119 = (100, V)) (hK : K ≤ 10000) (hC : ∀ i, i < K → J 117 i = lN (C i) ∧ C i < 2 ^ 64) {i : Nat} (hi : i < K) {T : Nat → Nat} (ht : TB V hf C i T) (hI : HTv V 119 I0 T I)
    (kk : ∀ I' T', HTv V 119 I0 T' I' → TB V hf C (i + 1) T' → Q (.ok (some (.int (if sn C i = true then 0 else 1)))) (S, I', J, D, R) b) :
    ∀ (j k : Nat), k + j = V → (∀ k', k' < k → T (hq V (hf (C i)) k') ≠ 0 ∧ C (T (hq V (hf (C i)) k') - 1) ≠ C i) → xRun xT 38 21 [(0, .ref 112), (1, .int (nI i)), (2, .long (lN (C i))), (4, .int (nI (hf (C i)))), (5, .int (nI k))] [] (S, I, J, D, R) b Q
  | 0, k, hk, hp => by
    obtain ⟨k0, c1, c2⟩ := TB_room hV ht (s := hf (C i)) (by omega) (by have := hf1 (C i); omega)
    exact absurd c2 (hp k0 (by omega)).1
  | j + 1, k, hk, hp => by
    have l1 := hf1 (C i)
    have l2 := hq_lt hV (hf (C i)) k
    have l3 := ht.1 _ l2
    have nx := L38_21 hV hf1 hS h1 h2 h3 h4 hK hC hi ht hI kk j (k + 1) (by omega)
    have e1 : nI (hf (C i)) + nI k = nI (hf (C i) + k) := nI_add _ _
    have e2 : nI (hf (C i) + k) &&& 32767 = nI (hq V (hf (C i)) k) := by subst hV; exact nI_15 _
    have eT := hI.1 _ l2
    obtain ⟨p, hpp⟩ : ∃ p, p = hq V (hf (C i)) k := ⟨_, rfl⟩
    rw [← hpp] at e2 eT l2 l3
    rw [e38_21]
    simp only [B38_21, xSeq, i_push, i_load, i_iload, i_lload, i_dload, i_aload, i_istore, i_astore, i_lstore, i_dstore, i_iinc, i_ii, i_iiz, i_ll, i_llz, i_lli, i_li, i_i, i_l, i_i2l, i_l2i, i_dup, i_dup2, i_dup2w, i_dupx1, i_pop, i_pop2, i_goto, i_ifc, i_icmp, i_getI, i_getL, i_getR, i_putI, i_putZ, i_putL, i_putR, i_aldI, i_aldB, i_aldL, i_aldD, i_astI, i_astL, i_astD, i_alen, i_ret, i_iret, i_zret, i_lret, i_fret, i_dret, i_aret, i_invS0, i_invV0, i_m2, i_m1, i_ml, i_obj, lk, lkp, stf1, stf2, Value.category, rV, xTo, lv_args, xCk, xCat, xRc, xAk, hg_S, hg_I, hg_J, hg_D, hg_R, hs_I, hs_J, hs_D, hs_R, uI_at, uJ_at, uD_at, uR_at, List.take_succ_cons, List.take_zero, List.drop_succ_cons, List.drop_zero, List.reverse_cons, List.reverse_nil, List.nil_append, List.cons_append, List.map_cons, List.map_nil, List.sum_cons, List.sum_nil, List.length_cons, List.length_nil, Option.toList_some, Option.toList_none, true_and, and_true, false_and, and_false, true_implies, false_implies, implies_true, not_true_eq_false, not_false_eq_true, ne_eq, if_true, if_false, Bool.and_true, Bool.true_and, decide_true, decide_false, reduceIte, reduceCtorEq, Bool.and_self, Bool.and_eq_true, decide_eq_true_eq, and_self, true_or, or_true, false_or, or_false, Nat.zero_add, Nat.add_zero, eq_self, Nat.reduceEqDiff, Nat.reduceLeDiff, Nat.reduceLT, Nat.reduceAdd, Nat.reduceSub, Nat.reduceMul, hS, h1, h2, h3, h4, show (32768 : Int32) = nI V from by rw [hV]; rfl, nI_leP (show V < 2147483648 by omega) (show k < 2147483648 by omega), show (V ≤ k) = False from eq_false (by omega), e1, e2, nI_inP l2 (show V < 2147483648 by omega), nI_ix (show p < 2147483648 by omega), eT, nI_z (show T p < 2147483648 by omega)]
    by_cases e : T p = 0
    · simp only [e, ne_eq, true_and, and_true, false_and, and_false, true_implies, false_implies, implies_true, not_true_eq_false, not_false_eq_true, ne_eq, if_true, if_false, Bool.and_true, Bool.true_and, decide_true, decide_false, reduceIte, reduceCtorEq, Bool.and_self, Bool.and_eq_true, decide_eq_true_eq, and_self, true_or, or_true, false_or, or_false, Nat.zero_add, Nat.add_zero, eq_self, Nat.reduceEqDiff, Nat.reduceLeDiff, Nat.reduceLT, Nat.reduceAdd, Nat.reduceSub, Nat.reduceMul, nI_1]
      have hs := TB_no hV ht hp (hpp ▸ e)
      have t2 := TB_new hV ht (by omega) (show k < V by omega) (fun k' q => (hp k' q).1) (hpp ▸ e) hs
      rw [← hpp] at t2
      have := kk _ _ (HTv_up hI p (i + 1)) t2
      rw [hs] at this
      exact this
    · simp only [e, ne_eq, true_and, and_true, false_and, and_false, true_implies, false_implies, implies_true, not_true_eq_false, not_false_eq_true, ne_eq, if_true, if_false, Bool.and_true, Bool.true_and, decide_true, decide_false, reduceIte, reduceCtorEq, Bool.and_self, Bool.and_eq_true, decide_eq_true_eq, and_self, true_or, or_true, false_or, or_false, Nat.zero_add, Nat.add_zero, eq_self, Nat.reduceEqDiff, Nat.reduceLeDiff, Nat.reduceLT, Nat.reduceAdd, Nat.reduceSub, Nat.reduceMul, nI_1]
      have tl := hC (T p - 1) (by omega)
      have ti := hC i hi
      rw [e38_61]
      simp only [B38_61, xSeq, i_push, i_load, i_iload, i_lload, i_dload, i_aload, i_istore, i_astore, i_lstore, i_dstore, i_iinc, i_ii, i_iiz, i_ll, i_llz, i_lli, i_li, i_i, i_l, i_i2l, i_l2i, i_dup, i_dup2, i_dup2w, i_dupx1, i_pop, i_pop2, i_goto, i_ifc, i_icmp, i_getI, i_getL, i_getR, i_putI, i_putZ, i_putL, i_putR, i_aldI, i_aldB, i_aldL, i_aldD, i_astI, i_astL, i_astD, i_alen, i_ret, i_iret, i_zret, i_lret, i_fret, i_dret, i_aret, i_invS0, i_invV0, i_m2, i_m1, i_ml, i_obj, lk, lkp, stf1, stf2, Value.category, rV, xTo, lv_args, xCk, xCat, xRc, xAk, hg_S, hg_I, hg_J, hg_D, hg_R, hs_I, hs_J, hs_D, hs_R, uI_at, uJ_at, uD_at, uR_at, List.take_succ_cons, List.take_zero, List.drop_succ_cons, List.drop_zero, List.reverse_cons, List.reverse_nil, List.nil_append, List.cons_append, List.map_cons, List.map_nil, List.sum_cons, List.sum_nil, List.length_cons, List.length_nil, Option.toList_some, Option.toList_none, true_and, and_true, false_and, and_false, true_implies, false_implies, implies_true, not_true_eq_false, not_false_eq_true, ne_eq, if_true, if_false, Bool.and_true, Bool.true_and, decide_true, decide_false, reduceIte, reduceCtorEq, Bool.and_self, Bool.and_eq_true, decide_eq_true_eq, and_self, true_or, or_true, false_or, or_false, Nat.zero_add, Nat.add_zero, eq_self, Nat.reduceEqDiff, Nat.reduceLeDiff, Nat.reduceLT, Nat.reduceAdd, Nat.reduceSub, Nat.reduceMul, hS, h1, h2, h3, h4, nI_inP l2 (show V < 2147483648 by omega), nI_ix (show p < 2147483648 by omega), eT, nI_dec e (by omega), nI_inP (show T p - 1 < 10000 by omega) (by decide), nI_ix (show T p - 1 < 2147483648 by omega), tl.1, lN_cmp tl.2 ti.2]
      by_cases e3 : C (T p - 1) = C i
      · obtain ⟨hs, t2⟩ := TB_old hV ht (show k < V by omega) (fun k' q => (hp k' q).1) (hpp ▸ e) (hpp ▸ e3)
        have := kk _ _ hI t2
        rw [hs] at this
        simp only [e3, ne_eq, true_and, and_true, false_and, and_false, true_implies, false_implies, implies_true, not_true_eq_false, not_false_eq_true, ne_eq, if_true, if_false, Bool.and_true, Bool.true_and, decide_true, decide_false, reduceIte, reduceCtorEq, Bool.and_self, Bool.and_eq_true, decide_eq_true_eq, and_self, true_or, or_true, false_or, or_false, Nat.zero_add, Nat.add_zero, eq_self, Nat.reduceEqDiff, Nat.reduceLeDiff, Nat.reduceLT, Nat.reduceAdd, Nat.reduceSub, Nat.reduceMul]
        exact this
      · simp only [e3, ne_eq, true_and, and_true, false_and, and_false, true_implies, false_implies, implies_true, not_true_eq_false, not_false_eq_true, ne_eq, if_true, if_false, Bool.and_true, Bool.true_and, decide_true, decide_false, reduceIte, reduceCtorEq, Bool.and_self, Bool.and_eq_true, decide_eq_true_eq, and_self, true_or, or_true, false_or, or_false, Nat.zero_add, Nat.add_zero, eq_self, Nat.reduceEqDiff, Nat.reduceLeDiff, Nat.reduceLT, Nat.reduceAdd, Nat.reduceSub, Nat.reduceMul, e38_82, B38_82, xSeq, i_push, i_load, i_iload, i_lload, i_dload, i_aload, i_istore, i_astore, i_lstore, i_dstore, i_iinc, i_ii, i_iiz, i_ll, i_llz, i_lli, i_li, i_i, i_l, i_i2l, i_l2i, i_dup, i_dup2, i_dup2w, i_dupx1, i_pop, i_pop2, i_goto, i_ifc, i_icmp, i_getI, i_getL, i_getR, i_putI, i_putZ, i_putL, i_putR, i_aldI, i_aldB, i_aldL, i_aldD, i_astI, i_astL, i_astD, i_alen, i_ret, i_iret, i_zret, i_lret, i_fret, i_dret, i_aret, i_invS0, i_invV0, i_m2, i_m1, i_ml, i_obj, lk, lkp, stf1, stf2, Value.category, rV, xTo, lv_args, xCk, xCat, xRc, xAk, hg_S, hg_I, hg_J, hg_D, hg_R, hs_I, hs_J, hs_D, hs_R, uI_at, uJ_at, uD_at, uR_at, List.take_succ_cons, List.take_zero, List.drop_succ_cons, List.drop_zero, List.reverse_cons, List.reverse_nil, List.nil_append, List.cons_append, List.map_cons, List.map_nil, List.sum_cons, List.sum_nil, List.length_cons, List.length_nil, Option.toList_some, Option.toList_none, true_and, and_true, false_and, and_false, true_implies, false_implies, implies_true, not_true_eq_false, not_false_eq_true, ne_eq, if_true, if_false, Bool.and_true, Bool.true_and, decide_true, decide_false, reduceIte, reduceCtorEq, Bool.and_self, Bool.and_eq_true, decide_eq_true_eq, and_self, true_or, or_true, false_or, or_false, Nat.zero_add, Nat.add_zero, eq_self, Nat.reduceEqDiff, Nat.reduceLeDiff, Nat.reduceLT, Nat.reduceAdd, Nat.reduceSub, Nat.reduceMul, nI_1]
        refine nx (fun k' q => ?_)
        rcases Nat.lt_succ_iff_lt_or_eq.mp q with q2 | q2
        · exact hp k' q2
        · rw [q2, ← hpp]; exact ⟨e, e3⟩
theorem L38_p {u : Int64} {x i hx : Nat} (hf2 : (jLushr (lN x * u) 49).toInt32 = nI hx) (hS : S 112 = (4, 0)) (h1 : R 112 1 = some 117) (h2 : S 117 = (101, 10000)) (hi : i < 10000) (hC : J 117 i = lN x) : xSeq (xRun xT) Q [i_aload 0, i_getR 4 1, i_iload 1, i_aldL, i_lstore 2, i_lload 2, i_push (.long u), i_ll (fun x y => x * y), i_push (.int 49), i_li jLushr, i_l2i, i_istore 4, i_push (.int 0), i_istore 5, i_goto 38 21 [0, 1, 2, 4, 5]] [(0, .ref 112), (1, .int (nI i))] [] (S, I, J, D, R) b = xRun xT 38 21 [(0, .ref 112), (1, .int (nI i)), (2, .long (lN x)), (4, .int (nI hx)), (5, .int (nI 0))] [] (S, I, J, D, R) b Q := by
  have e1 := nI_inP hi (show 10000 < 2147483648 by decide)
  have e2 := nI_ix (show i < 2147483648 by omega)
  simp only [xSeq, i_push, i_load, i_iload, i_lload, i_dload, i_aload, i_istore, i_astore, i_lstore, i_dstore, i_iinc, i_ii, i_iiz, i_ll, i_llz, i_lli, i_li, i_i, i_l, i_i2l, i_l2i, i_dup, i_dup2, i_dup2w, i_dupx1, i_pop, i_pop2, i_goto, i_ifc, i_icmp, i_getI, i_getL, i_getR, i_putI, i_putZ, i_putL, i_putR, i_aldI, i_aldB, i_aldL, i_aldD, i_astI, i_astL, i_astD, i_alen, i_ret, i_iret, i_zret, i_lret, i_fret, i_dret, i_aret, i_invS0, i_invV0, i_m2, i_m1, i_ml, i_obj, lk, lkp, stf1, stf2, Value.category, rV, xTo, lv_args, xCk, xCat, xRc, xAk, hg_S, hg_I, hg_J, hg_D, hg_R, hs_I, hs_J, hs_D, hs_R, uI_at, uJ_at, uD_at, uR_at, List.take_succ_cons, List.take_zero, List.drop_succ_cons, List.drop_zero, List.reverse_cons, List.reverse_nil, List.nil_append, List.cons_append, List.map_cons, List.map_nil, List.sum_cons, List.sum_nil, List.length_cons, List.length_nil, Option.toList_some, Option.toList_none, true_and, and_true, false_and, and_false, true_implies, false_implies, implies_true, not_true_eq_false, not_false_eq_true, ne_eq, if_true, if_false, Bool.and_true, Bool.true_and, decide_true, decide_false, reduceIte, reduceCtorEq, Bool.and_self, Bool.and_eq_true, decide_eq_true_eq, and_self, true_or, or_true, false_or, or_false, Nat.zero_add, Nat.add_zero, eq_self, Nat.reduceEqDiff, Nat.reduceLeDiff, Nat.reduceLT, Nat.reduceAdd, Nat.reduceSub, Nat.reduceMul, hS, h1, h2, e1, e2, hC, hf2, nI_0]
theorem L38_0 {hx x i : Nat} (hf2 : (jLushr (lN x * -7046029254386353131) 49).toInt32 = nI hx) (hS : S 112 = (4, 0)) (h1 : R 112 1 = some 117) (h2 : S 117 = (101, 10000)) (hi : i < 10000) (hC : J 117 i = lN x) : xRun xT 38 0 [(0, .ref 112), (1, .int (nI i))] [] (S, I, J, D, R) b Q = xRun xT 38 21 [(0, .ref 112), (1, .int (nI i)), (2, .long (lN x)), (4, .int (nI hx)), (5, .int (nI 0))] [] (S, I, J, D, R) b Q := by
  rw [e38_0]
  exact L38_p hf2 hS h1 h2 hi hC
theorem L37_37 {V : Nat} (hV : V = 32768) {hf : Nat → Nat} (hf1 : ∀ c, hf c < 32768) (hf2 : ∀ c, (jLushr (lN c * -7046029254386353131) 49).toInt32 = nI (hf c)) {I0 : xI} {C : Nat → Nat} {K : Nat} (hS : S 112 = (4, 0)) (h1 : R 112 1 = some 117) (h2 : S 117 = (101, 10000)) (h3 : R 112 3 = some 119) (h4 : S 119 = (100, V)) (hK : K ≤ 10000) (hC : ∀ i, i < K → J 117 i = lN (C i) ∧ C i < 2 ^ 64) (h0 : I0 112 0 = nI K)
    (kk : ∀ I' T', HTv V 119 I0 T' I' → Q (.ok (some (.int (nI (dct C K))))) (S, I', J, D, R) b) :
    ∀ (j i : Nat) (I : xI) (T : Nat → Nat), i + j = K → TB V hf C i T → HTv V 119 I0 T I → xRun xT 37 37 [(0, .ref 112), (1, .int (nI (dct C i))), (2, .int (nI i))] [] (S, I, J, D, R) b Q
  | 0, i, I, T, hi, ht, hI => by
    have e : i = K := by omega
    subst e
    rw [e37_37]
    simp only [B37_37, xSeq, i_push, i_load, i_iload, i_lload, i_dload, i_aload, i_istore, i_astore, i_lstore, i_dstore, i_iinc, i_ii, i_iiz, i_ll, i_llz, i_lli, i_li, i_i, i_l, i_i2l, i_l2i, i_dup, i_dup2, i_dup2w, i_dupx1, i_pop, i_pop2, i_goto, i_ifc, i_icmp, i_getI, i_getL, i_getR, i_putI, i_putZ, i_putL, i_putR, i_aldI, i_aldB, i_aldL, i_aldD, i_astI, i_astL, i_astD, i_alen, i_ret, i_iret, i_zret, i_lret, i_fret, i_dret, i_aret, i_invS0, i_invV0, i_m2, i_m1, i_ml, i_obj, lk, lkp, stf1, stf2, Value.category, rV, xTo, lv_args, xCk, xCat, xRc, xAk, hg_S, hg_I, hg_J, hg_D, hg_R, hs_I, hs_J, hs_D, hs_R, uI_at, uJ_at, uD_at, uR_at, List.take_succ_cons, List.take_zero, List.drop_succ_cons, List.drop_zero, List.reverse_cons, List.reverse_nil, List.nil_append, List.cons_append, List.map_cons, List.map_nil, List.sum_cons, List.sum_nil, List.length_cons, List.length_nil, Option.toList_some, Option.toList_none, true_and, and_true, false_and, and_false, true_implies, false_implies, implies_true, not_true_eq_false, not_false_eq_true, ne_eq, if_true, if_false, Bool.and_true, Bool.true_and, decide_true, decide_false, reduceIte, reduceCtorEq, Bool.and_self, Bool.and_eq_true, decide_eq_true_eq, and_self, true_or, or_true, false_or, or_false, Nat.zero_add, Nat.add_zero, eq_self, Nat.reduceEqDiff, Nat.reduceLeDiff, Nat.reduceLT, Nat.reduceAdd, Nat.reduceSub, Nat.reduceMul, hS, (hI.2 112 0 (by decide)).trans h0, nI_leP (show i < 2147483648 by omega) (show i < 2147483648 by omega), Nat.le_refl, e37_62, B37_62]
    exact kk I T hI
  | j + 1, i, I, T, hi, ht, hI => by
    have nx := fun I T => L37_37 hV hf1 hf2 hS h1 h2 h3 h4 hK hC h0 kk j (i + 1) I T (by omega)
    rw [e37_37]
    simp only [B37_37, xSeq, i_push, i_load, i_iload, i_lload, i_dload, i_aload, i_istore, i_astore, i_lstore, i_dstore, i_iinc, i_ii, i_iiz, i_ll, i_llz, i_lli, i_li, i_i, i_l, i_i2l, i_l2i, i_dup, i_dup2, i_dup2w, i_dupx1, i_pop, i_pop2, i_goto, i_ifc, i_icmp, i_getI, i_getL, i_getR, i_putI, i_putZ, i_putL, i_putR, i_aldI, i_aldB, i_aldL, i_aldD, i_astI, i_astL, i_astD, i_alen, i_ret, i_iret, i_zret, i_lret, i_fret, i_dret, i_aret, i_invS0, i_invV0, i_m2, i_m1, i_ml, i_obj, lk, lkp, stf1, stf2, Value.category, rV, xTo, lv_args, xCk, xCat, xRc, xAk, hg_S, hg_I, hg_J, hg_D, hg_R, hs_I, hs_J, hs_D, hs_R, uI_at, uJ_at, uD_at, uR_at, List.take_succ_cons, List.take_zero, List.drop_succ_cons, List.drop_zero, List.reverse_cons, List.reverse_nil, List.nil_append, List.cons_append, List.map_cons, List.map_nil, List.sum_cons, List.sum_nil, List.length_cons, List.length_nil, Option.toList_some, Option.toList_none, true_and, and_true, false_and, and_false, true_implies, false_implies, implies_true, not_true_eq_false, not_false_eq_true, ne_eq, if_true, if_false, Bool.and_true, Bool.true_and, decide_true, decide_false, reduceIte, reduceCtorEq, Bool.and_self, Bool.and_eq_true, decide_eq_true_eq, and_self, true_or, or_true, false_or, or_false, Nat.zero_add, Nat.add_zero, eq_self, Nat.reduceEqDiff, Nat.reduceLeDiff, Nat.reduceLT, Nat.reduceAdd, Nat.reduceSub, Nat.reduceMul, hS, (hI.2 112 0 (by decide)).trans h0, nI_leP (show K < 2147483648 by omega) (show i < 2147483648 by omega), show (K ≤ i) = False from eq_false (by omega)]
    rw [L38_0 (hf2 (C i)) hS h1 h2 (show i < 10000 by omega) (hC i (by omega)).1]
    refine L38_21 hV hf1 (K := K) (C := C) (I := I) (T := T) hS h1 h2 h3 h4 hK hC (show i < K by omega) ht hI (fun I' T' q1 q2 => ?_) V 0 (by omega) (fun k' q => absurd q (Nat.not_lt_zero k'))
    have nx' := nx I' T' q2 q1
    rw [dct] at nx'
    by_cases e : sn C i = true
    · rw [if_pos e] at nx'
      simp only [e, xSeq, i_push, i_load, i_iload, i_lload, i_dload, i_aload, i_istore, i_astore, i_lstore, i_dstore, i_iinc, i_ii, i_iiz, i_ll, i_llz, i_lli, i_li, i_i, i_l, i_i2l, i_l2i, i_dup, i_dup2, i_dup2w, i_dupx1, i_pop, i_pop2, i_goto, i_ifc, i_icmp, i_getI, i_getL, i_getR, i_putI, i_putZ, i_putL, i_putR, i_aldI, i_aldB, i_aldL, i_aldD, i_astI, i_astL, i_astD, i_alen, i_ret, i_iret, i_zret, i_lret, i_fret, i_dret, i_aret, i_invS0, i_invV0, i_m2, i_m1, i_ml, i_obj, lk, lkp, stf1, stf2, Value.category, rV, xTo, lv_args, xCk, xCat, xRc, xAk, hg_S, hg_I, hg_J, hg_D, hg_R, hs_I, hs_J, hs_D, hs_R, uI_at, uJ_at, uD_at, uR_at, List.take_succ_cons, List.take_zero, List.drop_succ_cons, List.drop_zero, List.reverse_cons, List.reverse_nil, List.nil_append, List.cons_append, List.map_cons, List.map_nil, List.sum_cons, List.sum_nil, List.length_cons, List.length_nil, Option.toList_some, Option.toList_none, true_and, and_true, false_and, and_false, true_implies, false_implies, implies_true, not_true_eq_false, not_false_eq_true, ne_eq, if_true, if_false, Bool.and_true, Bool.true_and, decide_true, decide_false, reduceIte, reduceCtorEq, Bool.and_self, Bool.and_eq_true, decide_eq_true_eq, and_self, true_or, or_true, false_or, or_false, Nat.zero_add, Nat.add_zero, eq_self, Nat.reduceEqDiff, Nat.reduceLeDiff, Nat.reduceLT, Nat.reduceAdd, Nat.reduceSub, Nat.reduceMul, true_and, and_true, false_and, and_false, true_implies, false_implies, implies_true, not_true_eq_false, not_false_eq_true, ne_eq, if_true, if_false, Bool.and_true, Bool.true_and, decide_true, decide_false, reduceIte, reduceCtorEq, Bool.and_self, Bool.and_eq_true, decide_eq_true_eq, and_self, true_or, or_true, false_or, or_false, Nat.zero_add, Nat.add_zero, eq_self, Nat.reduceEqDiff, Nat.reduceLeDiff, Nat.reduceLT, Nat.reduceAdd, Nat.reduceSub, Nat.reduceMul, e37_56, B37_56, nI_1]
      exact nx'
    · rw [if_neg e] at nx'
      simp only [e, xSeq, i_push, i_load, i_iload, i_lload, i_dload, i_aload, i_istore, i_astore, i_lstore, i_dstore, i_iinc, i_ii, i_iiz, i_ll, i_llz, i_lli, i_li, i_i, i_l, i_i2l, i_l2i, i_dup, i_dup2, i_dup2w, i_dupx1, i_pop, i_pop2, i_goto, i_ifc, i_icmp, i_getI, i_getL, i_getR, i_putI, i_putZ, i_putL, i_putR, i_aldI, i_aldB, i_aldL, i_aldD, i_astI, i_astL, i_astD, i_alen, i_ret, i_iret, i_zret, i_lret, i_fret, i_dret, i_aret, i_invS0, i_invV0, i_m2, i_m1, i_ml, i_obj, lk, lkp, stf1, stf2, Value.category, rV, xTo, lv_args, xCk, xCat, xRc, xAk, hg_S, hg_I, hg_J, hg_D, hg_R, hs_I, hs_J, hs_D, hs_R, uI_at, uJ_at, uD_at, uR_at, List.take_succ_cons, List.take_zero, List.drop_succ_cons, List.drop_zero, List.reverse_cons, List.reverse_nil, List.nil_append, List.cons_append, List.map_cons, List.map_nil, List.sum_cons, List.sum_nil, List.length_cons, List.length_nil, Option.toList_some, Option.toList_none, true_and, and_true, false_and, and_false, true_implies, false_implies, implies_true, not_true_eq_false, not_false_eq_true, ne_eq, if_true, if_false, Bool.and_true, Bool.true_and, decide_true, decide_false, reduceIte, reduceCtorEq, Bool.and_self, Bool.and_eq_true, decide_eq_true_eq, and_self, true_or, or_true, false_or, or_false, Nat.zero_add, Nat.add_zero, eq_self, Nat.reduceEqDiff, Nat.reduceLeDiff, Nat.reduceLT, Nat.reduceAdd, Nat.reduceSub, Nat.reduceMul, true_and, and_true, false_and, and_false, true_implies, false_implies, implies_true, not_true_eq_false, not_false_eq_true, ne_eq, if_true, if_false, Bool.and_true, Bool.true_and, decide_true, decide_false, reduceIte, reduceCtorEq, Bool.and_self, Bool.and_eq_true, decide_eq_true_eq, and_self, true_or, or_true, false_or, or_false, Nat.zero_add, Nat.add_zero, eq_self, Nat.reduceEqDiff, Nat.reduceLeDiff, Nat.reduceLT, Nat.reduceAdd, Nat.reduceSub, Nat.reduceMul, i1_0, e37_56, B37_56, nI_1]
      exact nx'
/-- the model: one of them -/
theorem L298_71 {V : Nat} (hV : V = 32768) {hf : Nat → Nat} (hf1 : ∀ c, hf c < 32768) {I0 : xI} {C : Nat → Nat} {K : Nat} (hL : LM S R) (hK : K ≤ 10000) (hC : ∀ i, i < K → J 310 i = lN (C i) ∧ C i < 2 ^ 64) {i : Nat} (hi : i < K) {T : Nat → Nat} (ht : TB V hf C i T) (hI : HTv V 342 I0 T I)
    (kk : ∀ I' T', HTv V 342 I0 T' I' → TB V hf C (i + 1) T' → xRun xT 298 138 [(0, .ref 200), (1, .int (nI (if sn C i = true then dct C i else dct C i + 1))), (2, .int (nI i))] [] (S, I', J, D, R) b Q) :
    ∀ (j k : Nat), k + j = V → (∀ k', k' < k → T (hq V (hf (C i)) k') ≠ 0 ∧ C (T (hq V (hf (C i)) k') - 1) ≠ C i) → xRun xT 298 71 [(0, .ref 200), (1, .int (nI (dct C i))), (2, .int (nI i)), (3, .long (lN (C i))), (5, .int (nI (hq V (hf (C i)) k)))] [] (S, I, J, D, R) b Q
  | 0, k, hk, hp => by
    obtain ⟨k0, c1, c2⟩ := TB_room hV ht (s := hf (C i)) (by omega) (by have := hf1 (C i); omega)
    exact absurd c2 (hp k0 (by omega)).1
  | j + 1, k, hk, hp => by
    have l1 := hf1 (C i)
    have l2 := hq_lt hV (hf (C i)) k
    have l3 := ht.1 _ l2
    have nx := L298_71 hV hf1 hL hK hC hi ht hI kk j (k + 1) (by omega)
    have eT := hI.1 _ l2
    have e2 : jRem (nI (hq V (hf (C i)) k + 1)) 32768 = nI (hq V (hf (C i)) (k + 1)) := by
      rw [show (32768 : Int32) = nI V from by rw [hV]; rfl, q_rem (by omega) (by omega) (by omega)]
      subst hV
      congr 1
      unfold hq
      omega
    obtain ⟨p, hpp⟩ : ∃ p, p = hq V (hf (C i)) k := ⟨_, rfl⟩
    rw [← hpp] at e2 eT l2 l3 ⊢
    rw [e298_71]
    simp only [B298_71, xSeq, i_push, i_load, i_iload, i_lload, i_dload, i_aload, i_istore, i_astore, i_lstore, i_dstore, i_iinc, i_ii, i_iiz, i_ll, i_llz, i_lli, i_li, i_i, i_l, i_i2l, i_l2i, i_dup, i_dup2, i_dup2w, i_dupx1, i_pop, i_pop2, i_goto, i_ifc, i_icmp, i_getI, i_getL, i_getR, i_putI, i_putZ, i_putL, i_putR, i_aldI, i_aldB, i_aldL, i_aldD, i_astI, i_astL, i_astD, i_alen, i_ret, i_iret, i_zret, i_lret, i_fret, i_dret, i_aret, i_invS0, i_invV0, i_m2, i_m1, i_ml, i_obj, lk, lkp, stf1, stf2, Value.category, rV, xTo, lv_args, xCk, xCat, xRc, xAk, hg_S, hg_I, hg_J, hg_D, hg_R, hs_I, hs_J, hs_D, hs_R, uI_at, uJ_at, uD_at, uR_at, List.take_succ_cons, List.take_zero, List.drop_succ_cons, List.drop_zero, List.reverse_cons, List.reverse_nil, List.nil_append, List.cons_append, List.map_cons, List.map_nil, List.sum_cons, List.sum_nil, List.length_cons, List.length_nil, Option.toList_some, Option.toList_none, true_and, and_true, false_and, and_false, true_implies, false_implies, implies_true, not_true_eq_false, not_false_eq_true, ne_eq, if_true, if_false, Bool.and_true, Bool.true_and, decide_true, decide_false, reduceIte, reduceCtorEq, Bool.and_self, Bool.and_eq_true, decide_eq_true_eq, and_self, true_or, or_true, false_or, or_false, Nat.zero_add, Nat.add_zero, eq_self, Nat.reduceEqDiff, Nat.reduceLeDiff, Nat.reduceLT, Nat.reduceAdd, Nat.reduceSub, Nat.reduceMul, xi144_0, ix_0, xi144_1, ix_1, xi144_2, ix_2, xi144_3, ix_3, xi144_4, ix_4, xi144_5, ix_5, xi144_6, ix_6, xi144_7, ix_7, xi144_8, ix_8, xi144_9, ix_9, xi144_10, ix_10, LM_out hL, nI_inP (show p < 32768 by omega) (by decide), nI_ix (show p < 2147483648 by omega), eT, nI_z (show T p < 2147483648 by omega)]
    by_cases e : T p = 0
    · have hs := TB_no hV ht hp (hpp ▸ e)
      have t2 := TB_new hV ht (by omega) (show k < V by omega) (fun k' q => (hp k' q).1) (hpp ▸ e) hs
      rw [← hpp] at t2
      have kk' := kk _ _ (HTv_up hI p (i + 1)) t2
      rw [hs, if_neg Bool.false_ne_true] at kk'
      simp only [e, true_and, and_true, false_and, and_false, true_implies, false_implies, implies_true, not_true_eq_false, not_false_eq_true, ne_eq, if_true, if_false, Bool.and_true, Bool.true_and, decide_true, decide_false, reduceIte, reduceCtorEq, Bool.and_self, Bool.and_eq_true, decide_eq_true_eq, and_self, true_or, or_true, false_or, or_false, Nat.zero_add, Nat.add_zero, eq_self, Nat.reduceEqDiff, Nat.reduceLeDiff, Nat.reduceLT, Nat.reduceAdd, Nat.reduceSub, Nat.reduceMul]
      rw [e298_112]
      simp only [B298_112, xSeq, i_push, i_load, i_iload, i_lload, i_dload, i_aload, i_istore, i_astore, i_lstore, i_dstore, i_iinc, i_ii, i_iiz, i_ll, i_llz, i_lli, i_li, i_i, i_l, i_i2l, i_l2i, i_dup, i_dup2, i_dup2w, i_dupx1, i_pop, i_pop2, i_goto, i_ifc, i_icmp, i_getI, i_getL, i_getR, i_putI, i_putZ, i_putL, i_putR, i_aldI, i_aldB, i_aldL, i_aldD, i_astI, i_astL, i_astD, i_alen, i_ret, i_iret, i_zret, i_lret, i_fret, i_dret, i_aret, i_invS0, i_invV0, i_m2, i_m1, i_ml, i_obj, lk, lkp, stf1, stf2, Value.category, rV, xTo, lv_args, xCk, xCat, xRc, xAk, hg_S, hg_I, hg_J, hg_D, hg_R, hs_I, hs_J, hs_D, hs_R, uI_at, uJ_at, uD_at, uR_at, List.take_succ_cons, List.take_zero, List.drop_succ_cons, List.drop_zero, List.reverse_cons, List.reverse_nil, List.nil_append, List.cons_append, List.map_cons, List.map_nil, List.sum_cons, List.sum_nil, List.length_cons, List.length_nil, Option.toList_some, Option.toList_none, true_and, and_true, false_and, and_false, true_implies, false_implies, implies_true, not_true_eq_false, not_false_eq_true, ne_eq, if_true, if_false, Bool.and_true, Bool.true_and, decide_true, decide_false, reduceIte, reduceCtorEq, Bool.and_self, Bool.and_eq_true, decide_eq_true_eq, and_self, true_or, or_true, false_or, or_false, Nat.zero_add, Nat.add_zero, eq_self, Nat.reduceEqDiff, Nat.reduceLeDiff, Nat.reduceLT, Nat.reduceAdd, Nat.reduceSub, Nat.reduceMul, xi144_0, ix_0, xi144_1, ix_1, xi144_2, ix_2, xi144_3, ix_3, xi144_4, ix_4, xi144_5, ix_5, xi144_6, ix_6, xi144_7, ix_7, xi144_8, ix_8, xi144_9, ix_9, xi144_10, ix_10, LM_out hL, nI_inP (show p < 32768 by omega) (by decide), nI_ix (show p < 2147483648 by omega), eT, e, nI_0, true_and, and_true, false_and, and_false, true_implies, false_implies, implies_true, not_true_eq_false, not_false_eq_true, ne_eq, if_true, if_false, Bool.and_true, Bool.true_and, decide_true, decide_false, reduceIte, reduceCtorEq, Bool.and_self, Bool.and_eq_true, decide_eq_true_eq, and_self, true_or, or_true, false_or, or_false, Nat.zero_add, Nat.add_zero, eq_self, Nat.reduceEqDiff, Nat.reduceLeDiff, Nat.reduceLT, Nat.reduceAdd, Nat.reduceSub, Nat.reduceMul]
      rw [e298_125]
      simp only [B298_125, xSeq, i_push, i_load, i_iload, i_lload, i_dload, i_aload, i_istore, i_astore, i_lstore, i_dstore, i_iinc, i_ii, i_iiz, i_ll, i_llz, i_lli, i_li, i_i, i_l, i_i2l, i_l2i, i_dup, i_dup2, i_dup2w, i_dupx1, i_pop, i_pop2, i_goto, i_ifc, i_icmp, i_getI, i_getL, i_getR, i_putI, i_putZ, i_putL, i_putR, i_aldI, i_aldB, i_aldL, i_aldD, i_astI, i_astL, i_astD, i_alen, i_ret, i_iret, i_zret, i_lret, i_fret, i_dret, i_aret, i_invS0, i_invV0, i_m2, i_m1, i_ml, i_obj, lk, lkp, stf1, stf2, Value.category, rV, xTo, lv_args, xCk, xCat, xRc, xAk, hg_S, hg_I, hg_J, hg_D, hg_R, hs_I, hs_J, hs_D, hs_R, uI_at, uJ_at, uD_at, uR_at, List.take_succ_cons, List.take_zero, List.drop_succ_cons, List.drop_zero, List.reverse_cons, List.reverse_nil, List.nil_append, List.cons_append, List.map_cons, List.map_nil, List.sum_cons, List.sum_nil, List.length_cons, List.length_nil, Option.toList_some, Option.toList_none, true_and, and_true, false_and, and_false, true_implies, false_implies, implies_true, not_true_eq_false, not_false_eq_true, ne_eq, if_true, if_false, Bool.and_true, Bool.true_and, decide_true, decide_false, reduceIte, reduceCtorEq, Bool.and_self, Bool.and_eq_true, decide_eq_true_eq, and_self, true_or, or_true, false_or, or_false, Nat.zero_add, Nat.add_zero, eq_self, Nat.reduceEqDiff, Nat.reduceLeDiff, Nat.reduceLT, Nat.reduceAdd, Nat.reduceSub, Nat.reduceMul, xi144_0, ix_0, xi144_1, ix_1, xi144_2, ix_2, xi144_3, ix_3, xi144_4, ix_4, xi144_5, ix_5, xi144_6, ix_6, xi144_7, ix_7, xi144_8, ix_8, xi144_9, ix_9, xi144_10, ix_10, LM_out hL, nI_inP (show p < 32768 by omega) (by decide), nI_ix (show p < 2147483648 by omega), nI_1]
      exact kk'
    · have tl := hC (T p - 1) (by omega)
      have ti := hC i hi
      simp only [e, true_and, and_true, false_and, and_false, true_implies, false_implies, implies_true, not_true_eq_false, not_false_eq_true, ne_eq, if_true, if_false, Bool.and_true, Bool.true_and, decide_true, decide_false, reduceIte, reduceCtorEq, Bool.and_self, Bool.and_eq_true, decide_eq_true_eq, and_self, true_or, or_true, false_or, or_false, Nat.zero_add, Nat.add_zero, eq_self, Nat.reduceEqDiff, Nat.reduceLeDiff, Nat.reduceLT, Nat.reduceAdd, Nat.reduceSub, Nat.reduceMul, nI_dec e (show T p < 2147483648 by omega), nI_inP (show T p - 1 < 10000 by omega) (by decide), nI_ix (show T p - 1 < 2147483648 by omega), tl.1, lN_cmp tl.2 ti.2]
      by_cases e3 : C (T p - 1) = C i
      · obtain ⟨hs, t2⟩ := TB_old hV ht (show k < V by omega) (fun k' q => (hp k' q).1) (hpp ▸ e) (hpp ▸ e3)
        have kk' := kk _ _ hI t2
        rw [if_pos hs] at kk'
        simp only [e3, true_and, and_true, false_and, and_false, true_implies, false_implies, implies_true, not_true_eq_false, not_false_eq_true, ne_eq, if_true, if_false, Bool.and_true, Bool.true_and, decide_true, decide_false, reduceIte, reduceCtorEq, Bool.and_self, Bool.and_eq_true, decide_eq_true_eq, and_self, true_or, or_true, false_or, or_false, Nat.zero_add, Nat.add_zero, eq_self, Nat.reduceEqDiff, Nat.reduceLeDiff, Nat.reduceLT, Nat.reduceAdd, Nat.reduceSub, Nat.reduceMul]
        rw [e298_112]
        simp only [B298_112, xSeq, i_push, i_load, i_iload, i_lload, i_dload, i_aload, i_istore, i_astore, i_lstore, i_dstore, i_iinc, i_ii, i_iiz, i_ll, i_llz, i_lli, i_li, i_i, i_l, i_i2l, i_l2i, i_dup, i_dup2, i_dup2w, i_dupx1, i_pop, i_pop2, i_goto, i_ifc, i_icmp, i_getI, i_getL, i_getR, i_putI, i_putZ, i_putL, i_putR, i_aldI, i_aldB, i_aldL, i_aldD, i_astI, i_astL, i_astD, i_alen, i_ret, i_iret, i_zret, i_lret, i_fret, i_dret, i_aret, i_invS0, i_invV0, i_m2, i_m1, i_ml, i_obj, lk, lkp, stf1, stf2, Value.category, rV, xTo, lv_args, xCk, xCat, xRc, xAk, hg_S, hg_I, hg_J, hg_D, hg_R, hs_I, hs_J, hs_D, hs_R, uI_at, uJ_at, uD_at, uR_at, List.take_succ_cons, List.take_zero, List.drop_succ_cons, List.drop_zero, List.reverse_cons, List.reverse_nil, List.nil_append, List.cons_append, List.map_cons, List.map_nil, List.sum_cons, List.sum_nil, List.length_cons, List.length_nil, Option.toList_some, Option.toList_none, true_and, and_true, false_and, and_false, true_implies, false_implies, implies_true, not_true_eq_false, not_false_eq_true, ne_eq, if_true, if_false, Bool.and_true, Bool.true_and, decide_true, decide_false, reduceIte, reduceCtorEq, Bool.and_self, Bool.and_eq_true, decide_eq_true_eq, and_self, true_or, or_true, false_or, or_false, Nat.zero_add, Nat.add_zero, eq_self, Nat.reduceEqDiff, Nat.reduceLeDiff, Nat.reduceLT, Nat.reduceAdd, Nat.reduceSub, Nat.reduceMul, xi144_0, ix_0, xi144_1, ix_1, xi144_2, ix_2, xi144_3, ix_3, xi144_4, ix_4, xi144_5, ix_5, xi144_6, ix_6, xi144_7, ix_7, xi144_8, ix_8, xi144_9, ix_9, xi144_10, ix_10, LM_out hL, nI_inP (show p < 32768 by omega) (by decide), nI_ix (show p < 2147483648 by omega), eT, nI_z (show T p < 2147483648 by omega), e, true_and, and_true, false_and, and_false, true_implies, false_implies, implies_true, not_true_eq_false, not_false_eq_true, ne_eq, if_true, if_false, Bool.and_true, Bool.true_and, decide_true, decide_false, reduceIte, reduceCtorEq, Bool.and_self, Bool.and_eq_true, decide_eq_true_eq, and_self, true_or, or_true, false_or, or_false, Nat.zero_add, Nat.add_zero, eq_self, Nat.reduceEqDiff, Nat.reduceLeDiff, Nat.reduceLT, Nat.reduceAdd, Nat.reduceSub, Nat.reduceMul]
        exact kk'
      · simp only [e3, true_and, and_true, false_and, and_false, true_implies, false_implies, implies_true, not_true_eq_false, not_false_eq_true, ne_eq, if_true, if_false, Bool.and_true, Bool.true_and, decide_true, decide_false, reduceIte, reduceCtorEq, Bool.and_self, Bool.and_eq_true, decide_eq_true_eq, and_self, true_or, or_true, false_or, or_false, Nat.zero_add, Nat.add_zero, eq_self, Nat.reduceEqDiff, Nat.reduceLeDiff, Nat.reduceLT, Nat.reduceAdd, Nat.reduceSub, Nat.reduceMul, nI_1, show ((32768 : Int32) = 0) = False from eq_false (by decide), e2]
        refine nx (fun k' q => ?_)
        rcases Nat.lt_succ_iff_lt_or_eq.mp q with q2 | q2
        · exact hp k' q2
        · rw [q2, ← hpp]; exact ⟨e, e3⟩
theorem L298_30 {V : Nat} (hV : V = 32768) {hf : Nat → Nat} (hf1 : ∀ c, hf c < 32768) (hf2 : ∀ c, c < 2 ^ 64 → ((lN c ^^^ jLushr (lN c) 15 ^^^ jLushr (lN c) 31 ^^^ jLushr (lN c) 47) &&& 32767).toInt32 = nI (hf c)) {I0 : xI} {C : Nat → Nat} {K : Nat} (hL : LM S R) (hK : K ≤ 10000) (hC : ∀ i, i < K → J 310 i = lN (C i) ∧ C i < 2 ^ 64) (h0 : I0 300 9 = nI K)
    (kk : ∀ I' T', HTv V 342 I0 T' I' → Q (.ok (some (.int (nI (dct C K))))) (S, I', J, D, R) b) :
    ∀ (j i : Nat) (I : xI) (T : Nat → Nat), i + j = K → TB V hf C i T → HTv V 342 I0 T I → xRun xT 298 30 [(0, .ref 200), (1, .int (nI (dct C i))), (2, .int (nI i))] [] (S, I, J, D, R) b Q
  | 0, i, I, T, hi, ht, hI => by
    have e : i = K := by omega
    subst e
    rw [e298_30]
    simp only [B298_30, xSeq, i_push, i_load, i_iload, i_lload, i_dload, i_aload, i_istore, i_astore, i_lstore, i_dstore, i_iinc, i_ii, i_iiz, i_ll, i_llz, i_lli, i_li, i_i, i_l, i_i2l, i_l2i, i_dup, i_dup2, i_dup2w, i_dupx1, i_pop, i_pop2, i_goto, i_ifc, i_icmp, i_getI, i_getL, i_getR, i_putI, i_putZ, i_putL, i_putR, i_aldI, i_aldB, i_aldL, i_aldD, i_astI, i_astL, i_astD, i_alen, i_ret, i_iret, i_zret, i_lret, i_fret, i_dret, i_aret, i_invS0, i_invV0, i_m2, i_m1, i_ml, i_obj, lk, lkp, stf1, stf2, Value.category, rV, xTo, lv_args, xCk, xCat, xRc, xAk, hg_S, hg_I, hg_J, hg_D, hg_R, hs_I, hs_J, hs_D, hs_R, uI_at, uJ_at, uD_at, uR_at, List.take_succ_cons, List.take_zero, List.drop_succ_cons, List.drop_zero, List.reverse_cons, List.reverse_nil, List.nil_append, List.cons_append, List.map_cons, List.map_nil, List.sum_cons, List.sum_nil, List.length_cons, List.length_nil, Option.toList_some, Option.toList_none, true_and, and_true, false_and, and_false, true_implies, false_implies, implies_true, not_true_eq_false, not_false_eq_true, ne_eq, if_true, if_false, Bool.and_true, Bool.true_and, decide_true, decide_false, reduceIte, reduceCtorEq, Bool.and_self, Bool.and_eq_true, decide_eq_true_eq, and_self, true_or, or_true, false_or, or_false, Nat.zero_add, Nat.add_zero, eq_self, Nat.reduceEqDiff, Nat.reduceLeDiff, Nat.reduceLT, Nat.reduceAdd, Nat.reduceSub, Nat.reduceMul, xi144_0, ix_0, xi144_1, ix_1, xi144_2, ix_2, xi144_3, ix_3, xi144_4, ix_4, xi144_5, ix_5, xi144_6, ix_6, xi144_7, ix_7, xi144_8, ix_8, xi144_9, ix_9, xi144_10, ix_10, LM_out hL, (hI.2 300 9 (by decide)).trans h0, nI_leP (show i < 2147483648 by omega) (show i < 2147483648 by omega), Nat.le_refl, e298_144, B298_144]
    exact kk I T hI
  | j + 1, i, I, T, hi, ht, hI => by
    have nx := fun I T => L298_30 hV hf1 hf2 hL hK hC h0 kk j (i + 1) I T (by omega)
    obtain ⟨c1, c2⟩ := hC i (by omega)
    have l1 := hf1 (C i)
    have e0 : hq V (hf (C i)) 0 = hf (C i) := by subst hV; unfold hq; omega
    have hh := L298_71 hV hf1 (K := K) (C := C) (I := I) (T := T) (J := J) (D := D) (b := b) (Q := Q) hL hK hC (show i < K by omega) ht hI (fun I' T' q1 q2 => by
      have nx' := nx I' T' q2 q1
      rw [dct] at nx'
      rw [e298_138]
      simp only [B298_138, xSeq, i_push, i_load, i_iload, i_lload, i_dload, i_aload, i_istore, i_astore, i_lstore, i_dstore, i_iinc, i_ii, i_iiz, i_ll, i_llz, i_lli, i_li, i_i, i_l, i_i2l, i_l2i, i_dup, i_dup2, i_dup2w, i_dupx1, i_pop, i_pop2, i_goto, i_ifc, i_icmp, i_getI, i_getL, i_getR, i_putI, i_putZ, i_putL, i_putR, i_aldI, i_aldB, i_aldL, i_aldD, i_astI, i_astL, i_astD, i_alen, i_ret, i_iret, i_zret, i_lret, i_fret, i_dret, i_aret, i_invS0, i_invV0, i_m2, i_m1, i_ml, i_obj, lk, lkp, stf1, stf2, Value.category, rV, xTo, lv_args, xCk, xCat, xRc, xAk, hg_S, hg_I, hg_J, hg_D, hg_R, hs_I, hs_J, hs_D, hs_R, uI_at, uJ_at, uD_at, uR_at, List.take_succ_cons, List.take_zero, List.drop_succ_cons, List.drop_zero, List.reverse_cons, List.reverse_nil, List.nil_append, List.cons_append, List.map_cons, List.map_nil, List.sum_cons, List.sum_nil, List.length_cons, List.length_nil, Option.toList_some, Option.toList_none, true_and, and_true, false_and, and_false, true_implies, false_implies, implies_true, not_true_eq_false, not_false_eq_true, ne_eq, if_true, if_false, Bool.and_true, Bool.true_and, decide_true, decide_false, reduceIte, reduceCtorEq, Bool.and_self, Bool.and_eq_true, decide_eq_true_eq, and_self, true_or, or_true, false_or, or_false, Nat.zero_add, Nat.add_zero, eq_self, Nat.reduceEqDiff, Nat.reduceLeDiff, Nat.reduceLT, Nat.reduceAdd, Nat.reduceSub, Nat.reduceMul, nI_1]
      exact nx') V 0 (by omega) (fun k' q => absurd q (Nat.not_lt_zero k'))
    rw [e0] at hh
    rw [e298_30]
    simp only [B298_30, xSeq, i_push, i_load, i_iload, i_lload, i_dload, i_aload, i_istore, i_astore, i_lstore, i_dstore, i_iinc, i_ii, i_iiz, i_ll, i_llz, i_lli, i_li, i_i, i_l, i_i2l, i_l2i, i_dup, i_dup2, i_dup2w, i_dupx1, i_pop, i_pop2, i_goto, i_ifc, i_icmp, i_getI, i_getL, i_getR, i_putI, i_putZ, i_putL, i_putR, i_aldI, i_aldB, i_aldL, i_aldD, i_astI, i_astL, i_astD, i_alen, i_ret, i_iret, i_zret, i_lret, i_fret, i_dret, i_aret, i_invS0, i_invV0, i_m2, i_m1, i_ml, i_obj, lk, lkp, stf1, stf2, Value.category, rV, xTo, lv_args, xCk, xCat, xRc, xAk, hg_S, hg_I, hg_J, hg_D, hg_R, hs_I, hs_J, hs_D, hs_R, uI_at, uJ_at, uD_at, uR_at, List.take_succ_cons, List.take_zero, List.drop_succ_cons, List.drop_zero, List.reverse_cons, List.reverse_nil, List.nil_append, List.cons_append, List.map_cons, List.map_nil, List.sum_cons, List.sum_nil, List.length_cons, List.length_nil, Option.toList_some, Option.toList_none, true_and, and_true, false_and, and_false, true_implies, false_implies, implies_true, not_true_eq_false, not_false_eq_true, ne_eq, if_true, if_false, Bool.and_true, Bool.true_and, decide_true, decide_false, reduceIte, reduceCtorEq, Bool.and_self, Bool.and_eq_true, decide_eq_true_eq, and_self, true_or, or_true, false_or, or_false, Nat.zero_add, Nat.add_zero, eq_self, Nat.reduceEqDiff, Nat.reduceLeDiff, Nat.reduceLT, Nat.reduceAdd, Nat.reduceSub, Nat.reduceMul, xi144_0, ix_0, xi144_1, ix_1, xi144_2, ix_2, xi144_3, ix_3, xi144_4, ix_4, xi144_5, ix_5, xi144_6, ix_6, xi144_7, ix_7, xi144_8, ix_8, xi144_9, ix_9, xi144_10, ix_10, LM_out hL, (hI.2 300 9 (by decide)).trans h0, nI_leP (show K < 2147483648 by omega) (show i < 2147483648 by omega), show (K ≤ i) = False from eq_false (by omega), nI_inP (show i < 10000 by omega) (by decide), nI_ix (show i < 2147483648 by omega), c1, hf2 _ c2]
    exact hh
end
