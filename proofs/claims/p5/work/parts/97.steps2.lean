/-! ===== steps of the model ===== -/
section
variable {S : xS} {I : xI} {J : xJ} {D : xDb} {R : xR} {b : Nat × Nat} {Q : xQ} {n m : Nat} {fi se dg : Nat → Nat} {sb : Nat → Nat → Nat}
theorem R274_t (hL : LM S R) (hG : GR n m fi se dg sb) (hC : CM I n m fi se dg sb) {a bb : Nat} (hA : I 300 2 = nI a) (hB : I 300 3 = nI bb) (ha : a < 2147483648) (h0 : 0 < bb) (hb : bb < 2147483648) (hr : I 300 5 = 0 ∨ I 300 5 = 1 ∨ I 300 5 = 2) {K i t' : Nat} {v : Int32} {z z' : xG} (hK : K < 2147483648) (hi : i < K) (hg : z.2.1 < 2147483648) (ez : uJ (mJ J z) 200 4 (lN (nx z.2.1)) = mJ J z') (eI : mI I z = mI I z') (et : dw z.2.1 n = t') (ht : t' < n) (hs : z'.1 < 2 ^ 64) (hg2 : z'.2.1 < 2147483648) (ew : z.2.2.2 = z'.2.2.2) :
    xRun xT 274 36 [(0, .ref 200), (1, .int (nI K)), (2, .int (z.2.2.2 - v)), (3, .int (nI i))] [] (S, mI I z, mJ J z, D, R) b Q = xRun xT 274 36 [(0, .ref 200), (1, .int (nI K)), (2, .int ((tS (I 300 4) (fun k => I 300 (16 + k)) fi se dg sb (I 300 5) a bb t' z').2.2.2 - v)), (3, .int (nI (i + 1)))] [] (S, mI I (tS (I 300 4) (fun k => I 300 (16 + k)) fi se dg sb (I 300 5) a bb t' z'), mJ J (tS (I 300 4) (fun k => I 300 (16 + k)) fi se dg sb (I 300 5) a bb t' z'), D, R) b Q := by
  rw [R274_s hL hG hC hA hB ha h0 hb hr hK hi hg ez eI et ht hs hg2, ew]
  have k := tS_fl (F := I 300 4) (st := fun k => I 300 (16 + k)) (fi := fi) (se := se) (dg := dg) (sb := sb) (rule := I 300 5) (a := a) (bb := bb) (z := z') (t := t')
  have h : (tS (I 300 4) (fun k => I 300 (16 + k)) fi se dg sb (I 300 5) a bb t' z').2.2.2 - v = z'.2.2.2 - v + (if (tR (I 300 5) (dl (I 300 4) (fun k => I 300 (16 + k)) fi se dg sb z'.1 t') a bb z'.2.1).1 = true then 1 else 0) := by
    rw [k, i32_ac]
  rw [h]
theorem tD_s (F : Int32) (st : Nat → Int32) (rule : Int32) (a bb j : Nat) (z : xG) : tD F st fi se dg sb rule a bb n (j + 1) z = tD F st fi se dg sb rule a bb n j (tS F st fi se dg sb rule a bb (dw z.2.1 n) (z.1, nx z.2.1, z.2.2.1, z.2.2.2)) := by rw [tD]
theorem x1 (J : xJ) (z : xG) : uJ (mJ J z) 200 4 (lN (nx z.2.1)) = mJ J (z.1, nx z.2.1, z.2.2.1, z.2.2.2) := mJ_4 J z (nx z.2.1)
theorem x2 (I : xI) (z : xG) : mI I z = mI I (z.1, nx z.2.1, z.2.2.1, z.2.2.2) := (mI_g I z z.1 (nx z.2.1)).symm
theorem mk4 (a g : Nat) (u v : Int32) : ∃ z : xG, z = (a, g, u, v) ∧ z.1 = a ∧ z.2.1 = g ∧ z.2.2.2 = v := ⟨_, rfl, rfl, rfl, rfl⟩
theorem R274_36 (hL : LM S R) (hG : GR n m fi se dg sb) (hC : CM I n m fi se dg sb) {a bb : Nat} (hA : I 300 2 = nI a) (hB : I 300 3 = nI bb) (ha : a < 2147483648) (h0 : 0 < bb) (hb : bb < 2147483648) (hr : I 300 5 = 0 ∨ I 300 5 = 1 ∨ I 300 5 = 2) {K : Nat} (hK : K < 2147483648) {v : Int32} : ∀ (j i : Nat) (z : xG), i + j = K → z.1 < 2 ^ n → z.2.1 < 2147483648 →
    xRun xT 274 36 [(0, .ref 200), (1, .int (nI K)), (2, .int (z.2.2.2 - v)), (3, .int (nI i))] [] (S, mI I z, mJ J z, D, R) b Q = Q (.ok (some (.int ((tD (I 300 4) (fun k => I 300 (16 + k)) fi se dg sb (I 300 5) a bb n j z).2.2.2 - v)))) (S, mI I (tD (I 300 4) (fun k => I 300 (16 + k)) fi se dg sb (I 300 5) a bb n j z), mJ J (tD (I 300 4) (fun k => I 300 (16 + k)) fi se dg sb (I 300 5) a bb n j z), D, R) b
  | 0, i, z, hi, hs, hg => by
    have e : i = K := by omega
    subst e
    rw [e274_36]
    simp only [B274_36, xSeq, i_push, i_load, i_iload, i_lload, i_dload, i_aload, i_istore, i_astore, i_lstore, i_dstore, i_iinc, i_ii, i_iiz, i_ll, i_llz, i_lli, i_li, i_i, i_l, i_i2l, i_l2i, i_dup, i_dup2, i_dup2w, i_dupx1, i_pop, i_pop2, i_goto, i_ifc, i_icmp, i_getI, i_getL, i_getR, i_putI, i_putZ, i_putL, i_putR, i_aldI, i_aldB, i_aldL, i_aldD, i_astI, i_astL, i_astD, i_alen, i_ret, i_iret, i_zret, i_lret, i_fret, i_dret, i_aret, i_invS0, i_invV0, i_m2, i_m1, i_ml, i_obj, lk, lkp, stf1, stf2, Value.category, rV, xTo, lv_args, xCk, xCat, xRc, xAk, hg_S, hg_I, hg_J, hg_D, hg_R, hs_I, hs_J, hs_D, hs_R, uI_at, uJ_at, uD_at, uR_at, List.take_succ_cons, List.take_zero, List.drop_succ_cons, List.drop_zero, List.reverse_cons, List.reverse_nil, List.nil_append, List.cons_append, List.map_cons, List.map_nil, List.sum_cons, List.sum_nil, List.length_cons, List.length_nil, Option.toList_some, Option.toList_none, true_and, and_true, false_and, and_false, true_implies, false_implies, implies_true, not_true_eq_false, not_false_eq_true, ne_eq, if_true, if_false, Bool.and_true, Bool.true_and, decide_true, decide_false, reduceIte, reduceCtorEq, Bool.and_self, Bool.and_eq_true, decide_eq_true_eq, and_self, true_or, or_true, false_or, or_false, Nat.zero_add, Nat.add_zero, eq_self, Nat.reduceEqDiff, Nat.reduceLeDiff, Nat.reduceLT, Nat.reduceAdd, Nat.reduceSub, Nat.reduceMul, nI_leP hK hK, Nat.le_refl, e274_73, B274_73, tD]
  | j + 1, i, z, hi, hs, hg => by
    have h64 : z.1 < 2 ^ 64 := Nat.lt_of_lt_of_le hs (Nat.pow_le_pow_right (by decide) hG.2.1)
    obtain ⟨z', hz, a1, a2, a3⟩ := mk4 z.1 (nx z.2.1) z.2.2.1 z.2.2.2
    have q1 : uJ (mJ J z) 200 4 (lN (nx z.2.1)) = mJ J z' := by rw [hz]; exact x1 J z
    have q2 : mI I z = mI I z' := by rw [hz]; exact x2 I z
    have q6 : tD (I 300 4) (fun k => I 300 (16 + k)) fi se dg sb (I 300 5) a bb n (j + 1) z = tD (I 300 4) (fun k => I 300 (16 + k)) fi se dg sb (I 300 5) a bb n j (tS (I 300 4) (fun k => I 300 (16 + k)) fi se dg sb (I 300 5) a bb (dw z.2.1 n) z') := by rw [hz]; exact tD_s _ _ _ _ _ _ _
    clear hz
    have q7 : z'.1 < 2 ^ 64 := by rw [a1]; exact h64
    have q8 : z'.1 < 2 ^ n := by rw [a1]; exact hs
    have q4 : z'.2.1 < 2147483648 := by rw [a2]; exact nx_lt _
    have qd := dw_lt z.2.1 hG.1
    obtain ⟨t', qt⟩ : ∃ t', dw z.2.1 n = t' := ⟨_, rfl⟩
    rw [qt] at q6 qd
    rw [q6]
    have e := R274_t (D := D) (b := b) (Q := Q) (v := v) hL hG hC hA hB ha h0 hb hr hK (show i < K by omega) hg q1 q2 qt qd q7 q4 a3.symm
    obtain ⟨k1, k2⟩ := tS_ok (F := I 300 4) (st := fun k => I 300 (16 + k)) (fi := fi) (se := se) (dg := dg) (sb := sb) (rule := I 300 5) (a := a) (bb := bb) (N := n) (z := z') qd q8 q4
    have ih := R274_36 hL hG hC hA hB ha h0 hb hr hK (v := v) j (i + 1) (tS (I 300 4) (fun k => I 300 (16 + k)) fi se dg sb (I 300 5) a bb t' z') (by omega) k1 k2
    exact e.trans ih
end
