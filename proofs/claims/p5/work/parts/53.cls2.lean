/-! ===== the class: attempts, sweeps ===== -/
section
variable {S : xS} {I : xI} {J : xJ} {D : xDb} {R : xR} {b : Nat × Nat} {Q : xQ} {n m : Nat} {fi se dg : Nat → Nat} {sb : Nat → Nat → Nat}
theorem R82 (hL : LC S R) {d : Int32} : xRun xT 82 0 [(0, .ref 110), (1, .int d)] [] (S, I, J, D, R) b Q = Q (.ok (some (.int (if I 110 9 = 2 ∨ d ≤ 0 then 0 else if I 110 9 = 1 then -1 else d)))) (S, I, J, D, R) b := by
  rw [e82_0]
  simp only [B82_0, xSeq, i_push, i_load, i_iload, i_lload, i_dload, i_aload, i_istore, i_astore, i_lstore, i_dstore, i_iinc, i_ii, i_iiz, i_ll, i_llz, i_lli, i_li, i_i, i_l, i_i2l, i_l2i, i_dup, i_dup2, i_dup2w, i_dupx1, i_pop, i_pop2, i_goto, i_ifc, i_icmp, i_getI, i_getL, i_getR, i_putI, i_putZ, i_putL, i_putR, i_aldI, i_aldB, i_aldL, i_aldD, i_astI, i_astL, i_astD, i_alen, i_ret, i_iret, i_zret, i_lret, i_fret, i_dret, i_aret, i_invS0, i_invV0, i_m2, i_m1, i_ml, i_obj, lk, lkp, stf1, stf2, Value.category, rV, xTo, lv_args, xCk, xCat, xRc, xAk, hg_S, hg_I, hg_J, hg_D, hg_R, hs_I, hs_J, hs_D, hs_R, uI_at, uJ_at, uD_at, uR_at, List.take_succ_cons, List.take_zero, List.drop_succ_cons, List.drop_zero, List.reverse_cons, List.reverse_nil, List.nil_append, List.cons_append, List.map_cons, List.map_nil, List.sum_cons, List.sum_nil, List.length_cons, List.length_nil, Option.toList_some, Option.toList_none, true_and, and_true, false_and, and_false, true_implies, false_implies, implies_true, not_true_eq_false, not_false_eq_true, ne_eq, if_true, if_false, Bool.and_true, Bool.true_and, decide_true, decide_false, reduceIte, reduceCtorEq, Bool.and_self, Bool.and_eq_true, decide_eq_true_eq, and_self, true_or, or_true, false_or, or_false, Nat.zero_add, Nat.add_zero, eq_self, Nat.reduceEqDiff, Nat.reduceLeDiff, Nat.reduceLT, Nat.reduceAdd, Nat.reduceSub, Nat.reduceMul, LC_out hL, e82_12, B82_12, e82_14, B82_14, e82_26, B82_26, e82_27, B82_27]
  by_cases h1 : I 110 9 = 2
  · simp [h1]
  · by_cases h2 : d ≤ 0
    · have h3 : ¬ 0 < d := fun h => absurd h (Int32.not_lt.mpr h2)
      simp [h1, h2, h3]
    · have h3 : 0 < d := Int32.not_le.mp h2
      by_cases h4 : I 110 9 = 1 <;> simp [h2, h3, h4]
      simp [h1]
/-- the fate of an attempt: is the spin flipped, the generator then -/
def tR (rule d : Int32) (a bb g : Nat) : Bool × Nat := if rule = 2 ∨ d ≤ 0 then (true, g) else if rule = 1 then (false, g) else pd a bb d.toNatClampNeg g
/-- what attempts change: spins, generator, attempts, flips -/
abbrev xG : Type := Nat × Nat × Int32 × Int32
def cI (I : xI) (z : xG) : xI := uI (uI I 110 10 z.2.2.1) 110 11 z.2.2.2
def cJ (J : xJ) (z : xG) : xJ := uJ (uJ J 110 4 (lN z.1)) 110 5 (lN z.2.1)
theorem cI_at (I : xI) (z : xG) (o k : Nat) : cI I z o k = if o = 110 ∧ k = 11 then z.2.2.2 else if o = 110 ∧ k = 10 then z.2.2.1 else I o k := rfl
theorem cJ_at (J : xJ) (z : xG) (o k : Nat) : cJ J z o k = if o = 110 ∧ k = 5 then lN z.2.1 else if o = 110 ∧ k = 4 then lN z.1 else J o k := rfl
theorem cJ_s (J : xJ) (z : xG) : cJ J z 110 4 = lN z.1 := rfl
theorem cJ_g (J : xJ) (z : xG) : cJ J z 110 5 = lN z.2.1 := rfl
theorem cI_10 (I : xI) (z : xG) (v : Int32) : uI (cI I z) 110 10 v = cI I (z.1, z.2.1, v, z.2.2.2) := by
  funext o k
  simp only [uI_at, cI_at]
  by_cases h : o = 110 ∧ k = 10
  · rw [if_pos h, if_neg (by omega), if_pos h]
  · rw [if_neg h, if_neg h, if_neg h]
theorem cI_11 (I : xI) (z : xG) (v : Int32) : uI (cI I z) 110 11 v = cI I (z.1, z.2.1, z.2.2.1, v) := by
  funext o k
  simp only [uI_at, cI_at]
  by_cases h : o = 110 ∧ k = 11
  · rw [if_pos h, if_pos h]
  · rw [if_neg h, if_neg h, if_neg h]
theorem cJ_5 (J : xJ) (z : xG) (g : Nat) : uJ (cJ J z) 110 5 (lN g) = cJ J (z.1, g, z.2.2.1, z.2.2.2) := by
  funext o k
  simp only [uJ_at, cJ_at]
  by_cases h : o = 110 ∧ k = 5
  · rw [if_pos h, if_pos h]
  · rw [if_neg h, if_neg h, if_neg h]
theorem cJ_4 (J : xJ) (z : xG) (s : Nat) : uJ (cJ J z) 110 4 (lN s) = cJ J (s, z.2.1, z.2.2.1, z.2.2.2) := by
  funext o k
  simp only [uJ_at, cJ_at]
  by_cases h : o = 110 ∧ k = 4
  · rw [if_pos h, if_neg (by omega), if_pos h]
  · rw [if_neg h, if_neg h, if_neg h]
theorem cI_CL {I : xI} {z : xG} (h : CL I n m fi se dg sb) : CL (cI I z) n m fi se dg sb := by
  obtain ⟨c1, c2, c3, c4, c5, c6⟩ := h
  exact ⟨c1, c2, c3, c4, c5, c6⟩
/-- one attempt -/
def tS (F : Int32) (st : Nat → Int32) (fi se dg : Nat → Nat) (sb : Nat → Nat → Nat) (rule : Int32) (a bb t : Nat) (z : xG) : xG :=
  (if (tR rule (dl F st fi se dg sb z.1 t) a bb z.2.1).1 = true then z.1 ^^^ 2 ^ t else z.1, (tR rule (dl F st fi se dg sb z.1 t) a bb z.2.1).2, z.2.2.1 + 1, if (tR rule (dl F st fi se dg sb z.1 t) a bb z.2.1).1 = true then z.2.2.2 + 1 else z.2.2.2)
theorem i32_nI (d : Int32) (h : 0 < d) : d = nI d.toNatClampNeg ∧ d.toNatClampNeg < 2147483648 := by
  obtain ⟨j, hj, rfl⟩ := nI_of (x := d) (fun e => absurd (Int32.lt_trans h e) (Int32.lt_irrefl))
  rw [nI_clamp hj]
  exact ⟨rfl, hj⟩
theorem R81 (hL : LC S R) (hG : GR n m fi se dg sb) (hC : CL I n m fi se dg sb) {a bb : Nat} (hA : I 110 7 = nI a) (hB : I 110 8 = nI bb) (ha : a < 2147483648) (h0 : 0 < bb) (hb : bb < 2147483648) {z : xG} (hs : z.1 < 2 ^ 64) (hg : z.2.1 < 2147483648) {t : Nat} (ht : t < n) :
    xRun xT 81 0 [(0, .ref 110), (1, .int (nI t))] [] (S, cI I z, cJ J z, D, R) b Q = Q (.ok (some (.int (if (tR (I 110 9) (dl (I 110 6) (I 111) fi se dg sb z.1 t) a bb z.2.1).1 = true then 1 else 0)))) (S, cI I (tS (I 110 6) (I 111) fi se dg sb (I 110 9) a bb t z), cJ J (tS (I 110 6) (I 111) fi se dg sb (I 110 9) a bb t z), D, R) b := by
  have g1 := hG.2.1
  have eF : cI I z 110 6 = I 110 6 := rfl
  have eR : cI I z 110 9 = I 110 9 := rfl
  have eS : cI I z 111 = I 111 := rfl
  have eJ : cJ J z 110 4 = lN z.1 := rfl
  have e1 : (1 : Int64) = lN 1 := rfl
  rw [e81_0]
  simp only [B81_0, xSeq, i_push, i_load, i_iload, i_lload, i_dload, i_aload, i_istore, i_astore, i_lstore, i_dstore, i_iinc, i_ii, i_iiz, i_ll, i_llz, i_lli, i_li, i_i, i_l, i_i2l, i_l2i, i_dup, i_dup2, i_dup2w, i_dupx1, i_pop, i_pop2, i_goto, i_ifc, i_icmp, i_getI, i_getL, i_getR, i_putI, i_putZ, i_putL, i_putR, i_aldI, i_aldB, i_aldL, i_aldD, i_astI, i_astL, i_astD, i_alen, i_ret, i_iret, i_zret, i_lret, i_fret, i_dret, i_aret, i_invS0, i_invV0, i_m2, i_m1, i_ml, i_obj, lk, lkp, stf1, stf2, Value.category, rV, xTo, lv_args, xCk, xCat, xRc, xAk, hg_S, hg_I, hg_J, hg_D, hg_R, hs_I, hs_J, hs_D, hs_R, uI_at, uJ_at, uD_at, uR_at, List.take_succ_cons, List.take_zero, List.drop_succ_cons, List.drop_zero, List.reverse_cons, List.reverse_nil, List.nil_append, List.cons_append, List.map_cons, List.map_nil, List.sum_cons, List.sum_nil, List.length_cons, List.length_nil, Option.toList_some, Option.toList_none, true_and, and_true, false_and, and_false, true_implies, false_implies, implies_true, not_true_eq_false, not_false_eq_true, ne_eq, if_true, if_false, Bool.and_true, Bool.true_and, decide_true, decide_false, reduceIte, reduceCtorEq, Bool.and_self, Bool.and_eq_true, decide_eq_true_eq, and_self, true_or, or_true, false_or, or_false, Nat.zero_add, Nat.add_zero, eq_self, Nat.reduceEqDiff, Nat.reduceLeDiff, Nat.reduceLT, Nat.reduceAdd, Nat.reduceSub, Nat.reduceMul, LC_out hL, eJ, R76 (I := cI I z) (J := cJ J z) hL hG (cI_CL hC) hs ht, R82 (I := cI I z) hL, eF, eR, eS, cI_10]
  have hAz : cI I (z.1, z.2.1, cI I z 110 10 + 1, z.2.2.2) 110 7 = nI a := hA
  have hBz : cI I (z.1, z.2.1, cI I z 110 10 + 1, z.2.2.2) 110 8 = nI bb := hB
  have h83 := fun (d : Nat) (hd : d < 2147483648) (Q : xQ) => R83 (S := S) (R := R) (J := cJ J z) (D := D) (b := (0, 0)) (Q := Q) (I := cI I (z.1, z.2.1, cI I z 110 10 + 1, z.2.2.2)) hL hAz hBz ha h0 hb hd (g := z.2.1) hg rfl
  generalize hd : dl (I 110 6) (I 111) fi se dg sb z.1 t = d at *
  unfold tS tR
  rw [hd]
  by_cases h1 : I 110 9 = 2 ∨ d ≤ 0
  · have h2 := h83 0 (by decide)
    rw [nI_0] at h2
    simp only [h1, true_and, and_true, false_and, and_false, true_implies, false_implies, implies_true, not_true_eq_false, not_false_eq_true, ne_eq, if_true, if_false, Bool.and_true, Bool.true_and, decide_true, decide_false, reduceIte, reduceCtorEq, Bool.and_self, Bool.and_eq_true, decide_eq_true_eq, and_self, true_or, or_true, false_or, or_false, Nat.zero_add, Nat.add_zero, eq_self, Nat.reduceEqDiff, Nat.reduceLeDiff, Nat.reduceLT, Nat.reduceAdd, Nat.reduceSub, Nat.reduceMul, show ((0 : Int32) = -1) = False from eq_false (by decide), h2, pd, e81_39, B81_39, xSeq, i_push, i_load, i_iload, i_lload, i_dload, i_aload, i_istore, i_astore, i_lstore, i_dstore, i_iinc, i_ii, i_iiz, i_ll, i_llz, i_lli, i_li, i_i, i_l, i_i2l, i_l2i, i_dup, i_dup2, i_dup2w, i_dupx1, i_pop, i_pop2, i_goto, i_ifc, i_icmp, i_getI, i_getL, i_getR, i_putI, i_putZ, i_putL, i_putR, i_aldI, i_aldB, i_aldL, i_aldD, i_astI, i_astL, i_astD, i_alen, i_ret, i_iret, i_zret, i_lret, i_fret, i_dret, i_aret, i_invS0, i_invV0, i_m2, i_m1, i_ml, i_obj, lk, lkp, stf1, stf2, Value.category, rV, xTo, lv_args, xCk, xCat, xRc, xAk, hg_S, hg_I, hg_J, hg_D, hg_R, hs_I, hs_J, hs_D, hs_R, uI_at, uJ_at, uD_at, uR_at, List.take_succ_cons, List.take_zero, List.drop_succ_cons, List.drop_zero, List.reverse_cons, List.reverse_nil, List.nil_append, List.cons_append, List.map_cons, List.map_nil, List.sum_cons, List.sum_nil, List.length_cons, List.length_nil, Option.toList_some, Option.toList_none, LC_out hL, cJ_5, cJ_4, cI_11, cJ_s, i1_0, e1, q_shl 1 (show t < 64 by omega), q_xor, Nat.one_mul]
    rfl
  · by_cases h3 : I 110 9 = 1
    · have h4 : ¬ d ≤ 0 := fun e => h1 (Or.inr e)
      simp only [h1, h3, h4, show ((1 : Int32) = 2) = False from eq_false (by decide), xSeq, i_push, i_load, i_iload, i_lload, i_dload, i_aload, i_istore, i_astore, i_lstore, i_dstore, i_iinc, i_ii, i_iiz, i_ll, i_llz, i_lli, i_li, i_i, i_l, i_i2l, i_l2i, i_dup, i_dup2, i_dup2w, i_dupx1, i_pop, i_pop2, i_goto, i_ifc, i_icmp, i_getI, i_getL, i_getR, i_putI, i_putZ, i_putL, i_putR, i_aldI, i_aldB, i_aldL, i_aldD, i_astI, i_astL, i_astD, i_alen, i_ret, i_iret, i_zret, i_lret, i_fret, i_dret, i_aret, i_invS0, i_invV0, i_m2, i_m1, i_ml, i_obj, lk, lkp, stf1, stf2, Value.category, rV, xTo, lv_args, xCk, xCat, xRc, xAk, hg_S, hg_I, hg_J, hg_D, hg_R, hs_I, hs_J, hs_D, hs_R, uI_at, uJ_at, uD_at, uR_at, List.take_succ_cons, List.take_zero, List.drop_succ_cons, List.drop_zero, List.reverse_cons, List.reverse_nil, List.nil_append, List.cons_append, List.map_cons, List.map_nil, List.sum_cons, List.sum_nil, List.length_cons, List.length_nil, Option.toList_some, Option.toList_none, true_and, and_true, false_and, and_false, true_implies, false_implies, implies_true, not_true_eq_false, not_false_eq_true, ne_eq, if_true, if_false, Bool.and_true, Bool.true_and, decide_true, decide_false, reduceIte, reduceCtorEq, Bool.and_self, Bool.and_eq_true, decide_eq_true_eq, and_self, true_or, or_true, false_or, or_false, Nat.zero_add, Nat.add_zero, eq_self, Nat.reduceEqDiff, Nat.reduceLeDiff, Nat.reduceLT, Nat.reduceAdd, Nat.reduceSub, Nat.reduceMul, e81_37, B81_37, cI_at]
      simp
      rfl
    · have h4 : 0 < d := Int32.not_le.mp (fun h => h1 (Or.inr h))
      obtain ⟨h5, h6⟩ := i32_nI d h4
      have h2 := h83 d.toNatClampNeg h6
      rw [← h5] at h2
      have h7 : (d = -1) = False := eq_false (fun e => by rw [e] at h4; exact absurd h4 (by decide))
      simp only [h1, h3, h7, true_and, and_true, false_and, and_false, true_implies, false_implies, implies_true, not_true_eq_false, not_false_eq_true, ne_eq, if_true, if_false, Bool.and_true, Bool.true_and, decide_true, decide_false, reduceIte, reduceCtorEq, Bool.and_self, Bool.and_eq_true, decide_eq_true_eq, and_self, true_or, or_true, false_or, or_false, Nat.zero_add, Nat.add_zero, eq_self, Nat.reduceEqDiff, Nat.reduceLeDiff, Nat.reduceLT, Nat.reduceAdd, Nat.reduceSub, Nat.reduceMul, h2]
      cases hp : (pd a bb d.toNatClampNeg z.2.1).1
      · simp only [xSeq, i_push, i_load, i_iload, i_lload, i_dload, i_aload, i_istore, i_astore, i_lstore, i_dstore, i_iinc, i_ii, i_iiz, i_ll, i_llz, i_lli, i_li, i_i, i_l, i_i2l, i_l2i, i_dup, i_dup2, i_dup2w, i_dupx1, i_pop, i_pop2, i_goto, i_ifc, i_icmp, i_getI, i_getL, i_getR, i_putI, i_putZ, i_putL, i_putR, i_aldI, i_aldB, i_aldL, i_aldD, i_astI, i_astL, i_astD, i_alen, i_ret, i_iret, i_zret, i_lret, i_fret, i_dret, i_aret, i_invS0, i_invV0, i_m2, i_m1, i_ml, i_obj, lk, lkp, stf1, stf2, Value.category, rV, xTo, lv_args, xCk, xCat, xRc, xAk, hg_S, hg_I, hg_J, hg_D, hg_R, hs_I, hs_J, hs_D, hs_R, uI_at, uJ_at, uD_at, uR_at, List.take_succ_cons, List.take_zero, List.drop_succ_cons, List.drop_zero, List.reverse_cons, List.reverse_nil, List.nil_append, List.cons_append, List.map_cons, List.map_nil, List.sum_cons, List.sum_nil, List.length_cons, List.length_nil, Option.toList_some, Option.toList_none, true_and, and_true, false_and, and_false, true_implies, false_implies, implies_true, not_true_eq_false, not_false_eq_true, ne_eq, if_true, if_false, Bool.and_true, Bool.true_and, decide_true, decide_false, reduceIte, reduceCtorEq, Bool.and_self, Bool.and_eq_true, decide_eq_true_eq, and_self, true_or, or_true, false_or, or_false, Nat.zero_add, Nat.add_zero, eq_self, Nat.reduceEqDiff, Nat.reduceLeDiff, Nat.reduceLT, Nat.reduceAdd, Nat.reduceSub, Nat.reduceMul, e81_37, B81_37, cJ_5, Bool.false_eq_true, eq_self]
        simp
        rfl
      · simp only [xSeq, i_push, i_load, i_iload, i_lload, i_dload, i_aload, i_istore, i_astore, i_lstore, i_dstore, i_iinc, i_ii, i_iiz, i_ll, i_llz, i_lli, i_li, i_i, i_l, i_i2l, i_l2i, i_dup, i_dup2, i_dup2w, i_dupx1, i_pop, i_pop2, i_goto, i_ifc, i_icmp, i_getI, i_getL, i_getR, i_putI, i_putZ, i_putL, i_putR, i_aldI, i_aldB, i_aldL, i_aldD, i_astI, i_astL, i_astD, i_alen, i_ret, i_iret, i_zret, i_lret, i_fret, i_dret, i_aret, i_invS0, i_invV0, i_m2, i_m1, i_ml, i_obj, lk, lkp, stf1, stf2, Value.category, rV, xTo, lv_args, xCk, xCat, xRc, xAk, hg_S, hg_I, hg_J, hg_D, hg_R, hs_I, hs_J, hs_D, hs_R, uI_at, uJ_at, uD_at, uR_at, List.take_succ_cons, List.take_zero, List.drop_succ_cons, List.drop_zero, List.reverse_cons, List.reverse_nil, List.nil_append, List.cons_append, List.map_cons, List.map_nil, List.sum_cons, List.sum_nil, List.length_cons, List.length_nil, Option.toList_some, Option.toList_none, true_and, and_true, false_and, and_false, true_implies, false_implies, implies_true, not_true_eq_false, not_false_eq_true, ne_eq, if_true, if_false, Bool.and_true, Bool.true_and, decide_true, decide_false, reduceIte, reduceCtorEq, Bool.and_self, Bool.and_eq_true, decide_eq_true_eq, and_self, true_or, or_true, false_or, or_false, Nat.zero_add, Nat.add_zero, eq_self, Nat.reduceEqDiff, Nat.reduceLeDiff, Nat.reduceLT, Nat.reduceAdd, Nat.reduceSub, Nat.reduceMul, LC_out hL, e81_39, B81_39, cJ_5, cJ_4, cI_11, cJ_s, i1_0, e1, q_shl 1 (show t < 64 by omega), q_xor, Nat.one_mul]
        rfl
end
