/-! ===== both: sweeps and steps, many ===== -/
section
variable {S : xS} {I : xI} {J : xJ} {D : xDb} {R : xR} {b : Nat × Nat} {Q : xQ} {n m : Nat} {fi se dg : Nat → Nat} {sb : Nat → Nat → Nat}
theorem cI_g (I : xI) (z : xG) (s g : Nat) : cI I (s, g, z.2.2.1, z.2.2.2) = cI I z := rfl
theorem mI_g (I : xI) (z : xG) (s g : Nat) : mI I (s, g, z.2.2.1, z.2.2.2) = mI I z := rfl
theorem tS_congr {F : Int32} {st st' : Nat → Int32} (hG : GR n m fi se dg sb) (h : ∀ k, k < m → st k = st' k) {rule : Int32} {a bb t : Nat} (ht : t < n) (z : xG) : tS F st fi se dg sb rule a bb t z = tS F st' fi se dg sb rule a bb t z := by
  unfold tS
  rw [dl_congr hG z.1 ht h]
theorem tW_congr {F : Int32} {st st' : Nat → Int32} (hG : GR n m fi se dg sb) (h : ∀ k, k < m → st k = st' k) {rule : Int32} {a bb : Nat} : ∀ (j i : Nat) (z : xG), i + j ≤ n → tW F st fi se dg sb rule a bb j i z = tW F st' fi se dg sb rule a bb j i z
  | 0, _, _, _ => rfl
  | j + 1, i, z, hi => by rw [tW, tW, tS_congr hG h (show i < n by omega), tW_congr hG h j (i + 1) _ (by omega)]
theorem tD_congr {F : Int32} {st st' : Nat → Int32} (hG : GR n m fi se dg sb) (h : ∀ k, k < m → st k = st' k) {rule : Int32} {a bb : Nat} : ∀ (j : Nat) (z : xG), tD F st fi se dg sb rule a bb n j z = tD F st' fi se dg sb rule a bb n j z
  | 0, _ => rfl
  | j + 1, z => by rw [tD, tD, tS_congr hG h (dw_lt _ hG.1), tD_congr hG h j _]
/-- sweeps -/
def tV (F : Int32) (st : Nat → Int32) (fi se dg : Nat → Nat) (sb : Nat → Nat → Nat) (rule : Int32) (a bb n : Nat) : Nat → xG → xG
  | 0, z => z
  | j + 1, z => tV F st fi se dg sb rule a bb n j (tW F st fi se dg sb rule a bb n 0 z)
theorem tV_congr {F : Int32} {st st' : Nat → Int32} (hG : GR n m fi se dg sb) (h : ∀ k, k < m → st k = st' k) {rule : Int32} {a bb : Nat} : ∀ (j : Nat) (z : xG), tV F st fi se dg sb rule a bb n j z = tV F st' fi se dg sb rule a bb n j z
  | 0, _ => rfl
  | j + 1, z => by rw [tV, tV, tW_congr hG h n 0 z (by omega), tV_congr hG h j _]
theorem tW_ok {F : Int32} {st : Nat → Int32} {rule : Int32} {a bb N : Nat} : ∀ (j i : Nat) (z : xG), i + j ≤ N → z.1 < 2 ^ N → z.2.1 < 2147483648 → (tW F st fi se dg sb rule a bb j i z).1 < 2 ^ N ∧ (tW F st fi se dg sb rule a bb j i z).2.1 < 2147483648
  | 0, _, _, _, h1, h2 => ⟨h1, h2⟩
  | j + 1, i, z, hi, h1, h2 => by
    obtain ⟨k1, k2⟩ := tS_ok (F := F) (st := st) (fi := fi) (se := se) (dg := dg) (sb := sb) (rule := rule) (a := a) (bb := bb) (z := z) (show i < N by omega) h1 h2
    exact tW_ok j (i + 1) _ (by omega) k1 k2
theorem R85 (hL : LC S R) (hG : GR n m fi se dg sb) (hC : CL I n m fi se dg sb) {a bb : Nat} (hA : I 110 7 = nI a) (hB : I 110 8 = nI bb) (ha : a < 2147483648) (h0 : 0 < bb) (hb : bb < 2147483648) {z : xG} (hs : z.1 < 2 ^ 64) (hg : z.2.1 < 2147483648) :
    xRun xT 85 0 [(0, .ref 110)] [] (S, cI I z, cJ J z, D, R) b Q = Q (.ok none) (S, cI I (tW (I 110 6) (I 111) fi se dg sb (I 110 9) a bb n 0 z), cJ J (tW (I 110 6) (I 111) fi se dg sb (I 110 9) a bb n 0 z), D, R) b := by
  have h := R85_2 (J := J) (D := D) (b := b) (Q := Q) hL hG hC hA hB ha h0 hb n 0 z (by omega) hs hg
  rw [nI_0] at h
  rw [e85_0]
  simp only [B85_0, xSeq, i_push, i_load, i_iload, i_lload, i_dload, i_aload, i_istore, i_astore, i_lstore, i_dstore, i_iinc, i_ii, i_iiz, i_ll, i_llz, i_lli, i_li, i_i, i_l, i_i2l, i_l2i, i_dup, i_dup2, i_dup2w, i_dupx1, i_pop, i_pop2, i_goto, i_ifc, i_icmp, i_getI, i_getL, i_getR, i_putI, i_putZ, i_putL, i_putR, i_aldI, i_aldB, i_aldL, i_aldD, i_astI, i_astL, i_astD, i_alen, i_ret, i_iret, i_zret, i_lret, i_fret, i_dret, i_aret, i_invS0, i_invV0, i_m2, i_m1, i_ml, i_obj, lk, lkp, stf1, stf2, Value.category, rV, xTo, lv_args, xCk, xCat, xRc, xAk, hg_S, hg_I, hg_J, hg_D, hg_R, hs_I, hs_J, hs_D, hs_R, uI_at, uJ_at, uD_at, uR_at, List.take_succ_cons, List.take_zero, List.drop_succ_cons, List.drop_zero, List.reverse_cons, List.reverse_nil, List.nil_append, List.cons_append, List.map_cons, List.map_nil, List.sum_cons, List.sum_nil, List.length_cons, List.length_nil, Option.toList_some, Option.toList_none, true_and, and_true, false_and, and_false, true_implies, false_implies, implies_true, not_true_eq_false, not_false_eq_true, ne_eq, if_true, if_false, Bool.and_true, Bool.true_and, decide_true, decide_false, reduceIte, reduceCtorEq, Bool.and_self, Bool.and_eq_true, decide_eq_true_eq, and_self, true_or, or_true, false_or, or_false, Nat.zero_add, Nat.add_zero, eq_self, Nat.reduceEqDiff, Nat.reduceLeDiff, Nat.reduceLT, Nat.reduceAdd, Nat.reduceSub, Nat.reduceMul]
  exact h
theorem R276 (hL : LM S R) (hG : GR n m fi se dg sb) (hC : CM I n m fi se dg sb) {a bb : Nat} (hA : I 300 2 = nI a) (hB : I 300 3 = nI bb) (ha : a < 2147483648) (h0 : 0 < bb) (hb : bb < 2147483648) (hr : I 300 5 = 0 ∨ I 300 5 = 1 ∨ I 300 5 = 2) {z : xG} (hs : z.1 < 2 ^ 64) (hg : z.2.1 < 2147483648) :
    xRun xT 276 0 [(0, .ref 200)] [] (S, mI I z, mJ J z, D, R) b Q = Q (.ok (some (.int ((tW (I 300 4) (fun k => I 300 (16 + k)) fi se dg sb (I 300 5) a bb n 0 z).2.2.2 - z.2.2.2)))) (S, mI I (tW (I 300 4) (fun k => I 300 (16 + k)) fi se dg sb (I 300 5) a bb n 0 z), mJ J (tW (I 300 4) (fun k => I 300 (16 + k)) fi se dg sb (I 300 5) a bb n 0 z), D, R) b := by
  have h := R276_4 (J := J) (D := D) (b := b) (Q := Q) hL hG hC hA hB ha h0 hb hr n 0 z z.2.2.2 (by omega) hs hg
  rw [nI_0, Int32.sub_self] at h
  rw [e276_0]
  simp only [B276_0, xSeq, i_push, i_load, i_iload, i_lload, i_dload, i_aload, i_istore, i_astore, i_lstore, i_dstore, i_iinc, i_ii, i_iiz, i_ll, i_llz, i_lli, i_li, i_i, i_l, i_i2l, i_l2i, i_dup, i_dup2, i_dup2w, i_dupx1, i_pop, i_pop2, i_goto, i_ifc, i_icmp, i_getI, i_getL, i_getR, i_putI, i_putZ, i_putL, i_putR, i_aldI, i_aldB, i_aldL, i_aldD, i_astI, i_astL, i_astD, i_alen, i_ret, i_iret, i_zret, i_lret, i_fret, i_dret, i_aret, i_invS0, i_invV0, i_m2, i_m1, i_ml, i_obj, lk, lkp, stf1, stf2, Value.category, rV, xTo, lv_args, xCk, xCat, xRc, xAk, hg_S, hg_I, hg_J, hg_D, hg_R, hs_I, hs_J, hs_D, hs_R, uI_at, uJ_at, uD_at, uR_at, List.take_succ_cons, List.take_zero, List.drop_succ_cons, List.drop_zero, List.reverse_cons, List.reverse_nil, List.nil_append, List.cons_append, List.map_cons, List.map_nil, List.sum_cons, List.sum_nil, List.length_cons, List.length_nil, Option.toList_some, Option.toList_none, true_and, and_true, false_and, and_false, true_implies, false_implies, implies_true, not_true_eq_false, not_false_eq_true, ne_eq, if_true, if_false, Bool.and_true, Bool.true_and, decide_true, decide_false, reduceIte, reduceCtorEq, Bool.and_self, Bool.and_eq_true, decide_eq_true_eq, and_self, true_or, or_true, false_or, or_false, Nat.zero_add, Nat.add_zero, eq_self, Nat.reduceEqDiff, Nat.reduceLeDiff, Nat.reduceLT, Nat.reduceAdd, Nat.reduceSub, Nat.reduceMul]
  exact h
theorem R163_19 (hL : LC S R) (hG : GR n m fi se dg sb) (hC : CL I n m fi se dg sb) {a bb : Nat} (hA : I 110 7 = nI a) (hB : I 110 8 = nI bb) (ha : a < 2147483648) (h0 : 0 < bb) (hb : bb < 2147483648) {K : Nat} (hK : K < 2147483648) {v : Int32} : ∀ (j i : Nat) (z : xG), i + j = K → z.1 < 2 ^ n → z.2.1 < 2147483648 →
    xRun xT 163 19 [(0, .ref 100), (1, .int (nI K)), (2, .int v), (3, .int (nI i))] [] (S, cI I z, cJ J z, D, R) b Q = Q (.ok (some (.int ((tV (I 110 6) (I 111) fi se dg sb (I 110 9) a bb n j z).2.2.2 - v)))) (S, cI I (tV (I 110 6) (I 111) fi se dg sb (I 110 9) a bb n j z), cJ J (tV (I 110 6) (I 111) fi se dg sb (I 110 9) a bb n j z), D, R) b
  | 0, i, z, hi, hs, hg => by
    have e : i = K := by omega
    subst e
    rw [e163_19]
    simp only [B163_19, xSeq, i_push, i_load, i_iload, i_lload, i_dload, i_aload, i_istore, i_astore, i_lstore, i_dstore, i_iinc, i_ii, i_iiz, i_ll, i_llz, i_lli, i_li, i_i, i_l, i_i2l, i_l2i, i_dup, i_dup2, i_dup2w, i_dupx1, i_pop, i_pop2, i_goto, i_ifc, i_icmp, i_getI, i_getL, i_getR, i_putI, i_putZ, i_putL, i_putR, i_aldI, i_aldB, i_aldL, i_aldD, i_astI, i_astL, i_astD, i_alen, i_ret, i_iret, i_zret, i_lret, i_fret, i_dret, i_aret, i_invS0, i_invV0, i_m2, i_m1, i_ml, i_obj, lk, lkp, stf1, stf2, Value.category, rV, xTo, lv_args, xCk, xCat, xRc, xAk, hg_S, hg_I, hg_J, hg_D, hg_R, hs_I, hs_J, hs_D, hs_R, uI_at, uJ_at, uD_at, uR_at, List.take_succ_cons, List.take_zero, List.drop_succ_cons, List.drop_zero, List.reverse_cons, List.reverse_nil, List.nil_append, List.cons_append, List.map_cons, List.map_nil, List.sum_cons, List.sum_nil, List.length_cons, List.length_nil, Option.toList_some, Option.toList_none, true_and, and_true, false_and, and_false, true_implies, false_implies, implies_true, not_true_eq_false, not_false_eq_true, ne_eq, if_true, if_false, Bool.and_true, Bool.true_and, decide_true, decide_false, reduceIte, reduceCtorEq, Bool.and_self, Bool.and_eq_true, decide_eq_true_eq, and_self, true_or, or_true, false_or, or_false, Nat.zero_add, Nat.add_zero, eq_self, Nat.reduceEqDiff, Nat.reduceLeDiff, Nat.reduceLT, Nat.reduceAdd, Nat.reduceSub, Nat.reduceMul, nI_leP hK hK, Nat.le_refl, e163_37, B163_37, LC_out hL, tV]
    rfl
  | j + 1, i, z, hi, hs, hg => by
    have h64 : z.1 < 2 ^ 64 := Nat.lt_of_lt_of_le hs (Nat.pow_le_pow_right (by decide) hG.2.1)
    obtain ⟨k1, k2⟩ := tW_ok (F := I 110 6) (st := I 111) (fi := fi) (se := se) (dg := dg) (sb := sb) (rule := I 110 9) (a := a) (bb := bb) (N := n) n 0 z (by omega) hs hg
    rw [e163_19]
    simp only [B163_19, xSeq, i_push, i_load, i_iload, i_lload, i_dload, i_aload, i_istore, i_astore, i_lstore, i_dstore, i_iinc, i_ii, i_iiz, i_ll, i_llz, i_lli, i_li, i_i, i_l, i_i2l, i_l2i, i_dup, i_dup2, i_dup2w, i_dupx1, i_pop, i_pop2, i_goto, i_ifc, i_icmp, i_getI, i_getL, i_getR, i_putI, i_putZ, i_putL, i_putR, i_aldI, i_aldB, i_aldL, i_aldD, i_astI, i_astL, i_astD, i_alen, i_ret, i_iret, i_zret, i_lret, i_fret, i_dret, i_aret, i_invS0, i_invV0, i_m2, i_m1, i_ml, i_obj, lk, lkp, stf1, stf2, Value.category, rV, xTo, lv_args, xCk, xCat, xRc, xAk, hg_S, hg_I, hg_J, hg_D, hg_R, hs_I, hs_J, hs_D, hs_R, uI_at, uJ_at, uD_at, uR_at, List.take_succ_cons, List.take_zero, List.drop_succ_cons, List.drop_zero, List.reverse_cons, List.reverse_nil, List.nil_append, List.cons_append, List.map_cons, List.map_nil, List.sum_cons, List.sum_nil, List.length_cons, List.length_nil, Option.toList_some, Option.toList_none, true_and, and_true, false_and, and_false, true_implies, false_implies, implies_true, not_true_eq_false, not_false_eq_true, ne_eq, if_true, if_false, Bool.and_true, Bool.true_and, decide_true, decide_false, reduceIte, reduceCtorEq, Bool.and_self, Bool.and_eq_true, decide_eq_true_eq, and_self, true_or, or_true, false_or, or_false, Nat.zero_add, Nat.add_zero, eq_self, Nat.reduceEqDiff, Nat.reduceLeDiff, Nat.reduceLT, Nat.reduceAdd, Nat.reduceSub, Nat.reduceMul, nI_leP hK (show i < 2147483648 by omega), show (K ≤ i) = False from eq_false (by omega), LC_out hL, R85 (J := J) (D := D) hL hG hC hA hB ha h0 hb h64 hg, nI_1, tV]
    exact R163_19 hL hG hC hA hB ha h0 hb hK j (i + 1) _ (by omega) k1 k2
theorem R275_36 (hL : LM S R) (hG : GR n m fi se dg sb) (hC : CM I n m fi se dg sb) {a bb : Nat} (hA : I 300 2 = nI a) (hB : I 300 3 = nI bb) (ha : a < 2147483648) (h0 : 0 < bb) (hb : bb < 2147483648) (hr : I 300 5 = 0 ∨ I 300 5 = 1 ∨ I 300 5 = 2) {K : Nat} (hK : K < 2147483648) {v : Int32} : ∀ (j i : Nat) (z : xG), i + j = K → z.1 < 2 ^ n → z.2.1 < 2147483648 →
    xRun xT 275 36 [(0, .ref 200), (1, .int (nI K)), (2, .int (z.2.2.2 - v)), (3, .int (nI i))] [] (S, mI I z, mJ J z, D, R) b Q = Q (.ok (some (.int ((tV (I 300 4) (fun k => I 300 (16 + k)) fi se dg sb (I 300 5) a bb n j z).2.2.2 - v)))) (S, mI I (tV (I 300 4) (fun k => I 300 (16 + k)) fi se dg sb (I 300 5) a bb n j z), mJ J (tV (I 300 4) (fun k => I 300 (16 + k)) fi se dg sb (I 300 5) a bb n j z), D, R) b
  | 0, i, z, hi, hs, hg => by
    have e : i = K := by omega
    subst e
    rw [e275_36]
    simp only [B275_36, xSeq, i_push, i_load, i_iload, i_lload, i_dload, i_aload, i_istore, i_astore, i_lstore, i_dstore, i_iinc, i_ii, i_iiz, i_ll, i_llz, i_lli, i_li, i_i, i_l, i_i2l, i_l2i, i_dup, i_dup2, i_dup2w, i_dupx1, i_pop, i_pop2, i_goto, i_ifc, i_icmp, i_getI, i_getL, i_getR, i_putI, i_putZ, i_putL, i_putR, i_aldI, i_aldB, i_aldL, i_aldD, i_astI, i_astL, i_astD, i_alen, i_ret, i_iret, i_zret, i_lret, i_fret, i_dret, i_aret, i_invS0, i_invV0, i_m2, i_m1, i_ml, i_obj, lk, lkp, stf1, stf2, Value.category, rV, xTo, lv_args, xCk, xCat, xRc, xAk, hg_S, hg_I, hg_J, hg_D, hg_R, hs_I, hs_J, hs_D, hs_R, uI_at, uJ_at, uD_at, uR_at, List.take_succ_cons, List.take_zero, List.drop_succ_cons, List.drop_zero, List.reverse_cons, List.reverse_nil, List.nil_append, List.cons_append, List.map_cons, List.map_nil, List.sum_cons, List.sum_nil, List.length_cons, List.length_nil, Option.toList_some, Option.toList_none, true_and, and_true, false_and, and_false, true_implies, false_implies, implies_true, not_true_eq_false, not_false_eq_true, ne_eq, if_true, if_false, Bool.and_true, Bool.true_and, decide_true, decide_false, reduceIte, reduceCtorEq, Bool.and_self, Bool.and_eq_true, decide_eq_true_eq, and_self, true_or, or_true, false_or, or_false, Nat.zero_add, Nat.add_zero, eq_self, Nat.reduceEqDiff, Nat.reduceLeDiff, Nat.reduceLT, Nat.reduceAdd, Nat.reduceSub, Nat.reduceMul, nI_leP hK hK, Nat.le_refl, e275_54, B275_54, tV]
  | j + 1, i, z, hi, hs, hg => by
    have h64 : z.1 < 2 ^ 64 := Nat.lt_of_lt_of_le hs (Nat.pow_le_pow_right (by decide) hG.2.1)
    obtain ⟨k1, k2⟩ := tW_ok (F := I 300 4) (st := fun k => I 300 (16 + k)) (fi := fi) (se := se) (dg := dg) (sb := sb) (rule := I 300 5) (a := a) (bb := bb) (N := n) n 0 z (by omega) hs hg
    have e : ∀ w : Int32, z.2.2.2 - v + (w - z.2.2.2) = w - v := fun w => by grind
    rw [e275_36]
    simp only [B275_36, xSeq, i_push, i_load, i_iload, i_lload, i_dload, i_aload, i_istore, i_astore, i_lstore, i_dstore, i_iinc, i_ii, i_iiz, i_ll, i_llz, i_lli, i_li, i_i, i_l, i_i2l, i_l2i, i_dup, i_dup2, i_dup2w, i_dupx1, i_pop, i_pop2, i_goto, i_ifc, i_icmp, i_getI, i_getL, i_getR, i_putI, i_putZ, i_putL, i_putR, i_aldI, i_aldB, i_aldL, i_aldD, i_astI, i_astL, i_astD, i_alen, i_ret, i_iret, i_zret, i_lret, i_fret, i_dret, i_aret, i_invS0, i_invV0, i_m2, i_m1, i_ml, i_obj, lk, lkp, stf1, stf2, Value.category, rV, xTo, lv_args, xCk, xCat, xRc, xAk, hg_S, hg_I, hg_J, hg_D, hg_R, hs_I, hs_J, hs_D, hs_R, uI_at, uJ_at, uD_at, uR_at, List.take_succ_cons, List.take_zero, List.drop_succ_cons, List.drop_zero, List.reverse_cons, List.reverse_nil, List.nil_append, List.cons_append, List.map_cons, List.map_nil, List.sum_cons, List.sum_nil, List.length_cons, List.length_nil, Option.toList_some, Option.toList_none, true_and, and_true, false_and, and_false, true_implies, false_implies, implies_true, not_true_eq_false, not_false_eq_true, ne_eq, if_true, if_false, Bool.and_true, Bool.true_and, decide_true, decide_false, reduceIte, reduceCtorEq, Bool.and_self, Bool.and_eq_true, decide_eq_true_eq, and_self, true_or, or_true, false_or, or_false, Nat.zero_add, Nat.add_zero, eq_self, Nat.reduceEqDiff, Nat.reduceLeDiff, Nat.reduceLT, Nat.reduceAdd, Nat.reduceSub, Nat.reduceMul, nI_leP hK (show i < 2147483648 by omega), show (K ≤ i) = False from eq_false (by omega), LM_out hL, R276 (J := J) (D := D) hL hG hC hA hB ha h0 hb hr h64 hg, nI_1, e, tV]
    exact R275_36 hL hG hC hA hB ha h0 hb hr hK j (i + 1) _ (by omega) k1 k2
theorem cI_self {z : xG} (h1 : I 110 10 = z.2.2.1) (h2 : I 110 11 = z.2.2.2) : cI I z = I := by
  unfold cI
  rw [uI_same h1, uI_same h2]
theorem cJ_self {z : xG} (h1 : J 110 4 = lN z.1) (h2 : J 110 5 = lN z.2.1) : cJ J z = J := by
  unfold cJ
  rw [uJ_same h1, uJ_same h2]
theorem mI_self {z : xG} (h1 : I 300 6 = z.2.2.1) (h2 : I 300 7 = z.2.2.2) : mI I z = I := by
  unfold mI
  rw [uI_same h1, uI_same h2]
theorem mJ_self {z : xG} (h1 : J 200 3 = lN z.1) (h2 : J 200 4 = lN z.2.1) : mJ J z = J := by
  unfold mJ
  rw [uJ_same h1, uJ_same h2]
end
