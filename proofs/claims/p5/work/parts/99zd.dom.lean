/-! ===== domains of the class ===== -/
section
theorem jMax_nI {a c : Nat} (ha : a < 2147483648) (hc : c < 2147483648) : jMax (nI a) (nI c) = nI (max a c) := by
  unfold jMax
  by_cases h : a < c
  · rw [if_pos ((nI_ltI ha hc).mpr h), Nat.max_eq_right (by omega)]
  · rw [if_neg (fun e => h ((nI_ltI ha hc).mp e)), Nat.max_eq_left (by omega)]
theorem jMin_nI {a c : Nat} (ha : a < 2147483648) (hc : c < 2147483648) : jMin (nI a) (nI c) = nI (min a c) := by
  unfold jMin
  by_cases h : c < a
  · rw [if_pos ((nI_ltI hc ha).mpr h), Nat.min_eq_right (by omega)]
  · rw [if_neg (fun e => h ((nI_ltI hc ha).mp e)), Nat.min_eq_left (by omega)]
/-- the neighbours of a site in its own spin, over the first bonds at it -/
def aN (st : Nat → Int32) (fi se : Nat → Nat) (sb : Nat → Nat → Nat) (x t : Nat) : Nat → Nat
  | 0 => 0
  | i + 1 => if st (sb t i) ≠ 0 ∧ x.testBit (fi (sb t i)) = x.testBit (se (sb t i)) then aN st fi se sb x t i ||| 2 ^ (if fi (sb t i) = t then se (sb t i) else fi (sb t i)) else aN st fi se sb x t i
theorem aN_lt {n m : Nat} {fi se dg : Nat → Nat} {sb : Nat → Nat → Nat} (hG : GR n m fi se dg sb) (st : Nat → Int32) (x : Nat) {t : Nat} (ht : t < n) : ∀ i, i ≤ dg t → aN st fi se sb x t i < 2 ^ n
  | 0, _ => Nat.two_pow_pos n
  | i + 1, hi => by
    obtain ⟨g0, g1, g2, g3, g4, g5, g6⟩ := hG
    have hk := g6 t i ht (by omega)
    have h := aN_lt ⟨g0, g1, g2, g3, g4, g5, g6⟩ st x ht i (by omega)
    rw [aN]
    split
    · refine Nat.or_lt_two_pow h (Nat.pow_lt_pow_right (by decide) ?_)
      split
      · exact g4 _ hk
      · exact g3 _ hk
    · exact h
variable {S : xS} {I : xI} {J : xJ} {D : xDb} {R : xR} {b : Nat × Nat} {Q : xQ} {n m : Nat} {fi se dg : Nat → Nat} {sb : Nat → Nat → Nat}
theorem R79_5 (hL : LC S R) (hG : GR n m fi se dg sb) (hC : CL I n m fi se dg sb) {x t : Nat} (hx : x < 2 ^ 64) (hJ : J 110 4 = lN x) (ht : t < n) : ∀ (j i : Nat), i + j = dg t → xRun xT 79 5 [(0, .ref 110), (1, .int (nI t)), (2, .long (lN (aN (I 111) fi se sb x t i))), (4, .int (nI i))] [] (S, I, J, D, R) b Q = Q (.ok (some (.long (lN (aN (I 111) fi se sb x t (dg t)))))) (S, I, J, D, R) b
  | 0, i, hi => by
    obtain ⟨g0, g1, g2, g3, g4, g5, g6⟩ := hG
    obtain ⟨c1, c2, c3, c4, c5, c6⟩ := hC
    have h5 := g5 t ht
    have e : i = dg t := by omega
    subst e
    rw [e79_5]
    simp only [B79_5, xSeq, i_push, i_load, i_iload, i_lload, i_dload, i_aload, i_istore, i_astore, i_lstore, i_dstore, i_iinc, i_ii, i_iiz, i_ll, i_llz, i_lli, i_li, i_i, i_l, i_i2l, i_l2i, i_dup, i_dup2, i_dup2w, i_dupx1, i_pop, i_pop2, i_goto, i_ifc, i_icmp, i_getI, i_getL, i_getR, i_putI, i_putZ, i_putL, i_putR, i_aldI, i_aldB, i_aldL, i_aldD, i_astI, i_astL, i_astD, i_alen, i_ret, i_iret, i_zret, i_lret, i_fret, i_dret, i_aret, i_invS0, i_invV0, i_m2, i_m1, i_ml, i_obj, lk, lkp, stf1, stf2, Value.category, rV, xTo, lv_args, xCk, xCat, xRc, xAk, hg_S, hg_I, hg_J, hg_D, hg_R, hs_I, hs_J, hs_D, hs_R, uI_at, uJ_at, uD_at, uR_at, List.take_succ_cons, List.take_zero, List.drop_succ_cons, List.drop_zero, List.reverse_cons, List.reverse_nil, List.nil_append, List.cons_append, List.map_cons, List.map_nil, List.sum_cons, List.sum_nil, List.length_cons, List.length_nil, Option.toList_some, Option.toList_none, true_and, and_true, false_and, and_false, true_implies, false_implies, implies_true, not_true_eq_false, not_false_eq_true, ne_eq, if_true, if_false, Bool.and_true, Bool.true_and, decide_true, decide_false, reduceIte, reduceCtorEq, Bool.and_self, Bool.and_eq_true, decide_eq_true_eq, and_self, true_or, or_true, false_or, or_false, Nat.zero_add, Nat.add_zero, eq_self, Nat.reduceEqDiff, Nat.reduceLeDiff, Nat.reduceLT, Nat.reduceAdd, Nat.reduceSub, Nat.reduceMul, LC_out hL, nI_inP (show t < 64 by omega) (by decide), nI_ix (show t < 2147483648 by omega), c5 t ht, nI_leP (show dg t < 2147483648 by omega) (show dg t < 2147483648 by omega), Nat.le_refl, e79_78, B79_78]
  | j + 1, i, hi => by
    have hG' := hG
    have hC' := hC
    obtain ⟨g0, g1, g2, g3, g4, g5, g6⟩ := hG'
    obtain ⟨c1, c2, c3, c4, c5, c6⟩ := hC'
    have h5 := g5 t ht
    have hk := g6 t i ht (by omega)
    have ho : (if fi (sb t i) = t then se (sb t i) else fi (sb t i)) < 64 := by
      split
      · exact Nat.lt_of_lt_of_le (g4 _ hk) g1
      · exact Nat.lt_of_lt_of_le (g3 _ hk) g1
    have h := R79_5 hL hG hC hx hJ ht j (i + 1) (by omega)
    have ha : aN (I 111) fi se sb x t i < 2 ^ 64 := Nat.lt_of_lt_of_le (aN_lt hG (I 111) x ht i (by omega)) (Nat.pow_le_pow_right (by decide) g1)
    rw [aN] at h
    obtain ⟨a, hA⟩ : ∃ a, a = aN (I 111) fi se sb x t i := ⟨_, rfl⟩
    rw [← hA] at h ha ⊢
    obtain ⟨o, hO⟩ : ∃ o, o = (if fi (sb t i) = t then se (sb t i) else fi (sb t i)) := ⟨_, rfl⟩
    rw [← hO] at h ho
    rw [e79_5]
    simp only [B79_5, xSeq, i_push, i_load, i_iload, i_lload, i_dload, i_aload, i_istore, i_astore, i_lstore, i_dstore, i_iinc, i_ii, i_iiz, i_ll, i_llz, i_lli, i_li, i_i, i_l, i_i2l, i_l2i, i_dup, i_dup2, i_dup2w, i_dupx1, i_pop, i_pop2, i_goto, i_ifc, i_icmp, i_getI, i_getL, i_getR, i_putI, i_putZ, i_putL, i_putR, i_aldI, i_aldB, i_aldL, i_aldD, i_astI, i_astL, i_astD, i_alen, i_ret, i_iret, i_zret, i_lret, i_fret, i_dret, i_aret, i_invS0, i_invV0, i_m2, i_m1, i_ml, i_obj, lk, lkp, stf1, stf2, Value.category, rV, xTo, lv_args, xCk, xCat, xRc, xAk, hg_S, hg_I, hg_J, hg_D, hg_R, hs_I, hs_J, hs_D, hs_R, uI_at, uJ_at, uD_at, uR_at, List.take_succ_cons, List.take_zero, List.drop_succ_cons, List.drop_zero, List.reverse_cons, List.reverse_nil, List.nil_append, List.cons_append, List.map_cons, List.map_nil, List.sum_cons, List.sum_nil, List.length_cons, List.length_nil, Option.toList_some, Option.toList_none, true_and, and_true, false_and, and_false, true_implies, false_implies, implies_true, not_true_eq_false, not_false_eq_true, ne_eq, if_true, if_false, Bool.and_true, Bool.true_and, decide_true, decide_false, reduceIte, reduceCtorEq, Bool.and_self, Bool.and_eq_true, decide_eq_true_eq, and_self, true_or, or_true, false_or, or_false, Nat.zero_add, Nat.add_zero, eq_self, Nat.reduceEqDiff, Nat.reduceLeDiff, Nat.reduceLT, Nat.reduceAdd, Nat.reduceSub, Nat.reduceMul, LC_out hL, nI_inP (show t < 64 by omega) (by decide), nI_ix (show t < 2147483648 by omega), c5 t ht, nI_leP (show dg t < 2147483648 by omega) (show i < 2147483648 by omega), show (dg t ≤ i) = False from eq_false (by omega), R52 hL hG hC ht (show i < dg t by omega), nI_inP (show sb t i < 128 by omega) (by decide), nI_ix (show sb t i < 2147483648 by omega), e79_72, B79_72, nI_1, hJ, R53 hL hG hC hx hk, R54 hL hG hC ht hk, ← hO, q_1shlL ho, q_or ha (Nat.pow_lt_pow_right (show 1 < 2 by decide) ho)]
    by_cases h0 : I 111 (sb t i) = 0
    · rw [if_neg (fun e => e.1 h0)] at h
      simp only [h0, true_and, and_true, false_and, and_false, true_implies, false_implies, implies_true, not_true_eq_false, not_false_eq_true, ne_eq, if_true, if_false, Bool.and_true, Bool.true_and, decide_true, decide_false, reduceIte, reduceCtorEq, Bool.and_self, Bool.and_eq_true, decide_eq_true_eq, and_self, true_or, or_true, false_or, or_false, Nat.zero_add, Nat.add_zero, eq_self, Nat.reduceEqDiff, Nat.reduceLeDiff, Nat.reduceLT, Nat.reduceAdd, Nat.reduceSub, Nat.reduceMul, h]
    · by_cases hb : x.testBit (fi (sb t i)) = x.testBit (se (sb t i))
      · rw [if_pos ⟨h0, hb⟩] at h
        simp only [h0, hb, true_and, and_true, false_and, and_false, true_implies, false_implies, implies_true, not_true_eq_false, not_false_eq_true, ne_eq, if_true, if_false, Bool.and_true, Bool.true_and, decide_true, decide_false, reduceIte, reduceCtorEq, Bool.and_self, Bool.and_eq_true, decide_eq_true_eq, and_self, true_or, or_true, false_or, or_false, Nat.zero_add, Nat.add_zero, eq_self, Nat.reduceEqDiff, Nat.reduceLeDiff, Nat.reduceLT, Nat.reduceAdd, Nat.reduceSub, Nat.reduceMul, i1_0, h]
      · rw [if_neg (fun e => hb e.2)] at h
        simp only [h0, hb, true_and, and_true, false_and, and_false, true_implies, false_implies, implies_true, not_true_eq_false, not_false_eq_true, ne_eq, if_true, if_false, Bool.and_true, Bool.true_and, decide_true, decide_false, reduceIte, reduceCtorEq, Bool.and_self, Bool.and_eq_true, decide_eq_true_eq, and_self, true_or, or_true, false_or, or_false, Nat.zero_add, Nat.add_zero, eq_self, Nat.reduceEqDiff, Nat.reduceLeDiff, Nat.reduceLT, Nat.reduceAdd, Nat.reduceSub, Nat.reduceMul, h]
theorem R79 (hL : LC S R) (hG : GR n m fi se dg sb) (hC : CL I n m fi se dg sb) {x t : Nat} (hx : x < 2 ^ 64) (hJ : J 110 4 = lN x) (ht : t < n) : xRun xT 79 0 [(0, .ref 110), (1, .int (nI t))] [] (S, I, J, D, R) b Q = Q (.ok (some (.long (lN (aN (I 111) fi se sb x t (dg t)))))) (S, I, J, D, R) b := by
  have h := R79_5 (D := D) (b := b) (Q := Q) hL hG hC hx hJ ht (dg t) 0 (by omega)
  rw [e79_0]
  simp only [B79_0, xSeq, i_push, i_load, i_iload, i_lload, i_dload, i_aload, i_istore, i_astore, i_lstore, i_dstore, i_iinc, i_ii, i_iiz, i_ll, i_llz, i_lli, i_li, i_i, i_l, i_i2l, i_l2i, i_dup, i_dup2, i_dup2w, i_dupx1, i_pop, i_pop2, i_goto, i_ifc, i_icmp, i_getI, i_getL, i_getR, i_putI, i_putZ, i_putL, i_putR, i_aldI, i_aldB, i_aldL, i_aldD, i_astI, i_astL, i_astD, i_alen, i_ret, i_iret, i_zret, i_lret, i_fret, i_dret, i_aret, i_invS0, i_invV0, i_m2, i_m1, i_ml, i_obj, lk, lkp, stf1, stf2, Value.category, rV, xTo, lv_args, xCk, xCat, xRc, xAk, hg_S, hg_I, hg_J, hg_D, hg_R, hs_I, hs_J, hs_D, hs_R, uI_at, uJ_at, uD_at, uR_at, List.take_succ_cons, List.take_zero, List.drop_succ_cons, List.drop_zero, List.reverse_cons, List.reverse_nil, List.nil_append, List.cons_append, List.map_cons, List.map_nil, List.sum_cons, List.sum_nil, List.length_cons, List.length_nil, Option.toList_some, Option.toList_none, true_and, and_true, false_and, and_false, true_implies, false_implies, implies_true, not_true_eq_false, not_false_eq_true, ne_eq, if_true, if_false, Bool.and_true, Bool.true_and, decide_true, decide_false, reduceIte, reduceCtorEq, Bool.and_self, Bool.and_eq_true, decide_eq_true_eq, and_self, true_or, or_true, false_or, or_false, Nat.zero_add, Nat.add_zero, eq_self, Nat.reduceEqDiff, Nat.reduceLeDiff, Nat.reduceLT, Nat.reduceAdd, Nat.reduceSub, Nat.reduceMul]
  exact h
/-- what is reached from sites that wait, in so many turns -/
def dm (nb : Nat → Nat) : Nat → Nat → Nat → Nat
  | 0, d, _ => d
  | f + 1, d, p => if p = 0 then d else dm nb f (d ||| (nb (tzf 64 p) &&& (d ^^^ 18446744073709551615))) ((p &&& (p - 1)) ||| (nb (tzf 64 p) &&& (d ^^^ 18446744073709551615)))
theorem tzf_lt {p n : Nat} (h0 : 0 < p) (hp : p < 2 ^ n) (hn : n ≤ 64) : tzf 64 p < n := by
  obtain ⟨t, q, h1, h2⟩ := tz_ex n p h0 hp
  rw [h2, tz_u t 64 q (by omega)]
  exact h1
theorem dm_lt (nb : Nat → Nat) {n : Nat} (hn : n ≤ 64) (h : ∀ t, t < n → nb t < 2 ^ n) : ∀ (f d p : Nat), d < 2 ^ n → p < 2 ^ n → dm nb f d p < 2 ^ n
  | 0, d, p, hd, hp => hd
  | f + 1, d, p, hd, hp => by
    rw [dm]
    split
    · exact hd
    · next h0 =>
      have hr : nb (tzf 64 p) &&& (d ^^^ 18446744073709551615) < 2 ^ n := Nat.lt_of_le_of_lt Nat.and_le_left (h _ (tzf_lt (by omega) hp hn))
      exact dm_lt nb hn h f _ _ (Nat.or_lt_two_pow hd hr) (Nat.or_lt_two_pow (Nat.lt_of_le_of_lt Nat.and_le_left hp) hr)
theorem R78_10 (hL : LC S R) (hG : GR n m fi se dg sb) (hC : CL I n m fi se dg sb) {x : Nat} (hx : x < 2 ^ 64) (hJ : J 110 4 = lN x) : ∀ (j i d p : Nat), i + j = 64 → d < 2 ^ n → p < 2 ^ n → xRun xT 78 10 [(0, .ref 110), (2, .long (lN d)), (4, .long (lN p)), (6, .int (nI i))] [] (S, I, J, D, R) b Q = Q (.ok (some (.long (lN (dm (fun t => aN (I 111) fi se sb x t (dg t)) j d p))))) (S, I, J, D, R) b
  | 0, i, d, p, hi, hd, hp => by
    have e : i = 64 := by omega
    subst e
    rw [e78_10]
    simp only [B78_10, xSeq, i_push, i_load, i_iload, i_lload, i_dload, i_aload, i_istore, i_astore, i_lstore, i_dstore, i_iinc, i_ii, i_iiz, i_ll, i_llz, i_lli, i_li, i_i, i_l, i_i2l, i_l2i, i_dup, i_dup2, i_dup2w, i_dupx1, i_pop, i_pop2, i_goto, i_ifc, i_icmp, i_getI, i_getL, i_getR, i_putI, i_putZ, i_putL, i_putR, i_aldI, i_aldB, i_aldL, i_aldD, i_astI, i_astL, i_astD, i_alen, i_ret, i_iret, i_zret, i_lret, i_fret, i_dret, i_aret, i_invS0, i_invV0, i_m2, i_m1, i_ml, i_obj, lk, lkp, stf1, stf2, Value.category, rV, xTo, lv_args, xCk, xCat, xRc, xAk, hg_S, hg_I, hg_J, hg_D, hg_R, hs_I, hs_J, hs_D, hs_R, uI_at, uJ_at, uD_at, uR_at, List.take_succ_cons, List.take_zero, List.drop_succ_cons, List.drop_zero, List.reverse_cons, List.reverse_nil, List.nil_append, List.cons_append, List.map_cons, List.map_nil, List.sum_cons, List.sum_nil, List.length_cons, List.length_nil, Option.toList_some, Option.toList_none, true_and, and_true, false_and, and_false, true_implies, false_implies, implies_true, not_true_eq_false, not_false_eq_true, ne_eq, if_true, if_false, Bool.and_true, Bool.true_and, decide_true, decide_false, reduceIte, reduceCtorEq, Bool.and_self, Bool.and_eq_true, decide_eq_true_eq, and_self, true_or, or_true, false_or, or_false, Nat.zero_add, Nat.add_zero, eq_self, Nat.reduceEqDiff, Nat.reduceLeDiff, Nat.reduceLT, Nat.reduceAdd, Nat.reduceSub, Nat.reduceMul, show ((64 : Int32) ≤ nI 64) = True from eq_true (by decide), e78_68, B78_68, dm]
  | j + 1, i, d, p, hi, hd, hp => by
    have hG' := hG
    obtain ⟨g0, g1, g2, g3, g4, g5, g6⟩ := hG'
    have hw : 2 ^ n ≤ 2 ^ 64 := Nat.pow_le_pow_right (by decide) g1
    have e64 : ((64 : Int32) ≤ nI i) = False := by rw [show (64 : Int32) = nI 64 from rfl, nI_leP (by decide) (show i < 2147483648 by omega)]; exact eq_false (by omega)
    rw [dm]
    rw [e78_10]
    by_cases h0 : p = 0
    · have e0 : (lg_cmp (lN p) 0 = 0) = True := by rw [show (0 : Int64) = lN 0 from rfl, lN_cmp (by omega) (by decide)]; exact eq_true h0
      simp only [B78_10, xSeq, i_push, i_load, i_iload, i_lload, i_dload, i_aload, i_istore, i_astore, i_lstore, i_dstore, i_iinc, i_ii, i_iiz, i_ll, i_llz, i_lli, i_li, i_i, i_l, i_i2l, i_l2i, i_dup, i_dup2, i_dup2w, i_dupx1, i_pop, i_pop2, i_goto, i_ifc, i_icmp, i_getI, i_getL, i_getR, i_putI, i_putZ, i_putL, i_putR, i_aldI, i_aldB, i_aldL, i_aldD, i_astI, i_astL, i_astD, i_alen, i_ret, i_iret, i_zret, i_lret, i_fret, i_dret, i_aret, i_invS0, i_invV0, i_m2, i_m1, i_ml, i_obj, lk, lkp, stf1, stf2, Value.category, rV, xTo, lv_args, xCk, xCat, xRc, xAk, hg_S, hg_I, hg_J, hg_D, hg_R, hs_I, hs_J, hs_D, hs_R, uI_at, uJ_at, uD_at, uR_at, List.take_succ_cons, List.take_zero, List.drop_succ_cons, List.drop_zero, List.reverse_cons, List.reverse_nil, List.nil_append, List.cons_append, List.map_cons, List.map_nil, List.sum_cons, List.sum_nil, List.length_cons, List.length_nil, Option.toList_some, Option.toList_none, true_and, and_true, false_and, and_false, true_implies, false_implies, implies_true, not_true_eq_false, not_false_eq_true, ne_eq, if_true, if_false, Bool.and_true, Bool.true_and, decide_true, decide_false, reduceIte, reduceCtorEq, Bool.and_self, Bool.and_eq_true, decide_eq_true_eq, and_self, true_or, or_true, false_or, or_false, Nat.zero_add, Nat.add_zero, eq_self, Nat.reduceEqDiff, Nat.reduceLeDiff, Nat.reduceLT, Nat.reduceAdd, Nat.reduceSub, Nat.reduceMul, e64, e0, e78_68, B78_68]
      rw [if_pos h0]
    · have e0 : (lg_cmp (lN p) 0 = 0) = False := by rw [show (0 : Int64) = lN 0 from rfl, lN_cmp (by omega) (by decide)]; exact eq_false h0
      have ht := tzf_lt (by omega) hp g1
      have hnb := aN_lt hG (I 111) x ht _ (Nat.le_refl _)
      have hY := fun (b : Nat × Nat) (Q : xQ) => Y3 (S := S) (I := I) (J := J) (D := D) (R := R) (b := b) (Q := Q) (x := p) (by omega) (by omega)
      have h79 := fun (b : Nat × Nat) (Q : xQ) => R79 (D := D) (b := b) (Q := Q) hL hG hC hx hJ ht
      rw [if_neg h0]
      obtain ⟨r, hR⟩ : ∃ r, r = aN (I 111) fi se sb x (tzf 64 p) (dg (tzf 64 p)) := ⟨_, rfl⟩
      have hr : r &&& (d ^^^ 18446744073709551615) < 2 ^ n := Nat.lt_of_le_of_lt Nat.and_le_left (by rw [hR]; exact hnb)
      have h := R78_10 hL hG hC hx hJ j (i + 1) (d ||| (r &&& (d ^^^ 18446744073709551615))) ((p &&& (p - 1)) ||| (r &&& (d ^^^ 18446744073709551615))) (by omega) (Nat.or_lt_two_pow hd hr) (Nat.or_lt_two_pow (Nat.lt_of_le_of_lt Nat.and_le_left hp) hr)
      rw [← hR] at hnb h79 ⊢
      obtain ⟨t', hT⟩ : ∃ t', t' = tzf 64 p := ⟨_, rfl⟩
      rw [← hT] at hY h79
      have e1 : lN r &&& (lN d ^^^ -1) = lN (r &&& (d ^^^ 18446744073709551615)) := by
        rw [show (-1 : Int64) = lN 18446744073709551615 from by decide, q_xor, q_and (by omega) (Nat.xor_lt_two_pow (show d < 2 ^ 64 by omega) (by decide))]
      have e2 : lN p &&& (lN p - 1) = lN (p &&& (p - 1)) := by
        rw [show (1 : Int64) = lN 1 from rfl, lN_sub (show 1 ≤ p by omega), q_and (by omega) (by omega)]
      obtain ⟨z, hz⟩ : ∃ z, z = r &&& (d ^^^ 18446744073709551615) := ⟨_, rfl⟩
      rw [← hz] at e1 hr h ⊢
      have hp2 : p &&& (p - 1) < 2 ^ 64 := Nat.lt_of_le_of_lt Nat.and_le_left (by omega)
      obtain ⟨y, hy⟩ : ∃ y, y = p &&& (p - 1) := ⟨_, rfl⟩
      rw [← hy] at e2 hp2 h ⊢
      simp only [B78_10, xSeq, i_push, i_load, i_iload, i_lload, i_dload, i_aload, i_istore, i_astore, i_lstore, i_dstore, i_iinc, i_ii, i_iiz, i_ll, i_llz, i_lli, i_li, i_i, i_l, i_i2l, i_l2i, i_dup, i_dup2, i_dup2w, i_dupx1, i_pop, i_pop2, i_goto, i_ifc, i_icmp, i_getI, i_getL, i_getR, i_putI, i_putZ, i_putL, i_putR, i_aldI, i_aldB, i_aldL, i_aldD, i_astI, i_astL, i_astD, i_alen, i_ret, i_iret, i_zret, i_lret, i_fret, i_dret, i_aret, i_invS0, i_invV0, i_m2, i_m1, i_ml, i_obj, lk, lkp, stf1, stf2, Value.category, rV, xTo, lv_args, xCk, xCat, xRc, xAk, hg_S, hg_I, hg_J, hg_D, hg_R, hs_I, hs_J, hs_D, hs_R, uI_at, uJ_at, uD_at, uR_at, List.take_succ_cons, List.take_zero, List.drop_succ_cons, List.drop_zero, List.reverse_cons, List.reverse_nil, List.nil_append, List.cons_append, List.map_cons, List.map_nil, List.sum_cons, List.sum_nil, List.length_cons, List.length_nil, Option.toList_some, Option.toList_none, true_and, and_true, false_and, and_false, true_implies, false_implies, implies_true, not_true_eq_false, not_false_eq_true, ne_eq, if_true, if_false, Bool.and_true, Bool.true_and, decide_true, decide_false, reduceIte, reduceCtorEq, Bool.and_self, Bool.and_eq_true, decide_eq_true_eq, and_self, true_or, or_true, false_or, or_false, Nat.zero_add, Nat.add_zero, eq_self, Nat.reduceEqDiff, Nat.reduceLeDiff, Nat.reduceLT, Nat.reduceAdd, Nat.reduceSub, Nat.reduceMul, LC_out hL, e64, e0, hY, h79, e1, e2, q_or (show d < 2 ^ 64 by omega) (show z < 2 ^ 64 by omega), q_or hp2 (show z < 2 ^ 64 by omega), nI_1]
      exact h
theorem R78 (hL : LC S R) (hG : GR n m fi se dg sb) (hC : CL I n m fi se dg sb) {x t : Nat} (hx : x < 2 ^ 64) (hJ : J 110 4 = lN x) (ht : t < n) : xRun xT 78 0 [(0, .ref 110), (1, .int (nI t))] [] (S, I, J, D, R) b Q = Q (.ok (some (.long (lN (dm (fun t => aN (I 111) fi se sb x t (dg t)) 64 (2 ^ t) (2 ^ t)))))) (S, I, J, D, R) b := by
  have h2 : 2 ^ t < 2 ^ n := Nat.pow_lt_pow_right (by decide) ht
  have h := R78_10 (D := D) (b := b) (Q := Q) hL hG hC hx hJ 64 0 (2 ^ t) (2 ^ t) (by omega) h2 h2
  have g1 := hG.2.1
  rw [e78_0]
  simp only [B78_0, xSeq, i_push, i_load, i_iload, i_lload, i_dload, i_aload, i_istore, i_astore, i_lstore, i_dstore, i_iinc, i_ii, i_iiz, i_ll, i_llz, i_lli, i_li, i_i, i_l, i_i2l, i_l2i, i_dup, i_dup2, i_dup2w, i_dupx1, i_pop, i_pop2, i_goto, i_ifc, i_icmp, i_getI, i_getL, i_getR, i_putI, i_putZ, i_putL, i_putR, i_aldI, i_aldB, i_aldL, i_aldD, i_astI, i_astL, i_astD, i_alen, i_ret, i_iret, i_zret, i_lret, i_fret, i_dret, i_aret, i_invS0, i_invV0, i_m2, i_m1, i_ml, i_obj, lk, lkp, stf1, stf2, Value.category, rV, xTo, lv_args, xCk, xCat, xRc, xAk, hg_S, hg_I, hg_J, hg_D, hg_R, hs_I, hs_J, hs_D, hs_R, uI_at, uJ_at, uD_at, uR_at, List.take_succ_cons, List.take_zero, List.drop_succ_cons, List.drop_zero, List.reverse_cons, List.reverse_nil, List.nil_append, List.cons_append, List.map_cons, List.map_nil, List.sum_cons, List.sum_nil, List.length_cons, List.length_nil, Option.toList_some, Option.toList_none, true_and, and_true, false_and, and_false, true_implies, false_implies, implies_true, not_true_eq_false, not_false_eq_true, ne_eq, if_true, if_false, Bool.and_true, Bool.true_and, decide_true, decide_false, reduceIte, reduceCtorEq, Bool.and_self, Bool.and_eq_true, decide_eq_true_eq, and_self, true_or, or_true, false_or, or_false, Nat.zero_add, Nat.add_zero, eq_self, Nat.reduceEqDiff, Nat.reduceLeDiff, Nat.reduceLT, Nat.reduceAdd, Nat.reduceSub, Nat.reduceMul, q_1shlL (show t < 64 by omega)]
  exact h
/-- sites that no domain before holds, and what the domains hold -/
def dC (dom : Nat → Nat) : Nat → Nat × Nat × Nat
  | 0 => (0, 0, 0)
  | i + 1 => if (dC dom i).1.testBit i = true then dC dom i else ((dC dom i).1 ||| dom i, (dC dom i).2.1 + 1, max (dC dom i).2.2 (pop 64 (dom i)))
theorem dC_le (dom : Nat → Nat) : ∀ i, (dC dom i).2.1 ≤ i ∧ (dC dom i).2.2 ≤ 64
  | 0 => ⟨Nat.le_refl _, Nat.zero_le _⟩
  | i + 1 => by
    have h := dC_le dom i
    have h2 := pop_le 64 (dom i)
    rw [dC]
    split
    · exact ⟨by omega, h.2⟩
    · exact ⟨by show _ + 1 ≤ _; omega, Nat.max_le.mpr ⟨h.2, h2⟩⟩
theorem dC_lt (dom : Nat → Nat) {n : Nat} (h : ∀ t, t < n → dom t < 2 ^ n) : ∀ i, i ≤ n → (dC dom i).1 < 2 ^ n
  | 0, _ => Nat.two_pow_pos n
  | i + 1, hi => by
    have h2 := dC_lt dom h i (by omega)
    rw [dC]
    split
    · exact h2
    · exact Nat.or_lt_two_pow h2 (h i (by omega))
/-- the domain of a site -/
def dX (st : Nat → Int32) (fi se dg : Nat → Nat) (sb : Nat → Nat → Nat) (x t : Nat) : Nat := dm (fun t => aN st fi se sb x t (dg t)) 64 (2 ^ t) (2 ^ t)
theorem dX_lt (hG : GR n m fi se dg sb) (st : Nat → Int32) (x : Nat) {t : Nat} (ht : t < n) : dX st fi se dg sb x t < 2 ^ n := dm_lt _ hG.2.1 (fun t ht => aN_lt hG st x ht _ (Nat.le_refl _)) 64 _ _ (Nat.pow_lt_pow_right (by decide) ht) (Nat.pow_lt_pow_right (by decide) ht)
theorem R133_7 (hL : LC S R) (hG : GR n m fi se dg sb) (hC : CL I n m fi se dg sb) {x : Nat} (hx : x < 2 ^ 64) (hJ : J 110 4 = lN x) : ∀ (j i : Nat), i + j = n → xRun xT 133 7 [(0, .ref 100), (1, .long (lN (dC (dX (I 111) fi se dg sb x) i).1)), (3, .int (nI (dC (dX (I 111) fi se dg sb x) i).2.1)), (4, .int (nI i))] [] (S, I, J, D, R) b Q = Q (.ok (some (.int (nI (dC (dX (I 111) fi se dg sb x) n).2.1)))) (S, I, J, D, R) b
  | 0, i, hi => by
    have g1 := hG.2.1
    have e : i = n := by omega
    subst e
    rw [e133_7]
    simp only [B133_7, xSeq, i_push, i_load, i_iload, i_lload, i_dload, i_aload, i_istore, i_astore, i_lstore, i_dstore, i_iinc, i_ii, i_iiz, i_ll, i_llz, i_lli, i_li, i_i, i_l, i_i2l, i_l2i, i_dup, i_dup2, i_dup2w, i_dupx1, i_pop, i_pop2, i_goto, i_ifc, i_icmp, i_getI, i_getL, i_getR, i_putI, i_putZ, i_putL, i_putR, i_aldI, i_aldB, i_aldL, i_aldD, i_astI, i_astL, i_astD, i_alen, i_ret, i_iret, i_zret, i_lret, i_fret, i_dret, i_aret, i_invS0, i_invV0, i_m2, i_m1, i_ml, i_obj, lk, lkp, stf1, stf2, Value.category, rV, xTo, lv_args, xCk, xCat, xRc, xAk, hg_S, hg_I, hg_J, hg_D, hg_R, hs_I, hs_J, hs_D, hs_R, uI_at, uJ_at, uD_at, uR_at, List.take_succ_cons, List.take_zero, List.drop_succ_cons, List.drop_zero, List.reverse_cons, List.reverse_nil, List.nil_append, List.cons_append, List.map_cons, List.map_nil, List.sum_cons, List.sum_nil, List.length_cons, List.length_nil, Option.toList_some, Option.toList_none, true_and, and_true, false_and, and_false, true_implies, false_implies, implies_true, not_true_eq_false, not_false_eq_true, ne_eq, if_true, if_false, Bool.and_true, Bool.true_and, decide_true, decide_false, reduceIte, reduceCtorEq, Bool.and_self, Bool.and_eq_true, decide_eq_true_eq, and_self, true_or, or_true, false_or, or_false, Nat.zero_add, Nat.add_zero, eq_self, Nat.reduceEqDiff, Nat.reduceLeDiff, Nat.reduceLT, Nat.reduceAdd, Nat.reduceSub, Nat.reduceMul, LC_out hL, hC.1, nI_leP (show i < 2147483648 by omega) (show i < 2147483648 by omega), Nat.le_refl, e133_51, B133_51]
  | j + 1, i, hi => by
    have g1 := hG.2.1
    have hw : 2 ^ n ≤ 2 ^ 64 := Nat.pow_le_pow_right (by decide) g1
    have h := R133_7 hL hG hC hx hJ j (i + 1) (by omega)
    have hd := dX_lt hG (I 111) x (show i < n by omega)
    have h78 := fun (b : Nat × Nat) (Q : xQ) => R78 (D := D) (b := b) (Q := Q) hL hG hC hx hJ (show i < n by omega)
    have e : dm (fun t => aN (I 111) fi se sb x t (dg t)) 64 (2 ^ i) (2 ^ i) = dX (I 111) fi se dg sb x i := rfl
    rw [e] at h78
    have h1 := dC_lt (dX (I 111) fi se dg sb x) (fun t ht => dX_lt hG (I 111) x ht) i (by omega)
    rw [dC] at h
    obtain ⟨z, hz⟩ : ∃ z, z = dC (dX (I 111) fi se dg sb x) i := ⟨_, rfl⟩
    rw [← hz] at h h1 ⊢
    obtain ⟨d, hD⟩ : ∃ d, d = dX (I 111) fi se dg sb x i := ⟨_, rfl⟩
    rw [← hD] at h hd h78
    rw [e133_7]
    simp only [B133_7, xSeq, i_push, i_load, i_iload, i_lload, i_dload, i_aload, i_istore, i_astore, i_lstore, i_dstore, i_iinc, i_ii, i_iiz, i_ll, i_llz, i_lli, i_li, i_i, i_l, i_i2l, i_l2i, i_dup, i_dup2, i_dup2w, i_dupx1, i_pop, i_pop2, i_goto, i_ifc, i_icmp, i_getI, i_getL, i_getR, i_putI, i_putZ, i_putL, i_putR, i_aldI, i_aldB, i_aldL, i_aldD, i_astI, i_astL, i_astD, i_alen, i_ret, i_iret, i_zret, i_lret, i_fret, i_dret, i_aret, i_invS0, i_invV0, i_m2, i_m1, i_ml, i_obj, lk, lkp, stf1, stf2, Value.category, rV, xTo, lv_args, xCk, xCat, xRc, xAk, hg_S, hg_I, hg_J, hg_D, hg_R, hs_I, hs_J, hs_D, hs_R, uI_at, uJ_at, uD_at, uR_at, List.take_succ_cons, List.take_zero, List.drop_succ_cons, List.drop_zero, List.reverse_cons, List.reverse_nil, List.nil_append, List.cons_append, List.map_cons, List.map_nil, List.sum_cons, List.sum_nil, List.length_cons, List.length_nil, Option.toList_some, Option.toList_none, true_and, and_true, false_and, and_false, true_implies, false_implies, implies_true, not_true_eq_false, not_false_eq_true, ne_eq, if_true, if_false, Bool.and_true, Bool.true_and, decide_true, decide_false, reduceIte, reduceCtorEq, Bool.and_self, Bool.and_eq_true, decide_eq_true_eq, and_self, true_or, or_true, false_or, or_false, Nat.zero_add, Nat.add_zero, eq_self, Nat.reduceEqDiff, Nat.reduceLeDiff, Nat.reduceLT, Nat.reduceAdd, Nat.reduceSub, Nat.reduceMul, LC_out hL, hC.1, nI_leP (show n < 2147483648 by omega) (show i < 2147483648 by omega), show (n ≤ i) = False from eq_false (by omega), q_bit (show z.1 < 2 ^ 64 by omega) (show i < 64 by omega), q_cmp0, ne_eq, h78, q_or (show z.1 < 2 ^ 64 by omega) (show d < 2 ^ 64 by omega), e133_45, B133_45, nI_1]
    by_cases hb : z.1.testBit i = true
    · rw [if_pos hb] at h
      simp only [hb, true_and, and_true, false_and, and_false, true_implies, false_implies, implies_true, not_true_eq_false, not_false_eq_true, ne_eq, if_true, if_false, Bool.and_true, Bool.true_and, decide_true, decide_false, reduceIte, reduceCtorEq, Bool.and_self, Bool.and_eq_true, decide_eq_true_eq, and_self, true_or, or_true, false_or, or_false, Nat.zero_add, Nat.add_zero, eq_self, Nat.reduceEqDiff, Nat.reduceLeDiff, Nat.reduceLT, Nat.reduceAdd, Nat.reduceSub, Nat.reduceMul, h]
    · rw [if_neg hb] at h
      simp only [hb, true_and, and_true, false_and, and_false, true_implies, false_implies, implies_true, not_true_eq_false, not_false_eq_true, ne_eq, if_true, if_false, Bool.and_true, Bool.true_and, decide_true, decide_false, reduceIte, reduceCtorEq, Bool.and_self, Bool.and_eq_true, decide_eq_true_eq, and_self, true_or, or_true, false_or, or_false, Nat.zero_add, Nat.add_zero, eq_self, Nat.reduceEqDiff, Nat.reduceLeDiff, Nat.reduceLT, Nat.reduceAdd, Nat.reduceSub, Nat.reduceMul, h]
theorem R133 (hL : LC S R) (hG : GR n m fi se dg sb) (hC : CL I n m fi se dg sb) {x : Nat} (hx : x < 2 ^ 64) (hJ : J 110 4 = lN x) : xRun xT 133 0 [(0, .ref 100)] [] (S, I, J, D, R) b Q = Q (.ok (some (.int (nI (dC (dX (I 111) fi se dg sb x) n).2.1)))) (S, I, J, D, R) b := by
  have h := R133_7 (D := D) (b := b) (Q := Q) hL hG hC hx hJ n 0 (by omega)
  rw [e133_0]
  simp only [B133_0, xSeq, i_push, i_load, i_iload, i_lload, i_dload, i_aload, i_istore, i_astore, i_lstore, i_dstore, i_iinc, i_ii, i_iiz, i_ll, i_llz, i_lli, i_li, i_i, i_l, i_i2l, i_l2i, i_dup, i_dup2, i_dup2w, i_dupx1, i_pop, i_pop2, i_goto, i_ifc, i_icmp, i_getI, i_getL, i_getR, i_putI, i_putZ, i_putL, i_putR, i_aldI, i_aldB, i_aldL, i_aldD, i_astI, i_astL, i_astD, i_alen, i_ret, i_iret, i_zret, i_lret, i_fret, i_dret, i_aret, i_invS0, i_invV0, i_m2, i_m1, i_ml, i_obj, lk, lkp, stf1, stf2, Value.category, rV, xTo, lv_args, xCk, xCat, xRc, xAk, hg_S, hg_I, hg_J, hg_D, hg_R, hs_I, hs_J, hs_D, hs_R, uI_at, uJ_at, uD_at, uR_at, List.take_succ_cons, List.take_zero, List.drop_succ_cons, List.drop_zero, List.reverse_cons, List.reverse_nil, List.nil_append, List.cons_append, List.map_cons, List.map_nil, List.sum_cons, List.sum_nil, List.length_cons, List.length_nil, Option.toList_some, Option.toList_none, true_and, and_true, false_and, and_false, true_implies, false_implies, implies_true, not_true_eq_false, not_false_eq_true, ne_eq, if_true, if_false, Bool.and_true, Bool.true_and, decide_true, decide_false, reduceIte, reduceCtorEq, Bool.and_self, Bool.and_eq_true, decide_eq_true_eq, and_self, true_or, or_true, false_or, or_false, Nat.zero_add, Nat.add_zero, eq_self, Nat.reduceEqDiff, Nat.reduceLeDiff, Nat.reduceLT, Nat.reduceAdd, Nat.reduceSub, Nat.reduceMul]
  exact h
theorem R134_7 (hL : LC S R) (hG : GR n m fi se dg sb) (hC : CL I n m fi se dg sb) {x : Nat} (hx : x < 2 ^ 64) (hJ : J 110 4 = lN x) : ∀ (j i : Nat), i + j = n → xRun xT 134 7 [(0, .ref 100), (1, .long (lN (dC (dX (I 111) fi se dg sb x) i).1)), (3, .int (nI (dC (dX (I 111) fi se dg sb x) i).2.2)), (4, .int (nI i))] [] (S, I, J, D, R) b Q = Q (.ok (some (.int (nI (dC (dX (I 111) fi se dg sb x) n).2.2)))) (S, I, J, D, R) b
  | 0, i, hi => by
    have g1 := hG.2.1
    have e : i = n := by omega
    subst e
    rw [e134_7]
    simp only [B134_7, xSeq, i_push, i_load, i_iload, i_lload, i_dload, i_aload, i_istore, i_astore, i_lstore, i_dstore, i_iinc, i_ii, i_iiz, i_ll, i_llz, i_lli, i_li, i_i, i_l, i_i2l, i_l2i, i_dup, i_dup2, i_dup2w, i_dupx1, i_pop, i_pop2, i_goto, i_ifc, i_icmp, i_getI, i_getL, i_getR, i_putI, i_putZ, i_putL, i_putR, i_aldI, i_aldB, i_aldL, i_aldD, i_astI, i_astL, i_astD, i_alen, i_ret, i_iret, i_zret, i_lret, i_fret, i_dret, i_aret, i_invS0, i_invV0, i_m2, i_m1, i_ml, i_obj, lk, lkp, stf1, stf2, Value.category, rV, xTo, lv_args, xCk, xCat, xRc, xAk, hg_S, hg_I, hg_J, hg_D, hg_R, hs_I, hs_J, hs_D, hs_R, uI_at, uJ_at, uD_at, uR_at, List.take_succ_cons, List.take_zero, List.drop_succ_cons, List.drop_zero, List.reverse_cons, List.reverse_nil, List.nil_append, List.cons_append, List.map_cons, List.map_nil, List.sum_cons, List.sum_nil, List.length_cons, List.length_nil, Option.toList_some, Option.toList_none, true_and, and_true, false_and, and_false, true_implies, false_implies, implies_true, not_true_eq_false, not_false_eq_true, ne_eq, if_true, if_false, Bool.and_true, Bool.true_and, decide_true, decide_false, reduceIte, reduceCtorEq, Bool.and_self, Bool.and_eq_true, decide_eq_true_eq, and_self, true_or, or_true, false_or, or_false, Nat.zero_add, Nat.add_zero, eq_self, Nat.reduceEqDiff, Nat.reduceLeDiff, Nat.reduceLT, Nat.reduceAdd, Nat.reduceSub, Nat.reduceMul, LC_out hL, hC.1, nI_leP (show i < 2147483648 by omega) (show i < 2147483648 by omega), Nat.le_refl, e134_62, B134_62]
  | j + 1, i, hi => by
    have g1 := hG.2.1
    have hw : 2 ^ n ≤ 2 ^ 64 := Nat.pow_le_pow_right (by decide) g1
    have h := R134_7 hL hG hC hx hJ j (i + 1) (by omega)
    have hd := dX_lt hG (I 111) x (show i < n by omega)
    have h78 := fun (b : Nat × Nat) (Q : xQ) => R78 (D := D) (b := b) (Q := Q) hL hG hC hx hJ (show i < n by omega)
    have e : dm (fun t => aN (I 111) fi se sb x t (dg t)) 64 (2 ^ i) (2 ^ i) = dX (I 111) fi se dg sb x i := rfl
    rw [e] at h78
    have h1 := dC_lt (dX (I 111) fi se dg sb x) (fun t ht => dX_lt hG (I 111) x ht) i (by omega)
    have h3 := (dC_le (dX (I 111) fi se dg sb x) i).2
    rw [dC] at h
    obtain ⟨z, hz⟩ : ∃ z, z = dC (dX (I 111) fi se dg sb x) i := ⟨_, rfl⟩
    rw [← hz] at h h1 h3 ⊢
    obtain ⟨d, hD⟩ : ∃ d, d = dX (I 111) fi se dg sb x i := ⟨_, rfl⟩
    rw [← hD] at h hd h78
    have hp := pop_le 64 d
    have hY := fun (b : Nat × Nat) (Q : xQ) => Y2 (S := S) (I := I) (J := J) (D := D) (R := R) (b := b) (Q := Q) (x := d) (by omega)
    rw [e134_7]
    simp only [B134_7, xSeq, i_push, i_load, i_iload, i_lload, i_dload, i_aload, i_istore, i_astore, i_lstore, i_dstore, i_iinc, i_ii, i_iiz, i_ll, i_llz, i_lli, i_li, i_i, i_l, i_i2l, i_l2i, i_dup, i_dup2, i_dup2w, i_dupx1, i_pop, i_pop2, i_goto, i_ifc, i_icmp, i_getI, i_getL, i_getR, i_putI, i_putZ, i_putL, i_putR, i_aldI, i_aldB, i_aldL, i_aldD, i_astI, i_astL, i_astD, i_alen, i_ret, i_iret, i_zret, i_lret, i_fret, i_dret, i_aret, i_invS0, i_invV0, i_m2, i_m1, i_ml, i_obj, lk, lkp, stf1, stf2, Value.category, rV, xTo, lv_args, xCk, xCat, xRc, xAk, hg_S, hg_I, hg_J, hg_D, hg_R, hs_I, hs_J, hs_D, hs_R, uI_at, uJ_at, uD_at, uR_at, List.take_succ_cons, List.take_zero, List.drop_succ_cons, List.drop_zero, List.reverse_cons, List.reverse_nil, List.nil_append, List.cons_append, List.map_cons, List.map_nil, List.sum_cons, List.sum_nil, List.length_cons, List.length_nil, Option.toList_some, Option.toList_none, true_and, and_true, false_and, and_false, true_implies, false_implies, implies_true, not_true_eq_false, not_false_eq_true, ne_eq, if_true, if_false, Bool.and_true, Bool.true_and, decide_true, decide_false, reduceIte, reduceCtorEq, Bool.and_self, Bool.and_eq_true, decide_eq_true_eq, and_self, true_or, or_true, false_or, or_false, Nat.zero_add, Nat.add_zero, eq_self, Nat.reduceEqDiff, Nat.reduceLeDiff, Nat.reduceLT, Nat.reduceAdd, Nat.reduceSub, Nat.reduceMul, LC_out hL, hC.1, nI_leP (show n < 2147483648 by omega) (show i < 2147483648 by omega), show (n ≤ i) = False from eq_false (by omega), q_bit (show z.1 < 2 ^ 64 by omega) (show i < 64 by omega), q_cmp0, ne_eq, h78, q_or (show z.1 < 2 ^ 64 by omega) (show d < 2 ^ 64 by omega), hY, jMax_nI (show z.2.2 < 2147483648 by omega) (show pop 64 d < 2147483648 by omega), e134_56, B134_56, nI_1]
    by_cases hb : z.1.testBit i = true
    · rw [if_pos hb] at h
      simp only [hb, true_and, and_true, false_and, and_false, true_implies, false_implies, implies_true, not_true_eq_false, not_false_eq_true, ne_eq, if_true, if_false, Bool.and_true, Bool.true_and, decide_true, decide_false, reduceIte, reduceCtorEq, Bool.and_self, Bool.and_eq_true, decide_eq_true_eq, and_self, true_or, or_true, false_or, or_false, Nat.zero_add, Nat.add_zero, eq_self, Nat.reduceEqDiff, Nat.reduceLeDiff, Nat.reduceLT, Nat.reduceAdd, Nat.reduceSub, Nat.reduceMul, h]
    · rw [if_neg hb] at h
      simp only [hb, true_and, and_true, false_and, and_false, true_implies, false_implies, implies_true, not_true_eq_false, not_false_eq_true, ne_eq, if_true, if_false, Bool.and_true, Bool.true_and, decide_true, decide_false, reduceIte, reduceCtorEq, Bool.and_self, Bool.and_eq_true, decide_eq_true_eq, and_self, true_or, or_true, false_or, or_false, Nat.zero_add, Nat.add_zero, eq_self, Nat.reduceEqDiff, Nat.reduceLeDiff, Nat.reduceLT, Nat.reduceAdd, Nat.reduceSub, Nat.reduceMul, h]
theorem R134 (hL : LC S R) (hG : GR n m fi se dg sb) (hC : CL I n m fi se dg sb) {x : Nat} (hx : x < 2 ^ 64) (hJ : J 110 4 = lN x) : xRun xT 134 0 [(0, .ref 100)] [] (S, I, J, D, R) b Q = Q (.ok (some (.int (nI (dC (dX (I 111) fi se dg sb x) n).2.2)))) (S, I, J, D, R) b := by
  have h := R134_7 (D := D) (b := b) (Q := Q) hL hG hC hx hJ n 0 (by omega)
  rw [e134_0]
  simp only [B134_0, xSeq, i_push, i_load, i_iload, i_lload, i_dload, i_aload, i_istore, i_astore, i_lstore, i_dstore, i_iinc, i_ii, i_iiz, i_ll, i_llz, i_lli, i_li, i_i, i_l, i_i2l, i_l2i, i_dup, i_dup2, i_dup2w, i_dupx1, i_pop, i_pop2, i_goto, i_ifc, i_icmp, i_getI, i_getL, i_getR, i_putI, i_putZ, i_putL, i_putR, i_aldI, i_aldB, i_aldL, i_aldD, i_astI, i_astL, i_astD, i_alen, i_ret, i_iret, i_zret, i_lret, i_fret, i_dret, i_aret, i_invS0, i_invV0, i_m2, i_m1, i_ml, i_obj, lk, lkp, stf1, stf2, Value.category, rV, xTo, lv_args, xCk, xCat, xRc, xAk, hg_S, hg_I, hg_J, hg_D, hg_R, hs_I, hs_J, hs_D, hs_R, uI_at, uJ_at, uD_at, uR_at, List.take_succ_cons, List.take_zero, List.drop_succ_cons, List.drop_zero, List.reverse_cons, List.reverse_nil, List.nil_append, List.cons_append, List.map_cons, List.map_nil, List.sum_cons, List.sum_nil, List.length_cons, List.length_nil, Option.toList_some, Option.toList_none, true_and, and_true, false_and, and_false, true_implies, false_implies, implies_true, not_true_eq_false, not_false_eq_true, ne_eq, if_true, if_false, Bool.and_true, Bool.true_and, decide_true, decide_false, reduceIte, reduceCtorEq, Bool.and_self, Bool.and_eq_true, decide_eq_true_eq, and_self, true_or, or_true, false_or, or_false, Nat.zero_add, Nat.add_zero, eq_self, Nat.reduceEqDiff, Nat.reduceLeDiff, Nat.reduceLT, Nat.reduceAdd, Nat.reduceSub, Nat.reduceMul]
  exact h
end
