/-! ===== the lab's lattice is built: site by site ===== -/
section
theorem gk_q {n : Nat} {l : List (Nat × Nat)} (h : gk n l = true) : (0 < n ∧ n ≤ 64 ∧ l.length ≤ 128) ∧ (∀ q, q ∈ l → q.1 < n ∧ q.2 < n ∧ q.1 ≠ q.2) ∧ ∀ t, t < n → dE l t ≤ 4 := by
  unfold gk at h
  simp only [Bool.and_eq_true, decide_eq_true_eq] at h
  obtain ⟨⟨⟨⟨h0, h1⟩, h2⟩, h3⟩, h4⟩ := h
  refine ⟨⟨h0, h1, h2⟩, fun q hq => ?_, fun t ht => ?_⟩
  · have := List.all_eq_true.mp h3 q hq
    simp only [Bool.and_eq_true, decide_eq_true_eq, Bool.not_eq_true', decide_eq_false_iff_not] at this
    exact ⟨this.1.1, this.1.2, this.2⟩
  · have := List.all_eq_true.mp h4 t (List.mem_range.mpr ht)
    exact of_decide_eq_true this
/-- one bond more, still within a good grid -/
theorem gk_one {n f s : Nat} {l l' L : List (Nat × Nat)} (h : gk n L = true) (e : L = l ++ [(f, s)] ++ l') : f < n ∧ s < n ∧ f ≠ s ∧ l.length < 128 ∧ (∀ t, t < n → dE (l ++ [(f, s)]) t ≤ 4) ∧ dE l f < 4 ∧ dE l s < 4 := by
  obtain ⟨⟨h0, h1, h2⟩, h3, h4⟩ := gk_q h
  have hq := h3 (f, s) (by rw [e]; simp)
  have hd : ∀ t, t < n → dE (l ++ [(f, s)]) t ≤ 4 := fun t ht => by
    have := h4 t ht
    rw [e] at this
    exact Nat.le_trans (dE_mono _ t l') this
  have hl : l.length < 128 := by
    rw [e] at h2
    simp only [List.length_append, List.length_singleton] at h2
    omega
  have df := hd f hq.1
  have ds := hd s hq.2.1
  rw [dE_app, if_pos (Or.inl rfl)] at df
  rw [dE_app, if_pos (Or.inr rfl)] at ds
  exact ⟨hq.1, hq.2.1, hq.2.2, hl, hd, by omega, by omega⟩
variable {S : xS} {I : xI} {J : xJ} {D : xDb} {R : xR} {b : Nat × Nat} {Q : xQ} {n : Nat}
theorem KS_bound {su r c e : Nat} (h : KS S I su r c e) : 2 ≤ r ∧ r ≤ 8 ∧ 2 ≤ c ∧ c ≤ 8 ∧ e < 3 := ⟨h.2.2.2.2.1, h.2.2.2.2.2.1, h.2.2.2.2.2.2.1, h.2.2.2.2.2.2.2.1, h.2.2.2.2.2.2.2.2.1⟩
theorem L48_87 {su r c e s : Nat} (hL : LC S R) (hK : KS S I su r c e) (h0 : I 102 0 = nI r) (h1 : I 102 1 = nI c) (h2 : I 102 2 = nI n) (hn : n = r * c) (hs : s < n) (hg : gk n (bl r c e n) = true)
    (hB : HB I n (bl r c e s ++ oR c e s)) (hP : PB I r c e s) (hr : I 105 s = (if bR c e (s % c) = true then nI (bl r c e s).length else -1)) (hd : I 106 s = -1)
    (kk : ∀ I', HB I' n (bl r c e (s + 1)) → PB I' r c e (s + 1) → (∀ o k, ¬ bO o k → I' o k = I o k) → Q (.ok none) (S, I', J, D, R) b) :
    xRun xT 48 87 [(0, .ref 102), (1, .int (nI s)), (2, .ref su), (4, .int (nI (s / c))), (5, .int (nI (s % c)))] [] (S, I, J, D, R) b Q := by
  obtain ⟨k1, k2, k3, k4, k5⟩ := KS_bound hK
  obtain ⟨l0, hl0⟩ := bl_pre (r := r) (c := c) (e := e) (show s + 1 ≤ n by omega)
  have hn64 : n ≤ 64 := (gk_q hg).1.2.1
  have hrow : s / c < r := by
    rw [Nat.div_lt_iff_lt_mul (by omega)]
    rw [hn] at hs
    exact hs
  have hcol : s % c < c := Nat.mod_lt _ (by omega)
  have e1 : s / c + 1 < 64 := by omega
  rw [e48_87]
  simp only [B48_87, xSeq, i_push, i_load, i_iload, i_lload, i_dload, i_aload, i_istore, i_astore, i_lstore, i_dstore, i_iinc, i_ii, i_iiz, i_ll, i_llz, i_lli, i_li, i_i, i_l, i_i2l, i_l2i, i_dup, i_dup2, i_dup2w, i_dupx1, i_pop, i_pop2, i_goto, i_ifc, i_icmp, i_getI, i_getL, i_getR, i_putI, i_putZ, i_putL, i_putR, i_aldI, i_aldB, i_aldL, i_aldD, i_astI, i_astL, i_astD, i_alen, i_ret, i_iret, i_zret, i_lret, i_fret, i_dret, i_aret, i_invS0, i_invV0, i_m2, i_m1, i_ml, i_obj, lk, lkp, stf1, stf2, Value.category, rV, xTo, lv_args, xCk, xCat, xRc, xAk, hg_S, hg_I, hg_J, hg_D, hg_R, hs_I, hs_J, hs_D, hs_R, uI_at, uJ_at, uD_at, uR_at, List.take_succ_cons, List.take_zero, List.drop_succ_cons, List.drop_zero, List.reverse_cons, List.reverse_nil, List.nil_append, List.cons_append, List.map_cons, List.map_nil, List.sum_cons, List.sum_nil, List.length_cons, List.length_nil, Option.toList_some, Option.toList_none, true_and, and_true, false_and, and_false, true_implies, false_implies, implies_true, not_true_eq_false, not_false_eq_true, ne_eq, if_true, if_false, Bool.and_true, Bool.true_and, decide_true, decide_false, reduceIte, reduceCtorEq, Bool.and_self, Bool.and_eq_true, decide_eq_true_eq, and_self, true_or, or_true, false_or, or_false, Nat.zero_add, Nat.add_zero, eq_self, Nat.reduceEqDiff, Nat.reduceLeDiff, Nat.reduceLT, Nat.reduceAdd, Nat.reduceSub, Nat.reduceMul, LC_out hL, hK.1, R44 (R := R) hK.1 hK.2.1 hK.2.2.2.1 (show s / c < 64 by omega) (show r < 64 by omega) k5]
  by_cases hD : bD r e (s / c) = true
  · have eD : oD r c e s = [(s, nR r (s / c) * c + s % c)] := by rw [oD, if_pos hD]
    have hone := gk_one hg (l := bl r c e s ++ oR c e s) (f := s) (s := nR r (s / c) * c + s % c) (l' := l0) (by rw [hl0, bl, eD])
    obtain ⟨o1, o2, o3, o4, o5, o6, o7⟩ := hone
    have h49 := fun (Q : xQ) => R49 (J := J) (D := D) (b := (0, 0)) (Q := Q) hL h2 hn64 o1 o2 o3 hB.1 o4 (hB.2.2.2.1 _ o1) (hB.2.2.2.1 _ o2) o6 o7
    have hB' := HB_add hB o3 o1 o2 o5
    have hfr : ∀ o k, ¬ bO o k → uI (aB I s (nR r (s / c) * c + s % c) (bl r c e s ++ oR c e s).length (dE (bl r c e s ++ oR c e s) s) (dE (bl r c e s ++ oR c e s) (nR r (s / c) * c + s % c))) 106 s (nI (bl r c e s ++ oR c e s).length) o k = I o k := fun o k hok => by
      rw [uI_at, if_neg (fun h => hok (by unfold bO; omega)), aB_fr hok]
    have hfin : xRun xT 48 138 [] [] (S, uI (aB I s (nR r (s / c) * c + s % c) (bl r c e s ++ oR c e s).length (dE (bl r c e s ++ oR c e s) s) (dE (bl r c e s ++ oR c e s) (nR r (s / c) * c + s % c))) 106 s (nI (bl r c e s ++ oR c e s).length), J, D, R) b Q := by
      rw [e48_138]
      simp only [B48_138, xSeq, i_push, i_load, i_iload, i_lload, i_dload, i_aload, i_istore, i_astore, i_lstore, i_dstore, i_iinc, i_ii, i_iiz, i_ll, i_llz, i_lli, i_li, i_i, i_l, i_i2l, i_l2i, i_dup, i_dup2, i_dup2w, i_dupx1, i_pop, i_pop2, i_goto, i_ifc, i_icmp, i_getI, i_getL, i_getR, i_putI, i_putZ, i_putL, i_putR, i_aldI, i_aldB, i_aldL, i_aldD, i_astI, i_astL, i_astD, i_alen, i_ret, i_iret, i_zret, i_lret, i_fret, i_dret, i_aret, i_invS0, i_invV0, i_m2, i_m1, i_ml, i_obj, lk, lkp, stf1, stf2, Value.category, rV, xTo, lv_args, xCk, xCat, xRc, xAk, hg_S, hg_I, hg_J, hg_D, hg_R, hs_I, hs_J, hs_D, hs_R, uI_at, uJ_at, uD_at, uR_at, List.take_succ_cons, List.take_zero, List.drop_succ_cons, List.drop_zero, List.reverse_cons, List.reverse_nil, List.nil_append, List.cons_append, List.map_cons, List.map_nil, List.sum_cons, List.sum_nil, List.length_cons, List.length_nil, Option.toList_some, Option.toList_none, true_and, and_true, false_and, and_false, true_implies, false_implies, implies_true, not_true_eq_false, not_false_eq_true, ne_eq, if_true, if_false, Bool.and_true, Bool.true_and, decide_true, decide_false, reduceIte, reduceCtorEq, Bool.and_self, Bool.and_eq_true, decide_eq_true_eq, and_self, true_or, or_true, false_or, or_false, Nat.zero_add, Nat.add_zero, eq_self, Nat.reduceEqDiff, Nat.reduceLeDiff, Nat.reduceLT, Nat.reduceAdd, Nat.reduceSub, Nat.reduceMul]
      refine kk _ ?_ ?_ hfr
      · rw [bl, eD]
        exact hB'
      · intro t ht
        by_cases et : t = s
        · subst et
          refine ⟨?_, ?_⟩
          · rw [uI_at, if_neg (by omega)]
            unfold aB
            simp only [uI_at, true_and, and_true, false_and, and_false, true_implies, false_implies, implies_true, not_true_eq_false, not_false_eq_true, ne_eq, if_true, if_false, Bool.and_true, Bool.true_and, decide_true, decide_false, reduceIte, reduceCtorEq, Bool.and_self, Bool.and_eq_true, decide_eq_true_eq, and_self, true_or, or_true, false_or, or_false, Nat.zero_add, Nat.add_zero, eq_self, Nat.reduceEqDiff, Nat.reduceLeDiff, Nat.reduceLT, Nat.reduceAdd, Nat.reduceSub, Nat.reduceMul]
            exact hr
          · rw [uI_at, if_pos ⟨rfl, rfl⟩, if_pos hD]
        · have := hP t (by omega)
          refine ⟨?_, ?_⟩
          · rw [uI_at, if_neg (by omega)]
            unfold aB
            simp only [uI_at, true_and, and_true, false_and, and_false, true_implies, false_implies, implies_true, not_true_eq_false, not_false_eq_true, ne_eq, if_true, if_false, Bool.and_true, Bool.true_and, decide_true, decide_false, reduceIte, reduceCtorEq, Bool.and_self, Bool.and_eq_true, decide_eq_true_eq, and_self, true_or, or_true, false_or, or_false, Nat.zero_add, Nat.add_zero, eq_self, Nat.reduceEqDiff, Nat.reduceLeDiff, Nat.reduceLT, Nat.reduceAdd, Nat.reduceSub, Nat.reduceMul]
            exact this.1
          · rw [uI_at, if_neg (fun h => et h.2)]
            unfold aB
            simp only [uI_at, true_and, and_true, false_and, and_false, true_implies, false_implies, implies_true, not_true_eq_false, not_false_eq_true, ne_eq, if_true, if_false, Bool.and_true, Bool.true_and, decide_true, decide_false, reduceIte, reduceCtorEq, Bool.and_self, Bool.and_eq_true, decide_eq_true_eq, and_self, true_or, or_true, false_or, or_false, Nat.zero_add, Nat.add_zero, eq_self, Nat.reduceEqDiff, Nat.reduceLeDiff, Nat.reduceLT, Nat.reduceAdd, Nat.reduceSub, Nat.reduceMul]
            exact this.2
    by_cases hlt : s / c + 1 < r
    · have e3 : nI (s / c + 1) * nI c + nI (s % c) = nI (nR r (s / c) * c + s % c) := by
        rw [pk_mul, nI_add, nR, if_pos hlt]
      simp only [hD, if_true, i1_0, xSeq, i_push, i_load, i_iload, i_lload, i_dload, i_aload, i_istore, i_astore, i_lstore, i_dstore, i_iinc, i_ii, i_iiz, i_ll, i_llz, i_lli, i_li, i_i, i_l, i_i2l, i_l2i, i_dup, i_dup2, i_dup2w, i_dupx1, i_pop, i_pop2, i_goto, i_ifc, i_icmp, i_getI, i_getL, i_getR, i_putI, i_putZ, i_putL, i_putR, i_aldI, i_aldB, i_aldL, i_aldD, i_astI, i_astL, i_astD, i_alen, i_ret, i_iret, i_zret, i_lret, i_fret, i_dret, i_aret, i_invS0, i_invV0, i_m2, i_m1, i_ml, i_obj, lk, lkp, stf1, stf2, Value.category, rV, xTo, lv_args, xCk, xCat, xRc, xAk, hg_S, hg_I, hg_J, hg_D, hg_R, hs_I, hs_J, hs_D, hs_R, uI_at, uJ_at, uD_at, uR_at, List.take_succ_cons, List.take_zero, List.drop_succ_cons, List.drop_zero, List.reverse_cons, List.reverse_nil, List.nil_append, List.cons_append, List.map_cons, List.map_nil, List.sum_cons, List.sum_nil, List.length_cons, List.length_nil, Option.toList_some, Option.toList_none, true_and, and_true, false_and, and_false, true_implies, false_implies, implies_true, not_true_eq_false, not_false_eq_true, ne_eq, if_true, if_false, Bool.and_true, Bool.true_and, decide_true, decide_false, reduceIte, reduceCtorEq, Bool.and_self, Bool.and_eq_true, decide_eq_true_eq, and_self, true_or, or_true, false_or, or_false, Nat.zero_add, Nat.add_zero, eq_self, Nat.reduceEqDiff, Nat.reduceLeDiff, Nat.reduceLT, Nat.reduceAdd, Nat.reduceSub, Nat.reduceMul, h0, nI_1, nI_leP (show r < 2147483648 by omega) (show s / c + 1 < 2147483648 by omega), show (r ≤ s / c + 1) = False from eq_false (by omega), e48_115, B48_115, LC_out hL, h1, e3, h49, nI_inP (show s < 64 by omega) (by decide), nI_ix (show s < 2147483648 by omega)]
      exact hfin
    · have e3 : 0 * nI c + nI (s % c) = nI (nR r (s / c) * c + s % c) := by
        rw [nR, if_neg hlt, Nat.zero_mul, Nat.zero_add, Int32.zero_mul, Int32.zero_add]
      simp only [hD, if_true, i1_0, xSeq, i_push, i_load, i_iload, i_lload, i_dload, i_aload, i_istore, i_astore, i_lstore, i_dstore, i_iinc, i_ii, i_iiz, i_ll, i_llz, i_lli, i_li, i_i, i_l, i_i2l, i_l2i, i_dup, i_dup2, i_dup2w, i_dupx1, i_pop, i_pop2, i_goto, i_ifc, i_icmp, i_getI, i_getL, i_getR, i_putI, i_putZ, i_putL, i_putR, i_aldI, i_aldB, i_aldL, i_aldD, i_astI, i_astL, i_astD, i_alen, i_ret, i_iret, i_zret, i_lret, i_fret, i_dret, i_aret, i_invS0, i_invV0, i_m2, i_m1, i_ml, i_obj, lk, lkp, stf1, stf2, Value.category, rV, xTo, lv_args, xCk, xCat, xRc, xAk, hg_S, hg_I, hg_J, hg_D, hg_R, hs_I, hs_J, hs_D, hs_R, uI_at, uJ_at, uD_at, uR_at, List.take_succ_cons, List.take_zero, List.drop_succ_cons, List.drop_zero, List.reverse_cons, List.reverse_nil, List.nil_append, List.cons_append, List.map_cons, List.map_nil, List.sum_cons, List.sum_nil, List.length_cons, List.length_nil, Option.toList_some, Option.toList_none, true_and, and_true, false_and, and_false, true_implies, false_implies, implies_true, not_true_eq_false, not_false_eq_true, ne_eq, if_true, if_false, Bool.and_true, Bool.true_and, decide_true, decide_false, reduceIte, reduceCtorEq, Bool.and_self, Bool.and_eq_true, decide_eq_true_eq, and_self, true_or, or_true, false_or, or_false, Nat.zero_add, Nat.add_zero, eq_self, Nat.reduceEqDiff, Nat.reduceLeDiff, Nat.reduceLT, Nat.reduceAdd, Nat.reduceSub, Nat.reduceMul, h0, nI_1, nI_leP (show r < 2147483648 by omega) (show s / c + 1 < 2147483648 by omega), show (r ≤ s / c + 1) = True from eq_true (by omega), e48_114, B48_114, e48_115, B48_115, LC_out hL, h1, e3, h49, nI_inP (show s < 64 by omega) (by decide), nI_ix (show s < 2147483648 by omega)]
      exact hfin
  · have eD : oD r c e s = [] := by rw [oD, if_neg hD]
    simp only [hD, if_false, xSeq, i_push, i_load, i_iload, i_lload, i_dload, i_aload, i_istore, i_astore, i_lstore, i_dstore, i_iinc, i_ii, i_iiz, i_ll, i_llz, i_lli, i_li, i_i, i_l, i_i2l, i_l2i, i_dup, i_dup2, i_dup2w, i_dupx1, i_pop, i_pop2, i_goto, i_ifc, i_icmp, i_getI, i_getL, i_getR, i_putI, i_putZ, i_putL, i_putR, i_aldI, i_aldB, i_aldL, i_aldD, i_astI, i_astL, i_astD, i_alen, i_ret, i_iret, i_zret, i_lret, i_fret, i_dret, i_aret, i_invS0, i_invV0, i_m2, i_m1, i_ml, i_obj, lk, lkp, stf1, stf2, Value.category, rV, xTo, lv_args, xCk, xCat, xRc, xAk, hg_S, hg_I, hg_J, hg_D, hg_R, hs_I, hs_J, hs_D, hs_R, uI_at, uJ_at, uD_at, uR_at, List.take_succ_cons, List.take_zero, List.drop_succ_cons, List.drop_zero, List.reverse_cons, List.reverse_nil, List.nil_append, List.cons_append, List.map_cons, List.map_nil, List.sum_cons, List.sum_nil, List.length_cons, List.length_nil, Option.toList_some, Option.toList_none, true_and, and_true, false_and, and_false, true_implies, false_implies, implies_true, not_true_eq_false, not_false_eq_true, ne_eq, if_true, if_false, Bool.and_true, Bool.true_and, decide_true, decide_false, reduceIte, reduceCtorEq, Bool.and_self, Bool.and_eq_true, decide_eq_true_eq, and_self, true_or, or_true, false_or, or_false, Nat.zero_add, Nat.add_zero, eq_self, Nat.reduceEqDiff, Nat.reduceLeDiff, Nat.reduceLT, Nat.reduceAdd, Nat.reduceSub, Nat.reduceMul, e48_138, B48_138, Bool.false_eq_true]
    refine kk _ ?_ ?_ (fun _ _ _ => rfl)
    · rw [bl, eD, List.append_nil]
      exact hB
    · intro t ht
      by_cases et : t = s
      · subst et
        exact ⟨hr, by rw [if_neg hD]; exact hd⟩
      · exact hP t (by omega)
theorem L48 {su r c e s : Nat} (hL : LC S R) (hK : KS S I su r c e) (h0 : I 102 0 = nI r) (h1 : I 102 1 = nI c) (h2 : I 102 2 = nI n) (hn : n = r * c) (hs : s < n) (hg : gk n (bl r c e n) = true)
    (hB : HB I n (bl r c e s)) (hP : PB I r c e s)
    (kk : ∀ I', HB I' n (bl r c e (s + 1)) → PB I' r c e (s + 1) → (∀ o k, ¬ bO o k → I' o k = I o k) → Q (.ok none) (S, I', J, D, R) b) :
    xRun xT 48 0 [(0, .ref 102), (1, .int (nI s)), (2, .ref su)] [] (S, I, J, D, R) b Q := by
  obtain ⟨k1, k2, k3, k4, k5⟩ := KS_bound hK
  obtain ⟨l0, hl0⟩ := bl_pre (r := r) (c := c) (e := e) (show s + 1 ≤ n by omega)
  have hn64 : n ≤ 64 := (gk_q hg).1.2.1
  have hcol : s % c < c := Nat.mod_lt _ (by omega)
  have eM : jMax (nI c) 1 = nI c := by
    unfold jMax
    rw [if_neg (by rw [show (1 : Int32) = nI 1 from rfl]; exact nI_nlt (by omega) (by omega))]
  have eD : nI s / nI c = nI (s / c) := pk_div (by omega) (by omega) (by omega)
  have eC : nI s - nI (s / c) * nI c = nI (s % c) := by
    rw [← eD]
    exact pk_rem (by omega) (by omega) (by omega)
  have hc0 : (nI c = 0) = False := eq_false (nI_ne0 (by omega) (by omega))
  obtain ⟨I1, hI1⟩ : ∃ I1, I1 = uI (uI I 105 s (-1)) 106 s (-1) := ⟨_, rfl⟩
  have hf1 : ∀ o k, ¬ bO o k → I1 o k = I o k := fun o k hok => by
    rw [hI1, uI_at, if_neg (fun h => hok (by unfold bO; omega)), uI_at, if_neg (fun h => hok (by unfold bO; omega))]
  have hK1 := KS_fr hK hf1
  have h01 : I1 102 0 = nI r := by rw [hf1 _ _ (by decide)]; exact h0
  have h11 : I1 102 1 = nI c := by rw [hf1 _ _ (by decide)]; exact h1
  have h21 : I1 102 2 = nI n := by rw [hf1 _ _ (by decide)]; exact h2
  have hB1 : HB I1 n (bl r c e s) := by
    obtain ⟨a1, a2, a3, a4, a5⟩ := hB
    rw [hI1]
    refine ⟨a1, fun k hk => ?_, fun k hk => ?_, fun k hk => ?_, fun k i hk hi => ?_⟩
    · rw [uI_at, if_neg (by omega), uI_at, if_neg (by omega)]; exact a2 k hk
    · rw [uI_at, if_neg (by omega), uI_at, if_neg (by omega)]; exact a3 k hk
    · rw [uI_at, if_neg (by omega), uI_at, if_neg (by omega)]; exact a4 k hk
    · rw [uI_at, if_neg (by omega), uI_at, if_neg (by omega)]; exact a5 k i hk hi
  have hP1 : PB I1 r c e s := fun t ht => by
    rw [hI1]
    refine ⟨?_, ?_⟩
    · rw [uI_at, if_neg (by omega), uI_at, if_neg (by omega)]; exact (hP t ht).1
    · rw [uI_at, if_neg (by omega), uI_at, if_neg (by omega)]; exact (hP t ht).2
  have hr1 : I1 105 s = -1 := by
    rw [hI1, uI_at, if_neg (by omega), uI_at, if_pos ⟨rfl, rfl⟩]
  have hd1 : I1 106 s = -1 := by
    rw [hI1, uI_at, if_pos ⟨rfl, rfl⟩]
  rw [e48_0]
  simp only [B48_0, xSeq, i_push, i_load, i_iload, i_lload, i_dload, i_aload, i_istore, i_astore, i_lstore, i_dstore, i_iinc, i_ii, i_iiz, i_ll, i_llz, i_lli, i_li, i_i, i_l, i_i2l, i_l2i, i_dup, i_dup2, i_dup2w, i_dupx1, i_pop, i_pop2, i_goto, i_ifc, i_icmp, i_getI, i_getL, i_getR, i_putI, i_putZ, i_putL, i_putR, i_aldI, i_aldB, i_aldL, i_aldD, i_astI, i_astL, i_astD, i_alen, i_ret, i_iret, i_zret, i_lret, i_fret, i_dret, i_aret, i_invS0, i_invV0, i_m2, i_m1, i_ml, i_obj, lk, lkp, stf1, stf2, Value.category, rV, xTo, lv_args, xCk, xCat, xRc, xAk, hg_S, hg_I, hg_J, hg_D, hg_R, hs_I, hs_J, hs_D, hs_R, uI_at, uJ_at, uD_at, uR_at, List.take_succ_cons, List.take_zero, List.drop_succ_cons, List.drop_zero, List.reverse_cons, List.reverse_nil, List.nil_append, List.cons_append, List.map_cons, List.map_nil, List.sum_cons, List.sum_nil, List.length_cons, List.length_nil, Option.toList_some, Option.toList_none, true_and, and_true, false_and, and_false, true_implies, false_implies, implies_true, not_true_eq_false, not_false_eq_true, ne_eq, if_true, if_false, Bool.and_true, Bool.true_and, decide_true, decide_false, reduceIte, reduceCtorEq, Bool.and_self, Bool.and_eq_true, decide_eq_true_eq, and_self, true_or, or_true, false_or, or_false, Nat.zero_add, Nat.add_zero, eq_self, Nat.reduceEqDiff, Nat.reduceLeDiff, Nat.reduceLT, Nat.reduceAdd, Nat.reduceSub, Nat.reduceMul, LC_out hL, h1, eM, hc0, eD, eC, nI_inP (show s < 64 by omega) (by decide), nI_ix (show s < 2147483648 by omega)]
  rw [← hI1]
  simp only [xSeq, i_push, i_load, i_iload, i_lload, i_dload, i_aload, i_istore, i_astore, i_lstore, i_dstore, i_iinc, i_ii, i_iiz, i_ll, i_llz, i_lli, i_li, i_i, i_l, i_i2l, i_l2i, i_dup, i_dup2, i_dup2w, i_dupx1, i_pop, i_pop2, i_goto, i_ifc, i_icmp, i_getI, i_getL, i_getR, i_putI, i_putZ, i_putL, i_putR, i_aldI, i_aldB, i_aldL, i_aldD, i_astI, i_astL, i_astD, i_alen, i_ret, i_iret, i_zret, i_lret, i_fret, i_dret, i_aret, i_invS0, i_invV0, i_m2, i_m1, i_ml, i_obj, lk, lkp, stf1, stf2, Value.category, rV, xTo, lv_args, xCk, xCat, xRc, xAk, hg_S, hg_I, hg_J, hg_D, hg_R, hs_I, hs_J, hs_D, hs_R, uI_at, uJ_at, uD_at, uR_at, List.take_succ_cons, List.take_zero, List.drop_succ_cons, List.drop_zero, List.reverse_cons, List.reverse_nil, List.nil_append, List.cons_append, List.map_cons, List.map_nil, List.sum_cons, List.sum_nil, List.length_cons, List.length_nil, Option.toList_some, Option.toList_none, true_and, and_true, false_and, and_false, true_implies, false_implies, implies_true, not_true_eq_false, not_false_eq_true, ne_eq, if_true, if_false, Bool.and_true, Bool.true_and, decide_true, decide_false, reduceIte, reduceCtorEq, Bool.and_self, Bool.and_eq_true, decide_eq_true_eq, and_self, true_or, or_true, false_or, or_false, Nat.zero_add, Nat.add_zero, eq_self, Nat.reduceEqDiff, Nat.reduceLeDiff, Nat.reduceLT, Nat.reduceAdd, Nat.reduceSub, Nat.reduceMul, hK.1, R43 (R := R) hK1.1 hK1.2.2.1 hK1.2.2.2.1 (show s % c < 64 by omega) (show c < 64 by omega) k5]
  by_cases hR : bR c e (s % c) = true
  · have eR : oR c e s = [(s, s / c * c + nR c (s % c))] := by rw [oR, if_pos hR]
    have hone := gk_one hg (l := bl r c e s) (f := s) (s := s / c * c + nR c (s % c)) (l' := oD r c e s ++ l0) (by rw [hl0, bl, eR, ← List.append_assoc])
    obtain ⟨o1, o2, o3, o4, o5, o6, o7⟩ := hone
    have h49 := fun (Q : xQ) => R49 (J := J) (D := D) (b := (0, 0)) (Q := Q) hL h21 hn64 o1 o2 o3 hB1.1 o4 (hB1.2.2.2.1 _ o1) (hB1.2.2.2.1 _ o2) o6 o7
    have hB' := HB_add hB1 o3 o1 o2 o5
    obtain ⟨I2, hI2⟩ : ∃ I2, I2 = uI (aB I1 s (s / c * c + nR c (s % c)) (bl r c e s).length (dE (bl r c e s) s) (dE (bl r c e s) (s / c * c + nR c (s % c)))) 105 s (nI (bl r c e s).length) := ⟨_, rfl⟩
    have hf2 : ∀ o k, ¬ bO o k → I2 o k = I1 o k := fun o k hok => by
      rw [hI2, uI_at, if_neg (fun h => hok (by unfold bO; omega)), aB_fr hok]
    have hB2 : HB I2 n (bl r c e s ++ oR c e s) := by
      rw [eR, hI2]
      exact hB'
    have hP2 : PB I2 r c e s := fun t ht => by
      rw [hI2]
      refine ⟨?_, ?_⟩
      · rw [uI_at, if_neg (by omega)]
        unfold aB
        simp only [uI_at, true_and, and_true, false_and, and_false, true_implies, false_implies, implies_true, not_true_eq_false, not_false_eq_true, ne_eq, if_true, if_false, Bool.and_true, Bool.true_and, decide_true, decide_false, reduceIte, reduceCtorEq, Bool.and_self, Bool.and_eq_true, decide_eq_true_eq, and_self, true_or, or_true, false_or, or_false, Nat.zero_add, Nat.add_zero, eq_self, Nat.reduceEqDiff, Nat.reduceLeDiff, Nat.reduceLT, Nat.reduceAdd, Nat.reduceSub, Nat.reduceMul]
        exact (hP1 t ht).1
      · rw [uI_at, if_neg (by omega)]
        unfold aB
        simp only [uI_at, true_and, and_true, false_and, and_false, true_implies, false_implies, implies_true, not_true_eq_false, not_false_eq_true, ne_eq, if_true, if_false, Bool.and_true, Bool.true_and, decide_true, decide_false, reduceIte, reduceCtorEq, Bool.and_self, Bool.and_eq_true, decide_eq_true_eq, and_self, true_or, or_true, false_or, or_false, Nat.zero_add, Nat.add_zero, eq_self, Nat.reduceEqDiff, Nat.reduceLeDiff, Nat.reduceLT, Nat.reduceAdd, Nat.reduceSub, Nat.reduceMul]
        exact (hP1 t ht).2
    have hr2 : I2 105 s = (if bR c e (s % c) = true then nI (bl r c e s).length else -1) := by
      rw [hI2, uI_at, if_pos ⟨rfl, rfl⟩, if_pos hR]
    have hd2 : I2 106 s = -1 := by
      rw [hI2, uI_at, if_neg (by omega)]
      unfold aB
      simp only [uI_at, true_and, and_true, false_and, and_false, true_implies, false_implies, implies_true, not_true_eq_false, not_false_eq_true, ne_eq, if_true, if_false, Bool.and_true, Bool.true_and, decide_true, decide_false, reduceIte, reduceCtorEq, Bool.and_self, Bool.and_eq_true, decide_eq_true_eq, and_self, true_or, or_true, false_or, or_false, Nat.zero_add, Nat.add_zero, eq_self, Nat.reduceEqDiff, Nat.reduceLeDiff, Nat.reduceLT, Nat.reduceAdd, Nat.reduceSub, Nat.reduceMul]
      exact hd1
    have hfin := L48_87 (J := J) (D := D) (b := b) (Q := Q) hL (KS_fr hK1 hf2) (by rw [hf2 _ _ (by decide)]; exact h01) (by rw [hf2 _ _ (by decide)]; exact h11) (by rw [hf2 _ _ (by decide)]; exact h21) hn hs hg hB2 hP2 hr2 hd2 (fun I' a1 a2 a3 => kk I' a1 a2 (fun o k hok => by rw [a3 o k hok, hf2 o k hok, hf1 o k hok]))
    by_cases hlt : s % c + 1 < c
    · have e3 : nI (s / c) * nI c + nI (s % c + 1) = nI (s / c * c + nR c (s % c)) := by
        rw [pk_mul, nI_add, nR, if_pos hlt]
      simp only [hR, if_true, i1_0, xSeq, i_push, i_load, i_iload, i_lload, i_dload, i_aload, i_istore, i_astore, i_lstore, i_dstore, i_iinc, i_ii, i_iiz, i_ll, i_llz, i_lli, i_li, i_i, i_l, i_i2l, i_l2i, i_dup, i_dup2, i_dup2w, i_dupx1, i_pop, i_pop2, i_goto, i_ifc, i_icmp, i_getI, i_getL, i_getR, i_putI, i_putZ, i_putL, i_putR, i_aldI, i_aldB, i_aldL, i_aldD, i_astI, i_astL, i_astD, i_alen, i_ret, i_iret, i_zret, i_lret, i_fret, i_dret, i_aret, i_invS0, i_invV0, i_m2, i_m1, i_ml, i_obj, lk, lkp, stf1, stf2, Value.category, rV, xTo, lv_args, xCk, xCat, xRc, xAk, hg_S, hg_I, hg_J, hg_D, hg_R, hs_I, hs_J, hs_D, hs_R, uI_at, uJ_at, uD_at, uR_at, List.take_succ_cons, List.take_zero, List.drop_succ_cons, List.drop_zero, List.reverse_cons, List.reverse_nil, List.nil_append, List.cons_append, List.map_cons, List.map_nil, List.sum_cons, List.sum_nil, List.length_cons, List.length_nil, Option.toList_some, Option.toList_none, true_and, and_true, false_and, and_false, true_implies, false_implies, implies_true, not_true_eq_false, not_false_eq_true, ne_eq, if_true, if_false, Bool.and_true, Bool.true_and, decide_true, decide_false, reduceIte, reduceCtorEq, Bool.and_self, Bool.and_eq_true, decide_eq_true_eq, and_self, true_or, or_true, false_or, or_false, Nat.zero_add, Nat.add_zero, eq_self, Nat.reduceEqDiff, Nat.reduceLeDiff, Nat.reduceLT, Nat.reduceAdd, Nat.reduceSub, Nat.reduceMul, h11, nI_1, nI_leP (show c < 2147483648 by omega) (show s % c + 1 < 2147483648 by omega), show (c ≤ s % c + 1) = False from eq_false (by omega), e48_64, B48_64, LC_out hL, e3, h49, nI_inP (show s < 64 by omega) (by decide), nI_ix (show s < 2147483648 by omega)]
      rw [← hI2]
      exact hfin
    · have e3 : nI (s / c) * nI c + 0 = nI (s / c * c + nR c (s % c)) := by
        rw [nR, if_neg hlt, pk_mul, Nat.add_zero, Int32.add_zero]
      simp only [hR, if_true, i1_0, xSeq, i_push, i_load, i_iload, i_lload, i_dload, i_aload, i_istore, i_astore, i_lstore, i_dstore, i_iinc, i_ii, i_iiz, i_ll, i_llz, i_lli, i_li, i_i, i_l, i_i2l, i_l2i, i_dup, i_dup2, i_dup2w, i_dupx1, i_pop, i_pop2, i_goto, i_ifc, i_icmp, i_getI, i_getL, i_getR, i_putI, i_putZ, i_putL, i_putR, i_aldI, i_aldB, i_aldL, i_aldD, i_astI, i_astL, i_astD, i_alen, i_ret, i_iret, i_zret, i_lret, i_fret, i_dret, i_aret, i_invS0, i_invV0, i_m2, i_m1, i_ml, i_obj, lk, lkp, stf1, stf2, Value.category, rV, xTo, lv_args, xCk, xCat, xRc, xAk, hg_S, hg_I, hg_J, hg_D, hg_R, hs_I, hs_J, hs_D, hs_R, uI_at, uJ_at, uD_at, uR_at, List.take_succ_cons, List.take_zero, List.drop_succ_cons, List.drop_zero, List.reverse_cons, List.reverse_nil, List.nil_append, List.cons_append, List.map_cons, List.map_nil, List.sum_cons, List.sum_nil, List.length_cons, List.length_nil, Option.toList_some, Option.toList_none, true_and, and_true, false_and, and_false, true_implies, false_implies, implies_true, not_true_eq_false, not_false_eq_true, ne_eq, if_true, if_false, Bool.and_true, Bool.true_and, decide_true, decide_false, reduceIte, reduceCtorEq, Bool.and_self, Bool.and_eq_true, decide_eq_true_eq, and_self, true_or, or_true, false_or, or_false, Nat.zero_add, Nat.add_zero, eq_self, Nat.reduceEqDiff, Nat.reduceLeDiff, Nat.reduceLT, Nat.reduceAdd, Nat.reduceSub, Nat.reduceMul, h11, nI_1, nI_leP (show c < 2147483648 by omega) (show s % c + 1 < 2147483648 by omega), show (c ≤ s % c + 1) = True from eq_true (by omega), e48_63, B48_63, e48_64, B48_64, LC_out hL, e3, h49, nI_inP (show s < 64 by omega) (by decide), nI_ix (show s < 2147483648 by omega)]
      rw [← hI2]
      exact hfin
  · have eR : oR c e s = [] := by rw [oR, if_neg hR]
    simp only [hR, if_false, xSeq, i_push, i_load, i_iload, i_lload, i_dload, i_aload, i_istore, i_astore, i_lstore, i_dstore, i_iinc, i_ii, i_iiz, i_ll, i_llz, i_lli, i_li, i_i, i_l, i_i2l, i_l2i, i_dup, i_dup2, i_dup2w, i_dupx1, i_pop, i_pop2, i_goto, i_ifc, i_icmp, i_getI, i_getL, i_getR, i_putI, i_putZ, i_putL, i_putR, i_aldI, i_aldB, i_aldL, i_aldD, i_astI, i_astL, i_astD, i_alen, i_ret, i_iret, i_zret, i_lret, i_fret, i_dret, i_aret, i_invS0, i_invV0, i_m2, i_m1, i_ml, i_obj, lk, lkp, stf1, stf2, Value.category, rV, xTo, lv_args, xCk, xCat, xRc, xAk, hg_S, hg_I, hg_J, hg_D, hg_R, hs_I, hs_J, hs_D, hs_R, uI_at, uJ_at, uD_at, uR_at, List.take_succ_cons, List.take_zero, List.drop_succ_cons, List.drop_zero, List.reverse_cons, List.reverse_nil, List.nil_append, List.cons_append, List.map_cons, List.map_nil, List.sum_cons, List.sum_nil, List.length_cons, List.length_nil, Option.toList_some, Option.toList_none, true_and, and_true, false_and, and_false, true_implies, false_implies, implies_true, not_true_eq_false, not_false_eq_true, ne_eq, if_true, if_false, Bool.and_true, Bool.true_and, decide_true, decide_false, reduceIte, reduceCtorEq, Bool.and_self, Bool.and_eq_true, decide_eq_true_eq, and_self, true_or, or_true, false_or, or_false, Nat.zero_add, Nat.add_zero, eq_self, Nat.reduceEqDiff, Nat.reduceLeDiff, Nat.reduceLT, Nat.reduceAdd, Nat.reduceSub, Nat.reduceMul, Bool.false_eq_true]
    exact L48_87 (J := J) (D := D) (b := b) (Q := Q) hL hK1 h01 h11 h21 hn hs hg (by rw [eR, List.append_nil]; exact hB1) hP1 (by rw [if_neg hR]; exact hr1) hd1 (fun I' a1 a2 a3 => kk I' a1 a2 (fun o k hok => by rw [a3 o k hok, hf1 o k hok]))
end
