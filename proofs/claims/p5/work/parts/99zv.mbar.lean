/-! ===== the model's barrier ===== -/
section
variable {S : xS} {I : xI} {J : xJ} {D : xDb} {R : xR} {b : Nat × Nat} {Q : xQ} {E : Nat → Int32} {n M a z : Nat} {inc : Nat → Bool} {po : Nat → Nat}
/-- equal ends are connected; neighbours have equal ends -/
def C1 (e : Nat → Nat) (n h : Nat) (inc : Nat → Bool) (r : Nat → Nat) : Prop := ∀ d d', inc d = true → inc d' = true → r d = r d' → RC e n h d d'
def C2 (n : Nat) (inc : Nat → Bool) (r : Nat → Nat) : Prop := ∀ d t, t < n → inc d = true → inc (d ^^^ 2 ^ t) = true → r d = r (d ^^^ 2 ^ t)
theorem C2_path {e : Nat → Nat} {n h : Nat} {r : Nat → Nat} (hr : C2 n inc r) (hi : ∀ d, d < 2 ^ n → e d ≤ h → inc d = true) {a c : Nat} (ha : a < 2 ^ n) (p : RC e n h a c) : r a = r c ∧ c < 2 ^ n ∧ inc c = true := by
  refine RC_ind (P := fun c => r a = r c ∧ c < 2 ^ n ∧ inc c = true) (fun h1 => ⟨rfl, ha, hi a ha h1⟩) (fun d t _ ih h2 h3 => ?_) p
  obtain ⟨i1, i2, i3⟩ := ih
  have hx : d ^^^ 2 ^ t < 2 ^ n := Nat.xor_lt_two_pow i2 (Nat.pow_lt_pow_right (by decide) h2)
  have hy := hi _ hx h3
  exact ⟨i1.trans (hr d t h2 i3 hy), hx, hy⟩
theorem L323_93 {I0 : xI} (hL : LM S R) (h10 : I0 300 10 = nI n) (hE : EB E n) {c k : Nat} (hi : ∀ d, inc d = true → d < 2 ^ n) (hM : ∀ d, inc d = true → po d < M) (hc : inc c = true) (hmax : ∀ d, inc d = true → d ≠ c → po d < po c) (hle : ∀ d, inc d = true → eN E d ≤ eN E c)
    (kk : ∀ I p r, WU inc po p r → HT inc p (2 ^ n) I0 I → C1 (eN E) n (eN E c) inc r → C2 n inc r → xRun xT 323 159 [(0, .ref 200), (5, .int (nI a)), (6, .int (nI z)), (7, .int (nI k)), (8, .int (nI c))] [] (S, I, J, D, R) b Q) :
    ∀ (j i : Nat) (p r : Nat → Nat) (I : xI), i + j = n → WU inc po p r → HT inc p (2 ^ n) I0 I → C1 (eN E) n (eN E c) inc r → (∀ d t, t < n → d ≠ c → d ^^^ 2 ^ t ≠ c → inc d = true → inc (d ^^^ 2 ^ t) = true → r d = r (d ^^^ 2 ^ t)) → (∀ t, t < i → inc (c ^^^ 2 ^ t) = true → r (c ^^^ 2 ^ t) = c) →
      xRun xT 323 93 [(0, .ref 200), (5, .int (nI a)), (6, .int (nI z)), (7, .int (nI k)), (8, .int (nI c)), (9, .int (nI i))] [] (S, I, J, D, R) b Q
  | 0, i, p, r, I, hij, hW, hT, h1, h2, h3 => by
    have hn := hE.1
    have e : i = n := by omega
    subst e
    have pc' : p c = c := Classical.byContradiction (fun hne => by
      obtain ⟨a1, a2, a3, a4⟩ := hW c hc
      have := a3 hne
      have := hmax _ a1 hne
      omega)
    have rc : r c = c := (hW c hc).2.2.2 pc'
    rw [e323_93]
    simp only [B323_93, xSeq, i_push, i_load, i_iload, i_lload, i_dload, i_aload, i_istore, i_astore, i_lstore, i_dstore, i_iinc, i_ii, i_iiz, i_ll, i_llz, i_lli, i_li, i_i, i_l, i_i2l, i_l2i, i_dup, i_dup2, i_dup2w, i_dupx1, i_pop, i_pop2, i_goto, i_ifc, i_icmp, i_getI, i_getL, i_getR, i_putI, i_putZ, i_putL, i_putR, i_aldI, i_aldB, i_aldL, i_aldD, i_astI, i_astL, i_astD, i_alen, i_ret, i_iret, i_zret, i_lret, i_fret, i_dret, i_aret, i_invS0, i_invV0, i_m2, i_m1, i_ml, i_obj, lk, lkp, stf1, stf2, Value.category, rV, xTo, lv_args, xCk, xCat, xRc, xAk, hg_S, hg_I, hg_J, hg_D, hg_R, hs_I, hs_J, hs_D, hs_R, uI_at, uJ_at, uD_at, uR_at, List.take_succ_cons, List.take_zero, List.drop_succ_cons, List.drop_zero, List.reverse_cons, List.reverse_nil, List.nil_append, List.cons_append, List.map_cons, List.map_nil, List.sum_cons, List.sum_nil, List.length_cons, List.length_nil, Option.toList_some, Option.toList_none, true_and, and_true, false_and, and_false, true_implies, false_implies, implies_true, not_true_eq_false, not_false_eq_true, ne_eq, if_true, if_false, Bool.and_true, Bool.true_and, decide_true, decide_false, reduceIte, reduceCtorEq, Bool.and_self, Bool.and_eq_true, decide_eq_true_eq, and_self, true_or, or_true, false_or, or_false, Nat.zero_add, Nat.add_zero, eq_self, Nat.reduceEqDiff, Nat.reduceLeDiff, Nat.reduceLT, Nat.reduceAdd, Nat.reduceSub, Nat.reduceMul, xi144_0, ix_0, xi144_1, ix_1, xi144_2, ix_2, xi144_3, ix_3, xi144_4, ix_4, xi144_5, ix_5, xi144_6, ix_6, xi144_7, ix_7, xi144_8, ix_8, xi144_9, ix_9, xi144_10, ix_10, LM_out hL, (hT.2 _ _ (by decide)).trans h10, nI_leP (show i < 2147483648 by omega) (show i < 2147483648 by omega), Nat.le_refl]
    refine kk I p r hW hT h1 (fun d t ht hd hd2 => ?_)
    by_cases e1 : d = c
    · subst e1
      rw [rc, h3 t ht hd2]
    · by_cases e2 : d ^^^ 2 ^ t = c
      · have e3 : d = c ^^^ 2 ^ t := by rw [← e2, Nat.xor_assoc, Nat.xor_self, Nat.xor_zero]
        rw [e2, rc]
        rw [e3] at hd ⊢
        exact h3 t ht hd
      · exact h2 d t ht e1 e2 hd hd2
  | j + 1, i, p, r, I, hij, hW, hT, h1, h2, h3 => by
    have hn := hE.1
    have hp := pow16 hE.1
    have hcn := hi c hc
    have pc' : ∀ p, WU inc po p r → p c = c := fun p hW => Classical.byContradiction (fun hne => by
      obtain ⟨a1, a2, a3, a4⟩ := hW c hc
      have := a3 hne
      have := hmax _ a1 hne
      omega)
    have rc : r c = c := (hW c hc).2.2.2 (pc' p hW)
    have hx : c ^^^ 2 ^ i < 2 ^ n := Nat.xor_lt_two_pow hcn (Nat.pow_lt_pow_right (by decide) (by omega))
    have nx := fun p r I => L323_93 hL h10 hE hi hM hc hmax hle kk j (i + 1) p r I (by omega)
    obtain ⟨t1, t2⟩ := hT.1 _ hx
    rw [e323_93]
    simp only [B323_93, xSeq, i_push, i_load, i_iload, i_lload, i_dload, i_aload, i_istore, i_astore, i_lstore, i_dstore, i_iinc, i_ii, i_iiz, i_ll, i_llz, i_lli, i_li, i_i, i_l, i_i2l, i_l2i, i_dup, i_dup2, i_dup2w, i_dupx1, i_pop, i_pop2, i_goto, i_ifc, i_icmp, i_getI, i_getL, i_getR, i_putI, i_putZ, i_putL, i_putR, i_aldI, i_aldB, i_aldL, i_aldD, i_astI, i_astL, i_astD, i_alen, i_ret, i_iret, i_zret, i_lret, i_fret, i_dret, i_aret, i_invS0, i_invV0, i_m2, i_m1, i_ml, i_obj, lk, lkp, stf1, stf2, Value.category, rV, xTo, lv_args, xCk, xCat, xRc, xAk, hg_S, hg_I, hg_J, hg_D, hg_R, hs_I, hs_J, hs_D, hs_R, uI_at, uJ_at, uD_at, uR_at, List.take_succ_cons, List.take_zero, List.drop_succ_cons, List.drop_zero, List.reverse_cons, List.reverse_nil, List.nil_append, List.cons_append, List.map_cons, List.map_nil, List.sum_cons, List.sum_nil, List.length_cons, List.length_nil, Option.toList_some, Option.toList_none, true_and, and_true, false_and, and_false, true_implies, false_implies, implies_true, not_true_eq_false, not_false_eq_true, ne_eq, if_true, if_false, Bool.and_true, Bool.true_and, decide_true, decide_false, reduceIte, reduceCtorEq, Bool.and_self, Bool.and_eq_true, decide_eq_true_eq, and_self, true_or, or_true, false_or, or_false, Nat.zero_add, Nat.add_zero, eq_self, Nat.reduceEqDiff, Nat.reduceLeDiff, Nat.reduceLT, Nat.reduceAdd, Nat.reduceSub, Nat.reduceMul, xi144_0, ix_0, xi144_1, ix_1, xi144_2, ix_2, xi144_3, ix_3, xi144_4, ix_4, xi144_5, ix_5, xi144_6, ix_6, xi144_7, ix_7, xi144_8, ix_8, xi144_9, ix_9, xi144_10, ix_10, LM_out hL, (hT.2 300 10 (by decide)).trans h10, nI_leP (show n < 2147483648 by omega) (show i < 2147483648 by omega), show (n ≤ i) = False from eq_false (by omega), q_1shl (show i < 31 by omega), i_xorN, nI_inP (show c ^^^ 2 ^ i < 65536 by omega) (by decide), nI_ix (show c ^^^ 2 ^ i < 2147483648 by omega)]
    cases ho : inc (c ^^^ 2 ^ i)
    · have t3 := t2 ho
      simp only [t3, true_and, and_true, false_and, and_false, true_implies, false_implies, implies_true, not_true_eq_false, not_false_eq_true, ne_eq, if_true, if_false, Bool.and_true, Bool.true_and, decide_true, decide_false, reduceIte, reduceCtorEq, Bool.and_self, Bool.and_eq_true, decide_eq_true_eq, and_self, true_or, or_true, false_or, or_false, Nat.zero_add, Nat.add_zero, eq_self, Nat.reduceEqDiff, Nat.reduceLeDiff, Nat.reduceLT, Nat.reduceAdd, Nat.reduceSub, Nat.reduceMul, e323_153, B323_153, xSeq, i_push, i_load, i_iload, i_lload, i_dload, i_aload, i_istore, i_astore, i_lstore, i_dstore, i_iinc, i_ii, i_iiz, i_ll, i_llz, i_lli, i_li, i_i, i_l, i_i2l, i_l2i, i_dup, i_dup2, i_dup2w, i_dupx1, i_pop, i_pop2, i_goto, i_ifc, i_icmp, i_getI, i_getL, i_getR, i_putI, i_putZ, i_putL, i_putR, i_aldI, i_aldB, i_aldL, i_aldD, i_astI, i_astL, i_astD, i_alen, i_ret, i_iret, i_zret, i_lret, i_fret, i_dret, i_aret, i_invS0, i_invV0, i_m2, i_m1, i_ml, i_obj, lk, lkp, stf1, stf2, Value.category, rV, xTo, lv_args, xCk, xCat, xRc, xAk, hg_S, hg_I, hg_J, hg_D, hg_R, hs_I, hs_J, hs_D, hs_R, uI_at, uJ_at, uD_at, uR_at, List.take_succ_cons, List.take_zero, List.drop_succ_cons, List.drop_zero, List.reverse_cons, List.reverse_nil, List.nil_append, List.cons_append, List.map_cons, List.map_nil, List.sum_cons, List.sum_nil, List.length_cons, List.length_nil, Option.toList_some, Option.toList_none, true_and, and_true, false_and, and_false, true_implies, false_implies, implies_true, not_true_eq_false, not_false_eq_true, ne_eq, if_true, if_false, Bool.and_true, Bool.true_and, decide_true, decide_false, reduceIte, reduceCtorEq, Bool.and_self, Bool.and_eq_true, decide_eq_true_eq, and_self, true_or, or_true, false_or, or_false, Nat.zero_add, Nat.add_zero, eq_self, Nat.reduceEqDiff, Nat.reduceLeDiff, Nat.reduceLT, Nat.reduceAdd, Nat.reduceSub, Nat.reduceMul, nI_1]
      refine nx p r I hW hT h1 h2 (fun t ht hd => ?_)
      by_cases e : t = i
      · subst e
        rw [ho] at hd
        exact absurd hd (by decide)
      · exact h3 t (by omega) hd
    · have t3 := t1 ho
      have d2 := hi _ (hW _ ho).1
      simp only [t3, nI_n1 (show p (c ^^^ 2 ^ i) < 2147483648 by omega), ne_eq, not_false_eq_true, true_and, and_true, false_and, and_false, true_implies, false_implies, implies_true, not_true_eq_false, not_false_eq_true, ne_eq, if_true, if_false, Bool.and_true, Bool.true_and, decide_true, decide_false, reduceIte, reduceCtorEq, Bool.and_self, Bool.and_eq_true, decide_eq_true_eq, and_self, true_or, or_true, false_or, or_false, Nat.zero_add, Nat.add_zero, eq_self, Nat.reduceEqDiff, Nat.reduceLeDiff, Nat.reduceLT, Nat.reduceAdd, Nat.reduceSub, Nat.reduceMul]
      obtain ⟨o, hO⟩ : ∃ o, o = c ^^^ 2 ^ i := ⟨_, rfl⟩
      rw [← hO] at hx ho ⊢
      rw [e323_128]
      simp only [B323_128, xSeq, i_push, i_load, i_iload, i_lload, i_dload, i_aload, i_istore, i_astore, i_lstore, i_dstore, i_iinc, i_ii, i_iiz, i_ll, i_llz, i_lli, i_li, i_i, i_l, i_i2l, i_l2i, i_dup, i_dup2, i_dup2w, i_dupx1, i_pop, i_pop2, i_goto, i_ifc, i_icmp, i_getI, i_getL, i_getR, i_putI, i_putZ, i_putL, i_putR, i_aldI, i_aldB, i_aldL, i_aldD, i_astI, i_astL, i_astD, i_alen, i_ret, i_iret, i_zret, i_lret, i_fret, i_dret, i_aret, i_invS0, i_invV0, i_m2, i_m1, i_ml, i_obj, lk, lkp, stf1, stf2, Value.category, rV, xTo, lv_args, xCk, xCat, xRc, xAk, hg_S, hg_I, hg_J, hg_D, hg_R, hs_I, hs_J, hs_D, hs_R, uI_at, uJ_at, uD_at, uR_at, List.take_succ_cons, List.take_zero, List.drop_succ_cons, List.drop_zero, List.reverse_cons, List.reverse_nil, List.nil_append, List.cons_append, List.map_cons, List.map_nil, List.sum_cons, List.sum_nil, List.length_cons, List.length_nil, Option.toList_some, Option.toList_none, true_and, and_true, false_and, and_false, true_implies, false_implies, implies_true, not_true_eq_false, not_false_eq_true, ne_eq, if_true, if_false, Bool.and_true, Bool.true_and, decide_true, decide_false, reduceIte, reduceCtorEq, Bool.and_self, Bool.and_eq_true, decide_eq_true_eq, and_self, true_or, or_true, false_or, or_false, Nat.zero_add, Nat.add_zero, eq_self, Nat.reduceEqDiff, Nat.reduceLeDiff, Nat.reduceLT, Nat.reduceAdd, Nat.reduceSub, Nat.reduceMul, LM_out hL]
      refine L325 (N := 2 ^ n) (r := r) (I0 := I0) hL hp hi hM ho hW hT (fun I1 p1 w1 q1 => ?_)
      simp only [xSeq, i_push, i_load, i_iload, i_lload, i_dload, i_aload, i_istore, i_astore, i_lstore, i_dstore, i_iinc, i_ii, i_iiz, i_ll, i_llz, i_lli, i_li, i_i, i_l, i_i2l, i_l2i, i_dup, i_dup2, i_dup2w, i_dupx1, i_pop, i_pop2, i_goto, i_ifc, i_icmp, i_getI, i_getL, i_getR, i_putI, i_putZ, i_putL, i_putR, i_aldI, i_aldB, i_aldL, i_aldD, i_astI, i_astL, i_astD, i_alen, i_ret, i_iret, i_zret, i_lret, i_fret, i_dret, i_aret, i_invS0, i_invV0, i_m2, i_m1, i_ml, i_obj, lk, lkp, stf1, stf2, Value.category, rV, xTo, lv_args, xCk, xCat, xRc, xAk, hg_S, hg_I, hg_J, hg_D, hg_R, hs_I, hs_J, hs_D, hs_R, uI_at, uJ_at, uD_at, uR_at, List.take_succ_cons, List.take_zero, List.drop_succ_cons, List.drop_zero, List.reverse_cons, List.reverse_nil, List.nil_append, List.cons_append, List.map_cons, List.map_nil, List.sum_cons, List.sum_nil, List.length_cons, List.length_nil, Option.toList_some, Option.toList_none, true_and, and_true, false_and, and_false, true_implies, false_implies, implies_true, not_true_eq_false, not_false_eq_true, ne_eq, if_true, if_false, Bool.and_true, Bool.true_and, decide_true, decide_false, reduceIte, reduceCtorEq, Bool.and_self, Bool.and_eq_true, decide_eq_true_eq, and_self, true_or, or_true, false_or, or_false, Nat.zero_add, Nat.add_zero, eq_self, Nat.reduceEqDiff, Nat.reduceLeDiff, Nat.reduceLT, Nat.reduceAdd, Nat.reduceSub, Nat.reduceMul, LM_out hL]
      refine L325 (N := 2 ^ n) (r := r) (I0 := I0) hL hp hi hM hc w1 q1 (fun I2 p2 w2 q2 => ?_)
      obtain ⟨u1, u2, u3⟩ := WU_root w2 hM M o (by omega) ho
      have un := hi _ u1
      have hedge : RC (eN E) n (eN E c) c o := by
        rw [hO]
        exact (RC_one (show i < n by omega) (Nat.le_refl _) (by rw [← hO]; exact hle o ho)).1
      simp only [xSeq, i_push, i_load, i_iload, i_lload, i_dload, i_aload, i_istore, i_astore, i_lstore, i_dstore, i_iinc, i_ii, i_iiz, i_ll, i_llz, i_lli, i_li, i_i, i_l, i_i2l, i_l2i, i_dup, i_dup2, i_dup2w, i_dupx1, i_pop, i_pop2, i_goto, i_ifc, i_icmp, i_getI, i_getL, i_getR, i_putI, i_putZ, i_putL, i_putR, i_aldI, i_aldB, i_aldL, i_aldD, i_astI, i_astL, i_astD, i_alen, i_ret, i_iret, i_zret, i_lret, i_fret, i_dret, i_aret, i_invS0, i_invV0, i_m2, i_m1, i_ml, i_obj, lk, lkp, stf1, stf2, Value.category, rV, xTo, lv_args, xCk, xCat, xRc, xAk, hg_S, hg_I, hg_J, hg_D, hg_R, hs_I, hs_J, hs_D, hs_R, uI_at, uJ_at, uD_at, uR_at, List.take_succ_cons, List.take_zero, List.drop_succ_cons, List.drop_zero, List.reverse_cons, List.reverse_nil, List.nil_append, List.cons_append, List.map_cons, List.map_nil, List.sum_cons, List.sum_nil, List.length_cons, List.length_nil, Option.toList_some, Option.toList_none, true_and, and_true, false_and, and_false, true_implies, false_implies, implies_true, not_true_eq_false, not_false_eq_true, ne_eq, if_true, if_false, Bool.and_true, Bool.true_and, decide_true, decide_false, reduceIte, reduceCtorEq, Bool.and_self, Bool.and_eq_true, decide_eq_true_eq, and_self, true_or, or_true, false_or, or_false, Nat.zero_add, Nat.add_zero, eq_self, Nat.reduceEqDiff, Nat.reduceLeDiff, Nat.reduceLT, Nat.reduceAdd, Nat.reduceSub, Nat.reduceMul, LM_out hL, rc, nI_inP (show r o < 65536 by omega) (by decide), nI_ix (show r o < 2147483648 by omega), e323_153, B323_153, nI_1]
      refine nx _ _ _ (WU_join w2 hM hc (pc' p2 w2) hmax ho) (HT_up q2 u1) (fun d d' hd hd' hr => ?_) (fun d t ht a1 a2 a3 a4 => ?_) (fun t ht hd => ?_)
      · have toc : ∀ d, inc d = true → r d = r o → RC (eN E) n (eN E c) d c := fun d hd e => RC_trans (h1 d o hd ho e) (RC_sym hedge)
        by_cases e1 : r d = r o
        · by_cases e2 : r d' = r o
          · exact h1 d d' hd hd' (e1.trans e2.symm)
          · rw [if_pos e1, if_neg e2] at hr
            exact RC_trans (toc d hd e1) (h1 c d' hc hd' (rc.trans hr))
        · by_cases e2 : r d' = r o
          · rw [if_neg e1, if_pos e2] at hr
            exact RC_trans (h1 d c hd hc (hr.trans rc.symm)) (RC_sym (toc d' hd' e2))
          · rw [if_neg e1, if_neg e2] at hr
            exact h1 d d' hd hd' hr
      · rw [h2 d t ht a1 a2 a3 a4]
      · by_cases e : t = i
        · rw [e, ← hO, if_pos rfl]
        · rw [h3 t (by omega) hd]
          split <;> rfl
/-- the first places of the order -/
def in2 (N : Nat) (po : Nat → Nat) (k d : Nat) : Bool := decide (d < N) && decide (po d < k)
theorem in2_iff {N k d : Nat} : in2 N po k d = true ↔ d < N ∧ po d < k := by
  unfold in2
  simp
theorem L323_63 {I0 : xI} (hL : LM S R) (h10 : I0 300 10 = nI n) (hE : EB E n) (hw : ∀ c, c < 2 ^ n → I0 343 c = E c) (hor : ∀ c, c < 2 ^ n → I0 355 (ps2 (fk E) (2 ^ n) c) = nI c) (ha : a < 2 ^ n) (hz : z < 2 ^ n)
    (kk : ∀ I c, c < 2 ^ n → bar (eN E) n a z (eN E c) → (∀ o k, o ≠ 356 → I o k = I0 o k) → Q (.ok (some (.int (E c)))) (S, I, J, D, R) b) :
    ∀ (j k : Nat) (p r : Nat → Nat) (I : xI), k + j = 2 ^ n → WU (in2 (2 ^ n) (ps2 (fk E) (2 ^ n)) k) (ps2 (fk E) (2 ^ n)) p r → HT (in2 (2 ^ n) (ps2 (fk E) (2 ^ n)) k) p (2 ^ n) I0 I → (∀ h, (∀ d, in2 (2 ^ n) (ps2 (fk E) (2 ^ n)) k d = true → eN E d ≤ h) → C1 (eN E) n h (in2 (2 ^ n) (ps2 (fk E) (2 ^ n)) k) r) → C2 n (in2 (2 ^ n) (ps2 (fk E) (2 ^ n)) k) r → ¬ (in2 (2 ^ n) (ps2 (fk E) (2 ^ n)) k a = true ∧ in2 (2 ^ n) (ps2 (fk E) (2 ^ n)) k z = true ∧ r a = r z) →
      xRun xT 323 63 [(0, .ref 200), (5, .int (nI a)), (6, .int (nI z)), (7, .int (nI k))] [] (S, I, J, D, R) b Q
  | 0, k, p, r, I, hk, hW, hT, h1, h2, h3 => by
    have hall : ∀ d, d < 2 ^ n → in2 (2 ^ n) (ps2 (fk E) (2 ^ n)) k d = true := fun d hd => in2_iff.mpr ⟨hd, by
      have := ps2_lt (f := fk E) hd
      omega⟩
    have hp := C2_path (inc := in2 (2 ^ n) (ps2 (fk E) (2 ^ n)) k) h2 (fun d hd _ => hall d hd) ha (RC_top ha hz (fun k hk => (eN_ok hE hk).2.2.1))
    exact absurd ⟨hall a ha, hall z hz, hp.1⟩ h3
  | j + 1, k, p, r, I, hk, hW, hT, h1, h2, h3 => by
    have hn := hE.1
    have hp := pow16 hE.1
    have nx := fun p r I => L323_63 hL h10 hE hw hor ha hz kk j (k + 1) p r I (by omega)
    obtain ⟨c, hc, hpc⟩ := ps2_sur (f := fk E) (N := 2 ^ n) (show k < 2 ^ n by omega)
    have hor' := hor c hc
    rw [hpc] at hor'
    have hps : ∀ d, d < 2 ^ n → ps2 (fk E) (2 ^ n) d = k → d = c := fun d hd e => ps2_inj hd hc (e.trans hpc.symm)
    have hple : ∀ d, d < 2 ^ n → ps2 (fk E) (2 ^ n) d ≤ k → eN E d ≤ eN E c := fun d hd e => by
      have := ps2_le (f := fk E) hc (show ps2 (fk E) (2 ^ n) d ≤ ps2 (fk E) (2 ^ n) c by omega)
      unfold fk at this
      omega
    have hpre : ∀ d, d < 2 ^ n → eN E d < eN E c → ps2 (fk E) (2 ^ n) d < k := fun d hd e => by
      have := ps2_mono (f := fk E) (N := 2 ^ n) (c := c) hd (bf_iff.mpr (Or.inl (by unfold fk; omega)))
      omega
    obtain ⟨po, hpo⟩ : ∃ po, po = ps2 (fk E) (2 ^ n) := ⟨_, rfl⟩
    rw [← hpo] at hW hT h1 h2 h3 nx hpc hps hple hpre
    have hold : ∀ d, in2 (2 ^ n) po (k + 1) d = true → d ≠ c → in2 (2 ^ n) po k d = true := fun d hd hne => by
      obtain ⟨g1, g2⟩ := in2_iff.mp hd
      refine in2_iff.mpr ⟨g1, ?_⟩
      have : po d ≠ k := fun e => hne (hps d g1 e)
      omega
    have hnew : ∀ d, in2 (2 ^ n) po k d = true → in2 (2 ^ n) po (k + 1) d = true ∧ d ≠ c := fun d hd => by
      obtain ⟨g1, g2⟩ := in2_iff.mp hd
      refine ⟨in2_iff.mpr ⟨g1, by omega⟩, fun e => ?_⟩
      rw [e, hpc] at g2
      exact absurd g2 (Nat.lt_irrefl _)
    have hcin : in2 (2 ^ n) po (k + 1) c = true := in2_iff.mpr ⟨hc, by omega⟩
    have hcout : in2 (2 ^ n) po k c = false := by
      cases hb : in2 (2 ^ n) po k c
      · rfl
      · exact absurd rfl (hnew c hb).2
    have h10' : I 300 10 = nI n := (hT.2 _ _ (by decide)).trans h10
    have ho' : I 355 k = nI c := (hT.2 _ _ (by decide)).trans hor'
    have hW' : WU (in2 (2 ^ n) po (k + 1)) po (fun d => if d = c then c else p d) (fun d => if d = c then c else r d) := by
      intro d hd
      by_cases e : d = c
      · subst e
        simp only [if_true]
        exact ⟨hcin, trivial, fun hne => absurd rfl hne, fun _ => trivial⟩
      · obtain ⟨w1, w2, w3, w4⟩ := hW d (hold d hd e)
        obtain ⟨v1, v2⟩ := hnew _ w1
        simp only [e, v2, if_false]
        exact ⟨v1, w2, w3, w4⟩
    have hT' : HT (in2 (2 ^ n) po (k + 1)) (fun d => if d = c then c else p d) (2 ^ n) I0 (uI I 356 c (nI c)) := by
      refine ⟨fun d hd => ?_, fun o q ho => ?_⟩
      · rw [uI_at]
        by_cases e : d = c
        · subst e
          simp only [if_true, and_self]
          exact ⟨fun _ => trivial, fun h => by rw [hcin] at h; exact absurd h (by decide)⟩
        · rw [if_neg (fun h => e h.2)]
          simp only [e, if_false]
          obtain ⟨w1, w2⟩ := hT.1 d hd
          refine ⟨fun h => w1 (hold d h e), fun h => w2 ?_⟩
          cases hb : in2 (2 ^ n) po k d
          · rfl
          · rw [(hnew d hb).1] at h
            exact absurd h (by decide)
      · rw [uI_at, if_neg (fun e => ho e.1)]
        exact hT.2 o q ho
    have hle : ∀ d, in2 (2 ^ n) po (k + 1) d = true → eN E d ≤ eN E c := fun d hd => by
      obtain ⟨g1, g2⟩ := in2_iff.mp hd
      exact hple d g1 (by omega)
    have rne : ∀ d, in2 (2 ^ n) po k d = true → r d ≠ c := fun d hd e => by
      have := (WU_root hW (M := k) (fun d hd => (in2_iff.mp hd).2) k d (by omega) hd).1
      rw [e, hcout] at this
      exact absurd this (by decide)
    have hC1 : C1 (eN E) n (eN E c) (in2 (2 ^ n) po (k + 1)) (fun d => if d = c then c else r d) := by
      intro d d' hd hd' hr
      simp only at hr
      by_cases e1 : d = c
      · by_cases e2 : d' = c
        · rw [e1, e2]
          exact .refl (Nat.le_refl _)
        · rw [if_pos e1, if_neg e2] at hr
          exact absurd hr.symm (rne d' (hold d' hd' e2))
      · by_cases e2 : d' = c
        · rw [if_neg e1, if_pos e2] at hr
          exact absurd hr (rne d (hold d hd e1))
        · rw [if_neg e1, if_neg e2] at hr
          exact h1 (eN E c) (fun x hx => hle x (hnew x hx).1) d d' (hold d hd e1) (hold d' hd' e2) hr
    rw [e323_63]
    simp only [B323_63, xSeq, i_push, i_load, i_iload, i_lload, i_dload, i_aload, i_istore, i_astore, i_lstore, i_dstore, i_iinc, i_ii, i_iiz, i_ll, i_llz, i_lli, i_li, i_i, i_l, i_i2l, i_l2i, i_dup, i_dup2, i_dup2w, i_dupx1, i_pop, i_pop2, i_goto, i_ifc, i_icmp, i_getI, i_getL, i_getR, i_putI, i_putZ, i_putL, i_putR, i_aldI, i_aldB, i_aldL, i_aldD, i_astI, i_astL, i_astD, i_alen, i_ret, i_iret, i_zret, i_lret, i_fret, i_dret, i_aret, i_invS0, i_invV0, i_m2, i_m1, i_ml, i_obj, lk, lkp, stf1, stf2, Value.category, rV, xTo, lv_args, xCk, xCat, xRc, xAk, hg_S, hg_I, hg_J, hg_D, hg_R, hs_I, hs_J, hs_D, hs_R, uI_at, uJ_at, uD_at, uR_at, List.take_succ_cons, List.take_zero, List.drop_succ_cons, List.drop_zero, List.reverse_cons, List.reverse_nil, List.nil_append, List.cons_append, List.map_cons, List.map_nil, List.sum_cons, List.sum_nil, List.length_cons, List.length_nil, Option.toList_some, Option.toList_none, true_and, and_true, false_and, and_false, true_implies, false_implies, implies_true, not_true_eq_false, not_false_eq_true, ne_eq, if_true, if_false, Bool.and_true, Bool.true_and, decide_true, decide_false, reduceIte, reduceCtorEq, Bool.and_self, Bool.and_eq_true, decide_eq_true_eq, and_self, true_or, or_true, false_or, or_false, Nat.zero_add, Nat.add_zero, eq_self, Nat.reduceEqDiff, Nat.reduceLeDiff, Nat.reduceLT, Nat.reduceAdd, Nat.reduceSub, Nat.reduceMul, LM_out hL, R303 hL h10' (show n < 31 by omega), nI_leP (show 2 ^ n < 2147483648 by omega) (show k < 2147483648 by omega), show (2 ^ n ≤ k) = False from eq_false (by omega), nI_inP (show k < 65536 by omega) (by decide), nI_ix (show k < 2147483648 by omega), ho', nI_inP (show c < 65536 by omega) (by decide), nI_ix (show c < 2147483648 by omega)]
    refine L323_93 (I0 := I0) (E := E) (n := n) (M := k + 1) (inc := in2 (2 ^ n) po (k + 1)) (po := po) (c := c) hL h10 hE (fun d hd => (in2_iff.mp hd).1) (fun d hd => (in2_iff.mp hd).2) hcin (fun d hd hne => by
      have := (in2_iff.mp (hold d hd hne)).2
      omega) hle (fun I2 p2 r2 w2 q2 g1 g2 => ?_) n 0 _ _ _ (by omega) hW' hT' hC1 (fun d t ht a1 a2 a3 a4 => ?_) (fun t ht => absurd ht (Nat.not_lt_zero _))
    · have hMk : ∀ d, in2 (2 ^ n) po (k + 1) d = true → po d < k + 1 := fun d hd => (in2_iff.mp hd).2
      have hik : ∀ d, in2 (2 ^ n) po (k + 1) d = true → d < 2 ^ n := fun d hd => (in2_iff.mp hd).1
      have next : ∀ (I3 : xI) (p3 : Nat → Nat), WU (in2 (2 ^ n) po (k + 1)) po p3 r2 → HT (in2 (2 ^ n) po (k + 1)) p3 (2 ^ n) I0 I3 → ¬ (in2 (2 ^ n) po (k + 1) a = true ∧ in2 (2 ^ n) po (k + 1) z = true ∧ r2 a = r2 z) → xRun xT 323 204 [(0, .ref 200), (5, .int (nI a)), (6, .int (nI z)), (7, .int (nI k))] [] (S, I3, J, D, R) b Q := fun I3 p3 w3 q3 hno => by
        rw [e323_204]
        simp only [B323_204, xSeq, i_push, i_load, i_iload, i_lload, i_dload, i_aload, i_istore, i_astore, i_lstore, i_dstore, i_iinc, i_ii, i_iiz, i_ll, i_llz, i_lli, i_li, i_i, i_l, i_i2l, i_l2i, i_dup, i_dup2, i_dup2w, i_dupx1, i_pop, i_pop2, i_goto, i_ifc, i_icmp, i_getI, i_getL, i_getR, i_putI, i_putZ, i_putL, i_putR, i_aldI, i_aldB, i_aldL, i_aldD, i_astI, i_astL, i_astD, i_alen, i_ret, i_iret, i_zret, i_lret, i_fret, i_dret, i_aret, i_invS0, i_invV0, i_m2, i_m1, i_ml, i_obj, lk, lkp, stf1, stf2, Value.category, rV, xTo, lv_args, xCk, xCat, xRc, xAk, hg_S, hg_I, hg_J, hg_D, hg_R, hs_I, hs_J, hs_D, hs_R, uI_at, uJ_at, uD_at, uR_at, List.take_succ_cons, List.take_zero, List.drop_succ_cons, List.drop_zero, List.reverse_cons, List.reverse_nil, List.nil_append, List.cons_append, List.map_cons, List.map_nil, List.sum_cons, List.sum_nil, List.length_cons, List.length_nil, Option.toList_some, Option.toList_none, true_and, and_true, false_and, and_false, true_implies, false_implies, implies_true, not_true_eq_false, not_false_eq_true, ne_eq, if_true, if_false, Bool.and_true, Bool.true_and, decide_true, decide_false, reduceIte, reduceCtorEq, Bool.and_self, Bool.and_eq_true, decide_eq_true_eq, and_self, true_or, or_true, false_or, or_false, Nat.zero_add, Nat.add_zero, eq_self, Nat.reduceEqDiff, Nat.reduceLeDiff, Nat.reduceLT, Nat.reduceAdd, Nat.reduceSub, Nat.reduceMul, nI_1]
        exact nx p3 r2 I3 w3 q3 (fun h hh d d' hd hd' hr => RC_mono (hh c hcin) (g1 d d' hd hd' hr)) g2 hno
      obtain ⟨ta1, ta2⟩ := q2.1 a ha
      obtain ⟨tz1, tz2⟩ := q2.1 z hz
      rw [e323_159]
      simp only [B323_159, xSeq, i_push, i_load, i_iload, i_lload, i_dload, i_aload, i_istore, i_astore, i_lstore, i_dstore, i_iinc, i_ii, i_iiz, i_ll, i_llz, i_lli, i_li, i_i, i_l, i_i2l, i_l2i, i_dup, i_dup2, i_dup2w, i_dupx1, i_pop, i_pop2, i_goto, i_ifc, i_icmp, i_getI, i_getL, i_getR, i_putI, i_putZ, i_putL, i_putR, i_aldI, i_aldB, i_aldL, i_aldD, i_astI, i_astL, i_astD, i_alen, i_ret, i_iret, i_zret, i_lret, i_fret, i_dret, i_aret, i_invS0, i_invV0, i_m2, i_m1, i_ml, i_obj, lk, lkp, stf1, stf2, Value.category, rV, xTo, lv_args, xCk, xCat, xRc, xAk, hg_S, hg_I, hg_J, hg_D, hg_R, hs_I, hs_J, hs_D, hs_R, uI_at, uJ_at, uD_at, uR_at, List.take_succ_cons, List.take_zero, List.drop_succ_cons, List.drop_zero, List.reverse_cons, List.reverse_nil, List.nil_append, List.cons_append, List.map_cons, List.map_nil, List.sum_cons, List.sum_nil, List.length_cons, List.length_nil, Option.toList_some, Option.toList_none, true_and, and_true, false_and, and_false, true_implies, false_implies, implies_true, not_true_eq_false, not_false_eq_true, ne_eq, if_true, if_false, Bool.and_true, Bool.true_and, decide_true, decide_false, reduceIte, reduceCtorEq, Bool.and_self, Bool.and_eq_true, decide_eq_true_eq, and_self, true_or, or_true, false_or, or_false, Nat.zero_add, Nat.add_zero, eq_self, Nat.reduceEqDiff, Nat.reduceLeDiff, Nat.reduceLT, Nat.reduceAdd, Nat.reduceSub, Nat.reduceMul, LM_out hL, nI_inP (show a < 65536 by omega) (by decide), nI_ix (show a < 2147483648 by omega), nI_inP (show z < 65536 by omega) (by decide), nI_ix (show z < 2147483648 by omega)]
      cases hia : in2 (2 ^ n) po (k + 1) a
      · simp only [ta2 hia, true_and, and_true, false_and, and_false, true_implies, false_implies, implies_true, not_true_eq_false, not_false_eq_true, ne_eq, if_true, if_false, Bool.and_true, Bool.true_and, decide_true, decide_false, reduceIte, reduceCtorEq, Bool.and_self, Bool.and_eq_true, decide_eq_true_eq, and_self, true_or, or_true, false_or, or_false, Nat.zero_add, Nat.add_zero, eq_self, Nat.reduceEqDiff, Nat.reduceLeDiff, Nat.reduceLT, Nat.reduceAdd, Nat.reduceSub, Nat.reduceMul]
        exact next I2 p2 w2 q2 (fun h => by rw [hia] at h; exact absurd h.1 (by decide))
      · have pa := hik _ (w2 a hia).1
        cases hiz : in2 (2 ^ n) po (k + 1) z
        · simp only [ta1 hia, tz2 hiz, nI_n1 (show p2 a < 2147483648 by omega), true_and, and_true, false_and, and_false, true_implies, false_implies, implies_true, not_true_eq_false, not_false_eq_true, ne_eq, if_true, if_false, Bool.and_true, Bool.true_and, decide_true, decide_false, reduceIte, reduceCtorEq, Bool.and_self, Bool.and_eq_true, decide_eq_true_eq, and_self, true_or, or_true, false_or, or_false, Nat.zero_add, Nat.add_zero, eq_self, Nat.reduceEqDiff, Nat.reduceLeDiff, Nat.reduceLT, Nat.reduceAdd, Nat.reduceSub, Nat.reduceMul]
          exact next I2 p2 w2 q2 (fun h => by rw [hiz] at h; exact absurd h.2.1 (by decide))
        · have pz := hik _ (w2 z hiz).1
          simp only [ta1 hia, tz1 hiz, nI_n1 (show p2 a < 2147483648 by omega), nI_n1 (show p2 z < 2147483648 by omega), true_and, and_true, false_and, and_false, true_implies, false_implies, implies_true, not_true_eq_false, not_false_eq_true, ne_eq, if_true, if_false, Bool.and_true, Bool.true_and, decide_true, decide_false, reduceIte, reduceCtorEq, Bool.and_self, Bool.and_eq_true, decide_eq_true_eq, and_self, true_or, or_true, false_or, or_false, Nat.zero_add, Nat.add_zero, eq_self, Nat.reduceEqDiff, Nat.reduceLeDiff, Nat.reduceLT, Nat.reduceAdd, Nat.reduceSub, Nat.reduceMul]
          refine L325 (N := 2 ^ n) (r := r2) (I0 := I0) hL hp hik hMk hia w2 q2 (fun I3 p3 w3 q3 => ?_)
          simp only [xSeq, i_push, i_load, i_iload, i_lload, i_dload, i_aload, i_istore, i_astore, i_lstore, i_dstore, i_iinc, i_ii, i_iiz, i_ll, i_llz, i_lli, i_li, i_i, i_l, i_i2l, i_l2i, i_dup, i_dup2, i_dup2w, i_dupx1, i_pop, i_pop2, i_goto, i_ifc, i_icmp, i_getI, i_getL, i_getR, i_putI, i_putZ, i_putL, i_putR, i_aldI, i_aldB, i_aldL, i_aldD, i_astI, i_astL, i_astD, i_alen, i_ret, i_iret, i_zret, i_lret, i_fret, i_dret, i_aret, i_invS0, i_invV0, i_m2, i_m1, i_ml, i_obj, lk, lkp, stf1, stf2, Value.category, rV, xTo, lv_args, xCk, xCat, xRc, xAk, hg_S, hg_I, hg_J, hg_D, hg_R, hs_I, hs_J, hs_D, hs_R, uI_at, uJ_at, uD_at, uR_at, List.take_succ_cons, List.take_zero, List.drop_succ_cons, List.drop_zero, List.reverse_cons, List.reverse_nil, List.nil_append, List.cons_append, List.map_cons, List.map_nil, List.sum_cons, List.sum_nil, List.length_cons, List.length_nil, Option.toList_some, Option.toList_none, true_and, and_true, false_and, and_false, true_implies, false_implies, implies_true, not_true_eq_false, not_false_eq_true, ne_eq, if_true, if_false, Bool.and_true, Bool.true_and, decide_true, decide_false, reduceIte, reduceCtorEq, Bool.and_self, Bool.and_eq_true, decide_eq_true_eq, and_self, true_or, or_true, false_or, or_false, Nat.zero_add, Nat.add_zero, eq_self, Nat.reduceEqDiff, Nat.reduceLeDiff, Nat.reduceLT, Nat.reduceAdd, Nat.reduceSub, Nat.reduceMul, LM_out hL]
          refine L325 (N := 2 ^ n) (r := r2) (I0 := I0) hL hp hik hMk hiz w3 q3 (fun I4 p4 w4 q4 => ?_)
          have ra := hik _ (WU_root w4 hMk (k + 1) a (by omega) hia).1
          have rz := hik _ (WU_root w4 hMk (k + 1) z (by omega) hiz).1
          have hwc : I4 343 c = E c := (q4.2 _ _ (by decide)).trans (hw c hc)
          simp only [xSeq, i_push, i_load, i_iload, i_lload, i_dload, i_aload, i_istore, i_astore, i_lstore, i_dstore, i_iinc, i_ii, i_iiz, i_ll, i_llz, i_lli, i_li, i_i, i_l, i_i2l, i_l2i, i_dup, i_dup2, i_dup2w, i_dupx1, i_pop, i_pop2, i_goto, i_ifc, i_icmp, i_getI, i_getL, i_getR, i_putI, i_putZ, i_putL, i_putR, i_aldI, i_aldB, i_aldL, i_aldD, i_astI, i_astL, i_astD, i_alen, i_ret, i_iret, i_zret, i_lret, i_fret, i_dret, i_aret, i_invS0, i_invV0, i_m2, i_m1, i_ml, i_obj, lk, lkp, stf1, stf2, Value.category, rV, xTo, lv_args, xCk, xCat, xRc, xAk, hg_S, hg_I, hg_J, hg_D, hg_R, hs_I, hs_J, hs_D, hs_R, uI_at, uJ_at, uD_at, uR_at, List.take_succ_cons, List.take_zero, List.drop_succ_cons, List.drop_zero, List.reverse_cons, List.reverse_nil, List.nil_append, List.cons_append, List.map_cons, List.map_nil, List.sum_cons, List.sum_nil, List.length_cons, List.length_nil, Option.toList_some, Option.toList_none, true_and, and_true, false_and, and_false, true_implies, false_implies, implies_true, not_true_eq_false, not_false_eq_true, ne_eq, if_true, if_false, Bool.and_true, Bool.true_and, decide_true, decide_false, reduceIte, reduceCtorEq, Bool.and_self, Bool.and_eq_true, decide_eq_true_eq, and_self, true_or, or_true, false_or, or_false, Nat.zero_add, Nat.add_zero, eq_self, Nat.reduceEqDiff, Nat.reduceLeDiff, Nat.reduceLT, Nat.reduceAdd, Nat.reduceSub, Nat.reduceMul, LM_out hL, ne_eq, nI_iff (show r2 a < 2147483648 by omega) (show r2 z < 2147483648 by omega), nI_inP (show c < 65536 by omega) (by decide), nI_ix (show c < 2147483648 by omega), hwc]
          by_cases e : r2 a = r2 z
          · simp only [e, true_and, and_true, false_and, and_false, true_implies, false_implies, implies_true, not_true_eq_false, not_false_eq_true, ne_eq, if_true, if_false, Bool.and_true, Bool.true_and, decide_true, decide_false, reduceIte, reduceCtorEq, Bool.and_self, Bool.and_eq_true, decide_eq_true_eq, and_self, true_or, or_true, false_or, or_false, Nat.zero_add, Nat.add_zero, eq_self, Nat.reduceEqDiff, Nat.reduceLeDiff, Nat.reduceLT, Nat.reduceAdd, Nat.reduceSub, Nat.reduceMul]
            refine kk I4 c hc ⟨g1 a z hia hiz e, fun h hr => Nat.le_of_not_lt (fun hlt => ?_)⟩ q4.2
            have hinc : ∀ d, d < 2 ^ n → eN E d ≤ h → in2 (2 ^ n) po k d = true := fun d hd he => in2_iff.mpr ⟨hd, hpre d hd (by omega)⟩
            have hpth := C2_path (inc := in2 (2 ^ n) po k) h2 hinc ha hr
            have haa := (C2_path (inc := in2 (2 ^ n) po k) h2 hinc hz (RC_sym hr)).2.2
            exact h3 ⟨haa, hpth.2.2, hpth.1⟩
          · simp only [e, true_and, and_true, false_and, and_false, true_implies, false_implies, implies_true, not_true_eq_false, not_false_eq_true, ne_eq, if_true, if_false, Bool.and_true, Bool.true_and, decide_true, decide_false, reduceIte, reduceCtorEq, Bool.and_self, Bool.and_eq_true, decide_eq_true_eq, and_self, true_or, or_true, false_or, or_false, Nat.zero_add, Nat.add_zero, eq_self, Nat.reduceEqDiff, Nat.reduceLeDiff, Nat.reduceLT, Nat.reduceAdd, Nat.reduceSub, Nat.reduceMul]
            exact next I4 p4 w4 q4 (fun h => e h.2.2)
    · simp only [a1, a2, if_false]
      exact h2 d t ht (hold d a3 a1) (hold _ a4 a2)
theorem L323_o {I0 : xI} (hL : LM S R) (hX : XM n E I0) (h10 : I0 300 10 = nI n) (hE : EB E n) (hO : OL E n I0 I) (ha : a < 2 ^ n) (hz : z < 2 ^ n)
    (kk : ∀ I' h, bar (eN E) n a z h → (∀ o k, oX o → I' o k = I0 o k) → Q (.ok (some (.int (nI h - 144)))) (S, I', J, D, R) b) :
    xRun xT 323 63 [(0, .ref 200), (5, .int (nI a)), (6, .int (nI z)), (7, .int 0)] [] (S, I, J, D, R) b Q := by
  obtain ⟨o1, o2, o3⟩ := hO
  have no : ∀ k, in2 (2 ^ n) (ps2 (fk E) (2 ^ n)) 0 k = true → False := fun k hk => absurd (in2_iff.mp hk).2 (Nat.not_lt_zero _)
  have h := L323_63 (I0 := I) (E := E) (n := n) (a := a) (z := z) (S := S) (R := R) (J := J) (D := D) (b := b) (Q := Q) hL ((o3 _ _ (by decide)).trans h10) hE (fun c hc => (o3 _ _ (by decide)).trans (hX.2.2.2.2 c hc)) o1 ha hz (fun I5 m hm hb k5 => by
    rw [(eN_ok hE hm).2.2.2]
    exact kk I5 _ hb (fun o k ho => (k5 o k ho.2.1).trans (o3 o k ho))) (2 ^ n) 0 (fun k => k) (fun k => k) I (Nat.zero_add _) (fun k hk => (no k hk).elim) ⟨fun k hk => ⟨fun h => (no k h).elim, fun _ => o2 k hk⟩, fun _ _ _ => rfl⟩ (fun h _ k k' hk => (no k hk).elim) (fun k t _ hk => (no k hk).elim) (fun hk => (no a hk.1).elim)
  rw [nI_0] at h
  exact h
end
