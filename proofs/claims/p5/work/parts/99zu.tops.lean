/-! ===== tops ===== -/
section
theorem RC_trans {e : Nat → Nat} {n h a c d : Nat} (h1 : RC e n h a c) (h2 : RC e n h c d) : RC e n h a d :=
  RC_ind (P := fun d => RC e n h a d) (fun _ => h1) (fun _ _ _ ih h3 h4 => .step ih h3 h4) h2
theorem RC_one {e : Nat → Nat} {n h c t : Nat} (ht : t < n) (h1 : e c ≤ h) (h2 : e (c ^^^ 2 ^ t) ≤ h) : RC e n h c (c ^^^ 2 ^ t) ∧ RC e n h (c ^^^ 2 ^ t) c := by
  refine ⟨.step (.refl h1) ht h2, ?_⟩
  have h3 : RC e n h (c ^^^ 2 ^ t) (c ^^^ 2 ^ t ^^^ 2 ^ t) := .step (.refl h2) ht (by rw [Nat.xor_assoc, Nat.xor_self, Nat.xor_zero]; exact h1)
  rw [Nat.xor_assoc, Nat.xor_self, Nat.xor_zero] at h3
  exact h3
theorem RC_sym {e : Nat → Nat} {n h a c : Nat} (r : RC e n h a c) : RC e n h c a :=
  RC_ind (P := fun d => RC e n h d a) (fun h1 => .refl h1) (fun _ _ r1 ih h2 h3 => RC_trans (RC_one h2 (RC_le r1) h3).2 ih) r
/-- tops that lead on in the order, and where they end -/
def WU (inc : Nat → Bool) (po p r : Nat → Nat) : Prop := ∀ d, inc d = true → inc (p d) = true ∧ r (p d) = r d ∧ (p d ≠ d → po d < po (p d)) ∧ (p d = d → r d = d)
variable {inc : Nat → Bool} {po p r : Nat → Nat} {M : Nat}
theorem WU_root (h : WU inc po p r) (hM : ∀ d, inc d = true → po d < M) : ∀ (j d : Nat), M ≤ po d + j → inc d = true → inc (r d) = true ∧ p (r d) = r d ∧ r (r d) = r d
  | 0, d, hj, hd => by
    have := hM d hd
    omega
  | j + 1, d, hj, hd => by
    obtain ⟨h1, h2, h3, h4⟩ := h d hd
    by_cases e : p d = d
    · have e2 := h4 e
      rw [e2]
      exact ⟨hd, e, e2⟩
    · have ih := WU_root h hM j (p d) (by have := h3 e; omega) h1
      rw [h2] at ih
      exact ih
theorem WU_halve (h : WU inc po p r) {k : Nat} (hk : inc k = true) (hne : p k ≠ k) : WU inc po (fun d => if d = k then p (p k) else p d) r := by
  intro d hd
  obtain ⟨h1, h2, h3, h4⟩ := h k hk
  obtain ⟨g1, g2, g3, g4⟩ := h (p k) h1
  by_cases e : d = k
  · subst e
    simp only [if_true]
    have hlt : po d < po (p (p d)) := by
      by_cases e2 : p (p d) = p d
      · rw [e2]; exact h3 hne
      · have := h3 hne
        have := g3 e2
        omega
    refine ⟨g1, g2.trans h2, fun _ => hlt, fun e2 => ?_⟩
    rw [e2] at hlt
    exact absurd hlt (Nat.lt_irrefl _)
  · simp only [e, if_false]
    exact h d hd
theorem WU_join (h : WU inc po p r) (hM : ∀ d, inc d = true → po d < M) {c o : Nat} (hc : inc c = true) (hpc : p c = c) (hmax : ∀ d, inc d = true → d ≠ c → po d < po c) (ho : inc o = true) : WU inc po (fun d => if d = r o then c else p d) (fun d => if r d = r o then c else r d) := by
  obtain ⟨u1, u2, u3⟩ := WU_root h hM M o (by omega) ho
  have rc : r c = c := (h c hc).2.2.2 hpc
  obtain ⟨u, hu⟩ : ∃ u, u = r o := ⟨_, rfl⟩
  rw [← hu] at u1 u2 u3 ⊢
  intro d hd
  obtain ⟨h1, h2, h3, h4⟩ := h d hd
  by_cases e : d = u
  · subst e
    simp only [if_true, u3, rc]
    refine ⟨hc, ?_, fun hne => hmax d hd (fun e2 => hne e2.symm), fun e2 => e2⟩
    split <;> rfl
  · simp only [e, if_false, h2]
    refine ⟨h1, trivial, h3, fun e2 => ?_⟩
    rw [h4 e2, if_neg e]
/-- the row of tops -/
def HT (inc : Nat → Bool) (p : Nat → Nat) (N : Nat) (I0 I : xI) : Prop := (∀ d, d < N → (inc d = true → I 356 d = nI (p d)) ∧ (inc d = false → I 356 d = -1)) ∧ ∀ o k, o ≠ 356 → I o k = I0 o k
theorem HT_up {N : Nat} {I0 I : xI} (h : HT inc p N I0 I) {k v : Nat} (hk : inc k = true) : HT inc (fun d => if d = k then v else p d) N I0 (uI I 356 k (nI v)) := by
  refine ⟨fun d hd => ?_, fun o q ho => ?_⟩
  · rw [uI_at]
    by_cases e : d = k
    · subst e
      simp only [if_true, and_self]
      exact ⟨fun _ => trivial, fun h2 => by rw [hk] at h2; exact absurd h2 (by decide)⟩
    · rw [if_neg (fun h => e h.2)]
      simp only [e, if_false]
      exact h.1 d hd
  · rw [uI_at, if_neg (fun e => ho e.1)]
    exact h.2 o q ho
variable {S : xS} {I : xI} {J : xJ} {D : xDb} {R : xR} {b : Nat × Nat} {Q : xQ} {N : Nat}
theorem L325_2 {I0 : xI} (hL : LM S R) (hN : N ≤ 65536) (hi : ∀ d, inc d = true → d < N) (hM : ∀ d, inc d = true → po d < M) {v : Nat}
    (kk : ∀ I p, WU inc po p r → HT inc p N I0 I → Q (.ok (some (.int (nI v)))) (S, I, J, D, R) b) :
    ∀ (j d : Nat) (p : Nat → Nat) (I : xI), M ≤ po d + j → inc d = true → r d = v → WU inc po p r → HT inc p N I0 I → xRun xT 325 2 [(0, .ref 200), (2, .int (nI d))] [] (S, I, J, D, R) b Q
  | 0, d, p, I, hj, hd, hv, hW, hT => by
    have := hM d hd
    omega
  | j + 1, d, p, I, hj, hd, hv, hW, hT => by
    obtain ⟨h1, h2, h3, h4⟩ := hW d hd
    have d1 := hi d hd
    have d2 := hi _ h1
    have d3 := hi _ (hW _ h1).1
    have t1 := (hT.1 d d1).1 hd
    have t2 := (hT.1 _ d2).1 h1
    rw [e325_2]
    by_cases e : p d = d
    · have e2 := h4 e
      simp only [B325_2, xSeq, i_push, i_load, i_iload, i_lload, i_dload, i_aload, i_istore, i_astore, i_lstore, i_dstore, i_iinc, i_ii, i_iiz, i_ll, i_llz, i_lli, i_li, i_i, i_l, i_i2l, i_l2i, i_dup, i_dup2, i_dup2w, i_dupx1, i_pop, i_pop2, i_goto, i_ifc, i_icmp, i_getI, i_getL, i_getR, i_putI, i_putZ, i_putL, i_putR, i_aldI, i_aldB, i_aldL, i_aldD, i_astI, i_astL, i_astD, i_alen, i_ret, i_iret, i_zret, i_lret, i_fret, i_dret, i_aret, i_invS0, i_invV0, i_m2, i_m1, i_ml, i_obj, lk, lkp, stf1, stf2, Value.category, rV, xTo, lv_args, xCk, xCat, xRc, xAk, hg_S, hg_I, hg_J, hg_D, hg_R, hs_I, hs_J, hs_D, hs_R, uI_at, uJ_at, uD_at, uR_at, List.take_succ_cons, List.take_zero, List.drop_succ_cons, List.drop_zero, List.reverse_cons, List.reverse_nil, List.nil_append, List.cons_append, List.map_cons, List.map_nil, List.sum_cons, List.sum_nil, List.length_cons, List.length_nil, Option.toList_some, Option.toList_none, true_and, and_true, false_and, and_false, true_implies, false_implies, implies_true, not_true_eq_false, not_false_eq_true, ne_eq, if_true, if_false, Bool.and_true, Bool.true_and, decide_true, decide_false, reduceIte, reduceCtorEq, Bool.and_self, Bool.and_eq_true, decide_eq_true_eq, and_self, true_or, or_true, false_or, or_false, Nat.zero_add, Nat.add_zero, eq_self, Nat.reduceEqDiff, Nat.reduceLeDiff, Nat.reduceLT, Nat.reduceAdd, Nat.reduceSub, Nat.reduceMul, LM_out hL, nI_inP (show d < 65536 by omega) (by decide), nI_ix (show d < 2147483648 by omega), t1, e, e325_39, B325_39]
      rw [← e2, hv]
      exact kk I p hW hT
    · have e2 : (nI (p d) = nI d) = False := by rw [nI_iff (show p d < 2147483648 by omega) (show d < 2147483648 by omega)]; exact eq_false e
      have hw := WU_halve hW hd e
      have hlt : po d < po (p (p d)) := by
        obtain ⟨g1, g2, g3, g4⟩ := hW (p d) h1
        by_cases e3 : p (p d) = p d
        · rw [e3]; exact h3 e
        · have := h3 e
          have := g3 e3
          omega
      have hr : r (p (p d)) = v := by rw [(hW _ h1).2.1, h2, hv]
      simp only [B325_2, xSeq, i_push, i_load, i_iload, i_lload, i_dload, i_aload, i_istore, i_astore, i_lstore, i_dstore, i_iinc, i_ii, i_iiz, i_ll, i_llz, i_lli, i_li, i_i, i_l, i_i2l, i_l2i, i_dup, i_dup2, i_dup2w, i_dupx1, i_pop, i_pop2, i_goto, i_ifc, i_icmp, i_getI, i_getL, i_getR, i_putI, i_putZ, i_putL, i_putR, i_aldI, i_aldB, i_aldL, i_aldD, i_astI, i_astL, i_astD, i_alen, i_ret, i_iret, i_zret, i_lret, i_fret, i_dret, i_aret, i_invS0, i_invV0, i_m2, i_m1, i_ml, i_obj, lk, lkp, stf1, stf2, Value.category, rV, xTo, lv_args, xCk, xCat, xRc, xAk, hg_S, hg_I, hg_J, hg_D, hg_R, hs_I, hs_J, hs_D, hs_R, uI_at, uJ_at, uD_at, uR_at, List.take_succ_cons, List.take_zero, List.drop_succ_cons, List.drop_zero, List.reverse_cons, List.reverse_nil, List.nil_append, List.cons_append, List.map_cons, List.map_nil, List.sum_cons, List.sum_nil, List.length_cons, List.length_nil, Option.toList_some, Option.toList_none, true_and, and_true, false_and, and_false, true_implies, false_implies, implies_true, not_true_eq_false, not_false_eq_true, ne_eq, if_true, if_false, Bool.and_true, Bool.true_and, decide_true, decide_false, reduceIte, reduceCtorEq, Bool.and_self, Bool.and_eq_true, decide_eq_true_eq, and_self, true_or, or_true, false_or, or_false, Nat.zero_add, Nat.add_zero, eq_self, Nat.reduceEqDiff, Nat.reduceLeDiff, Nat.reduceLT, Nat.reduceAdd, Nat.reduceSub, Nat.reduceMul, LM_out hL, nI_inP (show d < 65536 by omega) (by decide), nI_ix (show d < 2147483648 by omega), t1, e2, nI_inP (show p d < 65536 by omega) (by decide), nI_ix (show p d < 2147483648 by omega), t2]
      exact L325_2 hL hN hi hM kk j (p (p d)) _ _ (by omega) (hW _ h1).1 hr hw (HT_up hT hd)
theorem L325 {I0 : xI} (hL : LM S R) (hN : N ≤ 65536) (hi : ∀ d, inc d = true → d < N) (hM : ∀ d, inc d = true → po d < M) {d : Nat} (hd : inc d = true) (hW : WU inc po p r) (hT : HT inc p N I0 I)
    (kk : ∀ I p, WU inc po p r → HT inc p N I0 I → Q (.ok (some (.int (nI (r d))))) (S, I, J, D, R) b) : xRun xT 325 0 [(0, .ref 200), (1, .int (nI d))] [] (S, I, J, D, R) b Q := by
  rw [e325_0]
  simp only [B325_0, xSeq, i_push, i_load, i_iload, i_lload, i_dload, i_aload, i_istore, i_astore, i_lstore, i_dstore, i_iinc, i_ii, i_iiz, i_ll, i_llz, i_lli, i_li, i_i, i_l, i_i2l, i_l2i, i_dup, i_dup2, i_dup2w, i_dupx1, i_pop, i_pop2, i_goto, i_ifc, i_icmp, i_getI, i_getL, i_getR, i_putI, i_putZ, i_putL, i_putR, i_aldI, i_aldB, i_aldL, i_aldD, i_astI, i_astL, i_astD, i_alen, i_ret, i_iret, i_zret, i_lret, i_fret, i_dret, i_aret, i_invS0, i_invV0, i_m2, i_m1, i_ml, i_obj, lk, lkp, stf1, stf2, Value.category, rV, xTo, lv_args, xCk, xCat, xRc, xAk, hg_S, hg_I, hg_J, hg_D, hg_R, hs_I, hs_J, hs_D, hs_R, uI_at, uJ_at, uD_at, uR_at, List.take_succ_cons, List.take_zero, List.drop_succ_cons, List.drop_zero, List.reverse_cons, List.reverse_nil, List.nil_append, List.cons_append, List.map_cons, List.map_nil, List.sum_cons, List.sum_nil, List.length_cons, List.length_nil, Option.toList_some, Option.toList_none, true_and, and_true, false_and, and_false, true_implies, false_implies, implies_true, not_true_eq_false, not_false_eq_true, ne_eq, if_true, if_false, Bool.and_true, Bool.true_and, decide_true, decide_false, reduceIte, reduceCtorEq, Bool.and_self, Bool.and_eq_true, decide_eq_true_eq, and_self, true_or, or_true, false_or, or_false, Nat.zero_add, Nat.add_zero, eq_self, Nat.reduceEqDiff, Nat.reduceLeDiff, Nat.reduceLT, Nat.reduceAdd, Nat.reduceSub, Nat.reduceMul]
  exact L325_2 hL hN hi hM kk M d p I (by omega) hd rfl hW hT
end
