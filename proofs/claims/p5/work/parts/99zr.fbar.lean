/-! ===== the lab's barrier ===== -/
section
variable {S : xS} {I : xI} {J : xJ} {D : xDb} {R : xR} {b : Nat × Nat} {Q : xQ} {E : Nat → Int32} {n a u z : Nat} {vis done : Nat → Bool} {L : Nat → Nat} {B : Nat → List Nat} {ht : Nat}
theorem HF_pop {I0 : xI} (hf : HF n vis B I0 I) {c : Nat} {q : List Nat} (hl : ht < 289) (hb : B ht = c :: q) : HF n vis (fun l => if l = ht then q else B l) I0 (uI I 137 ht (I 152 c)) ∧ I 137 ht = nI c := by
  obtain ⟨h1, h2, h3⟩ := hf
  have h4 := h1 ht hl
  rw [hb] at h4
  have er : (uI I 137 ht (I 152 c)) 152 = I 152 := by
    funext k
    rw [uI_at, if_neg (fun e => absurd e.1 (by decide))]
  refine ⟨⟨fun k hk => ?_, fun c hc => ?_, fun p k p1 p2 => ?_⟩, h4.1⟩
  · rw [er]
    by_cases e : k = ht
    · subst e
      simp only [if_true]
      rw [uI_at, if_pos ⟨rfl, rfl⟩]
      exact h4.2
    · simp only [e, if_false]
      rw [uI_at, if_neg (fun h => e h.2)]
      exact h1 k hk
  · rw [er]
    exact h2 c hc
  · rw [uI_at, if_neg (fun e => p1 e.1)]
    exact h3 p k p1 p2
theorem ct_dn {c : Nat} (hd : done c = false) (hc : c < 2 ^ n) : ct (fun k => done k || decide (c = k)) (2 ^ n) = ct done (2 ^ n) + 1 := by
  rw [ct_set hd, if_pos hc]
theorem L114_45 {I0 : xI} (hL : LC S R) (hX0 : XL n E S I0 R) (hE : EB E n) (ha : a < 2 ^ n) (hz : z < 2 ^ n)
    (kk : ∀ I h, bar (eN E) n a z h → (∀ o k, o ≠ 137 → o ≠ 152 → I o k = I0 o k) → Q (.ok (some (.int (nI h - 144)))) (S, I, J, D, R) b) :
    ∀ (j i : Nat) (I : xI) (vis done : Nat → Bool) (L : Nat → Nat) (B : Nat → List Nat) (ht : Nat), i + j = 65825 → FS (eN E) n a (2 ^ n) vis done L B ht → done z = false → HF n vis B I0 I → ht ≤ 288 → i + eN E a = ht + ct done (2 ^ n) →
      xRun xT 114 45 [(0, .ref 130), (2, .int (nI z)), (3, .int (nI ht)), (4, .int (nI i))] [] (S, I, J, D, R) b Q
  | 0, i, I, vis, done, L, B, ht, hi, hS, hd, hf, hh, hc => by
    have hp := pow16 hE.1
    have h1 := ct_lt hd hz
    omega
  | j + 1, i, I, vis, done, L, B, ht, hi, hS, hd, hf, hh, hc => by
    have hp := pow16 hE.1
    have hX := HF_XL hf hX0
    have nx := fun I vis done L B ht => L114_45 hL hX0 hE ha hz kk j (i + 1) I vis done L B ht (by omega)
    have e1 : ((65825 : Int32) ≤ nI i) = False := by rw [show (65825 : Int32) = nI 65825 from rfl, nI_leP (by decide) (show i < 2147483648 by omega)]; exact eq_false (by omega)
    have e2 : ((289 : Int32) ≤ nI ht) = False := by rw [show (289 : Int32) = nI 289 from rfl, nI_leP (by decide) (show ht < 2147483648 by omega)]; exact eq_false (by omega)
    cases hb : B ht with
    | nil =>
      have h4 := hf.1 ht (by omega)
      rw [hb] at h4
      have h5 : I 137 ht = -1 := h4
      have hu := FS_up hS hb
      have hz1 : (-1 = nI z) = False := eq_false (fun e => (iff_of_eq (nI_n1 (show z < 2147483648 by omega))).mp e.symm)
      have h288 : ht + 1 ≤ 288 := by
        refine Nat.le_of_not_lt (fun hlt => ?_)
        have e9 : ht + 1 = 289 := by omega
        rw [e9] at hu
        have := FS_dn hu (show 288 < 289 by decide) (RC_top ha hz (fun k hk => (eN_ok hE hk).2.2.1))
        rw [hd] at this
        exact absurd this (by decide)
      rw [e114_45]
      simp only [B114_45, xSeq, i_push, i_load, i_iload, i_lload, i_dload, i_aload, i_istore, i_astore, i_lstore, i_dstore, i_iinc, i_ii, i_iiz, i_ll, i_llz, i_lli, i_li, i_i, i_l, i_i2l, i_l2i, i_dup, i_dup2, i_dup2w, i_dupx1, i_pop, i_pop2, i_goto, i_ifc, i_icmp, i_getI, i_getL, i_getR, i_putI, i_putZ, i_putL, i_putR, i_aldI, i_aldB, i_aldL, i_aldD, i_astI, i_astL, i_astD, i_alen, i_ret, i_iret, i_zret, i_lret, i_fret, i_dret, i_aret, i_invS0, i_invV0, i_m2, i_m1, i_ml, i_obj, lk, lkp, stf1, stf2, Value.category, rV, xTo, lv_args, xCk, xCat, xRc, xAk, hg_S, hg_I, hg_J, hg_D, hg_R, hs_I, hs_J, hs_D, hs_R, uI_at, uJ_at, uD_at, uR_at, List.take_succ_cons, List.take_zero, List.drop_succ_cons, List.drop_zero, List.reverse_cons, List.reverse_nil, List.nil_append, List.cons_append, List.map_cons, List.map_nil, List.sum_cons, List.sum_nil, List.length_cons, List.length_nil, Option.toList_some, Option.toList_none, true_and, and_true, false_and, and_false, true_implies, false_implies, implies_true, not_true_eq_false, not_false_eq_true, ne_eq, if_true, if_false, Bool.and_true, Bool.true_and, decide_true, decide_false, reduceIte, reduceCtorEq, Bool.and_self, Bool.and_eq_true, decide_eq_true_eq, and_self, true_or, or_true, false_or, or_false, Nat.zero_add, Nat.add_zero, eq_self, Nat.reduceEqDiff, Nat.reduceLeDiff, Nat.reduceLT, Nat.reduceAdd, Nat.reduceSub, Nat.reduceMul, LC_out hL, e1, e2, nI_inP (show ht < 289 by omega) (by decide), nI_ix (show ht < 2147483648 by omega), h5, hz1, ne_eq, e114_76, B114_76, e114_108, B114_108, nI_1]
      exact nx I vis done L B (ht + 1) hu hd hf h288 (by omega)
    | cons c q =>
      obtain ⟨p1, p2⟩ := HF_pop hf (show ht < 289 by omega) hb
      obtain ⟨q1, q2, q3, q4⟩ := FS_pop hS hb
      have hc2 : c < 2 ^ n := (q1.v1 c q2).1
      have ec : (nI c = nI z) = (c = z) := nI_iff (show c < 2147483648 by omega) (show z < 2147483648 by omega)
      by_cases hcz : c = z
      · have hbar := FS_bar hS (c := z) (by rw [hb, hcz]; exact List.mem_cons_self)
        rw [e114_45]
        simp only [B114_45, xSeq, i_push, i_load, i_iload, i_lload, i_dload, i_aload, i_istore, i_astore, i_lstore, i_dstore, i_iinc, i_ii, i_iiz, i_ll, i_llz, i_lli, i_li, i_i, i_l, i_i2l, i_l2i, i_dup, i_dup2, i_dup2w, i_dupx1, i_pop, i_pop2, i_goto, i_ifc, i_icmp, i_getI, i_getL, i_getR, i_putI, i_putZ, i_putL, i_putR, i_aldI, i_aldB, i_aldL, i_aldD, i_astI, i_astL, i_astD, i_alen, i_ret, i_iret, i_zret, i_lret, i_fret, i_dret, i_aret, i_invS0, i_invV0, i_m2, i_m1, i_ml, i_obj, lk, lkp, stf1, stf2, Value.category, rV, xTo, lv_args, xCk, xCat, xRc, xAk, hg_S, hg_I, hg_J, hg_D, hg_R, hs_I, hs_J, hs_D, hs_R, uI_at, uJ_at, uD_at, uR_at, List.take_succ_cons, List.take_zero, List.drop_succ_cons, List.drop_zero, List.reverse_cons, List.reverse_nil, List.nil_append, List.cons_append, List.map_cons, List.map_nil, List.sum_cons, List.sum_nil, List.length_cons, List.length_nil, Option.toList_some, Option.toList_none, true_and, and_true, false_and, and_false, true_implies, false_implies, implies_true, not_true_eq_false, not_false_eq_true, ne_eq, if_true, if_false, Bool.and_true, Bool.true_and, decide_true, decide_false, reduceIte, reduceCtorEq, Bool.and_self, Bool.and_eq_true, decide_eq_true_eq, and_self, true_or, or_true, false_or, or_false, Nat.zero_add, Nat.add_zero, eq_self, Nat.reduceEqDiff, Nat.reduceLeDiff, Nat.reduceLT, Nat.reduceAdd, Nat.reduceSub, Nat.reduceMul, LC_out hL, e1, e2, nI_inP (show ht < 289 by omega) (by decide), nI_ix (show ht < 2147483648 by omega), p2, hcz, ne_eq, e114_114, B114_114]
        exact kk I ht hbar hf.2.2
      · rw [e114_45]
        simp only [B114_45, xSeq, i_push, i_load, i_iload, i_lload, i_dload, i_aload, i_istore, i_astore, i_lstore, i_dstore, i_iinc, i_ii, i_iiz, i_ll, i_llz, i_lli, i_li, i_i, i_l, i_i2l, i_l2i, i_dup, i_dup2, i_dup2w, i_dupx1, i_pop, i_pop2, i_goto, i_ifc, i_icmp, i_getI, i_getL, i_getR, i_putI, i_putZ, i_putL, i_putR, i_aldI, i_aldB, i_aldL, i_aldD, i_astI, i_astL, i_astD, i_alen, i_ret, i_iret, i_zret, i_lret, i_fret, i_dret, i_aret, i_invS0, i_invV0, i_m2, i_m1, i_ml, i_obj, lk, lkp, stf1, stf2, Value.category, rV, xTo, lv_args, xCk, xCat, xRc, xAk, hg_S, hg_I, hg_J, hg_D, hg_R, hs_I, hs_J, hs_D, hs_R, uI_at, uJ_at, uD_at, uR_at, List.take_succ_cons, List.take_zero, List.drop_succ_cons, List.drop_zero, List.reverse_cons, List.reverse_nil, List.nil_append, List.cons_append, List.map_cons, List.map_nil, List.sum_cons, List.sum_nil, List.length_cons, List.length_nil, Option.toList_some, Option.toList_none, true_and, and_true, false_and, and_false, true_implies, false_implies, implies_true, not_true_eq_false, not_false_eq_true, ne_eq, if_true, if_false, Bool.and_true, Bool.true_and, decide_true, decide_false, reduceIte, reduceCtorEq, Bool.and_self, Bool.and_eq_true, decide_eq_true_eq, and_self, true_or, or_true, false_or, or_false, Nat.zero_add, Nat.add_zero, eq_self, Nat.reduceEqDiff, Nat.reduceLeDiff, Nat.reduceLT, Nat.reduceAdd, Nat.reduceSub, Nat.reduceMul, LC_out hL, LE_out hX.1, e1, e2, nI_inP (show ht < 289 by omega) (by decide), nI_ix (show ht < 2147483648 by omega), p2, ec, hcz, ne_eq, e114_76, B114_76, nI_n1 (show c < 2147483648 by omega), e114_88, B114_88, nI_inP (show c < 65536 by omega) (by decide), nI_ix (show c < 2147483648 by omega)]
        rw [e115_0]
        simp only [B115_0, xSeq, i_push, i_load, i_iload, i_lload, i_dload, i_aload, i_istore, i_astore, i_lstore, i_dstore, i_iinc, i_ii, i_iiz, i_ll, i_llz, i_lli, i_li, i_i, i_l, i_i2l, i_l2i, i_dup, i_dup2, i_dup2w, i_dupx1, i_pop, i_pop2, i_goto, i_ifc, i_icmp, i_getI, i_getL, i_getR, i_putI, i_putZ, i_putL, i_putR, i_aldI, i_aldB, i_aldL, i_aldD, i_astI, i_astL, i_astD, i_alen, i_ret, i_iret, i_zret, i_lret, i_fret, i_dret, i_aret, i_invS0, i_invV0, i_m2, i_m1, i_ml, i_obj, lk, lkp, stf1, stf2, Value.category, rV, xTo, lv_args, xCk, xCat, xRc, xAk, hg_S, hg_I, hg_J, hg_D, hg_R, hs_I, hs_J, hs_D, hs_R, uI_at, uJ_at, uD_at, uR_at, List.take_succ_cons, List.take_zero, List.drop_succ_cons, List.drop_zero, List.reverse_cons, List.reverse_nil, List.nil_append, List.cons_append, List.map_cons, List.map_nil, List.sum_cons, List.sum_nil, List.length_cons, List.length_nil, Option.toList_some, Option.toList_none, true_and, and_true, false_and, and_false, true_implies, false_implies, implies_true, not_true_eq_false, not_false_eq_true, ne_eq, if_true, if_false, Bool.and_true, Bool.true_and, decide_true, decide_false, reduceIte, reduceCtorEq, Bool.and_self, Bool.and_eq_true, decide_eq_true_eq, and_self, true_or, or_true, false_or, or_false, Nat.zero_add, Nat.add_zero, eq_self, Nat.reduceEqDiff, Nat.reduceLeDiff, Nat.reduceLT, Nat.reduceAdd, Nat.reduceSub, Nat.reduceMul]
        refine L115_2 (E := E) (n := n) (a := a) (u := c) (done := done) (ht := ht) hL hX0 hE hc2 hh (fun I' vis' L' B' f1 f2 f3 f4 f5 => ?_) n 0 _ vis L _ (by omega) q1 q2 q3 (fun t ht2 => absurd ht2 (Nat.not_lt_zero _)) p1
        simp only [xSeq, i_push, i_load, i_iload, i_lload, i_dload, i_aload, i_istore, i_astore, i_lstore, i_dstore, i_iinc, i_ii, i_iiz, i_ll, i_llz, i_lli, i_li, i_i, i_l, i_i2l, i_l2i, i_dup, i_dup2, i_dup2w, i_dupx1, i_pop, i_pop2, i_goto, i_ifc, i_icmp, i_getI, i_getL, i_getR, i_putI, i_putZ, i_putL, i_putR, i_aldI, i_aldB, i_aldL, i_aldD, i_astI, i_astL, i_astD, i_alen, i_ret, i_iret, i_zret, i_lret, i_fret, i_dret, i_aret, i_invS0, i_invV0, i_m2, i_m1, i_ml, i_obj, lk, lkp, stf1, stf2, Value.category, rV, xTo, lv_args, xCk, xCat, xRc, xAk, hg_S, hg_I, hg_J, hg_D, hg_R, hs_I, hs_J, hs_D, hs_R, uI_at, uJ_at, uD_at, uR_at, List.take_succ_cons, List.take_zero, List.drop_succ_cons, List.drop_zero, List.reverse_cons, List.reverse_nil, List.nil_append, List.cons_append, List.map_cons, List.map_nil, List.sum_cons, List.sum_nil, List.length_cons, List.length_nil, Option.toList_some, Option.toList_none, true_and, and_true, false_and, and_false, true_implies, false_implies, implies_true, not_true_eq_false, not_false_eq_true, ne_eq, if_true, if_false, Bool.and_true, Bool.true_and, decide_true, decide_false, reduceIte, reduceCtorEq, Bool.and_self, Bool.and_eq_true, decide_eq_true_eq, and_self, true_or, or_true, false_or, or_false, Nat.zero_add, Nat.add_zero, eq_self, Nat.reduceEqDiff, Nat.reduceLeDiff, Nat.reduceLT, Nat.reduceAdd, Nat.reduceSub, Nat.reduceMul, e114_108, B114_108, nI_1]
        have hfin := FS_end f1 f2 f3 f4 q4
        refine nx I' vis' _ L' B' ht hfin ?_ f5 hh ?_
        · show (done z || decide (c = z)) = false
          rw [hd, decide_eq_false hcz]
          rfl
        · rw [ct_dn q4 hc2]
          omega
theorem L114 (hL : LC S R) (hX : XL n E S I R) (hE : EB E n) (ha : a < 2 ^ n) (hz : z < 2 ^ n)
    (kk : ∀ I' h, bar (eN E) n a z h → (∀ o k, o ≠ 137 → o ≠ 152 → I' o k = I o k) → Q (.ok (some (.int (nI h - 144)))) (S, I', J, D, R) b) :
    xRun xT 114 0 [(0, .ref 130), (1, .int (nI a)), (2, .int (nI z))] [] (S, I, J, D, R) b Q := by
  have hp := pow16 hE.1
  obtain ⟨e1, -, e3, -⟩ := eN_ok hE ha
  have xE := hX.1
  have s137 : S 137 = (100, 289) := by simp only [LC_out hL]
  have s152 : S 152 = (100, 65536) := by simp only [LE_out xE]
  have y1 := fun (I : xI) (b : Nat × Nat) (Q : xQ) => Y6 (S := S) (I := I) (J := J) (D := D) (R := R) (b := b) (Q := Q) (v := -1) s137 (by decide)
  have y2 := fun (I : xI) (b : Nat × Nat) (Q : xQ) => Y6 (S := S) (I := I) (J := J) (D := D) (R := R) (b := b) (Q := Q) (v := -2) s152 (by decide)
  obtain ⟨N, hN⟩ : ∃ N, N = 65536 := ⟨_, rfl⟩
  rw [← hN] at y2
  have hw : I 151 a = E a := hX.2.2.2.2.2.2.2 _ ha
  have hw2 : rI (rI I 152 (fill (I 152) (-2) N)) 137 (fill (rI I 152 (fill (I 152) (-2) N) 137) (-1) 289) 151 a = E a := hw
  rw [e114_0]
  simp only [B114_0, xSeq, i_push, i_load, i_iload, i_lload, i_dload, i_aload, i_istore, i_astore, i_lstore, i_dstore, i_iinc, i_ii, i_iiz, i_ll, i_llz, i_lli, i_li, i_i, i_l, i_i2l, i_l2i, i_dup, i_dup2, i_dup2w, i_dupx1, i_pop, i_pop2, i_goto, i_ifc, i_icmp, i_getI, i_getL, i_getR, i_putI, i_putZ, i_putL, i_putR, i_aldI, i_aldB, i_aldL, i_aldD, i_astI, i_astL, i_astD, i_alen, i_ret, i_iret, i_zret, i_lret, i_fret, i_dret, i_aret, i_invS0, i_invV0, i_m2, i_m1, i_ml, i_obj, lk, lkp, stf1, stf2, Value.category, rV, xTo, lv_args, xCk, xCat, xRc, xAk, hg_S, hg_I, hg_J, hg_D, hg_R, hs_I, hs_J, hs_D, hs_R, uI_at, uJ_at, uD_at, uR_at, List.take_succ_cons, List.take_zero, List.drop_succ_cons, List.drop_zero, List.reverse_cons, List.reverse_nil, List.nil_append, List.cons_append, List.map_cons, List.map_nil, List.sum_cons, List.sum_nil, List.length_cons, List.length_nil, Option.toList_some, Option.toList_none, true_and, and_true, false_and, and_false, true_implies, false_implies, implies_true, not_true_eq_false, not_false_eq_true, ne_eq, if_true, if_false, Bool.and_true, Bool.true_and, decide_true, decide_false, reduceIte, reduceCtorEq, Bool.and_self, Bool.and_eq_true, decide_eq_true_eq, and_self, true_or, or_true, false_or, or_false, Nat.zero_add, Nat.add_zero, eq_self, Nat.reduceEqDiff, Nat.reduceLeDiff, Nat.reduceLT, Nat.reduceAdd, Nat.reduceSub, Nat.reduceMul, LC_out hL, LE_out xE, y1, y2, nI_inP (show a < 65536 by omega) (by decide), nI_ix (show a < 2147483648 by omega), hw2, e1, nI_inP (show eN E a < 289 by omega) (by decide), nI_ix (show eN E a < 2147483648 by omega)]
  refine L114_45 (I0 := I) (a := a) (z := z) hL hX hE ha hz kk 65825 0 _ (fun k => decide (k = a)) (fun _ => false) (eN E) (fun l => if l = eN E a then [a] else []) (eN E a) (by omega) ?_ rfl ?_ e3 ?_
  · refine ⟨fun c hc => ?_, fun c hc _ _ => ?_, fun l hl => ?_, fun l c hc => ?_, fun l => ?_, fun c hc => Bool.noConfusion hc, ?_⟩
    · have e := of_decide_eq_true hc
      subst e
      exact ⟨ha, Nat.le_refl _, e3, .refl (Nat.le_refl _), Nat.le_max_right _ _⟩
    · have e := of_decide_eq_true hc
      subst e
      simp only [if_true]
      exact List.mem_cons_self
    · simp only [show ¬ l = eN E a by omega, if_false]
    · by_cases el : l = eN E a
      · simp only [el, if_true] at hc
        have e := List.mem_singleton.mp hc
        subst e
        exact ⟨decide_eq_true rfl, rfl, el.symm, Nat.ne_of_lt ha⟩
      · simp only [el, if_false] at hc
        exact absurd hc (List.not_mem_nil)
    · by_cases el : l = eN E a
      · simp only [el, if_true]
        exact List.nodup_cons.mpr ⟨List.not_mem_nil, List.nodup_nil⟩
      · simp only [el, if_false]
        exact List.nodup_nil
    · exact ⟨decide_eq_true rfl, rfl⟩
  · refine ⟨fun l hl => ?_, fun c hc => ?_, fun o k h1 h2 => ?_⟩
    · by_cases el : l = eN E a
      · simp only [el, if_true]
        refine ⟨?_, ?_⟩
        · rw [uI_at, if_pos ⟨rfl, rfl⟩]
        · show uI (uI _ 152 a (-1)) 137 (eN E a) (nI a) 152 a = -1
          rw [uI_at, if_neg (fun e => absurd e.1 (by decide)), uI_at, if_pos ⟨rfl, rfl⟩]
      · simp only [el, if_false]
        show uI (uI _ 152 a (-1)) 137 (eN E a) (nI a) 137 l = -1
        rw [uI_at, if_neg (fun e => el e.2), uI_at, if_neg (fun e => absurd e.1 (by decide)), rI_at, if_pos rfl, fill_at, if_pos hl]
    · have ev : uI (uI (rI (rI I 152 (fill (I 152) (-2) N)) 137 (fill (rI I 152 (fill (I 152) (-2) N) 137) (-1) 289)) 152 a (-1)) 137 (eN E a) (nI a) 152 c = if c = a then -1 else -2 := by
        rw [uI_at, if_neg (fun e => absurd e.1 (by decide)), uI_at]
        by_cases ec : c = a
        · rw [if_pos ⟨rfl, ec⟩, if_pos ec]
        · rw [if_neg (fun e => ec e.2), if_neg ec, rI_at, if_neg (by decide), rI_at, if_pos rfl, fill_at, if_pos (by omega)]
      rw [ev]
      show (decide (c = a) = false → _) ∧ (decide (c = a) = true → _)
      by_cases ec : c = a
      · rw [if_pos ec, decide_eq_true ec]
        exact ⟨fun h => absurd h (by decide), fun _ => by decide⟩
      · rw [if_neg ec, decide_eq_false ec]
        exact ⟨fun _ => rfl, fun h => absurd h (by decide)⟩
    · rw [uI_at, if_neg (fun e => h1 e.1), uI_at, if_neg (fun e => h2 e.1), rI_at, if_neg h1, rI_at, if_neg h2]
  · rw [ct_no]
    omega
end
