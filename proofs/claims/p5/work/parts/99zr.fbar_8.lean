/-! ===== the lab's barrier ===== -/
section
variable {S : xS} {I : xI} {J : xJ} {D : xDb} {R : xR} {b : Nat × Nat} {Q : xQ} {E : Nat → Int32} {n a u z : Nat} {vis done : Nat → Bool} {L : Nat → Nat} {B : Nat → List Nat} {ht : Nat}
theorem HF_pop {I0 : xI} (hf : HF n vis B I0 I) {c : Nat} {q : List Nat} (hl : ht < 289) (hb : B ht = c :: q) : HF n vis (fun l => if l = ht then q else B l) I0 (uI I 137 ht (I 152 c)) ∧ I 137 ht = nI c := by
  obtain ⟨h1, h2, h3⟩ := hf
  have h4 := h1 ht hl
  rw [hb] at h4
  have er : (uI I 137 ht (I 152 c)) 152 = I 152 := by
    funext k
    rw [uI_at, if_neg (fun e => absurd e.1 (by decide))]
  refine ⟨⟨fun k hk => ?_, fun c hc => ?_, fun p k p1 p2 => ?_⟩, h4.1⟩
  · rw [er]
    by_cases e : k = ht
    · subst e
      simp only [if_true]
      rw [uI_at, if_pos ⟨rfl, rfl⟩]
      exact h4.2
    · simp only [e, if_false]
      rw [uI_at, if_neg (fun h => e h.2)]
      exact h1 k hk
  · rw [er]
    exact h2 c hc
  · rw [uI_at, if_neg (fun e => p1 e.1)]
    exact h3 p k p1 p2
theorem ct_dn {c : Nat} (hd : done c = false) (hc : c < 2 ^ n) : ct (fun k => done k || decide (c = k)) (2 ^ n) = ct done (2 ^ n) + 1 := by
  rw [ct_set hd, if_pos hc]
theorem L114_45 {I0 : xI} (hL : LC S R) (hX0 : XL n E S I0 R) (hE : EB E n) (ha : a < 2 ^ n) (hz : z < 2 ^ n)
    (kk : ∀ I h, bar (eN E) n a z h → (∀ o k, o ≠ 137 → o ≠ 152 → I o k = I0 o k) → Q (.ok (some (.int (nI h - 144)))) (S, I, J, D, R) b) :
    ∀ (j i : Nat) (I : xI) (vis done : Nat → Bool) (L : Nat → Nat) (B : Nat → List Nat) (ht : Nat), i + j = 65825 → FS (eN E) n a (2 ^ n) vis done L B ht → done z = false → HF n vis B I0 I → ht ≤ 288 → i + eN E a = ht + ct done (2 ^ n) →
      xRun xT 114 45 [(0, .ref 130), (2, .int (nI z)), (3, .int (nI ht)), (4, .int (nI i))] [] (S, I, J, D, R) b Q
  | 0, i, I, vis, done, L, B, ht, hi, hS, hd, hf, hh, hc => by
    have hp := pow16 hE.1
    have h1 := ct_lt hd hz
    omega
  | j + 1, i, I, vis, done, L, B, ht, hi, hS, hd, hf, hh, hc => by
    have hp := pow16 hE.1
    have hX := HF_XL hf hX0
    have nx := fun I vis done L B ht => L114_45 hL hX0 hE ha hz kk j (i + 1) I vis done L B ht (by omega)
    have e1 : ((65825 : Int32) ≤ nI i) = False := by rw [show (65825 : Int32) = nI 65825 from rfl, nI_leP (by decide) (show i < 2147483648 by omega)]; exact eq_false (by omega)
    have e2 : ((289 : Int32) ≤ nI ht) = False := by rw [show (289 : Int32) = nI 289 from rfl, nI_leP (by decide) (show ht < 2147483648 by omega)]; exact eq_false (by omega)
    cases hb : B ht with
    | nil =>
      have h4 := hf.1 ht (by omega)
      rw [hb] at h4
      have h5 : I 137 ht = -1 := h4
      have hu := FS_up hS hb
      have hz1 : (-1 = nI z) = False := eq_false (fun e => (iff_of_eq (nI_n1 (show z < 2147483648 by omega))).mp e.symm)
      have h288 : ht + 1 ≤ 288 := by
        refine Nat.le_of_not_lt (fun hlt => ?_)
        have e9 : ht + 1 = 289 := by omega
        rw [e9] at hu
        have := FS_dn hu (show 288 < 289 by decide) (RC_top ha hz (fun k hk => (eN_ok hE hk).2.2.1))
        rw [hd] at this
        exact absurd this (by decide)
      rw [e114_45]
      simp only [B114_45, xSeq, i_push, i_load, i_iload, i_lload, i_dload, i_aload, i_istore, i_astore, i_lstore, i_dstore, i_iinc, i_ii, i_iiz, i_ll, i_llz, i_lli, i_li, i_i, i_l, i_i2l, i_l2i, i_dup, i_dup2, i_dup2w, i_dupx1, i_pop, i_pop2, i_goto, i_ifc, i_icmp, i_getI, i_getL, i_getR, i_putI, i_putZ, i_putL, i_putR, i_aldI, i_aldB, i_aldL, i_aldD, i_astI, i_astL, i_astD, i_alen, i_ret, i_iret, i_zret, i_lret, i_fret, i_dret, i_aret, i_invS0, i_invV0, i_m2, i_m1, i_ml, i_obj, lk, lkp, stf1, stf2, Value.category, rV, xTo, lv_args, xCk, xCat, xRc, xAk, hg_S, hg_I, hg_J, hg_D, hg_R, hs_I, hs_J, hs_D, hs_R, uI_at, uJ_at, uD_at, uR_at, List.take_succ_cons, List.take_zero, List.drop_succ_cons, List.drop_zero, List.reverse_cons, List.reverse_nil, List.nil_append, List.cons_append, List.map_cons, List.map_nil, List.sum_cons, List.sum_nil, List.length_cons, List.length_nil, Option.toList_some, Option.toList_none, true_and, and_true, false_and, and_false, true_implies, false_implies, implies_true, not_true_eq_false, not_false_eq_true, ne_eq, if_true, if_false, Bool.and_true, Bool.true_and, decide_true, decide_false, reduceIte, reduceCtorEq, Bool.and_self, Bool.and_eq_true, decide_eq_true_eq, and_self, true_or, or_true, false_or, or_false, Nat.zero_add, Nat.add_zero, eq_self, Nat.reduceEqDiff, Nat.reduceLeDiff, Nat.reduceLT, Nat.reduceAdd, Nat.reduceSub, Nat.reduceMul, LC_out hL, e1, e2, nI_inP (show ht < 289 by omega) (by decide), nI_ix (show ht < 2147483648 by omega), h5, hz1, ne_eq, e114_76, B114_76, e114_108, B114_108, nI_1]
      exact nx I vis done L B (ht + 1) hu hd hf h288 (by omega)
    | cons c q =>
      obtain ⟨p1, p2⟩ := HF_pop hf (show ht < 289 by omega) hb
      obtain ⟨q1, q2, q3, q4⟩ := FS_pop hS hb
      have hc2 : c < 2 ^ n := (q1.v1 c q2).1
      have ec : (nI c = nI z) = (c = z) := nI_iff (show c < 2147483648 by omega) (show z < 2147483648 by omega)
      by_cases hcz : c = z
      · have hbar := FS_bar hS (c := z) (by rw [hb, hcz]; exact List.mem_cons_self)
        rw [e114_45]
        simp only [B114_45, xSeq, i_push, i_load, i_iload, i_lload, i_dload, i_aload, i_istore, i_astore, i_lstore, i_dstore, i_iinc, i_ii, i_iiz, i_ll, i_llz, i_lli, i_li, i_i, i_l, i_i2l, i_l2i, i_dup, i_dup2, i_dup2w, i_dupx1, i_pop, i_pop2, i_goto, i_ifc, i_icmp, i_getI, i_getL, i_getR, i_putI, i_putZ, i_putL, i_putR, i_aldI, i_aldB, i_aldL, i_aldD, i_astI, i_astL, i_astD, i_alen, i_ret, i_iret, i_zret, i_lret, i_fret, i_dret, i_aret, i_invS0, i_invV0, i_m2, i_m1, i_ml, i_obj, lk, lkp, stf1, stf2, Value.category, rV, xTo, lv_args, xCk, xCat, xRc, xAk, hg_S, hg_I, hg_J, hg_D, hg_R, hs_I, hs_J, hs_D, hs_R, uI_at, uJ_at, uD_at, uR_at, List.take_succ_cons, List.take_zero, List.drop_succ_cons, List.drop_zero, List.reverse_cons, List.reverse_nil, List.nil_append, List.cons_append, List.map_cons, List.map_nil, List.sum_cons, List.sum_nil, List.length_cons, List.length_nil, Option.toList_some, Option.toList_none, true_and, and_true, false_and, and_false, true_implies, false_implies, implies_true, not_true_eq_false, not_false_eq_true, ne_eq, if_true, if_false, Bool.and_true, Bool.true_and, decide_true, decide_false, reduceIte, reduceCtorEq, Bool.and_self, Bool.and_eq_true, decide_eq_true_eq, and_self, true_or, or_true, false_or, or_false, Nat.zero_add, Nat.add_zero, eq_self, Nat.reduceEqDiff, Nat.reduceLeDiff, Nat.reduceLT, Nat.reduceAdd, Nat.reduceSub, Nat.reduceMul, LC_out hL, e1, e2, nI_inP (show ht < 289 by omega) (by decide), nI_ix (show ht < 2147483648 by omega), p2, hcz, ne_eq, e114_114, B114_114]
        exact kk I ht hbar hf.2.2
      · rw [e114_45]
        simp only [B114_45, xSeq, i_push, i_load, i_iload, i_lload, i_dload, i_aload, i_istore, i_astore, i_lstore, i_dstore, i_iinc, i_ii, i_iiz, i_ll, i_llz, i_lli, i_li, i_i, i_l, i_i2l, i_l2i, i_dup, i_dup2, i_dup2w, i_dupx1, i_pop, i_pop2, i_goto, i_ifc, i_icmp, i_getI, i_getL, i_getR, i_putI, i_putZ, i_putL, i_putR, i_aldI, i_aldB, i_aldL, i_aldD, i_astI, i_astL, i_astD, i_alen, i_ret, i_iret, i_zret, i_lret, i_fret, i_dret, i_aret, i_invS0, i_invV0, i_m2, i_m1, i_ml, i_obj, lk, lkp, stf1, stf2, Value.category, rV, xTo, lv_args, xCk, xCat, xRc, xAk, hg_S, hg_I, hg_J, hg_D, hg_R, hs_I, hs_J, hs_D, hs_R, uI_at, uJ_at, uD_at, uR_at, List.take_succ_cons, List.take_zero, List.drop_succ_cons, List.drop_zero, List.reverse_cons, List.reverse_nil, List.nil_append, List.cons_append, List.map_cons, List.map_nil, List.sum_cons, List.sum_nil, List.length_cons, List.length_nil, Option.toList_some, Option.toList_none, true_and, and_true, false_and, and_false, true_implies, false_implies, implies_true, not_true_eq_false, not_false_eq_true, ne_eq, if_true, if_false, Bool.and_true, Bool.true_and, decide_true, decide_false, reduceIte, reduceCtorEq, Bool.and_self, Bool.and_eq_true, decide_eq_true_eq, and_self, true_or, or_true, false_or, or_false, Nat.zero_add, Nat.add_zero, eq_self, Nat.reduceEqDiff, Nat.reduceLeDiff, Nat.reduceLT, Nat.reduceAdd, Nat.reduceSub, Nat.reduceMul, LC_out hL, LE_out hX.1, e1, e2, nI_inP (show ht < 289 by omega) (by decide), nI_ix (show ht < 2147483648 by omega), p2, ec, hcz, ne_eq, e114_76, B114_76, nI_n1 (show c < 2147483648 by omega), e114_88, B114_88, nI_inP (show c < 65536 by omega) (by decide), nI_ix (show c < 2147483648 by omega)]
        rw [e115_0]
        simp only [B115_0, xSeq, i_push, i_load, i_iload, i_lload, i_dload, i_aload, i_istore, i_astore, i_lstore, i_dstore, i_iinc, i_ii, i_iiz, i_ll, i_llz, i_lli, i_li, i_i, i_l, i_i2l, i_l2i, i_dup, i_dup2, i_dup2w, i_dupx1, i_pop, i_pop2, i_goto, i_ifc, i_icmp, i_getI, i_getL, i_getR, i_putI, i_putZ, i_putL, i_putR, i_aldI, i_aldB, i_aldL, i_aldD, i_astI, i_astL, i_astD, i_alen, i_ret, i_iret, i_zret, i_lret, i_fret, i_dret, i_aret, i_invS0, i_invV0, i_m2, i_m1, i_ml, i_obj, lk, lkp, stf1, stf2, Value.category, rV, xTo, lv_args, xCk, xCat, xRc, xAk, hg_S, hg_I, hg_J, hg_D, hg_R, hs_I, hs_J, hs_D, hs_R, uI_at, uJ_at, uD_at, uR_at, List.take_succ_cons, List.take_zero, List.drop_succ_cons, List.drop_zero, List.reverse_cons, List.reverse_nil, List.nil_append, List.cons_append, List.map_cons, List.map_nil, List.sum_cons, List.sum_nil, List.length_cons, List.length_nil, Option.toList_some, Option.toList_none, true_and, and_true, false_and, and_false, true_implies, false_implies, implies_true, not_true_eq_false, not_false_eq_true, ne_eq, if_true, if_false, Bool.and_true, Bool.true_and, decide_true, decide_false, reduceIte, reduceCtorEq, Bool.and_self, Bool.and_eq_true, decide_eq_true_eq, and_self, true_or, or_true, false_or, or_false, Nat.zero_add, Nat.add_zero, eq_self, Nat.reduceEqDiff, Nat.reduceLeDiff, Nat.reduceLT, Nat.reduceAdd, Nat.reduceSub, Nat.reduceMul]
        refine L115_2 (E := E) (n := n) (a := a) (u := c) (done := done) (ht := ht) hL hX0 hE hc2 hh (fun I' vis' L' B' f1 f2 f3 f4 f5 => ?_) n 0 _ vis L _ (by omega) q1 q2 q3 (fun t ht2 => absurd ht2 (Nat.not_lt_zero _)) p1
        simp only [xSeq, i_push, i_load, i_iload, i_lload, i_dload, i_aload, i_istore, i_astore, i_lstore, i_dstore, i_iinc, i_ii, i_iiz, i_ll, i_llz, i_lli, i_li, i_i, i_l, i_i2l, i_l2i, i_dup, i_dup2, i_dup2w, i_dupx1, i_pop, i_pop2, i_goto, i_ifc, i_icmp, i_getI, i_getL, i_getR, i_putI, i_putZ, i_putL, i_putR, i_aldI, i_aldB, i_aldL, i_aldD, i_astI, i_astL, i_astD, i_alen, i_ret, i_iret, i_zret, i_lret, i_fret, i_dret, i_aret, i_invS0, i_invV0, i_m2, i_m1, i_ml, i_obj, lk, lkp, stf1, stf2, Value.category, rV, xTo, lv_args, xCk, xCat, xRc, xAk, hg_S, hg_I, hg_J, hg_D, hg_R, hs_I, hs_J, hs_D, hs_R, uI_at, uJ_at, uD_at, uR_at, List.take_succ_cons, List.take_zero, List.drop_succ_cons, List.drop_zero, List.reverse_cons, List.reverse_nil, List.nil_append, List.cons_append, List.map_cons, List.map_nil, List.sum_cons, List.sum_nil, List.length_cons, List.length_nil, Option.toList_some, Option.toList_none, true_and, and_true, false_and, and_false, true_implies, false_implies, implies_true, not_true_eq_false, not_false_eq_true, ne_eq, if_true, if_false, Bool.and_true, Bool.true_and, decide_true, decide_false, reduceIte, reduceCtorEq, Bool.and_self, Bool.and_eq_true, decide_eq_true_eq, and_self, true_or, or_true, false_or, or_false, Nat.zero_add, Nat.add_zero, eq_self, Nat.reduceEqDiff, Nat.reduceLeDiff, Nat.reduceLT, Nat.reduceAdd, Nat.reduceSub, Nat.reduceMul, e114_108, B114_108, nI_1]
        have hfin := FS_end f1 f2 f3 f4 q4
        refine nx I' vis' _ L' B' ht hfin ?_ f5 hh ?_
        · show (done z || decide (c = z)) = false
          rw [hd, decide_eq_false hcz]
          rfl
        · rw [ct_dn q4 hc2]
          omega
theorem L114 (hL : LC S R) (hX : XL n E S I R) (hE : EB E n) (ha : a < 2 ^ n) (hz : z < 2 ^ n)
    (kk : ∀ I' h, bar (eN E) n a z h → (∀ o k, o ≠ 137 → o ≠ 152 → I' o k = I o k) → Q (.ok (some (.int (nI h - 144)))) (S, I', J, D, R) b) :
    xRun xT 114 0 [(0, .ref 130), (1, .int (nI a)), (2, .int (nI z))] [] (S, I, J, D, R) b Q := by
  have hp := pow16 hE.1
  obtain ⟨e1, -, e3, -⟩ := eN_ok hE ha
  have xE := hX.1
  have s137 : S 137 = (100, 289) := by simp only [LC_out hL]
  have s152 : S 152 = (100, 65536) := by simp only [LE_out xE]
  have y1 := fun (I : xI) (b : Nat × Nat) (Q : xQ) => Y6 (S := S) (I := I) (J := J) (D := D) (R := R) (b := b) (Q := Q) (v := -1) s137 (by decide)
  have y2 := fun (I : xI) (b : Nat × Nat) (Q : xQ) => Y6 (S := S) (I := I) (J := J) (D := D) (R := R) (b := b) (Q := Q) (v := -2) s152 (by decide)
  obtain ⟨N, hN⟩ : ∃ N, N = 65536 := ⟨_, rfl⟩
  rw [← hN] at y2
  have hw : I 151 a = E a := hX.2.2.2.2.2.2.2 _ ha
  have hw2 : rI (rI I 152 (fill (I 152) (-2) N)) 137 (fill (rI I 152 (fill (I 152) (-2) N) 137) (-1) 289) 151 a = E a := hw
  rw [e114_0]
  simp only [B114_0, xSeq, i_push, i_load, i_iload, i_lload, i_dload, i_aload, i_istore, i_astore, i_lstore, i_dstore, i_iinc, i_ii, i_iiz, i_ll, i_llz, i_lli, i_li, i_i, i_l, i_i2l, i_l2i, i_dup, i_dup2, i_dup2w, i_dupx1, i_pop, i_pop2, i_goto, i_ifc, i_icmp, i_getI, i_getL, i_getR, i_putI, i_putZ, i_putL, i_putR, i_aldI, i_aldB, i_aldL, i_aldD, i_astI, i_astL, i_astD, i_alen, i_ret, i_iret, i_zret, i_lret, i_fret, i_dret, i_aret, i_invS0, i_invV0, i_m2, i_m1, i_ml, i_obj, lk, lkp, stf1, stf2, Value.category, rV, xTo, lv_args, xCk, xCat, xRc, xAk, hg_S, hg_I, hg_J, hg_D, hg_R, hs_I, hs_J, hs_D, hs_R, uI_at, uJ_at, uD_at, uR_at, List.take_succ_cons, List.take_zero, List.drop_succ_cons, List.drop_zero, List.reverse_cons, List.reverse_nil, List.nil_append, List.cons_append, List.map_cons, List.map_nil, List.sum_cons, List.sum_nil, List.length_cons, List.length_nil, Option.toList_some, Option.toList_none, true_and, and_true, false_and, and_false, true_implies, false_implies, implies_true, not_true_eq_false, not_false_eq_true, ne_eq, if_true, if_false, Bool.and_true, Bool.true_and, decide_true, decide_false, reduceIte, reduceCtorEq, Bool.and_self, Bool.and_eq_true, decide_eq_true_eq, and_self, true_or, or_true, false_or, or_false, Nat.zero_add, Nat.add_zero, eq_self, Nat.reduceEqDiff, Nat.reduceLeDiff, Nat.reduceLT, Nat.reduceAdd, Nat.reduceSub, Nat.reduceMul, LC_out hL, LE_out xE, y1, y2, nI_inP (show a < 65536 by omega) (by decide), nI_ix (show a < 2147483648 by omega), hw2, e1, nI_inP (show eN E a < 289 by omega) (by decide), nI_ix (show eN E a < 2147483648 by omega)]
  refine L114_45 (I0 := I) (a := a) (z := z) hL hX hE ha hz kk 65825 0 _ (fun k => decide (k = a)) (fun _ => false) (eN E) (fun l => if l = eN E a then [a] else []) (eN E a) (by omega) ?_ rfl ?_ e3 ?_
  · refine ⟨fun c hc => ?_, fun c hc _ _ => ?_, fun l hl => ?_, fun l c hc => ?_, fun l => ?_, fun c hc => Bool.noConfusion hc, ?_⟩
    · have e := of_decide_eq_true hc
      subst e
      exact ⟨ha, Nat.le_refl _, e3, .refl (Nat.le_refl _), Nat.le_max_right _ _⟩
    · have e := of_decide_eq_true hc
      subst e
      simp only [if_true]
      exact List.mem_cons_self
    · simp only [show ¬ l = eN E a by omega, if_false]
    · by_cases el : l = eN E a
      · simp only [el, if_true] at hc
        have e := List.mem_singleton.mp hc
        subst e
        exact ⟨decide_eq_true rfl, rfl, el.symm, Nat.ne_of_lt ha⟩
      · simp only [el, if_false] at hc
        exact absurd hc (List.not_mem_nil)
    · by_cases el : l = eN E a
      · simp only [el, if_true]
        exact List.nodup_cons.mpr ⟨List.not_mem_nil, List.nodup_nil⟩
      · simp only [el, if_false]
        exact List.nodup_nil
    · exact ⟨decide_eq_true rfl, rfl⟩
  · refine ⟨fun l hl => ?_, fun c hc => ?_, fun o k h1 h2 => ?_⟩
    · by_cases el : l = eN E a
      · simp only [el, if_true]
        refine ⟨?_, ?_⟩
        · rw [uI_at, if_pos ⟨rfl, rfl⟩]
        · show uI (uI _ 152 a (-1)) 137 (eN E a) (nI a) 152 a = -1
          rw [uI_at, if_neg (fun e => absurd e.1 (by decide)), uI_at, if_pos ⟨rfl, rfl⟩]
      · simp only [el, if_false]
        show uI (uI _ 152 a (-1)) 137 (eN E a) (nI a) 137 l = -1
        rw [uI_at, if_neg (fun e => el e.2), uI_at, if_neg (fun e => absurd e.1 (by decide)), rI_at, if_pos rfl, fill_at, if_pos hl]
    · have ev : uI (uI (rI (rI I 152 (fill (I 152) (-2) N)) 137 (fill (rI I 152 (fill (I 152) (-2) N) 137) (-1) 289)) 152 a (-1)) 137 (eN E a) (nI a) 152 c = if c = a then -1 else -2 := by
        rw [uI_at, if_neg (fun e => absurd e.1 (by decide)), uI_at]
        by_cases ec : c = a
        · rw [if_pos ⟨rfl, ec⟩, if_pos ec]
        · rw [if_neg (fun e => ec e.2), if_neg ec, rI_at, if_neg (by decide), rI_at, if_pos rfl, fill_at, if_pos (by omega)]
      rw [ev]
      show (decide (c = a) = false → _) ∧ (decide (c = a) = true → _)
      by_cases ec : c = a
      · rw [if_pos ec, decide_eq_true ec]
        exact ⟨fun h => absurd h (by decide), fun _ => by decide⟩
      · rw [if_neg ec, decide_eq_false ec]
        exact ⟨fun _ => rfl, fun h => absurd h (by decide)⟩
    · rw [uI_at, if_neg (fun e => h1 e.1), uI_at, if_neg (fun e => h2 e.1), rI_at, if_neg h1, rI_at, if_neg h2]
  · rw [ct_no]
    omega
end
/-! ===== configurations in order ===== -/
section
theorem ct_or {p q : Nat → Bool} (h : ∀ k, p k = true → q k = false) : ∀ n, ct (fun k => p k || q k) n = ct p n + ct q n
  | 0 => rfl
  | n + 1 => by
    rw [ct, ct, ct, ct_or h n]
    cases h1 : p n
    · cases q n <;> simp <;> omega
    · rw [h n h1]
      simp
      omega
theorem ct_cut {q : Nat → Bool} {c : Nat} : ∀ n, c ≤ n → ct (fun k => q k && decide (k < c)) n = ct q c
  | 0, h => by
    rw [show c = 0 by omega]
    rfl
  | n + 1, h => by
    by_cases e : c = n + 1
    · subst e
      refine ct_congr (fun k hk => ?_)
      rw [decide_eq_true hk, Bool.and_true]
    · rw [ct, ct_cut n (by omega), decide_eq_false (show ¬ n < c by omega), Bool.and_false]
      rfl
theorem ct_mono {p q : Nat → Bool} : ∀ {n : Nat}, (∀ k, k < n → p k = true → q k = true) → ct p n ≤ ct q n
  | 0, _ => Nat.le_refl _
  | n + 1, h => by
    have ih := ct_mono (p := p) (q := q) (n := n) (fun k hk => h k (by omega))
    have h2 := h n (Nat.lt_succ_self n)
    rw [ct, ct]
    cases h1 : p n
    · simp
      omega
    · rw [h2 h1]
      simp
      exact ih
theorem ct_more {p q : Nat → Bool} {n o : Nat} (h : ∀ k, k < n → p k = true → q k = true) (ho : o < n) (h1 : p o = false) (h2 : q o = true) : ct p n < ct q n := by
  have h3 := ct_set h1 (n := n)
  rw [if_pos ho] at h3
  have h4 : ct (fun k => p k || decide (o = k)) n ≤ ct q n := ct_mono (fun k hk hp => by
    simp only [Bool.or_eq_true, decide_eq_true_eq] at hp
    rcases hp with hp | hp
    · exact h k hk hp
    · rw [← hp]; exact h2)
  omega
theorem inj_ct {g : Nat → Nat} {N : Nat} : ∀ (M : Nat) (p : Nat → Bool), (∀ i, i < M → g i < N ∧ p (g i) = true) → (∀ i j, i < M → j < M → g i = g j → i = j) → M ≤ ct p N
  | 0, _, _, _ => Nat.zero_le _
  | M + 1, p, h, hi => by
    obtain ⟨h1, h2⟩ := h M (Nat.lt_succ_self M)
    have ih := inj_ct M (fun k => p k && !decide (g M = k)) (fun i hk => by
      obtain ⟨h3, h4⟩ := h i (by omega)
      refine ⟨h3, ?_⟩
      have : ¬ g M = g i := fun e => by
        have := hi M i (by omega) (by omega) e
        omega
      show (p (g i) && !decide (g M = g i)) = true
      rw [h4, decide_eq_false this]
      rfl) (fun i j a b => hi i j (by omega) (by omega))
    have h5 : (fun k => p k && !decide (g M = k)) (g M) = false := by
      show (p (g M) && !decide (g M = g M)) = false
      rw [decide_eq_true rfl]
      simp
    have h6 := ct_set (p := fun k => p k && !decide (g M = k)) (o := g M) h5 (n := N)
    rw [if_pos h1] at h6
    have h7 : ct (fun k => (p k && !decide (g M = k)) || decide (g M = k)) N = ct p N := ct_congr (fun k _ => by
      by_cases e : g M = k
      · rw [← e, h2, decide_eq_true rfl]
        rfl
      · rw [decide_eq_false e]
        simp)
    rw [h7] at h6
    omega
theorem inj_sur {g : Nat → Nat} {N : Nat} (h : ∀ i, i < N → g i < N) (hi : ∀ i j, i < N → j < N → g i = g j → i = j) {k : Nat} (hk : k < N) : ∃ i, i < N ∧ g i = k := by
  refine Classical.byContradiction (fun hn => ?_)
  have h1 := inj_ct N (fun x => !decide (x = k)) (fun i hlt => ⟨h i hlt, by
    have : ¬ g i = k := fun e => hn ⟨i, hlt, e⟩
    show (!decide (g i = k)) = true
    rw [decide_eq_false this]
    rfl⟩) hi
  have h2 := ct_lt (p := fun x => !decide (x = k)) (o := k) (n := N) (by
    show (!decide (k = k)) = false
    rw [decide_eq_true rfl]
    rfl) hk
  omega
/-- a place in the order: by energy, then by number -/
def bf (f : Nat → Nat) (d c : Nat) : Bool := decide (f d < f c) || (decide (f d = f c) && decide (d < c))
def ps2 (f : Nat → Nat) (N c : Nat) : Nat := ct (fun d => bf f d c) N
theorem bf_self (f : Nat → Nat) (c : Nat) : bf f c c = false := by
  unfold bf
  rw [decide_eq_false (Nat.lt_irrefl _), decide_eq_false (Nat.lt_irrefl c), Bool.and_false]
  rfl
theorem bf_iff {f : Nat → Nat} {d c : Nat} : bf f d c = true ↔ f d < f c ∨ (f d = f c ∧ d < c) := by
  unfold bf
  simp
theorem ps2_lt {f : Nat → Nat} {N c : Nat} (hc : c < N) : ps2 f N c < N := ct_lt (bf_self f c) hc
theorem ps2_mono {f : Nat → Nat} {N d c : Nat} (hd : d < N) (h : bf f d c = true) : ps2 f N d < ps2 f N c := by
  refine ct_more (fun k _ hk => ?_) hd (bf_self f d) h
  have h1 := bf_iff.mp hk
  have h2 := bf_iff.mp h
  exact bf_iff.mpr (by omega)
theorem ps2_inj {f : Nat → Nat} {N d c : Nat} (hd : d < N) (hc : c < N) (h : ps2 f N d = ps2 f N c) : d = c := by
  refine Classical.byContradiction (fun hn => ?_)
  by_cases h1 : bf f d c = true
  · have := ps2_mono hd h1
    omega
  · have h2 : bf f c d = true := by
      have h3 : ¬ (f d < f c ∨ (f d = f c ∧ d < c)) := fun e => h1 (bf_iff.mpr e)
      exact bf_iff.mpr (by omega)
    have := ps2_mono hc h2
    omega
theorem ps2_sur {f : Nat → Nat} {N k : Nat} (hk : k < N) : ∃ c, c < N ∧ ps2 f N c = k := inj_sur (fun i hi => ps2_lt hi) (fun i j hi hj h => ps2_inj hi hj h) hk
theorem ps2_le {f : Nat → Nat} {N d c : Nat} (hc : c < N) (h : ps2 f N d ≤ ps2 f N c) : f d ≤ f c := by
  refine Nat.le_of_not_lt (fun hlt => ?_)
  have := ps2_mono (N := N) hc (bf_iff.mpr (Or.inl hlt))
  omega
/-- the counts from which places are taken -/
theorem ps2_eq {f : Nat → Nat} {N c : Nat} (hc : c ≤ N) : ps2 f N c = ct (fun d => decide (f d < f c)) N + ct (fun d => decide (f d = f c)) c := by
  unfold ps2 bf
  rw [ct_or (fun k hk => by
    have := of_decide_eq_true hk
    rw [decide_eq_false (show ¬ f k = f c by omega)]
    rfl), ct_cut N hc]
theorem ct_step {f : Nat → Nat} {N k : Nat} : ct (fun d => decide (f d < k + 1)) N = ct (fun d => decide (f d + 1 = k + 1)) N + ct (fun d => decide (f d < k)) N := by
  rw [← ct_or (fun d hd => by
    have := of_decide_eq_true hd
    exact decide_eq_false (by omega))]
  refine ct_congr (fun d _ => ?_)
  by_cases h1 : f d = k
  · rw [h1, decide_eq_true (Nat.lt_succ_self k), decide_eq_true rfl]
    rfl
  · by_cases h2 : f d < k
    · rw [decide_eq_true (show f d < k + 1 by omega), decide_eq_true h2, Bool.or_true]
    · rw [decide_eq_false (show ¬ f d < k + 1 by omega), decide_eq_false (show ¬ f d + 1 = k + 1 by omega), decide_eq_false h2]
      rfl
end
/-! ===== the model lays the order ===== -/
section
variable {S : xS} {I : xI} {J : xJ} {D : xDb} {R : xR} {b : Nat × Nat} {Q : xQ} {E : Nat → Int32} {n : Nat}
/-- the key of a configuration -/
def fk (E : Nat → Int32) (c : Nat) : Nat := eN E c + 56
theorem fk_ok (hE : EB E n) {c : Nat} (hc : c < 2 ^ n) : E c + 200 = nI (fk E c) ∧ fk E c ≤ 344 := by
  obtain ⟨-, h1, h2, -⟩ := eN_ok hE hc
  exact ⟨h1, by unfold fk; omega⟩
abbrev oX (o : Nat) : Prop := o ≠ 355 ∧ o ≠ 356 ∧ o ≠ 357
theorem L324_2 {I0 : xI} (hL : LM S R)
    (kk : ∀ I, (∀ k, k < 402 → I 357 k = 0) → (∀ o k, oX o → I o k = I0 o k) → xRun xT 324 22 [(0, .ref 200)] [] (S, I, J, D, R) b Q) :
    ∀ (j i : Nat) (I : xI), i + j = 402 → (∀ k, k < i → I 357 k = 0) → (∀ o k, oX o → I o k = I0 o k) → xRun xT 324 2 [(0, .ref 200), (1, .int (nI i))] [] (S, I, J, D, R) b Q
  | 0, i, I, hi, h1, h2 => by
    have e : i = 402 := by omega
    subst e
    rw [e324_2]
    simp only [B324_2, xSeq, i_push, i_load, i_iload, i_lload, i_dload, i_aload, i_istore, i_astore, i_lstore, i_dstore, i_iinc, i_ii, i_iiz, i_ll, i_llz, i_lli, i_li, i_i, i_l, i_i2l, i_l2i, i_dup, i_dup2, i_dup2w, i_dupx1, i_pop, i_pop2, i_goto, i_ifc, i_icmp, i_getI, i_getL, i_getR, i_putI, i_putZ, i_putL, i_putR, i_aldI, i_aldB, i_aldL, i_aldD, i_astI, i_astL, i_astD, i_alen, i_ret, i_iret, i_zret, i_lret, i_fret, i_dret, i_aret, i_invS0, i_invV0, i_m2, i_m1, i_ml, i_obj, lk, lkp, stf1, stf2, Value.category, rV, xTo, lv_args, xCk, xCat, xRc, xAk, hg_S, hg_I, hg_J, hg_D, hg_R, hs_I, hs_J, hs_D, hs_R, uI_at, uJ_at, uD_at, uR_at, List.take_succ_cons, List.take_zero, List.drop_succ_cons, List.drop_zero, List.reverse_cons, List.reverse_nil, List.nil_append, List.cons_append, List.map_cons, List.map_nil, List.sum_cons, List.sum_nil, List.length_cons, List.length_nil, Option.toList_some, Option.toList_none, true_and, and_true, false_and, and_false, true_implies, false_implies, implies_true, not_true_eq_false, not_false_eq_true, ne_eq, if_true, if_false, Bool.and_true, Bool.true_and, decide_true, decide_false, reduceIte, reduceCtorEq, Bool.and_self, Bool.and_eq_true, decide_eq_true_eq, and_self, true_or, or_true, false_or, or_false, Nat.zero_add, Nat.add_zero, eq_self, Nat.reduceEqDiff, Nat.reduceLeDiff, Nat.reduceLT, Nat.reduceAdd, Nat.reduceSub, Nat.reduceMul, LM_out hL, show ((402 : Int32) ≤ nI 402) = True from eq_true (by decide)]
    exact kk I h1 h2
  | j + 1, i, I, hi, h1, h2 => by
    have e0 : ((402 : Int32) ≤ nI i) = False := by rw [show (402 : Int32) = nI 402 from rfl, nI_leP (by decide) (show i < 2147483648 by omega)]; exact eq_false (by omega)
    rw [e324_2]
    simp only [B324_2, xSeq, i_push, i_load, i_iload, i_lload, i_dload, i_aload, i_istore, i_astore, i_lstore, i_dstore, i_iinc, i_ii, i_iiz, i_ll, i_llz, i_lli, i_li, i_i, i_l, i_i2l, i_l2i, i_dup, i_dup2, i_dup2w, i_dupx1, i_pop, i_pop2, i_goto, i_ifc, i_icmp, i_getI, i_getL, i_getR, i_putI, i_putZ, i_putL, i_putR, i_aldI, i_aldB, i_aldL, i_aldD, i_astI, i_astL, i_astD, i_alen, i_ret, i_iret, i_zret, i_lret, i_fret, i_dret, i_aret, i_invS0, i_invV0, i_m2, i_m1, i_ml, i_obj, lk, lkp, stf1, stf2, Value.category, rV, xTo, lv_args, xCk, xCat, xRc, xAk, hg_S, hg_I, hg_J, hg_D, hg_R, hs_I, hs_J, hs_D, hs_R, uI_at, uJ_at, uD_at, uR_at, List.take_succ_cons, List.take_zero, List.drop_succ_cons, List.drop_zero, List.reverse_cons, List.reverse_nil, List.nil_append, List.cons_append, List.map_cons, List.map_nil, List.sum_cons, List.sum_nil, List.length_cons, List.length_nil, Option.toList_some, Option.toList_none, true_and, and_true, false_and, and_false, true_implies, false_implies, implies_true, not_true_eq_false, not_false_eq_true, ne_eq, if_true, if_false, Bool.and_true, Bool.true_and, decide_true, decide_false, reduceIte, reduceCtorEq, Bool.and_self, Bool.and_eq_true, decide_eq_true_eq, and_self, true_or, or_true, false_or, or_false, Nat.zero_add, Nat.add_zero, eq_self, Nat.reduceEqDiff, Nat.reduceLeDiff, Nat.reduceLT, Nat.reduceAdd, Nat.reduceSub, Nat.reduceMul, LM_out hL, e0, nI_inP (show i < 402 by omega) (by decide), nI_ix (show i < 2147483648 by omega), nI_1]
    refine L324_2 hL kk j (i + 1) _ (by omega) (fun k hk => ?_) (fun o k ho => ?_)
    · by_cases e : k = i
      · simp only [uI_at, true_and, and_true, false_and, and_false, true_implies, false_implies, implies_true, not_true_eq_false, not_false_eq_true, ne_eq, if_true, if_false, Bool.and_true, Bool.true_and, decide_true, decide_false, reduceIte, reduceCtorEq, Bool.and_self, Bool.and_eq_true, decide_eq_true_eq, and_self, true_or, or_true, false_or, or_false, Nat.zero_add, Nat.add_zero, eq_self, Nat.reduceEqDiff, Nat.reduceLeDiff, Nat.reduceLT, Nat.reduceAdd, Nat.reduceSub, Nat.reduceMul, e]
      · simp only [uI_at, true_and, and_true, false_and, and_false, true_implies, false_implies, implies_true, not_true_eq_false, not_false_eq_true, ne_eq, if_true, if_false, Bool.and_true, Bool.true_and, decide_true, decide_false, reduceIte, reduceCtorEq, Bool.and_self, Bool.and_eq_true, decide_eq_true_eq, and_self, true_or, or_true, false_or, or_false, Nat.zero_add, Nat.add_zero, eq_self, Nat.reduceEqDiff, Nat.reduceLeDiff, Nat.reduceLT, Nat.reduceAdd, Nat.reduceSub, Nat.reduceMul, e, and_false, if_false]
        exact h1 k (by omega)
    · rw [uI_at, if_neg (fun e => ho.2.2 e.1)]
      exact h2 o k ho
theorem L324_24 {I0 : xI} (hL : LM S R) (hX : XM n E I0) (h10 : I0 300 10 = nI n) (hE : EB E n)
    (kk : ∀ I, (∀ k, k < 402 → I 357 k = nI (ct (fun d => decide (fk E d + 1 = k)) (2 ^ n))) → (∀ o k, oX o → I o k = I0 o k) → xRun xT 324 59 [(0, .ref 200)] [] (S, I, J, D, R) b Q) :
    ∀ (j i : Nat) (I : xI), i + j = 2 ^ n → (∀ k, k < 402 → I 357 k = nI (ct (fun d => decide (fk E d + 1 = k)) i)) → (∀ o k, oX o → I o k = I0 o k) → xRun xT 324 24 [(0, .ref 200), (1, .int (nI i))] [] (S, I, J, D, R) b Q
  | 0, i, I, hi, h1, h2 => by
    have hp := pow16 hE.1
    have hn := hE.1
    have h10' : I 300 10 = nI n := (h2 _ _ (by decide)).trans h10
    have e : i = 2 ^ n := by omega
    subst e
    rw [e324_24]
    simp only [B324_24, xSeq, i_push, i_load, i_iload, i_lload, i_dload, i_aload, i_istore, i_astore, i_lstore, i_dstore, i_iinc, i_ii, i_iiz, i_ll, i_llz, i_lli, i_li, i_i, i_l, i_i2l, i_l2i, i_dup, i_dup2, i_dup2w, i_dupx1, i_pop, i_pop2, i_goto, i_ifc, i_icmp, i_getI, i_getL, i_getR, i_putI, i_putZ, i_putL, i_putR, i_aldI, i_aldB, i_aldL, i_aldD, i_astI, i_astL, i_astD, i_alen, i_ret, i_iret, i_zret, i_lret, i_fret, i_dret, i_aret, i_invS0, i_invV0, i_m2, i_m1, i_ml, i_obj, lk, lkp, stf1, stf2, Value.category, rV, xTo, lv_args, xCk, xCat, xRc, xAk, hg_S, hg_I, hg_J, hg_D, hg_R, hs_I, hs_J, hs_D, hs_R, uI_at, uJ_at, uD_at, uR_at, List.take_succ_cons, List.take_zero, List.drop_succ_cons, List.drop_zero, List.reverse_cons, List.reverse_nil, List.nil_append, List.cons_append, List.map_cons, List.map_nil, List.sum_cons, List.sum_nil, List.length_cons, List.length_nil, Option.toList_some, Option.toList_none, true_and, and_true, false_and, and_false, true_implies, false_implies, implies_true, not_true_eq_false, not_false_eq_true, ne_eq, if_true, if_false, Bool.and_true, Bool.true_and, decide_true, decide_false, reduceIte, reduceCtorEq, Bool.and_self, Bool.and_eq_true, decide_eq_true_eq, and_self, true_or, or_true, false_or, or_false, Nat.zero_add, Nat.add_zero, eq_self, Nat.reduceEqDiff, Nat.reduceLeDiff, Nat.reduceLT, Nat.reduceAdd, Nat.reduceSub, Nat.reduceMul, LM_out hL, R303 hL h10' (show n < 31 by omega), nI_leP (show 2 ^ n < 2147483648 by omega) (show 2 ^ n < 2147483648 by omega), Nat.le_refl]
    exact kk I h1 h2
  | j + 1, i, I, hi, h1, h2 => by
    have hp := pow16 hE.1
    have hn := hE.1
    have h10' : I 300 10 = nI n := (h2 _ _ (by decide)).trans h10
    have hc : i < 2 ^ n := by omega
    obtain ⟨f1, f2⟩ := fk_ok hE hc
    have hw : I 343 i = E i := (h2 _ _ (by decide)).trans (hX.2.2.2.2 i hc)
    have g1 := h1 (fk E i + 1) (by omega)
    rw [e324_24]
    simp only [B324_24, xSeq, i_push, i_load, i_iload, i_lload, i_dload, i_aload, i_istore, i_astore, i_lstore, i_dstore, i_iinc, i_ii, i_iiz, i_ll, i_llz, i_lli, i_li, i_i, i_l, i_i2l, i_l2i, i_dup, i_dup2, i_dup2w, i_dupx1, i_pop, i_pop2, i_goto, i_ifc, i_icmp, i_getI, i_getL, i_getR, i_putI, i_putZ, i_putL, i_putR, i_aldI, i_aldB, i_aldL, i_aldD, i_astI, i_astL, i_astD, i_alen, i_ret, i_iret, i_zret, i_lret, i_fret, i_dret, i_aret, i_invS0, i_invV0, i_m2, i_m1, i_ml, i_obj, lk, lkp, stf1, stf2, Value.category, rV, xTo, lv_args, xCk, xCat, xRc, xAk, hg_S, hg_I, hg_J, hg_D, hg_R, hs_I, hs_J, hs_D, hs_R, uI_at, uJ_at, uD_at, uR_at, List.take_succ_cons, List.take_zero, List.drop_succ_cons, List.drop_zero, List.reverse_cons, List.reverse_nil, List.nil_append, List.cons_append, List.map_cons, List.map_nil, List.sum_cons, List.sum_nil, List.length_cons, List.length_nil, Option.toList_some, Option.toList_none, true_and, and_true, false_and, and_false, true_implies, false_implies, implies_true, not_true_eq_false, not_false_eq_true, ne_eq, if_true, if_false, Bool.and_true, Bool.true_and, decide_true, decide_false, reduceIte, reduceCtorEq, Bool.and_self, Bool.and_eq_true, decide_eq_true_eq, and_self, true_or, or_true, false_or, or_false, Nat.zero_add, Nat.add_zero, eq_self, Nat.reduceEqDiff, Nat.reduceLeDiff, Nat.reduceLT, Nat.reduceAdd, Nat.reduceSub, Nat.reduceMul, LM_out hL, R303 hL h10' (show n < 31 by omega), nI_leP (show 2 ^ n < 2147483648 by omega) (show i < 2147483648 by omega), show (2 ^ n ≤ i) = False from eq_false (by omega), nI_inP (show i < 65536 by omega) (by decide), nI_ix (show i < 2147483648 by omega), hw, f1, nI_1, nI_inP (show fk E i + 1 < 402 by omega) (by decide), nI_ix (show fk E i + 1 < 2147483648 by omega), g1]
    refine L324_24 hL hX h10 hE kk j (i + 1) _ (by omega) (fun k hk => ?_) (fun o k ho => ?_)
    · rw [ct]
      by_cases e : fk E i + 1 = k
      · simp only [uI_at, true_and, and_true, false_and, and_false, true_implies, false_implies, implies_true, not_true_eq_false, not_false_eq_true, ne_eq, if_true, if_false, Bool.and_true, Bool.true_and, decide_true, decide_false, reduceIte, reduceCtorEq, Bool.and_self, Bool.and_eq_true, decide_eq_true_eq, and_self, true_or, or_true, false_or, or_false, Nat.zero_add, Nat.add_zero, eq_self, Nat.reduceEqDiff, Nat.reduceLeDiff, Nat.reduceLT, Nat.reduceAdd, Nat.reduceSub, Nat.reduceMul, e, if_true, decide_true]
        exact congrArg (fun z => nI (z + 1)) (ct_congr (fun d _ => decide_eq_decide.mpr (by omega)))
      · have e' : ¬ k = fk E i + 1 := fun h => e h.symm
        simp only [uI_at, true_and, and_true, false_and, and_false, true_implies, false_implies, implies_true, not_true_eq_false, not_false_eq_true, ne_eq, if_true, if_false, Bool.and_true, Bool.true_and, decide_true, decide_false, reduceIte, reduceCtorEq, Bool.and_self, Bool.and_eq_true, decide_eq_true_eq, and_self, true_or, or_true, false_or, or_false, Nat.zero_add, Nat.add_zero, eq_self, Nat.reduceEqDiff, Nat.reduceLeDiff, Nat.reduceLT, Nat.reduceAdd, Nat.reduceSub, Nat.reduceMul, e, e', and_false, if_false, decide_false, Nat.add_zero]
        exact h1 k hk
    · rw [uI_at, if_neg (fun e => ho.2.2 e.1)]
      exact h2 o k ho
theorem L324_61 {I0 : xI} (hL : LM S R) (hE : EB E n)
    (kk : ∀ I, (∀ k, k < 402 → I 357 k = nI (ct (fun d => decide (fk E d < k)) (2 ^ n))) → (∀ o k, oX o → I o k = I0 o k) → xRun xT 324 91 [(0, .ref 200)] [] (S, I, J, D, R) b Q) :
    ∀ (j i : Nat) (I : xI), i + j = 402 → 0 < i → (∀ k, k < 402 → I 357 k = nI (if k < i then ct (fun d => decide (fk E d < k)) (2 ^ n) else ct (fun d => decide (fk E d + 1 = k)) (2 ^ n))) → (∀ o k, oX o → I o k = I0 o k) → xRun xT 324 61 [(0, .ref 200), (1, .int (nI i))] [] (S, I, J, D, R) b Q
  | 0, i, I, hi, h0, h1, h2 => by
    have e : i = 402 := by omega
    subst e
    rw [e324_61]
    simp only [B324_61, xSeq, i_push, i_load, i_iload, i_lload, i_dload, i_aload, i_istore, i_astore, i_lstore, i_dstore, i_iinc, i_ii, i_iiz, i_ll, i_llz, i_lli, i_li, i_i, i_l, i_i2l, i_l2i, i_dup, i_dup2, i_dup2w, i_dupx1, i_pop, i_pop2, i_goto, i_ifc, i_icmp, i_getI, i_getL, i_getR, i_putI, i_putZ, i_putL, i_putR, i_aldI, i_aldB, i_aldL, i_aldD, i_astI, i_astL, i_astD, i_alen, i_ret, i_iret, i_zret, i_lret, i_fret, i_dret, i_aret, i_invS0, i_invV0, i_m2, i_m1, i_ml, i_obj, lk, lkp, stf1, stf2, Value.category, rV, xTo, lv_args, xCk, xCat, xRc, xAk, hg_S, hg_I, hg_J, hg_D, hg_R, hs_I, hs_J, hs_D, hs_R, uI_at, uJ_at, uD_at, uR_at, List.take_succ_cons, List.take_zero, List.drop_succ_cons, List.drop_zero, List.reverse_cons, List.reverse_nil, List.nil_append, List.cons_append, List.map_cons, List.map_nil, List.sum_cons, List.sum_nil, List.length_cons, List.length_nil, Option.toList_some, Option.toList_none, true_and, and_true, false_and, and_false, true_implies, false_implies, implies_true, not_true_eq_false, not_false_eq_true, ne_eq, if_true, if_false, Bool.and_true, Bool.true_and, decide_true, decide_false, reduceIte, reduceCtorEq, Bool.and_self, Bool.and_eq_true, decide_eq_true_eq, and_self, true_or, or_true, false_or, or_false, Nat.zero_add, Nat.add_zero, eq_self, Nat.reduceEqDiff, Nat.reduceLeDiff, Nat.reduceLT, Nat.reduceAdd, Nat.reduceSub, Nat.reduceMul, LM_out hL, show ((402 : Int32) ≤ nI 402) = True from eq_true (by decide)]
    refine kk I (fun k hk => ?_) h2
    have := h1 k hk
    rw [if_pos hk] at this
    exact this
  | j + 1, i, I, hi, h0, h1, h2 => by
    have e0 : ((402 : Int32) ≤ nI i) = False := by rw [show (402 : Int32) = nI 402 from rfl, nI_leP (by decide) (show i < 2147483648 by omega)]; exact eq_false (by omega)
    have g1 := h1 i (by omega)
    rw [if_neg (Nat.lt_irrefl _)] at g1
    have g2 := h1 (i - 1) (by omega)
    rw [if_pos (by omega)] at g2
    have em : nI i - 1 = nI (i - 1) := by rw [show (1 : Int32) = nI 1 from rfl, nI_subn h0]
    have es : ct (fun d => decide (fk E d + 1 = i)) (2 ^ n) + ct (fun d => decide (fk E d < i - 1)) (2 ^ n) = ct (fun d => decide (fk E d < i)) (2 ^ n) := by
      obtain ⟨i', rfl⟩ : ∃ i', i = i' + 1 := ⟨i - 1, by omega⟩
      exact ct_step.symm
    rw [e324_61]
    simp only [B324_61, xSeq, i_push, i_load, i_iload, i_lload, i_dload, i_aload, i_istore, i_astore, i_lstore, i_dstore, i_iinc, i_ii, i_iiz, i_ll, i_llz, i_lli, i_li, i_i, i_l, i_i2l, i_l2i, i_dup, i_dup2, i_dup2w, i_dupx1, i_pop, i_pop2, i_goto, i_ifc, i_icmp, i_getI, i_getL, i_getR, i_putI, i_putZ, i_putL, i_putR, i_aldI, i_aldB, i_aldL, i_aldD, i_astI, i_astL, i_astD, i_alen, i_ret, i_iret, i_zret, i_lret, i_fret, i_dret, i_aret, i_invS0, i_invV0, i_m2, i_m1, i_ml, i_obj, lk, lkp, stf1, stf2, Value.category, rV, xTo, lv_args, xCk, xCat, xRc, xAk, hg_S, hg_I, hg_J, hg_D, hg_R, hs_I, hs_J, hs_D, hs_R, uI_at, uJ_at, uD_at, uR_at, List.take_succ_cons, List.take_zero, List.drop_succ_cons, List.drop_zero, List.reverse_cons, List.reverse_nil, List.nil_append, List.cons_append, List.map_cons, List.map_nil, List.sum_cons, List.sum_nil, List.length_cons, List.length_nil, Option.toList_some, Option.toList_none, true_and, and_true, false_and, and_false, true_implies, false_implies, implies_true, not_true_eq_false, not_false_eq_true, ne_eq, if_true, if_false, Bool.and_true, Bool.true_and, decide_true, decide_false, reduceIte, reduceCtorEq, Bool.and_self, Bool.and_eq_true, decide_eq_true_eq, and_self, true_or, or_true, false_or, or_false, Nat.zero_add, Nat.add_zero, eq_self, Nat.reduceEqDiff, Nat.reduceLeDiff, Nat.reduceLT, Nat.reduceAdd, Nat.reduceSub, Nat.reduceMul, LM_out hL, e0, nI_inP (show i < 402 by omega) (by decide), nI_ix (show i < 2147483648 by omega), em, nI_inP (show i - 1 < 402 by omega) (by decide), nI_ix (show i - 1 < 2147483648 by omega), g1, g2, nI_add, es, nI_1]
    refine L324_61 hL hE kk j (i + 1) _ (by omega) (by omega) (fun k hk => ?_) (fun o k ho => ?_)
    · by_cases e : k = i
      · subst e
        rw [uI_at, if_pos ⟨rfl, rfl⟩, if_pos (Nat.lt_succ_self k)]
      · rw [uI_at, if_neg (fun h => e h.2), h1 k hk]
        by_cases e2 : k < i
        · rw [if_pos e2, if_pos (by omega)]
        · rw [if_neg e2, if_neg (by omega)]
    · rw [uI_at, if_neg (fun e => ho.2.2 e.1)]
      exact h2 o k ho
/-- the order is laid, none is under a top -/
def OL (E : Nat → Int32) (n : Nat) (I0 I : xI) : Prop := (∀ c, c < 2 ^ n → I 355 (ps2 (fk E) (2 ^ n) c) = nI c) ∧ (∀ c, c < 2 ^ n → I 356 c = -1) ∧ ∀ o k, oX o → I o k = I0 o k
theorem L324_93 {I0 : xI} (hL : LM S R) (hX : XM n E I0) (h10 : I0 300 10 = nI n) (hE : EB E n)
    (kk : ∀ I, OL E n I0 I → Q (.ok none) (S, I, J, D, R) b) :
    ∀ (j i : Nat) (I : xI), i + j = 2 ^ n → (∀ k, k < 402 → I 357 k = nI (ct (fun d => decide (fk E d < k)) (2 ^ n) + ct (fun d => decide (fk E d = k)) i)) → (∀ c, c < i → I 355 (ps2 (fk E) (2 ^ n) c) = nI c) → (∀ c, c < i → I 356 c = -1) → (∀ o k, oX o → I o k = I0 o k) → xRun xT 324 93 [(0, .ref 200), (1, .int (nI i))] [] (S, I, J, D, R) b Q
  | 0, i, I, hi, h1, h3, h4, h2 => by
    have hp := pow16 hE.1
    have hn := hE.1
    have h10' : I 300 10 = nI n := (h2 _ _ (by decide)).trans h10
    have e : i = 2 ^ n := by omega
    subst e
    rw [e324_93]
    simp only [B324_93, xSeq, i_push, i_load, i_iload, i_lload, i_dload, i_aload, i_istore, i_astore, i_lstore, i_dstore, i_iinc, i_ii, i_iiz, i_ll, i_llz, i_lli, i_li, i_i, i_l, i_i2l, i_l2i, i_dup, i_dup2, i_dup2w, i_dupx1, i_pop, i_pop2, i_goto, i_ifc, i_icmp, i_getI, i_getL, i_getR, i_putI, i_putZ, i_putL, i_putR, i_aldI, i_aldB, i_aldL, i_aldD, i_astI, i_astL, i_astD, i_alen, i_ret, i_iret, i_zret, i_lret, i_fret, i_dret, i_aret, i_invS0, i_invV0, i_m2, i_m1, i_ml, i_obj, lk, lkp, stf1, stf2, Value.category, rV, xTo, lv_args, xCk, xCat, xRc, xAk, hg_S, hg_I, hg_J, hg_D, hg_R, hs_I, hs_J, hs_D, hs_R, uI_at, uJ_at, uD_at, uR_at, List.take_succ_cons, List.take_zero, List.drop_succ_cons, List.drop_zero, List.reverse_cons, List.reverse_nil, List.nil_append, List.cons_append, List.map_cons, List.map_nil, List.sum_cons, List.sum_nil, List.length_cons, List.length_nil, Option.toList_some, Option.toList_none, true_and, and_true, false_and, and_false, true_implies, false_implies, implies_true, not_true_eq_false, not_false_eq_true, ne_eq, if_true, if_false, Bool.and_true, Bool.true_and, decide_true, decide_false, reduceIte, reduceCtorEq, Bool.and_self, Bool.and_eq_true, decide_eq_true_eq, and_self, true_or, or_true, false_or, or_false, Nat.zero_add, Nat.add_zero, eq_self, Nat.reduceEqDiff, Nat.reduceLeDiff, Nat.reduceLT, Nat.reduceAdd, Nat.reduceSub, Nat.reduceMul, LM_out hL, R303 hL h10' (show n < 31 by omega), nI_leP (show 2 ^ n < 2147483648 by omega) (show 2 ^ n < 2147483648 by omega), Nat.le_refl, e324_154, B324_154]
    exact kk I ⟨h3, h4, h2⟩
  | j + 1, i, I, hi, h1, h3, h4, h2 => by
    have hp := pow16 hE.1
    have hn := hE.1
    have h10' : I 300 10 = nI n := (h2 _ _ (by decide)).trans h10
    have hc : i < 2 ^ n := by omega
    obtain ⟨f1, f2⟩ := fk_ok hE hc
    have hw : I 343 i = E i := (h2 _ _ (by decide)).trans (hX.2.2.2.2 i hc)
    have g1 := h1 (fk E i) (by omega)
    rw [← ps2_eq (show i ≤ 2 ^ n by omega)] at g1
    have hlt := ps2_lt (f := fk E) hc
    obtain ⟨z, hz⟩ : ∃ z, z = ps2 (fk E) (2 ^ n) i := ⟨_, rfl⟩
    rw [← hz] at g1 hlt
    rw [e324_93]
    simp only [B324_93, xSeq, i_push, i_load, i_iload, i_lload, i_dload, i_aload, i_istore, i_astore, i_lstore, i_dstore, i_iinc, i_ii, i_iiz, i_ll, i_llz, i_lli, i_li, i_i, i_l, i_i2l, i_l2i, i_dup, i_dup2, i_dup2w, i_dupx1, i_pop, i_pop2, i_goto, i_ifc, i_icmp, i_getI, i_getL, i_getR, i_putI, i_putZ, i_putL, i_putR, i_aldI, i_aldB, i_aldL, i_aldD, i_astI, i_astL, i_astD, i_alen, i_ret, i_iret, i_zret, i_lret, i_fret, i_dret, i_aret, i_invS0, i_invV0, i_m2, i_m1, i_ml, i_obj, lk, lkp, stf1, stf2, Value.category, rV, xTo, lv_args, xCk, xCat, xRc, xAk, hg_S, hg_I, hg_J, hg_D, hg_R, hs_I, hs_J, hs_D, hs_R, uI_at, uJ_at, uD_at, uR_at, List.take_succ_cons, List.take_zero, List.drop_succ_cons, List.drop_zero, List.reverse_cons, List.reverse_nil, List.nil_append, List.cons_append, List.map_cons, List.map_nil, List.sum_cons, List.sum_nil, List.length_cons, List.length_nil, Option.toList_some, Option.toList_none, true_and, and_true, false_and, and_false, true_implies, false_implies, implies_true, not_true_eq_false, not_false_eq_true, ne_eq, if_true, if_false, Bool.and_true, Bool.true_and, decide_true, decide_false, reduceIte, reduceCtorEq, Bool.and_self, Bool.and_eq_true, decide_eq_true_eq, and_self, true_or, or_true, false_or, or_false, Nat.zero_add, Nat.add_zero, eq_self, Nat.reduceEqDiff, Nat.reduceLeDiff, Nat.reduceLT, Nat.reduceAdd, Nat.reduceSub, Nat.reduceMul, LM_out hL, R303 hL h10' (show n < 31 by omega), nI_leP (show 2 ^ n < 2147483648 by omega) (show i < 2147483648 by omega), show (2 ^ n ≤ i) = False from eq_false (by omega), nI_inP (show i < 65536 by omega) (by decide), nI_ix (show i < 2147483648 by omega), hw, f1, nI_1, nI_inP (show fk E i < 402 by omega) (by decide), nI_ix (show fk E i < 2147483648 by omega), g1, nI_inP (show z < 65536 by omega) (by decide), nI_ix (show z < 2147483648 by omega)]
    refine L324_93 hL hX h10 hE kk j (i + 1) _ (by omega) (fun k hk => ?_) (fun c hc2 => ?_) (fun c hc2 => ?_) (fun o k ho => ?_)
    · rw [uI_at, if_neg (fun e => absurd e.1 (by decide)), ct]
      by_cases e : fk E i = k
      · subst e
        rw [uI_at, if_pos ⟨rfl, rfl⟩, if_pos (decide_eq_true rfl), hz, ps2_eq (show i ≤ 2 ^ n by omega)]
        rfl
      · rw [uI_at, if_neg (fun h => e h.2.symm), uI_at, if_neg (fun e => absurd e.1 (by decide)), if_neg (by rw [decide_eq_false e]; decide), Nat.add_zero]
        exact h1 k hk
    · rw [uI_at, if_neg (fun e => absurd e.1 (by decide)), uI_at, if_neg (fun e => absurd e.1 (by decide)), uI_at]
      by_cases e : c = i
      · subst e
        rw [if_pos ⟨rfl, hz.symm⟩]
      · rw [if_neg (fun h => e (ps2_inj (show c < 2 ^ n by omega) hc (h.2.trans hz)))]
        exact h3 c (by omega)
    · rw [uI_at]
      by_cases e : c = i
      · subst e
        rw [if_pos ⟨rfl, rfl⟩]
      · rw [if_neg (fun h => e h.2), uI_at, if_neg (fun e => absurd e.1 (by decide)), uI_at, if_neg (fun e => absurd e.1 (by decide))]
        exact h4 c (by omega)
    · rw [uI_at, if_neg (fun e => ho.2.1 e.1), uI_at, if_neg (fun e => ho.2.2 e.1), uI_at, if_neg (fun e => ho.1 e.1)]
      exact h2 o k ho
theorem L324 (hL : LM S R) (hX : XM n E I) (h10 : I 300 10 = nI n) (hE : EB E n) (kk : ∀ I', OL E n I I' → Q (.ok none) (S, I', J, D, R) b) : xRun xT 324 0 [(0, .ref 200)] [] (S, I, J, D, R) b Q := by
  rw [e324_0]
  simp only [B324_0, xSeq, i_push, i_load, i_iload, i_lload, i_dload, i_aload, i_istore, i_astore, i_lstore, i_dstore, i_iinc, i_ii, i_iiz, i_ll, i_llz, i_lli, i_li, i_i, i_l, i_i2l, i_l2i, i_dup, i_dup2, i_dup2w, i_dupx1, i_pop, i_pop2, i_goto, i_ifc, i_icmp, i_getI, i_getL, i_getR, i_putI, i_putZ, i_putL, i_putR, i_aldI, i_aldB, i_aldL, i_aldD, i_astI, i_astL, i_astD, i_alen, i_ret, i_iret, i_zret, i_lret, i_fret, i_dret, i_aret, i_invS0, i_invV0, i_m2, i_m1, i_ml, i_obj, lk, lkp, stf1, stf2, Value.category, rV, xTo, lv_args, xCk, xCat, xRc, xAk, hg_S, hg_I, hg_J, hg_D, hg_R, hs_I, hs_J, hs_D, hs_R, uI_at, uJ_at, uD_at, uR_at, List.take_succ_cons, List.take_zero, List.drop_succ_cons, List.drop_zero, List.reverse_cons, List.reverse_nil, List.nil_append, List.cons_append, List.map_cons, List.map_nil, List.sum_cons, List.sum_nil, List.length_cons, List.length_nil, Option.toList_some, Option.toList_none, true_and, and_true, false_and, and_false, true_implies, false_implies, implies_true, not_true_eq_false, not_false_eq_true, ne_eq, if_true, if_false, Bool.and_true, Bool.true_and, decide_true, decide_false, reduceIte, reduceCtorEq, Bool.and_self, Bool.and_eq_true, decide_eq_true_eq, and_self, true_or, or_true, false_or, or_false, Nat.zero_add, Nat.add_zero, eq_self, Nat.reduceEqDiff, Nat.reduceLeDiff, Nat.reduceLT, Nat.reduceAdd, Nat.reduceSub, Nat.reduceMul]
  refine L324_2 (I0 := I) hL (fun I1 a1 a2 => ?_) 402 0 I (by omega) (fun k hk => absurd hk (Nat.not_lt_zero _)) (fun _ _ _ => rfl)
  rw [e324_22]
  simp only [B324_22, xSeq, i_push, i_load, i_iload, i_lload, i_dload, i_aload, i_istore, i_astore, i_lstore, i_dstore, i_iinc, i_ii, i_iiz, i_ll, i_llz, i_lli, i_li, i_i, i_l, i_i2l, i_l2i, i_dup, i_dup2, i_dup2w, i_dupx1, i_pop, i_pop2, i_goto, i_ifc, i_icmp, i_getI, i_getL, i_getR, i_putI, i_putZ, i_putL, i_putR, i_aldI, i_aldB, i_aldL, i_aldD, i_astI, i_astL, i_astD, i_alen, i_ret, i_iret, i_zret, i_lret, i_fret, i_dret, i_aret, i_invS0, i_invV0, i_m2, i_m1, i_ml, i_obj, lk, lkp, stf1, stf2, Value.category, rV, xTo, lv_args, xCk, xCat, xRc, xAk, hg_S, hg_I, hg_J, hg_D, hg_R, hs_I, hs_J, hs_D, hs_R, uI_at, uJ_at, uD_at, uR_at, List.take_succ_cons, List.take_zero, List.drop_succ_cons, List.drop_zero, List.reverse_cons, List.reverse_nil, List.nil_append, List.cons_append, List.map_cons, List.map_nil, List.sum_cons, List.sum_nil, List.length_cons, List.length_nil, Option.toList_some, Option.toList_none, true_and, and_true, false_and, and_false, true_implies, false_implies, implies_true, not_true_eq_false, not_false_eq_true, ne_eq, if_true, if_false, Bool.and_true, Bool.true_and, decide_true, decide_false, reduceIte, reduceCtorEq, Bool.and_self, Bool.and_eq_true, decide_eq_true_eq, and_self, true_or, or_true, false_or, or_false, Nat.zero_add, Nat.add_zero, eq_self, Nat.reduceEqDiff, Nat.reduceLeDiff, Nat.reduceLT, Nat.reduceAdd, Nat.reduceSub, Nat.reduceMul]
  refine L324_24 (I0 := I) hL hX h10 hE (fun I2 b1 b2 => ?_) (2 ^ n) 0 I1 (by omega) (fun k hk => a1 k hk) a2
  rw [e324_59]
  simp only [B324_59, xSeq, i_push, i_load, i_iload, i_lload, i_dload, i_aload, i_istore, i_astore, i_lstore, i_dstore, i_iinc, i_ii, i_iiz, i_ll, i_llz, i_lli, i_li, i_i, i_l, i_i2l, i_l2i, i_dup, i_dup2, i_dup2w, i_dupx1, i_pop, i_pop2, i_goto, i_ifc, i_icmp, i_getI, i_getL, i_getR, i_putI, i_putZ, i_putL, i_putR, i_aldI, i_aldB, i_aldL, i_aldD, i_astI, i_astL, i_astD, i_alen, i_ret, i_iret, i_zret, i_lret, i_fret, i_dret, i_aret, i_invS0, i_invV0, i_m2, i_m1, i_ml, i_obj, lk, lkp, stf1, stf2, Value.category, rV, xTo, lv_args, xCk, xCat, xRc, xAk, hg_S, hg_I, hg_J, hg_D, hg_R, hs_I, hs_J, hs_D, hs_R, uI_at, uJ_at, uD_at, uR_at, List.take_succ_cons, List.take_zero, List.drop_succ_cons, List.drop_zero, List.reverse_cons, List.reverse_nil, List.nil_append, List.cons_append, List.map_cons, List.map_nil, List.sum_cons, List.sum_nil, List.length_cons, List.length_nil, Option.toList_some, Option.toList_none, true_and, and_true, false_and, and_false, true_implies, false_implies, implies_true, not_true_eq_false, not_false_eq_true, ne_eq, if_true, if_false, Bool.and_true, Bool.true_and, decide_true, decide_false, reduceIte, reduceCtorEq, Bool.and_self, Bool.and_eq_true, decide_eq_true_eq, and_self, true_or, or_true, false_or, or_false, Nat.zero_add, Nat.add_zero, eq_self, Nat.reduceEqDiff, Nat.reduceLeDiff, Nat.reduceLT, Nat.reduceAdd, Nat.reduceSub, Nat.reduceMul]
  have h0 : ct (fun d => decide (fk E d < 0)) (2 ^ n) = ct (fun d => decide (fk E d + 1 = 0)) (2 ^ n) := ct_congr (fun d _ => by
    rw [decide_eq_false (Nat.not_lt_zero _), decide_eq_false (by omega)])
  refine L324_61 (I0 := I) (n := n) (E := E) hL hE (fun I3 c1 c2 => ?_) 401 1 I2 (by omega) (by decide) (fun k hk => ?_) b2
  · rw [e324_91]
    simp only [B324_91, xSeq, i_push, i_load, i_iload, i_lload, i_dload, i_aload, i_istore, i_astore, i_lstore, i_dstore, i_iinc, i_ii, i_iiz, i_ll, i_llz, i_lli, i_li, i_i, i_l, i_i2l, i_l2i, i_dup, i_dup2, i_dup2w, i_dupx1, i_pop, i_pop2, i_goto, i_ifc, i_icmp, i_getI, i_getL, i_getR, i_putI, i_putZ, i_putL, i_putR, i_aldI, i_aldB, i_aldL, i_aldD, i_astI, i_astL, i_astD, i_alen, i_ret, i_iret, i_zret, i_lret, i_fret, i_dret, i_aret, i_invS0, i_invV0, i_m2, i_m1, i_ml, i_obj, lk, lkp, stf1, stf2, Value.category, rV, xTo, lv_args, xCk, xCat, xRc, xAk, hg_S, hg_I, hg_J, hg_D, hg_R, hs_I, hs_J, hs_D, hs_R, uI_at, uJ_at, uD_at, uR_at, List.take_succ_cons, List.take_zero, List.drop_succ_cons, List.drop_zero, List.reverse_cons, List.reverse_nil, List.nil_append, List.cons_append, List.map_cons, List.map_nil, List.sum_cons, List.sum_nil, List.length_cons, List.length_nil, Option.toList_some, Option.toList_none, true_and, and_true, false_and, and_false, true_implies, false_implies, implies_true, not_true_eq_false, not_false_eq_true, ne_eq, if_true, if_false, Bool.and_true, Bool.true_and, decide_true, decide_false, reduceIte, reduceCtorEq, Bool.and_self, Bool.and_eq_true, decide_eq_true_eq, and_self, true_or, or_true, false_or, or_false, Nat.zero_add, Nat.add_zero, eq_self, Nat.reduceEqDiff, Nat.reduceLeDiff, Nat.reduceLT, Nat.reduceAdd, Nat.reduceSub, Nat.reduceMul]
    exact L324_93 (I0 := I) hL hX h10 hE kk (2 ^ n) 0 I3 (by omega) (fun k hk => c1 k hk) (fun c hc => absurd hc (Nat.not_lt_zero _)) (fun c hc => absurd hc (Nat.not_lt_zero _)) c2
  · rw [b1 k hk]
    by_cases e : k < 1
    · rw [if_pos e, show k = 0 by omega, h0]
    · rw [if_neg e]
end
/-! ===== tops ===== -/
section
theorem RC_trans {e : Nat → Nat} {n h a c d : Nat} (h1 : RC e n h a c) (h2 : RC e n h c d) : RC e n h a d :=
  RC_ind (P := fun d => RC e n h a d) (fun _ => h1) (fun _ _ _ ih h3 h4 => .step ih h3 h4) h2
theorem RC_one {e : Nat → Nat} {n h c t : Nat} (ht : t < n) (h1 : e c ≤ h) (h2 : e (c ^^^ 2 ^ t) ≤ h) : RC e n h c (c ^^^ 2 ^ t) ∧ RC e n h (c ^^^ 2 ^ t) c := by
  refine ⟨.step (.refl h1) ht h2, ?_⟩
  have h3 : RC e n h (c ^^^ 2 ^ t) (c ^^^ 2 ^ t ^^^ 2 ^ t) := .step (.refl h2) ht (by rw [Nat.xor_assoc, Nat.xor_self, Nat.xor_zero]; exact h1)
  rw [Nat.xor_assoc, Nat.xor_self, Nat.xor_zero] at h3
  exact h3
theorem RC_sym {e : Nat → Nat} {n h a c : Nat} (r : RC e n h a c) : RC e n h c a :=
  RC_ind (P := fun d => RC e n h d a) (fun h1 => .refl h1) (fun _ _ r1 ih h2 h3 => RC_trans (RC_one h2 (RC_le r1) h3).2 ih) r
/-- tops that lead on in the order, and where they end -/
def WU (inc : Nat → Bool) (po p r : Nat → Nat) : Prop := ∀ d, inc d = true → inc (p d) = true ∧ r (p d) = r d ∧ (p d ≠ d → po d < po (p d)) ∧ (p d = d → r d = d)
variable {inc : Nat → Bool} {po p r : Nat → Nat} {M : Nat}
theorem WU_root (h : WU inc po p r) (hM : ∀ d, inc d = true → po d < M) : ∀ (j d : Nat), M ≤ po d + j → inc d = true → inc (r d) = true ∧ p (r d) = r d ∧ r (r d) = r d
  | 0, d, hj, hd => by
    have := hM d hd
    omega
  | j + 1, d, hj, hd => by
    obtain ⟨h1, h2, h3, h4⟩ := h d hd
    by_cases e : p d = d
    · have e2 := h4 e
      rw [e2]
      exact ⟨hd, e, e2⟩
    · have ih := WU_root h hM j (p d) (by have := h3 e; omega) h1
      rw [h2] at ih
      exact ih
theorem WU_halve (h : WU inc po p r) {k : Nat} (hk : inc k = true) (hne : p k ≠ k) : WU inc po (fun d => if d = k then p (p k) else p d) r := by
  intro d hd
  obtain ⟨h1, h2, h3, h4⟩ := h k hk
  obtain ⟨g1, g2, g3, g4⟩ := h (p k) h1
  by_cases e : d = k
  · subst e
    simp only [if_true]
    have hlt : po d < po (p (p d)) := by
      by_cases e2 : p (p d) = p d
      · rw [e2]; exact h3 hne
      · have := h3 hne
        have := g3 e2
        omega
    refine ⟨g1, g2.trans h2, fun _ => hlt, fun e2 => ?_⟩
    rw [e2] at hlt
    exact absurd hlt (Nat.lt_irrefl _)
  · simp only [e, if_false]
    exact h d hd
theorem WU_join (h : WU inc po p r) (hM : ∀ d, inc d = true → po d < M) {c o : Nat} (hc : inc c = true) (hpc : p c = c) (hmax : ∀ d, inc d = true → d ≠ c → po d < po c) (ho : inc o = true) : WU inc po (fun d => if d = r o then c else p d) (fun d => if r d = r o then c else r d) := by
  obtain ⟨u1, u2, u3⟩ := WU_root h hM M o (by omega) ho
  have rc : r c = c := (h c hc).2.2.2 hpc
  obtain ⟨u, hu⟩ : ∃ u, u = r o := ⟨_, rfl⟩
  rw [← hu] at u1 u2 u3 ⊢
  intro d hd
  obtain ⟨h1, h2, h3, h4⟩ := h d hd
  by_cases e : d = u
  · subst e
    simp only [if_true, u3, rc]
    refine ⟨hc, ?_, fun hne => hmax d hd (fun e2 => hne e2.symm), fun e2 => e2⟩
    split <;> rfl
  · simp only [e, if_false, h2]
    refine ⟨h1, trivial, h3, fun e2 => ?_⟩
    rw [h4 e2, if_neg e]
/-- the row of tops -/
def HT (inc : Nat → Bool) (p : Nat → Nat) (N : Nat) (I0 I : xI) : Prop := (∀ d, d < N → (inc d = true → I 356 d = nI (p d)) ∧ (inc d = false → I 356 d = -1)) ∧ ∀ o k, o ≠ 356 → I o k = I0 o k
theorem HT_up {N : Nat} {I0 I : xI} (h : HT inc p N I0 I) {k v : Nat} (hk : inc k = true) : HT inc (fun d => if d = k then v else p d) N I0 (uI I 356 k (nI v)) := by
  refine ⟨fun d hd => ?_, fun o q ho => ?_⟩
  · rw [uI_at]
    by_cases e : d = k
    · subst e
      simp only [if_true, and_self]
      exact ⟨fun _ => trivial, fun h2 => by rw [hk] at h2; exact absurd h2 (by decide)⟩
    · rw [if_neg (fun h => e h.2)]
      simp only [e, if_false]
      exact h.1 d hd
  · rw [uI_at, if_neg (fun e => ho e.1)]
    exact h.2 o q ho
variable {S : xS} {I : xI} {J : xJ} {D : xDb} {R : xR} {b : Nat × Nat} {Q : xQ} {N : Nat}
theorem L325_2 {I0 : xI} (hL : LM S R) (hN : N ≤ 65536) (hi : ∀ d, inc d = true → d < N) (hM : ∀ d, inc d = true → po d < M) {v : Nat}
    (kk : ∀ I p, WU inc po p r → HT inc p N I0 I → Q (.ok (some (.int (nI v)))) (S, I, J, D, R) b) :
    ∀ (j d : Nat) (p : Nat → Nat) (I : xI), M ≤ po d + j → inc d = true → r d = v → WU inc po p r → HT inc p N I0 I → xRun xT 325 2 [(0, .ref 200), (2, .int (nI d))] [] (S, I, J, D, R) b Q
  | 0, d, p, I, hj, hd, hv, hW, hT => by
    have := hM d hd
    omega
  | j + 1, d, p, I, hj, hd, hv, hW, hT => by
    obtain ⟨h1, h2, h3, h4⟩ := hW d hd
    have d1 := hi d hd
    have d2 := hi _ h1
    have d3 := hi _ (hW _ h1).1
    have t1 := (hT.1 d d1).1 hd
    have t2 := (hT.1 _ d2).1 h1
    rw [e325_2]
    by_cases e : p d = d
    · have e2 := h4 e
      simp only [B325_2, xSeq, i_push, i_load, i_iload, i_lload, i_dload, i_aload, i_istore, i_astore, i_lstore, i_dstore, i_iinc, i_ii, i_iiz, i_ll, i_llz, i_lli, i_li, i_i, i_l, i_i2l, i_l2i, i_dup, i_dup2, i_dup2w, i_dupx1, i_pop, i_pop2, i_goto, i_ifc, i_icmp, i_getI, i_getL, i_getR, i_putI, i_putZ, i_putL, i_putR, i_aldI, i_aldB, i_aldL, i_aldD, i_astI, i_astL, i_astD, i_alen, i_ret, i_iret, i_zret, i_lret, i_fret, i_dret, i_aret, i_invS0, i_invV0, i_m2, i_m1, i_ml, i_obj, lk, lkp, stf1, stf2, Value.category, rV, xTo, lv_args, xCk, xCat, xRc, xAk, hg_S, hg_I, hg_J, hg_D, hg_R, hs_I, hs_J, hs_D, hs_R, uI_at, uJ_at, uD_at, uR_at, List.take_succ_cons, List.take_zero, List.drop_succ_cons, List.drop_zero, List.reverse_cons, List.reverse_nil, List.nil_append, List.cons_append, List.map_cons, List.map_nil, List.sum_cons, List.sum_nil, List.length_cons, List.length_nil, Option.toList_some, Option.toList_none, true_and, and_true, false_and, and_false, true_implies, false_implies, implies_true, not_true_eq_false, not_false_eq_true, ne_eq, if_true, if_false, Bool.and_true, Bool.true_and, decide_true, decide_false, reduceIte, reduceCtorEq, Bool.and_self, Bool.and_eq_true, decide_eq_true_eq, and_self, true_or, or_true, false_or, or_false, Nat.zero_add, Nat.add_zero, eq_self, Nat.reduceEqDiff, Nat.reduceLeDiff, Nat.reduceLT, Nat.reduceAdd, Nat.reduceSub, Nat.reduceMul, LM_out hL, nI_inP (show d < 65536 by omega) (by decide), nI_ix (show d < 2147483648 by omega), t1, e, e325_39, B325_39]
      rw [← e2, hv]
      exact kk I p hW hT
    · have e2 : (nI (p d) = nI d) = False := by rw [nI_iff (show p d < 2147483648 by omega) (show d < 2147483648 by omega)]; exact eq_false e
      have hw := WU_halve hW hd e
      have hlt : po d < po (p (p d)) := by
        obtain ⟨g1, g2, g3, g4⟩ := hW (p d) h1
        by_cases e3 : p (p d) = p d
        · rw [e3]; exact h3 e
        · have := h3 e
          have := g3 e3
          omega
      have hr : r (p (p d)) = v := by rw [(hW _ h1).2.1, h2, hv]
      simp only [B325_2, xSeq, i_push, i_load, i_iload, i_lload, i_dload, i_aload, i_istore, i_astore, i_lstore, i_dstore, i_iinc, i_ii, i_iiz, i_ll, i_llz, i_lli, i_li, i_i, i_l, i_i2l, i_l2i, i_dup, i_dup2, i_dup2w, i_dupx1, i_pop, i_pop2, i_goto, i_ifc, i_icmp, i_getI, i_getL, i_getR, i_putI, i_putZ, i_putL, i_putR, i_aldI, i_aldB, i_aldL, i_aldD, i_astI, i_astL, i_astD, i_alen, i_ret, i_iret, i_zret, i_lret, i_fret, i_dret, i_aret, i_invS0, i_invV0, i_m2, i_m1, i_ml, i_obj, lk, lkp, stf1, stf2, Value.category, rV, xTo, lv_args, xCk, xCat, xRc, xAk, hg_S, hg_I, hg_J, hg_D, hg_R, hs_I, hs_J, hs_D, hs_R, uI_at, uJ_at, uD_at, uR_at, List.take_succ_cons, List.take_zero, List.drop_succ_cons, List.drop_zero, List.reverse_cons, List.reverse_nil, List.nil_append, List.cons_append, List.map_cons, List.map_nil, List.sum_cons, List.sum_nil, List.length_cons, List.length_nil, Option.toList_some, Option.toList_none, true_and, and_true, false_and, and_false, true_implies, false_implies, implies_true, not_true_eq_false, not_false_eq_true, ne_eq, if_true, if_false, Bool.and_true, Bool.true_and, decide_true, decide_false, reduceIte, reduceCtorEq, Bool.and_self, Bool.and_eq_true, decide_eq_true_eq, and_self, true_or, or_true, false_or, or_false, Nat.zero_add, Nat.add_zero, eq_self, Nat.reduceEqDiff, Nat.reduceLeDiff, Nat.reduceLT, Nat.reduceAdd, Nat.reduceSub, Nat.reduceMul, LM_out hL, nI_inP (show d < 65536 by omega) (by decide), nI_ix (show d < 2147483648 by omega), t1, e2, nI_inP (show p d < 65536 by omega) (by decide), nI_ix (show p d < 2147483648 by omega), t2]
      exact L325_2 hL hN hi hM kk j (p (p d)) _ _ (by omega) (hW _ h1).1 hr hw (HT_up hT hd)
theorem L325 {I0 : xI} (hL : LM S R) (hN : N ≤ 65536) (hi : ∀ d, inc d = true → d < N) (hM : ∀ d, inc d = true → po d < M) {d : Nat} (hd : inc d = true) (hW : WU inc po p r) (hT : HT inc p N I0 I)
    (kk : ∀ I p, WU inc po p r → HT inc p N I0 I → Q (.ok (some (.int (nI (r d))))) (S, I, J, D, R) b) : xRun xT 325 0 [(0, .ref 200), (1, .int (nI d))] [] (S, I, J, D, R) b Q := by
  rw [e325_0]
  simp only [B325_0, xSeq, i_push, i_load, i_iload, i_lload, i_dload, i_aload, i_istore, i_astore, i_lstore, i_dstore, i_iinc, i_ii, i_iiz, i_ll, i_llz, i_lli, i_li, i_i, i_l, i_i2l, i_l2i, i_dup, i_dup2, i_dup2w, i_dupx1, i_pop, i_pop2, i_goto, i_ifc, i_icmp, i_getI, i_getL, i_getR, i_putI, i_putZ, i_putL, i_putR, i_aldI, i_aldB, i_aldL, i_aldD, i_astI, i_astL, i_astD, i_alen, i_ret, i_iret, i_zret, i_lret, i_fret, i_dret, i_aret, i_invS0, i_invV0, i_m2, i_m1, i_ml, i_obj, lk, lkp, stf1, stf2, Value.category, rV, xTo, lv_args, xCk, xCat, xRc, xAk, hg_S, hg_I, hg_J, hg_D, hg_R, hs_I, hs_J, hs_D, hs_R, uI_at, uJ_at, uD_at, uR_at, List.take_succ_cons, List.take_zero, List.drop_succ_cons, List.drop_zero, List.reverse_cons, List.reverse_nil, List.nil_append, List.cons_append, List.map_cons, List.map_nil, List.sum_cons, List.sum_nil, List.length_cons, List.length_nil, Option.toList_some, Option.toList_none, true_and, and_true, false_and, and_false, true_implies, false_implies, implies_true, not_true_eq_false, not_false_eq_true, ne_eq, if_true, if_false, Bool.and_true, Bool.true_and, decide_true, decide_false, reduceIte, reduceCtorEq, Bool.and_self, Bool.and_eq_true, decide_eq_true_eq, and_self, true_or, or_true, false_or, or_false, Nat.zero_add, Nat.add_zero, eq_self, Nat.reduceEqDiff, Nat.reduceLeDiff, Nat.reduceLT, Nat.reduceAdd, Nat.reduceSub, Nat.reduceMul]
  exact L325_2 hL hN hi hM kk M d p I (by omega) hd rfl hW hT
end
/-! ===== the model's barrier ===== -/
section
variable {S : xS} {I : xI} {J : xJ} {D : xDb} {R : xR} {b : Nat × Nat} {Q : xQ} {E : Nat → Int32} {n M a z : Nat} {inc : Nat → Bool} {po : Nat → Nat}
/-- equal ends are connected; neighbours have equal ends -/
def C1 (e : Nat → Nat) (n h : Nat) (inc : Nat → Bool) (r : Nat → Nat) : Prop := ∀ d d', inc d = true → inc d' = true → r d = r d' → RC e n h d d'
def C2 (n : Nat) (inc : Nat → Bool) (r : Nat → Nat) : Prop := ∀ d t, t < n → inc d = true → inc (d ^^^ 2 ^ t) = true → r d = r (d ^^^ 2 ^ t)
theorem C2_path {e : Nat → Nat} {n h : Nat} {r : Nat → Nat} (hr : C2 n inc r) (hi : ∀ d, d < 2 ^ n → e d ≤ h → inc d = true) {a c : Nat} (ha : a < 2 ^ n) (p : RC e n h a c) : r a = r c ∧ c < 2 ^ n ∧ inc c = true := by
  refine RC_ind (P := fun c => r a = r c ∧ c < 2 ^ n ∧ inc c = true) (fun h1 => ⟨rfl, ha, hi a ha h1⟩) (fun d t _ ih h2 h3 => ?_) p
  obtain ⟨i1, i2, i3⟩ := ih
  have hx : d ^^^ 2 ^ t < 2 ^ n := Nat.xor_lt_two_pow i2 (Nat.pow_lt_pow_right (by decide) h2)
  have hy := hi _ hx h3
  exact ⟨i1.trans (hr d t h2 i3 hy), hx, hy⟩
theorem L323_93 {I0 : xI} (hL : LM S R) (h10 : I0 300 10 = nI n) (hE : EB E n) {c k : Nat} (hi : ∀ d, inc d = true → d < 2 ^ n) (hM : ∀ d, inc d = true → po d < M) (hc : inc c = true) (hmax : ∀ d, inc d = true → d ≠ c → po d < po c) (hle : ∀ d, inc d = true → eN E d ≤ eN E c)
    (kk : ∀ I p r, WU inc po p r → HT inc p (2 ^ n) I0 I → C1 (eN E) n (eN E c) inc r → C2 n inc r → xRun xT 323 159 [(0, .ref 200), (5, .int (nI a)), (6, .int (nI z)), (7, .int (nI k)), (8, .int (nI c))] [] (S, I, J, D, R) b Q) :
    ∀ (j i : Nat) (p r : Nat → Nat) (I : xI), i + j = n → WU inc po p r → HT inc p (2 ^ n) I0 I → C1 (eN E) n (eN E c) inc r → (∀ d t, t < n → d ≠ c → d ^^^ 2 ^ t ≠ c → inc d = true → inc (d ^^^ 2 ^ t) = true → r d = r (d ^^^ 2 ^ t)) → (∀ t, t < i → inc (c ^^^ 2 ^ t) = true → r (c ^^^ 2 ^ t) = c) →
      xRun xT 323 93 [(0, .ref 200), (5, .int (nI a)), (6, .int (nI z)), (7, .int (nI k)), (8, .int (nI c)), (9, .int (nI i))] [] (S, I, J, D, R) b Q
  | 0, i, p, r, I, hij, hW, hT, h1, h2, h3 => by
    have hn := hE.1
    have e : i = n := by omega
    subst e
    have pc' : p c = c := Classical.byContradiction (fun hne => by
      obtain ⟨a1, a2, a3, a4⟩ := hW c hc
      have := a3 hne
      have := hmax _ a1 hne
      omega)
    have rc : r c = c := (hW c hc).2.2.2 pc'
    rw [e323_93]
    simp only [B323_93, xSeq, i_push, i_load, i_iload, i_lload, i_dload, i_aload, i_istore, i_astore, i_lstore, i_dstore, i_iinc, i_ii, i_iiz, i_ll, i_llz, i_lli, i_li, i_i, i_l, i_i2l, i_l2i, i_dup, i_dup2, i_dup2w, i_dupx1, i_pop, i_pop2, i_goto, i_ifc, i_icmp, i_getI, i_getL, i_getR, i_putI, i_putZ, i_putL, i_putR, i_aldI, i_aldB, i_aldL, i_aldD, i_astI, i_astL, i_astD, i_alen, i_ret, i_iret, i_zret, i_lret, i_fret, i_dret, i_aret, i_invS0, i_invV0, i_m2, i_m1, i_ml, i_obj, lk, lkp, stf1, stf2, Value.category, rV, xTo, lv_args, xCk, xCat, xRc, xAk, hg_S, hg_I, hg_J, hg_D, hg_R, hs_I, hs_J, hs_D, hs_R, uI_at, uJ_at, uD_at, uR_at, List.take_succ_cons, List.take_zero, List.drop_succ_cons, List.drop_zero, List.reverse_cons, List.reverse_nil, List.nil_append, List.cons_append, List.map_cons, List.map_nil, List.sum_cons, List.sum_nil, List.length_cons, List.length_nil, Option.toList_some, Option.toList_none, true_and, and_true, false_and, and_false, true_implies, false_implies, implies_true, not_true_eq_false, not_false_eq_true, ne_eq, if_true, if_false, Bool.and_true, Bool.true_and, decide_true, decide_false, reduceIte, reduceCtorEq, Bool.and_self, Bool.and_eq_true, decide_eq_true_eq, and_self, true_or, or_true, false_or, or_false, Nat.zero_add, Nat.add_zero, eq_self, Nat.reduceEqDiff, Nat.reduceLeDiff, Nat.reduceLT, Nat.reduceAdd, Nat.reduceSub, Nat.reduceMul, xi144_0, ix_0, xi144_1, ix_1, xi144_2, ix_2, xi144_3, ix_3, xi144_4, ix_4, xi144_5, ix_5, xi144_6, ix_6, xi144_7, ix_7, xi144_8, ix_8, xi144_9, ix_9, xi144_10, ix_10, LM_out hL, (hT.2 _ _ (by decide)).trans h10, nI_leP (show i < 2147483648 by omega) (show i < 2147483648 by omega), Nat.le_refl]
    refine kk I p r hW hT h1 (fun d t ht hd hd2 => ?_)
    by_cases e1 : d = c
    · subst e1
      rw [rc, h3 t ht hd2]
    · by_cases e2 : d ^^^ 2 ^ t = c
      · have e3 : d = c ^^^ 2 ^ t := by rw [← e2, Nat.xor_assoc, Nat.xor_self, Nat.xor_zero]
        rw [e2, rc]
        rw [e3] at hd ⊢
        exact h3 t ht hd
      · exact h2 d t ht e1 e2 hd hd2
  | j + 1, i, p, r, I, hij, hW, hT, h1, h2, h3 => by
    have hn := hE.1
    have hp := pow16 hE.1
    have hcn := hi c hc
    have pc' : ∀ p, WU inc po p r → p c = c := fun p hW => Classical.byContradiction (fun hne => by
      obtain ⟨a1, a2, a3, a4⟩ := hW c hc
      have := a3 hne
      have := hmax _ a1 hne
      omega)
    have rc : r c = c := (hW c hc).2.2.2 (pc' p hW)
    have hx : c ^^^ 2 ^ i < 2 ^ n := Nat.xor_lt_two_pow hcn (Nat.pow_lt_pow_right (by decide) (by omega))
    have nx := fun p r I => L323_93 hL h10 hE hi hM hc hmax hle kk j (i + 1) p r I (by omega)
    obtain ⟨t1, t2⟩ := hT.1 _ hx
    rw [e323_93]
    simp only [B323_93, xSeq, i_push, i_load, i_iload, i_lload, i_dload, i_aload, i_istore, i_astore, i_lstore, i_dstore, i_iinc, i_ii, i_iiz, i_ll, i_llz, i_lli, i_li, i_i, i_l, i_i2l, i_l2i, i_dup, i_dup2, i_dup2w, i_dupx1, i_pop, i_pop2, i_goto, i_ifc, i_icmp, i_getI, i_getL, i_getR, i_putI, i_putZ, i_putL, i_putR, i_aldI, i_aldB, i_aldL, i_aldD, i_astI, i_astL, i_astD, i_alen, i_ret, i_iret, i_zret, i_lret, i_fret, i_dret, i_aret, i_invS0, i_invV0, i_m2, i_m1, i_ml, i_obj, lk, lkp, stf1, stf2, Value.category, rV, xTo, lv_args, xCk, xCat, xRc, xAk, hg_S, hg_I, hg_J, hg_D, hg_R, hs_I, hs_J, hs_D, hs_R, uI_at, uJ_at, uD_at, uR_at, List.take_succ_cons, List.take_zero, List.drop_succ_cons, List.drop_zero, List.reverse_cons, List.reverse_nil, List.nil_append, List.cons_append, List.map_cons, List.map_nil, List.sum_cons, List.sum_nil, List.length_cons, List.length_nil, Option.toList_some, Option.toList_none, true_and, and_true, false_and, and_false, true_implies, false_implies, implies_true, not_true_eq_false, not_false_eq_true, ne_eq, if_true, if_false, Bool.and_true, Bool.true_and, decide_true, decide_false, reduceIte, reduceCtorEq, Bool.and_self, Bool.and_eq_true, decide_eq_true_eq, and_self, true_or, or_true, false_or, or_false, Nat.zero_add, Nat.add_zero, eq_self, Nat.reduceEqDiff, Nat.reduceLeDiff, Nat.reduceLT, Nat.reduceAdd, Nat.reduceSub, Nat.reduceMul, xi144_0, ix_0, xi144_1, ix_1, xi144_2, ix_2, xi144_3, ix_3, xi144_4, ix_4, xi144_5, ix_5, xi144_6, ix_6, xi144_7, ix_7, xi144_8, ix_8, xi144_9, ix_9, xi144_10, ix_10, LM_out hL, (hT.2 300 10 (by decide)).trans h10, nI_leP (show n < 2147483648 by omega) (show i < 2147483648 by omega), show (n ≤ i) = False from eq_false (by omega), q_1shl (show i < 31 by omega), i_xorN, nI_inP (show c ^^^ 2 ^ i < 65536 by omega) (by decide), nI_ix (show c ^^^ 2 ^ i < 2147483648 by omega)]
    cases ho : inc (c ^^^ 2 ^ i)
    · have t3 := t2 ho
      simp only [t3, true_and, and_true, false_and, and_false, true_implies, false_implies, implies_true, not_true_eq_false, not_false_eq_true, ne_eq, if_true, if_false, Bool.and_true, Bool.true_and, decide_true, decide_false, reduceIte, reduceCtorEq, Bool.and_self, Bool.and_eq_true, decide_eq_true_eq, and_self, true_or, or_true, false_or, or_false, Nat.zero_add, Nat.add_zero, eq_self, Nat.reduceEqDiff, Nat.reduceLeDiff, Nat.reduceLT, Nat.reduceAdd, Nat.reduceSub, Nat.reduceMul, e323_153, B323_153, xSeq, i_push, i_load, i_iload, i_lload, i_dload, i_aload, i_istore, i_astore, i_lstore, i_dstore, i_iinc, i_ii, i_iiz, i_ll, i_llz, i_lli, i_li, i_i, i_l, i_i2l, i_l2i, i_dup, i_dup2, i_dup2w, i_dupx1, i_pop, i_pop2, i_goto, i_ifc, i_icmp, i_getI, i_getL, i_getR, i_putI, i_putZ, i_putL, i_putR, i_aldI, i_aldB, i_aldL, i_aldD, i_astI, i_astL, i_astD, i_alen, i_ret, i_iret, i_zret, i_lret, i_fret, i_dret, i_aret, i_invS0, i_invV0, i_m2, i_m1, i_ml, i_obj, lk, lkp, stf1, stf2, Value.category, rV, xTo, lv_args, xCk, xCat, xRc, xAk, hg_S, hg_I, hg_J, hg_D, hg_R, hs_I, hs_J, hs_D, hs_R, uI_at, uJ_at, uD_at, uR_at, List.take_succ_cons, List.take_zero, List.drop_succ_cons, List.drop_zero, List.reverse_cons, List.reverse_nil, List.nil_append, List.cons_append, List.map_cons, List.map_nil, List.sum_cons, List.sum_nil, List.length_cons, List.length_nil, Option.toList_some, Option.toList_none, true_and, and_true, false_and, and_false, true_implies, false_implies, implies_true, not_true_eq_false, not_false_eq_true, ne_eq, if_true, if_false, Bool.and_true, Bool.true_and, decide_true, decide_false, reduceIte, reduceCtorEq, Bool.and_self, Bool.and_eq_true, decide_eq_true_eq, and_self, true_or, or_true, false_or, or_false, Nat.zero_add, Nat.add_zero, eq_self, Nat.reduceEqDiff, Nat.reduceLeDiff, Nat.reduceLT, Nat.reduceAdd, Nat.reduceSub, Nat.reduceMul, nI_1]
      refine nx p r I hW hT h1 h2 (fun t ht hd => ?_)
      by_cases e : t = i
      · subst e
        rw [ho] at hd
        exact absurd hd (by decide)
      · exact h3 t (by omega) hd
    · have t3 := t1 ho
      have d2 := hi _ (hW _ ho).1
      simp only [t3, nI_n1 (show p (c ^^^ 2 ^ i) < 2147483648 by omega), ne_eq, not_false_eq_true, true_and, and_true, false_and, and_false, true_implies, false_implies, implies_true, not_true_eq_false, not_false_eq_true, ne_eq, if_true, if_false, Bool.and_true, Bool.true_and, decide_true, decide_false, reduceIte, reduceCtorEq, Bool.and_self, Bool.and_eq_true, decide_eq_true_eq, and_self, true_or, or_true, false_or, or_false, Nat.zero_add, Nat.add_zero, eq_self, Nat.reduceEqDiff, Nat.reduceLeDiff, Nat.reduceLT, Nat.reduceAdd, Nat.reduceSub, Nat.reduceMul]
      obtain ⟨o, hO⟩ : ∃ o, o = c ^^^ 2 ^ i := ⟨_, rfl⟩
      rw [← hO] at hx ho ⊢
      rw [e323_128]
      simp only [B323_128, xSeq, i_push, i_load, i_iload, i_lload, i_dload, i_aload, i_istore, i_astore, i_lstore, i_dstore, i_iinc, i_ii, i_iiz, i_ll, i_llz, i_lli, i_li, i_i, i_l, i_i2l, i_l2i, i_dup, i_dup2, i_dup2w, i_dupx1, i_pop, i_pop2, i_goto, i_ifc, i_icmp, i_getI, i_getL, i_getR, i_putI, i_putZ, i_putL, i_putR, i_aldI, i_aldB, i_aldL, i_aldD, i_astI, i_astL, i_astD, i_alen, i_ret, i_iret, i_zret, i_lret, i_fret, i_dret, i_aret, i_invS0, i_invV0, i_m2, i_m1, i_ml, i_obj, lk, lkp, stf1, stf2, Value.category, rV, xTo, lv_args, xCk, xCat, xRc, xAk, hg_S, hg_I, hg_J, hg_D, hg_R, hs_I, hs_J, hs_D, hs_R, uI_at, uJ_at, uD_at, uR_at, List.take_succ_cons, List.take_zero, List.drop_succ_cons, List.drop_zero, List.reverse_cons, List.reverse_nil, List.nil_append, List.cons_append, List.map_cons, List.map_nil, List.sum_cons, List.sum_nil, List.length_cons, List.length_nil, Option.toList_some, Option.toList_none, true_and, and_true, false_and, and_false, true_implies, false_implies, implies_true, not_true_eq_false, not_false_eq_true, ne_eq, if_true, if_false, Bool.and_true, Bool.true_and, decide_true, decide_false, reduceIte, reduceCtorEq, Bool.and_self, Bool.and_eq_true, decide_eq_true_eq, and_self, true_or, or_true, false_or, or_false, Nat.zero_add, Nat.add_zero, eq_self, Nat.reduceEqDiff, Nat.reduceLeDiff, Nat.reduceLT, Nat.reduceAdd, Nat.reduceSub, Nat.reduceMul, LM_out hL]
      refine L325 (N := 2 ^ n) (r := r) (I0 := I0) hL hp hi hM ho hW hT (fun I1 p1 w1 q1 => ?_)
      simp only [xSeq, i_push, i_load, i_iload, i_lload, i_dload, i_aload, i_istore, i_astore, i_lstore, i_dstore, i_iinc, i_ii, i_iiz, i_ll, i_llz, i_lli, i_li, i_i, i_l, i_i2l, i_l2i, i_dup, i_dup2, i_dup2w, i_dupx1, i_pop, i_pop2, i_goto, i_ifc, i_icmp, i_getI, i_getL, i_getR, i_putI, i_putZ, i_putL, i_putR, i_aldI, i_aldB, i_aldL, i_aldD, i_astI, i_astL, i_astD, i_alen, i_ret, i_iret, i_zret, i_lret, i_fret, i_dret, i_aret, i_invS0, i_invV0, i_m2, i_m1, i_ml, i_obj, lk, lkp, stf1, stf2, Value.category, rV, xTo, lv_args, xCk, xCat, xRc, xAk, hg_S, hg_I, hg_J, hg_D, hg_R, hs_I, hs_J, hs_D, hs_R, uI_at, uJ_at, uD_at, uR_at, List.take_succ_cons, List.take_zero, List.drop_succ_cons, List.drop_zero, List.reverse_cons, List.reverse_nil, List.nil_append, List.cons_append, List.map_cons, List.map_nil, List.sum_cons, List.sum_nil, List.length_cons, List.length_nil, Option.toList_some, Option.toList_none, true_and, and_true, false_and, and_false, true_implies, false_implies, implies_true, not_true_eq_false, not_false_eq_true, ne_eq, if_true, if_false, Bool.and_true, Bool.true_and, decide_true, decide_false, reduceIte, reduceCtorEq, Bool.and_self, Bool.and_eq_true, decide_eq_true_eq, and_self, true_or, or_true, false_or, or_false, Nat.zero_add, Nat.add_zero, eq_self, Nat.reduceEqDiff, Nat.reduceLeDiff, Nat.reduceLT, Nat.reduceAdd, Nat.reduceSub, Nat.reduceMul, LM_out hL]
      refine L325 (N := 2 ^ n) (r := r) (I0 := I0) hL hp hi hM hc w1 q1 (fun I2 p2 w2 q2 => ?_)
      obtain ⟨u1, u2, u3⟩ := WU_root w2 hM M o (by omega) ho
      have un := hi _ u1
      have hedge : RC (eN E) n (eN E c) c o := by
        rw [hO]
        exact (RC_one (show i < n by omega) (Nat.le_refl _) (by rw [← hO]; exact hle o ho)).1
      simp only [xSeq, i_push, i_load, i_iload, i_lload, i_dload, i_aload, i_istore, i_astore, i_lstore, i_dstore, i_iinc, i_ii, i_iiz, i_ll, i_llz, i_lli, i_li, i_i, i_l, i_i2l, i_l2i, i_dup, i_dup2, i_dup2w, i_dupx1, i_pop, i_pop2, i_goto, i_ifc, i_icmp, i_getI, i_getL, i_getR, i_putI, i_putZ, i_putL, i_putR, i_aldI, i_aldB, i_aldL, i_aldD, i_astI, i_astL, i_astD, i_alen, i_ret, i_iret, i_zret, i_lret, i_fret, i_dret, i_aret, i_invS0, i_invV0, i_m2, i_m1, i_ml, i_obj, lk, lkp, stf1, stf2, Value.category, rV, xTo, lv_args, xCk, xCat, xRc, xAk, hg_S, hg_I, hg_J, hg_D, hg_R, hs_I, hs_J, hs_D, hs_R, uI_at, uJ_at, uD_at, uR_at, List.take_succ_cons, List.take_zero, List.drop_succ_cons, List.drop_zero, List.reverse_cons, List.reverse_nil, List.nil_append, List.cons_append, List.map_cons, List.map_nil, List.sum_cons, List.sum_nil, List.length_cons, List.length_nil, Option.toList_some, Option.toList_none, true_and, and_true, false_and, and_false, true_implies, false_implies, implies_true, not_true_eq_false, not_false_eq_true, ne_eq, if_true, if_false, Bool.and_true, Bool.true_and, decide_true, decide_false, reduceIte, reduceCtorEq, Bool.and_self, Bool.and_eq_true, decide_eq_true_eq, and_self, true_or, or_true, false_or, or_false, Nat.zero_add, Nat.add_zero, eq_self, Nat.reduceEqDiff, Nat.reduceLeDiff, Nat.reduceLT, Nat.reduceAdd, Nat.reduceSub, Nat.reduceMul, LM_out hL, rc, nI_inP (show r o < 65536 by omega) (by decide), nI_ix (show r o < 2147483648 by omega), e323_153, B323_153, nI_1]
      refine nx _ _ _ (WU_join w2 hM hc (pc' p2 w2) hmax ho) (HT_up q2 u1) (fun d d' hd hd' hr => ?_) (fun d t ht a1 a2 a3 a4 => ?_) (fun t ht hd => ?_)
      · have toc : ∀ d, inc d = true → r d = r o → RC (eN E) n (eN E c) d c := fun d hd e => RC_trans (h1 d o hd ho e) (RC_sym hedge)
        by_cases e1 : r d = r o
        · by_cases e2 : r d' = r o
          · exact h1 d d' hd hd' (e1.trans e2.symm)
          · rw [if_pos e1, if_neg e2] at hr
            exact RC_trans (toc d hd e1) (h1 c d' hc hd' (rc.trans hr))
        · by_cases e2 : r d' = r o
          · rw [if_neg e1, if_pos e2] at hr
            exact RC_trans (h1 d c hd hc (hr.trans rc.symm)) (RC_sym (toc d' hd' e2))
          · rw [if_neg e1, if_neg e2] at hr
            exact h1 d d' hd hd' hr
      · rw [h2 d t ht a1 a2 a3 a4]
      · by_cases e : t = i
        · rw [e, ← hO, if_pos rfl]
        · rw [h3 t (by omega) hd]
          split <;> rfl
/-- the first places of the order -/
def in2 (N : Nat) (po : Nat → Nat) (k d : Nat) : Bool := decide (d < N) && decide (po d < k)
theorem in2_iff {N k d : Nat} : in2 N po k d = true ↔ d < N ∧ po d < k := by
  unfold in2
  simp
theorem L323_63 {I0 : xI} (hL : LM S R) (h10 : I0 300 10 = nI n) (hE : EB E n) (hw : ∀ c, c < 2 ^ n → I0 343 c = E c) (hor : ∀ c, c < 2 ^ n → I0 355 (ps2 (fk E) (2 ^ n) c) = nI c) (ha : a < 2 ^ n) (hz : z < 2 ^ n)
    (kk : ∀ I c, c < 2 ^ n → bar (eN E) n a z (eN E c) → (∀ o k, o ≠ 356 → I o k = I0 o k) → Q (.ok (some (.int (E c)))) (S, I, J, D, R) b) :
    ∀ (j k : Nat) (p r : Nat → Nat) (I : xI), k + j = 2 ^ n → WU (in2 (2 ^ n) (ps2 (fk E) (2 ^ n)) k) (ps2 (fk E) (2 ^ n)) p r → HT (in2 (2 ^ n) (ps2 (fk E) (2 ^ n)) k) p (2 ^ n) I0 I → (∀ h, (∀ d, in2 (2 ^ n) (ps2 (fk E) (2 ^ n)) k d = true → eN E d ≤ h) → C1 (eN E) n h (in2 (2 ^ n) (ps2 (fk E) (2 ^ n)) k) r) → C2 n (in2 (2 ^ n) (ps2 (fk E) (2 ^ n)) k) r → ¬ (in2 (2 ^ n) (ps2 (fk E) (2 ^ n)) k a = true ∧ in2 (2 ^ n) (ps2 (fk E) (2 ^ n)) k z = true ∧ r a = r z) →
      xRun xT 323 63 [(0, .ref 200), (5, .int (nI a)), (6, .int (nI z)), (7, .int (nI k))] [] (S, I, J, D, R) b Q
  | 0, k, p, r, I, hk, hW, hT, h1, h2, h3 => by
    have hall : ∀ d, d < 2 ^ n → in2 (2 ^ n) (ps2 (fk E) (2 ^ n)) k d = true := fun d hd => in2_iff.mpr ⟨hd, by
      have := ps2_lt (f := fk E) hd
      omega⟩
    have hp := C2_path (inc := in2 (2 ^ n) (ps2 (fk E) (2 ^ n)) k) h2 (fun d hd _ => hall d hd) ha (RC_top ha hz (fun k hk => (eN_ok hE hk).2.2.1))
    exact absurd ⟨hall a ha, hall z hz, hp.1⟩ h3
  | j + 1, k, p, r, I, hk, hW, hT, h1, h2, h3 => by
    have hn := hE.1
    have hp := pow16 hE.1
    have nx := fun p r I => L323_63 hL h10 hE hw hor ha hz kk j (k + 1) p r I (by omega)
    obtain ⟨c, hc, hpc⟩ := ps2_sur (f := fk E) (N := 2 ^ n) (show k < 2 ^ n by omega)
    have hor' := hor c hc
    rw [hpc] at hor'
    have hps : ∀ d, d < 2 ^ n → ps2 (fk E) (2 ^ n) d = k → d = c := fun d hd e => ps2_inj hd hc (e.trans hpc.symm)
    have hple : ∀ d, d < 2 ^ n → ps2 (fk E) (2 ^ n) d ≤ k → eN E d ≤ eN E c := fun d hd e => by
      have := ps2_le (f := fk E) hc (show ps2 (fk E) (2 ^ n) d ≤ ps2 (fk E) (2 ^ n) c by omega)
      unfold fk at this
      omega
    have hpre : ∀ d, d < 2 ^ n → eN E d < eN E c → ps2 (fk E) (2 ^ n) d < k := fun d hd e => by
      have := ps2_mono (f := fk E) (N := 2 ^ n) (c := c) hd (bf_iff.mpr (Or.inl (by unfold fk; omega)))
      omega
    obtain ⟨po, hpo⟩ : ∃ po, po = ps2 (fk E) (2 ^ n) := ⟨_, rfl⟩
    rw [← hpo] at hW hT h1 h2 h3 nx hpc hps hple hpre
    have hold : ∀ d, in2 (2 ^ n) po (k + 1) d = true → d ≠ c → in2 (2 ^ n) po k d = true := fun d hd hne => by
      obtain ⟨g1, g2⟩ := in2_iff.mp hd
      refine in2_iff.mpr ⟨g1, ?_⟩
      have : po d ≠ k := fun e => hne (hps d g1 e)
      omega
    have hnew : ∀ d, in2 (2 ^ n) po k d = true → in2 (2 ^ n) po (k + 1) d = true ∧ d ≠ c := fun d hd => by
      obtain ⟨g1, g2⟩ := in2_iff.mp hd
      refine ⟨in2_iff.mpr ⟨g1, by omega⟩, fun e => ?_⟩
      rw [e, hpc] at g2
      exact absurd g2 (Nat.lt_irrefl _)
    have hcin : in2 (2 ^ n) po (k + 1) c = true := in2_iff.mpr ⟨hc, by omega⟩
    have hcout : in2 (2 ^ n) po k c = false := by
      cases hb : in2 (2 ^ n) po k c
      · rfl
      · exact absurd rfl (hnew c hb).2
    have h10' : I 300 10 = nI n := (hT.2 _ _ (by decide)).trans h10
    have ho' : I 355 k = nI c := (hT.2 _ _ (by decide)).trans hor'
    have hW' : WU (in2 (2 ^ n) po (k + 1)) po (fun d => if d = c then c else p d) (fun d => if d = c then c else r d) := by
      intro d hd
      by_cases e : d = c
      · subst e
        simp only [if_true]
        exact ⟨hcin, trivial, fun hne => absurd rfl hne, fun _ => trivial⟩
      · obtain ⟨w1, w2, w3, w4⟩ := hW d (hold d hd e)
        obtain ⟨v1, v2⟩ := hnew _ w1
        simp only [e, v2, if_false]
        exact ⟨v1, w2, w3, w4⟩
    have hT' : HT (in2 (2 ^ n) po (k + 1)) (fun d => if d = c then c else p d) (2 ^ n) I0 (uI I 356 c (nI c)) := by
      refine ⟨fun d hd => ?_, fun o q ho => ?_⟩
      · rw [uI_at]
        by_cases e : d = c
        · subst e
          simp only [if_true, and_self]
          exact ⟨fun _ => trivial, fun h => by rw [hcin] at h; exact absurd h (by decide)⟩
        · rw [if_neg (fun h => e h.2)]
          simp only [e, if_false]
          obtain ⟨w1, w2⟩ := hT.1 d hd
          refine ⟨fun h => w1 (hold d h e), fun h => w2 ?_⟩
          cases hb : in2 (2 ^ n) po k d
          · rfl
          · rw [(hnew d hb).1] at h
            exact absurd h (by decide)
      · rw [uI_at, if_neg (fun e => ho e.1)]
        exact hT.2 o q ho
    have hle : ∀ d, in2 (2 ^ n) po (k + 1) d = true → eN E d ≤ eN E c := fun d hd => by
      obtain ⟨g1, g2⟩ := in2_iff.mp hd
      exact hple d g1 (by omega)
    have rne : ∀ d, in2 (2 ^ n) po k d = true → r d ≠ c := fun d hd e => by
      have := (WU_root hW (M := k) (fun d hd => (in2_iff.mp hd).2) k d (by omega) hd).1
      rw [e, hcout] at this
      exact absurd this (by decide)
    have hC1 : C1 (eN E) n (eN E c) (in2 (2 ^ n) po (k + 1)) (fun d => if d = c then c else r d) := by
      intro d d' hd hd' hr
      simp only at hr
      by_cases e1 : d = c
      · by_cases e2 : d' = c
        · rw [e1, e2]
          exact .refl (Nat.le_refl _)
        · rw [if_pos e1, if_neg e2] at hr
          exact absurd hr.symm (rne d' (hold d' hd' e2))
      · by_cases e2 : d' = c
        · rw [if_neg e1, if_pos e2] at hr
          exact absurd hr (rne d (hold d hd e1))
        · rw [if_neg e1, if_neg e2] at hr
          exact h1 (eN E c) (fun x hx => hle x (hnew x hx).1) d d' (hold d hd e1) (hold d' hd' e2) hr
    rw [e323_63]
    simp only [B323_63, xSeq, i_push, i_load, i_iload, i_lload, i_dload, i_aload, i_istore, i_astore, i_lstore, i_dstore, i_iinc, i_ii, i_iiz, i_ll, i_llz, i_lli, i_li, i_i, i_l, i_i2l, i_l2i, i_dup, i_dup2, i_dup2w, i_dupx1, i_pop, i_pop2, i_goto, i_ifc, i_icmp, i_getI, i_getL, i_getR, i_putI, i_putZ, i_putL, i_putR, i_aldI, i_aldB, i_aldL, i_aldD, i_astI, i_astL, i_astD, i_alen, i_ret, i_iret, i_zret, i_lret, i_fret, i_dret, i_aret, i_invS0, i_invV0, i_m2, i_m1, i_ml, i_obj, lk, lkp, stf1, stf2, Value.category, rV, xTo, lv_args, xCk, xCat, xRc, xAk, hg_S, hg_I, hg_J, hg_D, hg_R, hs_I, hs_J, hs_D, hs_R, uI_at, uJ_at, uD_at, uR_at, List.take_succ_cons, List.take_zero, List.drop_succ_cons, List.drop_zero, List.reverse_cons, List.reverse_nil, List.nil_append, List.cons_append, List.map_cons, List.map_nil, List.sum_cons, List.sum_nil, List.length_cons, List.length_nil, Option.toList_some, Option.toList_none, true_and, and_true, false_and, and_false, true_implies, false_implies, implies_true, not_true_eq_false, not_false_eq_true, ne_eq, if_true, if_false, Bool.and_true, Bool.true_and, decide_true, decide_false, reduceIte, reduceCtorEq, Bool.and_self, Bool.and_eq_true, decide_eq_true_eq, and_self, true_or, or_true, false_or, or_false, Nat.zero_add, Nat.add_zero, eq_self, Nat.reduceEqDiff, Nat.reduceLeDiff, Nat.reduceLT, Nat.reduceAdd, Nat.reduceSub, Nat.reduceMul, LM_out hL, R303 hL h10' (show n < 31 by omega), nI_leP (show 2 ^ n < 2147483648 by omega) (show k < 2147483648 by omega), show (2 ^ n ≤ k) = False from eq_false (by omega), nI_inP (show k < 65536 by omega) (by decide), nI_ix (show k < 2147483648 by omega), ho', nI_inP (show c < 65536 by omega) (by decide), nI_ix (show c < 2147483648 by omega)]
    refine L323_93 (I0 := I0) (E := E) (n := n) (M := k + 1) (inc := in2 (2 ^ n) po (k + 1)) (po := po) (c := c) hL h10 hE (fun d hd => (in2_iff.mp hd).1) (fun d hd => (in2_iff.mp hd).2) hcin (fun d hd hne => by
      have := (in2_iff.mp (hold d hd hne)).2
      omega) hle (fun I2 p2 r2 w2 q2 g1 g2 => ?_) n 0 _ _ _ (by omega) hW' hT' hC1 (fun d t ht a1 a2 a3 a4 => ?_) (fun t ht => absurd ht (Nat.not_lt_zero _))
    · have hMk : ∀ d, in2 (2 ^ n) po (k + 1) d = true → po d < k + 1 := fun d hd => (in2_iff.mp hd).2
      have hik : ∀ d, in2 (2 ^ n) po (k + 1) d = true → d < 2 ^ n := fun d hd => (in2_iff.mp hd).1
      have next : ∀ (I3 : xI) (p3 : Nat → Nat), WU (in2 (2 ^ n) po (k + 1)) po p3 r2 → HT (in2 (2 ^ n) po (k + 1)) p3 (2 ^ n) I0 I3 → ¬ (in2 (2 ^ n) po (k + 1) a = true ∧ in2 (2 ^ n) po (k + 1) z = true ∧ r2 a = r2 z) → xRun xT 323 204 [(0, .ref 200), (5, .int (nI a)), (6, .int (nI z)), (7, .int (nI k))] [] (S, I3, J, D, R) b Q := fun I3 p3 w3 q3 hno => by
        rw [e323_204]
        simp only [B323_204, xSeq, i_push, i_load, i_iload, i_lload, i_dload, i_aload, i_istore, i_astore, i_lstore, i_dstore, i_iinc, i_ii, i_iiz, i_ll, i_llz, i_lli, i_li, i_i, i_l, i_i2l, i_l2i, i_dup, i_dup2, i_dup2w, i_dupx1, i_pop, i_pop2, i_goto, i_ifc, i_icmp, i_getI, i_getL, i_getR, i_putI, i_putZ, i_putL, i_putR, i_aldI, i_aldB, i_aldL, i_aldD, i_astI, i_astL, i_astD, i_alen, i_ret, i_iret, i_zret, i_lret, i_fret, i_dret, i_aret, i_invS0, i_invV0, i_m2, i_m1, i_ml, i_obj, lk, lkp, stf1, stf2, Value.category, rV, xTo, lv_args, xCk, xCat, xRc, xAk, hg_S, hg_I, hg_J, hg_D, hg_R, hs_I, hs_J, hs_D, hs_R, uI_at, uJ_at, uD_at, uR_at, List.take_succ_cons, List.take_zero, List.drop_succ_cons, List.drop_zero, List.reverse_cons, List.reverse_nil, List.nil_append, List.cons_append, List.map_cons, List.map_nil, List.sum_cons, List.sum_nil, List.length_cons, List.length_nil, Option.toList_some, Option.toList_none, true_and, and_true, false_and, and_false, true_implies, false_implies, implies_true, not_true_eq_false, not_false_eq_true, ne_eq, if_true, if_false, Bool.and_true, Bool.true_and, decide_true, decide_false, reduceIte, reduceCtorEq, Bool.and_self, Bool.and_eq_true, decide_eq_true_eq, and_self, true_or, or_true, false_or, or_false, Nat.zero_add, Nat.add_zero, eq_self, Nat.reduceEqDiff, Nat.reduceLeDiff, Nat.reduceLT, Nat.reduceAdd, Nat.reduceSub, Nat.reduceMul, nI_1]
        exact nx p3 r2 I3 w3 q3 (fun h hh d d' hd hd' hr => RC_mono (hh c hcin) (g1 d d' hd hd' hr)) g2 hno
      obtain ⟨ta1, ta2⟩ := q2.1 a ha
      obtain ⟨tz1, tz2⟩ := q2.1 z hz
      rw [e323_159]
      simp only [B323_159, xSeq, i_push, i_load, i_iload, i_lload, i_dload, i_aload, i_istore, i_astore, i_lstore, i_dstore, i_iinc, i_ii, i_iiz, i_ll, i_llz, i_lli, i_li, i_i, i_l, i_i2l, i_l2i, i_dup, i_dup2, i_dup2w, i_dupx1, i_pop, i_pop2, i_goto, i_ifc, i_icmp, i_getI, i_getL, i_getR, i_putI, i_putZ, i_putL, i_putR, i_aldI, i_aldB, i_aldL, i_aldD, i_astI, i_astL, i_astD, i_alen, i_ret, i_iret, i_zret, i_lret, i_fret, i_dret, i_aret, i_invS0, i_invV0, i_m2, i_m1, i_ml, i_obj, lk, lkp, stf1, stf2, Value.category, rV, xTo, lv_args, xCk, xCat, xRc, xAk, hg_S, hg_I, hg_J, hg_D, hg_R, hs_I, hs_J, hs_D, hs_R, uI_at, uJ_at, uD_at, uR_at, List.take_succ_cons, List.take_zero, List.drop_succ_cons, List.drop_zero, List.reverse_cons, List.reverse_nil, List.nil_append, List.cons_append, List.map_cons, List.map_nil, List.sum_cons, List.sum_nil, List.length_cons, List.length_nil, Option.toList_some, Option.toList_none, true_and, and_true, false_and, and_false, true_implies, false_implies, implies_true, not_true_eq_false, not_false_eq_true, ne_eq, if_true, if_false, Bool.and_true, Bool.true_and, decide_true, decide_false, reduceIte, reduceCtorEq, Bool.and_self, Bool.and_eq_true, decide_eq_true_eq, and_self, true_or, or_true, false_or, or_false, Nat.zero_add, Nat.add_zero, eq_self, Nat.reduceEqDiff, Nat.reduceLeDiff, Nat.reduceLT, Nat.reduceAdd, Nat.reduceSub, Nat.reduceMul, LM_out hL, nI_inP (show a < 65536 by omega) (by decide), nI_ix (show a < 2147483648 by omega), nI_inP (show z < 65536 by omega) (by decide), nI_ix (show z < 2147483648 by omega)]
      cases hia : in2 (2 ^ n) po (k + 1) a
      · simp only [ta2 hia, true_and, and_true, false_and, and_false, true_implies, false_implies, implies_true, not_true_eq_false, not_false_eq_true, ne_eq, if_true, if_false, Bool.and_true, Bool.true_and, decide_true, decide_false, reduceIte, reduceCtorEq, Bool.and_self, Bool.and_eq_true, decide_eq_true_eq, and_self, true_or, or_true, false_or, or_false, Nat.zero_add, Nat.add_zero, eq_self, Nat.reduceEqDiff, Nat.reduceLeDiff, Nat.reduceLT, Nat.reduceAdd, Nat.reduceSub, Nat.reduceMul]
        exact next I2 p2 w2 q2 (fun h => by rw [hia] at h; exact absurd h.1 (by decide))
      · have pa := hik _ (w2 a hia).1
        cases hiz : in2 (2 ^ n) po (k + 1) z
        · simp only [ta1 hia, tz2 hiz, nI_n1 (show p2 a < 2147483648 by omega), true_and, and_true, false_and, and_false, true_implies, false_implies, implies_true, not_true_eq_false, not_false_eq_true, ne_eq, if_true, if_false, Bool.and_true, Bool.true_and, decide_true, decide_false, reduceIte, reduceCtorEq, Bool.and_self, Bool.and_eq_true, decide_eq_true_eq, and_self, true_or, or_true, false_or, or_false, Nat.zero_add, Nat.add_zero, eq_self, Nat.reduceEqDiff, Nat.reduceLeDiff, Nat.reduceLT, Nat.reduceAdd, Nat.reduceSub, Nat.reduceMul]
          exact next I2 p2 w2 q2 (fun h => by rw [hiz] at h; exact absurd h.2.1 (by decide))
        · have pz := hik _ (w2 z hiz).1
          simp only [ta1 hia, tz1 hiz, nI_n1 (show p2 a < 2147483648 by omega), nI_n1 (show p2 z < 2147483648 by omega), true_and, and_true, false_and, and_false, true_implies, false_implies, implies_true, not_true_eq_false, not_false_eq_true, ne_eq, if_true, if_false, Bool.and_true, Bool.true_and, decide_true, decide_false, reduceIte, reduceCtorEq, Bool.and_self, Bool.and_eq_true, decide_eq_true_eq, and_self, true_or, or_true, false_or, or_false, Nat.zero_add, Nat.add_zero, eq_self, Nat.reduceEqDiff, Nat.reduceLeDiff, Nat.reduceLT, Nat.reduceAdd, Nat.reduceSub, Nat.reduceMul]
          refine L325 (N := 2 ^ n) (r := r2) (I0 := I0) hL hp hik hMk hia w2 q2 (fun I3 p3 w3 q3 => ?_)
          simp only [xSeq, i_push, i_load, i_iload, i_lload, i_dload, i_aload, i_istore, i_astore, i_lstore, i_dstore, i_iinc, i_ii, i_iiz, i_ll, i_llz, i_lli, i_li, i_i, i_l, i_i2l, i_l2i, i_dup, i_dup2, i_dup2w, i_dupx1, i_pop, i_pop2, i_goto, i_ifc, i_icmp, i_getI, i_getL, i_getR, i_putI, i_putZ, i_putL, i_putR, i_aldI, i_aldB, i_aldL, i_aldD, i_astI, i_astL, i_astD, i_alen, i_ret, i_iret, i_zret, i_lret, i_fret, i_dret, i_aret, i_invS0, i_invV0, i_m2, i_m1, i_ml, i_obj, lk, lkp, stf1, stf2, Value.category, rV, xTo, lv_args, xCk, xCat, xRc, xAk, hg_S, hg_I, hg_J, hg_D, hg_R, hs_I, hs_J, hs_D, hs_R, uI_at, uJ_at, uD_at, uR_at, List.take_succ_cons, List.take_zero, List.drop_succ_cons, List.drop_zero, List.reverse_cons, List.reverse_nil, List.nil_append, List.cons_append, List.map_cons, List.map_nil, List.sum_cons, List.sum_nil, List.length_cons, List.length_nil, Option.toList_some, Option.toList_none, true_and, and_true, false_and, and_false, true_implies, false_implies, implies_true, not_true_eq_false, not_false_eq_true, ne_eq, if_true, if_false, Bool.and_true, Bool.true_and, decide_true, decide_false, reduceIte, reduceCtorEq, Bool.and_self, Bool.and_eq_true, decide_eq_true_eq, and_self, true_or, or_true, false_or, or_false, Nat.zero_add, Nat.add_zero, eq_self, Nat.reduceEqDiff, Nat.reduceLeDiff, Nat.reduceLT, Nat.reduceAdd, Nat.reduceSub, Nat.reduceMul, LM_out hL]
          refine L325 (N := 2 ^ n) (r := r2) (I0 := I0) hL hp hik hMk hiz w3 q3 (fun I4 p4 w4 q4 => ?_)
          have ra := hik _ (WU_root w4 hMk (k + 1) a (by omega) hia).1
          have rz := hik _ (WU_root w4 hMk (k + 1) z (by omega) hiz).1
          have hwc : I4 343 c = E c := (q4.2 _ _ (by decide)).trans (hw c hc)
          simp only [xSeq, i_push, i_load, i_iload, i_lload, i_dload, i_aload, i_istore, i_astore, i_lstore, i_dstore, i_iinc, i_ii, i_iiz, i_ll, i_llz, i_lli, i_li, i_i, i_l, i_i2l, i_l2i, i_dup, i_dup2, i_dup2w, i_dupx1, i_pop, i_pop2, i_goto, i_ifc, i_icmp, i_getI, i_getL, i_getR, i_putI, i_putZ, i_putL, i_putR, i_aldI, i_aldB, i_aldL, i_aldD, i_astI, i_astL, i_astD, i_alen, i_ret, i_iret, i_zret, i_lret, i_fret, i_dret, i_aret, i_invS0, i_invV0, i_m2, i_m1, i_ml, i_obj, lk, lkp, stf1, stf2, Value.category, rV, xTo, lv_args, xCk, xCat, xRc, xAk, hg_S, hg_I, hg_J, hg_D, hg_R, hs_I, hs_J, hs_D, hs_R, uI_at, uJ_at, uD_at, uR_at, List.take_succ_cons, List.take_zero, List.drop_succ_cons, List.drop_zero, List.reverse_cons, List.reverse_nil, List.nil_append, List.cons_append, List.map_cons, List.map_nil, List.sum_cons, List.sum_nil, List.length_cons, List.length_nil, Option.toList_some, Option.toList_none, true_and, and_true, false_and, and_false, true_implies, false_implies, implies_true, not_true_eq_false, not_false_eq_true, ne_eq, if_true, if_false, Bool.and_true, Bool.true_and, decide_true, decide_false, reduceIte, reduceCtorEq, Bool.and_self, Bool.and_eq_true, decide_eq_true_eq, and_self, true_or, or_true, false_or, or_false, Nat.zero_add, Nat.add_zero, eq_self, Nat.reduceEqDiff, Nat.reduceLeDiff, Nat.reduceLT, Nat.reduceAdd, Nat.reduceSub, Nat.reduceMul, LM_out hL, ne_eq, nI_iff (show r2 a < 2147483648 by omega) (show r2 z < 2147483648 by omega), nI_inP (show c < 65536 by omega) (by decide), nI_ix (show c < 2147483648 by omega), hwc]
          by_cases e : r2 a = r2 z
          · simp only [e, true_and, and_true, false_and, and_false, true_implies, false_implies, implies_true, not_true_eq_false, not_false_eq_true, ne_eq, if_true, if_false, Bool.and_true, Bool.true_and, decide_true, decide_false, reduceIte, reduceCtorEq, Bool.and_self, Bool.and_eq_true, decide_eq_true_eq, and_self, true_or, or_true, false_or, or_false, Nat.zero_add, Nat.add_zero, eq_self, Nat.reduceEqDiff, Nat.reduceLeDiff, Nat.reduceLT, Nat.reduceAdd, Nat.reduceSub, Nat.reduceMul]
            refine kk I4 c hc ⟨g1 a z hia hiz e, fun h hr => Nat.le_of_not_lt (fun hlt => ?_)⟩ q4.2
            have hinc : ∀ d, d < 2 ^ n → eN E d ≤ h → in2 (2 ^ n) po k d = true := fun d hd he => in2_iff.mpr ⟨hd, hpre d hd (by omega)⟩
            have hpth := C2_path (inc := in2 (2 ^ n) po k) h2 hinc ha hr
            have haa := (C2_path (inc := in2 (2 ^ n) po k) h2 hinc hz (RC_sym hr)).2.2
            exact h3 ⟨haa, hpth.2.2, hpth.1⟩
          · simp only [e, true_and, and_true, false_and, and_false, true_implies, false_implies, implies_true, not_true_eq_false, not_false_eq_true, ne_eq, if_true, if_false, Bool.and_true, Bool.true_and, decide_true, decide_false, reduceIte, reduceCtorEq, Bool.and_self, Bool.and_eq_true, decide_eq_true_eq, and_self, true_or, or_true, false_or, or_false, Nat.zero_add, Nat.add_zero, eq_self, Nat.reduceEqDiff, Nat.reduceLeDiff, Nat.reduceLT, Nat.reduceAdd, Nat.reduceSub, Nat.reduceMul]
            exact next I4 p4 w4 q4 (fun h => e h.2.2)
    · simp only [a1, a2, if_false]
      exact h2 d t ht (hold d a3 a1) (hold _ a4 a2)
theorem L323_o {I0 : xI} (hL : LM S R) (hX : XM n E I0) (h10 : I0 300 10 = nI n) (hE : EB E n) (hO : OL E n I0 I) (ha : a < 2 ^ n) (hz : z < 2 ^ n)
    (kk : ∀ I' h, bar (eN E) n a z h → (∀ o k, oX o → I' o k = I0 o k) → Q (.ok (some (.int (nI h - 144)))) (S, I', J, D, R) b) :
    xRun xT 323 63 [(0, .ref 200), (5, .int (nI a)), (6, .int (nI z)), (7, .int 0)] [] (S, I, J, D, R) b Q := by
  obtain ⟨o1, o2, o3⟩ := hO
  have no : ∀ k, in2 (2 ^ n) (ps2 (fk E) (2 ^ n)) 0 k = true → False := fun k hk => absurd (in2_iff.mp hk).2 (Nat.not_lt_zero _)
  have h := L323_63 (I0 := I) (E := E) (n := n) (a := a) (z := z) (S := S) (R := R) (J := J) (D := D) (b := b) (Q := Q) hL ((o3 _ _ (by decide)).trans h10) hE (fun c hc => (o3 _ _ (by decide)).trans (hX.2.2.2.2 c hc)) o1 ha hz (fun I5 m hm hb k5 => by
    rw [(eN_ok hE hm).2.2.2]
    exact kk I5 _ hb (fun o k ho => (k5 o k ho.2.1).trans (o3 o k ho))) (2 ^ n) 0 (fun k => k) (fun k => k) I (Nat.zero_add _) (fun k hk => (no k hk).elim) ⟨fun k hk => ⟨fun h => (no k h).elim, fun _ => o2 k hk⟩, fun _ _ _ => rfl⟩ (fun h _ k k' hk => (no k hk).elim) (fun k t _ hk => (no k hk).elim) (fun hk => (no a hk.1).elim)
  rw [nI_0] at h
  exact h
end
/-! ===== digits ===== -/
section
def dg (m : Nat) : Nat := if m < 10 then 1 else if m < 100 then 2 else if m < 1000 then 3 else if m < 10000 then 4 else if m < 100000 then 5 else if m < 1000000 then 6 else if m < 10000000 then 7 else if m < 100000000 then 8 else if m < 1000000000 then 9 else 10
theorem dg_k (m : Nat) : (m < 10 ∧ dg m = 1) ∨ (10 ≤ m ∧ m < 100 ∧ dg m = 2) ∨ (100 ≤ m ∧ m < 1000 ∧ dg m = 3) ∨ (1000 ≤ m ∧ m < 10000 ∧ dg m = 4) ∨ (10000 ≤ m ∧ m < 100000 ∧ dg m = 5) ∨ (100000 ≤ m ∧ m < 1000000 ∧ dg m = 6) ∨ (1000000 ≤ m ∧ m < 10000000 ∧ dg m = 7) ∨ (10000000 ≤ m ∧ m < 100000000 ∧ dg m = 8) ∨ (100000000 ≤ m ∧ m < 1000000000 ∧ dg m = 9) ∨ (1000000000 ≤ m ∧ dg m = 10) := by
  by_cases h1 : m < 10
  · exact Or.inl ⟨h1, by rw [dg, if_pos h1]⟩
  by_cases h2 : m < 100
  · exact Or.inr (Or.inl ⟨Nat.le_of_not_lt h1, h2, by rw [dg, if_neg h1, if_pos h2]⟩)
  by_cases h3 : m < 1000
  · exact Or.inr (Or.inr (Or.inl ⟨Nat.le_of_not_lt h2, h3, by rw [dg, if_neg h1, if_neg h2, if_pos h3]⟩))
  by_cases h4 : m < 10000
  · exact Or.inr (Or.inr (Or.inr (Or.inl ⟨Nat.le_of_not_lt h3, h4, by rw [dg, if_neg h1, if_neg h2, if_neg h3, if_pos h4]⟩)))
  by_cases h5 : m < 100000
  · exact Or.inr (Or.inr (Or.inr (Or.inr (Or.inl ⟨Nat.le_of_not_lt h4, h5, by rw [dg, if_neg h1, if_neg h2, if_neg h3, if_neg h4, if_pos h5]⟩))))
  by_cases h6 : m < 1000000
  · exact Or.inr (Or.inr (Or.inr (Or.inr (Or.inr (Or.inl ⟨Nat.le_of_not_lt h5, h6, by rw [dg, if_neg h1, if_neg h2, if_neg h3, if_neg h4, if_neg h5, if_pos h6]⟩)))))
  by_cases h7 : m < 10000000
  · exact Or.inr (Or.inr (Or.inr (Or.inr (Or.inr (Or.inr (Or.inl ⟨Nat.le_of_not_lt h6, h7, by rw [dg, if_neg h1, if_neg h2, if_neg h3, if_neg h4, if_neg h5, if_neg h6, if_pos h7]⟩))))))
  by_cases h8 : m < 100000000
  · exact Or.inr (Or.inr (Or.inr (Or.inr (Or.inr (Or.inr (Or.inr (Or.inl ⟨Nat.le_of_not_lt h7, h8, by rw [dg, if_neg h1, if_neg h2, if_neg h3, if_neg h4, if_neg h5, if_neg h6, if_neg h7, if_pos h8]⟩)))))))
  by_cases h9 : m < 1000000000
  · exact Or.inr (Or.inr (Or.inr (Or.inr (Or.inr (Or.inr (Or.inr (Or.inr (Or.inl ⟨Nat.le_of_not_lt h8, h9, by rw [dg, if_neg h1, if_neg h2, if_neg h3, if_neg h4, if_neg h5, if_neg h6, if_neg h7, if_neg h8, if_pos h9]⟩))))))))
  exact Or.inr (Or.inr (Or.inr (Or.inr (Or.inr (Or.inr (Or.inr (Or.inr (Or.inr (⟨Nat.le_of_not_lt h9, by rw [dg, if_neg h1, if_neg h2, if_neg h3, if_neg h4, if_neg h5, if_neg h6, if_neg h7, if_neg h8, if_neg h9]⟩)))))))))
theorem dg_bd (m : Nat) : 1 ≤ dg m ∧ dg m ≤ 10 := by
  have := dg_k m
  omega
theorem dg_100 {m : Nat} (h : 100 ≤ m) (h2 : m ≤ 2147483648) : dg m = dg (m / 100) + 2 := by
  have k := dg_k (m / 100)
  rcases dg_k m with h9 | h9 | h9 | h9 | h9 | h9 | h9 | h9 | h9 | h9 <;> omega
theorem dg_10 {m : Nat} : (m < 10 → dg m = 1) ∧ (10 ≤ m → m < 100 → dg m = 2) := by
  unfold dg
  refine ⟨fun h => by rw [if_pos h], fun h h2 => by rw [if_neg (by omega), if_pos h2]⟩
theorem dg_pow {m : Nat} (h : m ≤ 2147483648) {i : Nat} (hi : i ≤ 9) : (10 ^ i ≤ m ∨ i = 0) ↔ i < dg m := by
  have k := dg_k m
  have h10 : i = 0 ∨ i = 1 ∨ i = 2 ∨ i = 3 ∨ i = 4 ∨ i = 5 ∨ i = 6 ∨ i = 7 ∨ i = 8 ∨ i = 9 := by omega
  rcases h10 with rfl | rfl | rfl | rfl | rfl | rfl | rfl | rfl | rfl | rfl <;> simp only [Nat.reducePow, or_true, true_iff] <;> omega
/-- the characters of a number -/
def nch (x : Int32) : Nat := (if x < 0 then 1 else 0) + dg x.toInt.natAbs
theorem nch_bd (x : Int32) : 1 ≤ nch x ∧ nch x ≤ 11 := by
  have := dg_bd x.toInt.natAbs
  unfold nch
  split <;> omega
theorem neg_I {m : Nat} (h : m ≤ 2147483648) : (-(nI m)).toInt = -(m : Int) := by
  have e : -(nI m) = Int32.ofInt (-(m : Int)) := by
    rw [Int32.ofInt_neg]
    rfl
  have hs : (Int32.size : Nat) = 4294967296 := rfl
  rw [e, Int32.toInt_ofInt, hs]
  exact Int.bmod_eq_of_le (by omega) (by omega)
theorem num_cases (x : Int32) : ∃ m, m ≤ 2147483648 ∧ x.toInt.natAbs = m ∧ ((x < 0 ∧ x = -(nI m) ∧ 0 < m) ∨ (¬ x < 0 ∧ x = nI m ∧ m < 2147483648)) := by
  have h1 := Int32.le_toInt x
  have h2 := Int32.toInt_lt x
  refine ⟨x.toInt.natAbs, by omega, rfl, ?_⟩
  have hx : (x < 0) = (x.toInt < 0) := by
    rw [Int32.lt_iff_toInt_lt]
    rfl
  by_cases h : x < 0
  · have h3 : x.toInt < 0 := by rw [← hx]; exact h
    refine Or.inl ⟨h, ?_, by omega⟩
    apply Int32.toInt_inj.mp
    rw [neg_I (by omega)]
    omega
  · have h3 : ¬ x.toInt < 0 := by rw [← hx]; exact h
    refine Or.inr ⟨h, ?_, by omega⟩
    apply Int32.toInt_inj.mp
    rw [nI_toInt (by omega)]
    omega
theorem neg_neg (x : Int32) : -(-x) = x := Int32.neg_neg
/-- comparing with a number below 0 -/
theorem neg_le {m p : Nat} (hm : m ≤ 2147483648) (hp : p ≤ 2147483648) : (-(nI m) ≤ -(nI p)) = (p ≤ m) := by
  rw [Int32.le_iff_toInt_le, neg_I hm, neg_I hp]
  exact propext ⟨fun h => by omega, fun h => by omega⟩
theorem neg_lt {m p : Nat} (hm : m ≤ 2147483648) (hp : p ≤ 2147483648) : (-(nI p) < -(nI m)) = (m < p) := by
  rw [Int32.lt_iff_toInt_lt, neg_I hm, neg_I hp]
  exact propext ⟨fun h => by omega, fun h => by omega⟩
theorem neg_div {m : Nat} (hm : m ≤ 2147483648) : -(nI m) / 100 = -(nI (m / 100)) := by
  apply Int32.toInt_inj.mp
  rw [Int32.toInt_div, neg_I hm, neg_I (by omega), show (100 : Int32).toInt = 100 from rfl, Int.neg_tdiv, Int.tdiv_eq_ediv_of_nonneg (by omega)]
  rw [Int.bmod_eq_of_le (by omega) (by omega)]
  omega
theorem neg_rest {m : Nat} : -(nI (m / 100)) * 100 - -(nI m) = nI (m % 100) := by
  have e : nI m = nI (m / 100) * 100 + nI (m % 100) := by
    rw [show (100 : Int32) = nI 100 from rfl, pk_mul, nI_add]
    congr 1
    omega
  rw [e]
  grind
variable {S : xS} {I : xI} {J : xJ} {D : xDb} {R : xR} {b : Nat × Nat} {Q : xQ}
theorem R30_16 {m d : Nat} (hm : m ≤ 2147483648) : ∀ (j i : Nat) (p : Int32), i + j = 10 → 0 < i → i ≤ dg m → (i ≤ 9 → p = -(nI (10 ^ i))) → xRun xT 30 16 [(0, .int (-(nI m))), (1, .int (nI d)), (2, .int p), (3, .int (nI i))] [] (S, I, J, D, R) b Q = Q (.ok (some (.int (nI (d + dg m))))) (S, I, J, D, R) b
  | 0, i, p, hi, h0, h, hp => by
    have := dg_bd m
    have e2 : dg m = 10 := by omega
    have e3 : i = 10 := by omega
    have e4 : ((10 : Int32) ≤ nI i) = True := by rw [e3]; exact eq_true (by decide)
    have e5 : (10 : Int32) + nI d = nI (d + 10) := by rw [show (10 : Int32) = nI 10 from rfl, nI_add, Nat.add_comm]
    rw [e30_16]
    simp only [B30_16, xSeq, i_push, i_load, i_iload, i_lload, i_dload, i_aload, i_istore, i_astore, i_lstore, i_dstore, i_iinc, i_ii, i_iiz, i_ll, i_llz, i_lli, i_li, i_i, i_l, i_i2l, i_l2i, i_dup, i_dup2, i_dup2w, i_dupx1, i_pop, i_pop2, i_goto, i_ifc, i_icmp, i_getI, i_getL, i_getR, i_putI, i_putZ, i_putL, i_putR, i_aldI, i_aldB, i_aldL, i_aldD, i_astI, i_astL, i_astD, i_alen, i_ret, i_iret, i_zret, i_lret, i_fret, i_dret, i_aret, i_invS0, i_invV0, i_m2, i_m1, i_ml, i_obj, lk, lkp, stf1, stf2, Value.category, rV, xTo, lv_args, xCk, xCat, xRc, xAk, hg_S, hg_I, hg_J, hg_D, hg_R, hs_I, hs_J, hs_D, hs_R, uI_at, uJ_at, uD_at, uR_at, List.take_succ_cons, List.take_zero, List.drop_succ_cons, List.drop_zero, List.reverse_cons, List.reverse_nil, List.nil_append, List.cons_append, List.map_cons, List.map_nil, List.sum_cons, List.sum_nil, List.length_cons, List.length_nil, Option.toList_some, Option.toList_none, true_and, and_true, false_and, and_false, true_implies, false_implies, implies_true, not_true_eq_false, not_false_eq_true, ne_eq, if_true, if_false, Bool.and_true, Bool.true_and, decide_true, decide_false, reduceIte, reduceCtorEq, Bool.and_self, Bool.and_eq_true, decide_eq_true_eq, and_self, true_or, or_true, false_or, or_false, Nat.zero_add, Nat.add_zero, eq_self, Nat.reduceEqDiff, Nat.reduceLeDiff, Nat.reduceLT, Nat.reduceAdd, Nat.reduceSub, Nat.reduceMul, e4, e30_42, B30_42, e5, e2]
  | j + 1, i, p, hi, h0, h, hpp => by
    have hp : 10 ^ i ≤ 10 ^ 9 := Nat.pow_le_pow_right (by decide) (by omega)
    have hp2 : (10 : Nat) ^ 9 = 1000000000 := rfl
    have e0 : ((10 : Int32) ≤ nI i) = False := by rw [show (10 : Int32) = nI 10 from rfl, nI_leP (by decide) (show i < 2147483648 by omega)]; exact eq_false (by omega)
    have h1 := dg_pow hm (i := i) (by omega)
    have ep : 10 * p = -(nI (10 ^ (i + 1))) := by
      rw [hpp (by omega), Nat.pow_succ, ← pk_mul]
      show _ = -(nI (10 ^ i) * 10)
      grind
    have el : (-(nI m) ≤ p) = (10 ^ i ≤ m) := by rw [hpp (by omega), neg_le hm (show 10 ^ i ≤ 2147483648 by omega)]
    obtain ⟨x, hx⟩ : ∃ x, x = -(nI m) := ⟨_, rfl⟩
    rw [e30_16]
    rw [← hx] at el ⊢
    by_cases hc : 10 ^ i ≤ m
    · have h2 := h1.mp (Or.inl hc)
      simp only [B30_16, xSeq, i_push, i_load, i_iload, i_lload, i_dload, i_aload, i_istore, i_astore, i_lstore, i_dstore, i_iinc, i_ii, i_iiz, i_ll, i_llz, i_lli, i_li, i_i, i_l, i_i2l, i_l2i, i_dup, i_dup2, i_dup2w, i_dupx1, i_pop, i_pop2, i_goto, i_ifc, i_icmp, i_getI, i_getL, i_getR, i_putI, i_putZ, i_putL, i_putR, i_aldI, i_aldB, i_aldL, i_aldD, i_astI, i_astL, i_astD, i_alen, i_ret, i_iret, i_zret, i_lret, i_fret, i_dret, i_aret, i_invS0, i_invV0, i_m2, i_m1, i_ml, i_obj, lk, lkp, stf1, stf2, Value.category, rV, xTo, lv_args, xCk, xCat, xRc, xAk, hg_S, hg_I, hg_J, hg_D, hg_R, hs_I, hs_J, hs_D, hs_R, uI_at, uJ_at, uD_at, uR_at, List.take_succ_cons, List.take_zero, List.drop_succ_cons, List.drop_zero, List.reverse_cons, List.reverse_nil, List.nil_append, List.cons_append, List.map_cons, List.map_nil, List.sum_cons, List.sum_nil, List.length_cons, List.length_nil, Option.toList_some, Option.toList_none, true_and, and_true, false_and, and_false, true_implies, false_implies, implies_true, not_true_eq_false, not_false_eq_true, ne_eq, if_true, if_false, Bool.and_true, Bool.true_and, decide_true, decide_false, reduceIte, reduceCtorEq, Bool.and_self, Bool.and_eq_true, decide_eq_true_eq, and_self, true_or, or_true, false_or, or_false, Nat.zero_add, Nat.add_zero, eq_self, Nat.reduceEqDiff, Nat.reduceLeDiff, Nat.reduceLT, Nat.reduceAdd, Nat.reduceSub, Nat.reduceMul, e0, el, hc, e30_31, B30_31, nI_1]
      rw [hx]
      exact R30_16 hm j (i + 1) _ (by omega) (by omega) (by omega) (fun _ => ep)
    · have h2 : ¬ i < dg m := fun e => by
        rcases h1.mpr e with h3 | h3
        · exact hc h3
        · omega
      have e2 : i = dg m := by omega
      have e3 : nI i + nI d = nI (d + dg m) := by rw [nI_add, Nat.add_comm, e2]
      simp only [B30_16, xSeq, i_push, i_load, i_iload, i_lload, i_dload, i_aload, i_istore, i_astore, i_lstore, i_dstore, i_iinc, i_ii, i_iiz, i_ll, i_llz, i_lli, i_li, i_i, i_l, i_i2l, i_l2i, i_dup, i_dup2, i_dup2w, i_dupx1, i_pop, i_pop2, i_goto, i_ifc, i_icmp, i_getI, i_getL, i_getR, i_putI, i_putZ, i_putL, i_putR, i_aldI, i_aldB, i_aldL, i_aldD, i_astI, i_astL, i_astD, i_alen, i_ret, i_iret, i_zret, i_lret, i_fret, i_dret, i_aret, i_invS0, i_invV0, i_m2, i_m1, i_ml, i_obj, lk, lkp, stf1, stf2, Value.category, rV, xTo, lv_args, xCk, xCat, xRc, xAk, hg_S, hg_I, hg_J, hg_D, hg_R, hs_I, hs_J, hs_D, hs_R, uI_at, uJ_at, uD_at, uR_at, List.take_succ_cons, List.take_zero, List.drop_succ_cons, List.drop_zero, List.reverse_cons, List.reverse_nil, List.nil_append, List.cons_append, List.map_cons, List.map_nil, List.sum_cons, List.sum_nil, List.length_cons, List.length_nil, Option.toList_some, Option.toList_none, true_and, and_true, false_and, and_false, true_implies, false_implies, implies_true, not_true_eq_false, not_false_eq_true, ne_eq, if_true, if_false, Bool.and_true, Bool.true_and, decide_true, decide_false, reduceIte, reduceCtorEq, Bool.and_self, Bool.and_eq_true, decide_eq_true_eq, and_self, true_or, or_true, false_or, or_false, Nat.zero_add, Nat.add_zero, eq_self, Nat.reduceEqDiff, Nat.reduceLeDiff, Nat.reduceLT, Nat.reduceAdd, Nat.reduceSub, Nat.reduceMul, e0, el, hc, e3]
theorem R30 {x : Int32} : xRun xT 30 0 [(0, .int x)] [] (S, I, J, D, R) b Q = Q (.ok (some (.int (nI (nch x))))) (S, I, J, D, R) b := by
  obtain ⟨m, hm, e, h⟩ := num_cases x
  have hb := dg_bd m
  have hc : nch x = (if x < 0 then 1 else 0) + dg m := by unfold nch; rw [e]
  rw [hc]
  rcases h with ⟨h1, h2, h3⟩ | ⟨h1, h2, h3⟩
  · have hr := R30_16 (S := S) (I := I) (J := J) (D := D) (R := R) (b := b) (Q := Q) (d := 1) hm 9 1 (-10) rfl (by decide) (by omega) (fun _ => rfl)
    rw [if_pos h1]
    rw [h2] at h1 ⊢
    rw [e30_0]
    simp only [B30_0, xSeq, i_push, i_load, i_iload, i_lload, i_dload, i_aload, i_istore, i_astore, i_lstore, i_dstore, i_iinc, i_ii, i_iiz, i_ll, i_llz, i_lli, i_li, i_i, i_l, i_i2l, i_l2i, i_dup, i_dup2, i_dup2w, i_dupx1, i_pop, i_pop2, i_goto, i_ifc, i_icmp, i_getI, i_getL, i_getR, i_putI, i_putZ, i_putL, i_putR, i_aldI, i_aldB, i_aldL, i_aldD, i_astI, i_astL, i_astD, i_alen, i_ret, i_iret, i_zret, i_lret, i_fret, i_dret, i_aret, i_invS0, i_invV0, i_m2, i_m1, i_ml, i_obj, lk, lkp, stf1, stf2, Value.category, rV, xTo, lv_args, xCk, xCat, xRc, xAk, hg_S, hg_I, hg_J, hg_D, hg_R, hs_I, hs_J, hs_D, hs_R, uI_at, uJ_at, uD_at, uR_at, List.take_succ_cons, List.take_zero, List.drop_succ_cons, List.drop_zero, List.reverse_cons, List.reverse_nil, List.nil_append, List.cons_append, List.map_cons, List.map_nil, List.sum_cons, List.sum_nil, List.length_cons, List.length_nil, Option.toList_some, Option.toList_none, true_and, and_true, false_and, and_false, true_implies, false_implies, implies_true, not_true_eq_false, not_false_eq_true, ne_eq, if_true, if_false, Bool.and_true, Bool.true_and, decide_true, decide_false, reduceIte, reduceCtorEq, Bool.and_self, Bool.and_eq_true, decide_eq_true_eq, and_self, true_or, or_true, false_or, or_false, Nat.zero_add, Nat.add_zero, eq_self, Nat.reduceEqDiff, Nat.reduceLeDiff, Nat.reduceLT, Nat.reduceAdd, Nat.reduceSub, Nat.reduceMul, h1, e30_11, B30_11]
    exact hr
  · have hr := R30_16 (S := S) (I := I) (J := J) (D := D) (R := R) (b := b) (Q := Q) (d := 0) hm 9 1 (-10) rfl (by decide) (by omega) (fun _ => rfl)
    rw [if_neg h1]
    rw [h2] at h1 ⊢
    rw [Nat.zero_add] at hr ⊢
    rw [e30_0]
    simp only [B30_0, xSeq, i_push, i_load, i_iload, i_lload, i_dload, i_aload, i_istore, i_astore, i_lstore, i_dstore, i_iinc, i_ii, i_iiz, i_ll, i_llz, i_lli, i_li, i_i, i_l, i_i2l, i_l2i, i_dup, i_dup2, i_dup2w, i_dupx1, i_pop, i_pop2, i_goto, i_ifc, i_icmp, i_getI, i_getL, i_getR, i_putI, i_putZ, i_putL, i_putR, i_aldI, i_aldB, i_aldL, i_aldD, i_astI, i_astL, i_astD, i_alen, i_ret, i_iret, i_zret, i_lret, i_fret, i_dret, i_aret, i_invS0, i_invV0, i_m2, i_m1, i_ml, i_obj, lk, lkp, stf1, stf2, Value.category, rV, xTo, lv_args, xCk, xCat, xRc, xAk, hg_S, hg_I, hg_J, hg_D, hg_R, hs_I, hs_J, hs_D, hs_R, uI_at, uJ_at, uD_at, uR_at, List.take_succ_cons, List.take_zero, List.drop_succ_cons, List.drop_zero, List.reverse_cons, List.reverse_nil, List.nil_append, List.cons_append, List.map_cons, List.map_nil, List.sum_cons, List.sum_nil, List.length_cons, List.length_nil, Option.toList_some, Option.toList_none, true_and, and_true, false_and, and_false, true_implies, false_implies, implies_true, not_true_eq_false, not_false_eq_true, ne_eq, if_true, if_false, Bool.and_true, Bool.true_and, decide_true, decide_false, reduceIte, reduceCtorEq, Bool.and_self, Bool.and_eq_true, decide_eq_true_eq, and_self, true_or, or_true, false_or, or_false, Nat.zero_add, Nat.add_zero, eq_self, Nat.reduceEqDiff, Nat.reduceLeDiff, Nat.reduceLT, Nat.reduceAdd, Nat.reduceSub, Nat.reduceMul, h1, e30_11, B30_11]
    exact hr
end
/-! ===== numbers are appended ===== -/
section
/-- bytes in one row, all else as before -/
def AW (v cap : Nat) (I0 I : xI) : Prop := (∀ k, k < cap → bF (I v k)) ∧ ∀ o k, o ≠ v → I o k = I0 o k
theorem AW_w {v cap : Nat} {I0 I : xI} (h : AW v cap I0 I) (p : Nat) (x : Int32) : AW v cap I0 (uI I v p (vp_nar .byte x)) := by
  refine ⟨fun k hk => ?_, fun o k ho => ?_⟩
  · rw [uI_at]
    split
    · exact bF_n _
    · exact h.1 k hk
  · rw [uI_at, if_neg (fun e => ho e.1)]
    exact h.2 o k ho
theorem nI_dn {p : Nat} (h : 1 ≤ p) : nI p + -1 = nI (p - 1) := by
  rw [← nI_subn h]
  show _ = nI p - 1
  grind
variable {S : xS} {I : xI} {J : xJ} {D : xDb} {R : xR} {b : Nat × Nat} {Q : xQ}
theorem L31_104 {v cap p : Nat} {ng : Int32} {nn : Nat} {I0 : xI} (hS : S v = (103, cap)) (hcap : cap < 2147483648) (hn : (ng = 0 ∧ nn = 0) ∨ (ng = 1 ∧ nn = 1)) (hp : nn ≤ p) (hpc : p ≤ cap) (h : AW v cap I0 I)
    (kk : ∀ I' r, AW v cap I0 I' → Q (.ok (some (.int r))) (S, I', J, D, R) b) : xRun xT 31 104 [(2, .ref v), (5, .int (nI p)), (6, .int ng)] [] (S, I, J, D, R) b Q := by
  rw [e31_104]
  rcases hn with ⟨h1, h2⟩ | ⟨h1, h2⟩
  · simp only [B31_104, xSeq, i_push, i_load, i_iload, i_lload, i_dload, i_aload, i_istore, i_astore, i_lstore, i_dstore, i_iinc, i_ii, i_iiz, i_ll, i_llz, i_lli, i_li, i_i, i_l, i_i2l, i_l2i, i_dup, i_dup2, i_dup2w, i_dupx1, i_pop, i_pop2, i_goto, i_ifc, i_icmp, i_getI, i_getL, i_getR, i_putI, i_putZ, i_putL, i_putR, i_aldI, i_aldB, i_aldL, i_aldD, i_astI, i_astL, i_astD, i_alen, i_ret, i_iret, i_zret, i_lret, i_fret, i_dret, i_aret, i_invS0, i_invV0, i_m2, i_m1, i_ml, i_obj, lk, lkp, stf1, stf2, Value.category, rV, xTo, lv_args, xCk, xCat, xRc, xAk, hg_S, hg_I, hg_J, hg_D, hg_R, hs_I, hs_J, hs_D, hs_R, uI_at, uJ_at, uD_at, uR_at, List.take_succ_cons, List.take_zero, List.drop_succ_cons, List.drop_zero, List.reverse_cons, List.reverse_nil, List.nil_append, List.cons_append, List.map_cons, List.map_nil, List.sum_cons, List.sum_nil, List.length_cons, List.length_nil, Option.toList_some, Option.toList_none, true_and, and_true, false_and, and_false, true_implies, false_implies, implies_true, not_true_eq_false, not_false_eq_true, ne_eq, if_true, if_false, Bool.and_true, Bool.true_and, decide_true, decide_false, reduceIte, reduceCtorEq, Bool.and_self, Bool.and_eq_true, decide_eq_true_eq, and_self, true_or, or_true, false_or, or_false, Nat.zero_add, Nat.add_zero, eq_self, Nat.reduceEqDiff, Nat.reduceLeDiff, Nat.reduceLT, Nat.reduceAdd, Nat.reduceSub, Nat.reduceMul, h1, e31_118, B31_118]
    exact kk I _ h
  · have hsh : ((100 ≤ 103 ∧ 103 < 106) ∨ 103 = 107 ∨ 103 = 108) = True := eq_true (by decide)
    simp only [B31_104, xSeq, i_push, i_load, i_iload, i_lload, i_dload, i_aload, i_istore, i_astore, i_lstore, i_dstore, i_iinc, i_ii, i_iiz, i_ll, i_llz, i_lli, i_li, i_i, i_l, i_i2l, i_l2i, i_dup, i_dup2, i_dup2w, i_dupx1, i_pop, i_pop2, i_goto, i_ifc, i_icmp, i_getI, i_getL, i_getR, i_putI, i_putZ, i_putL, i_putR, i_aldI, i_aldB, i_aldL, i_aldD, i_astI, i_astL, i_astD, i_alen, i_ret, i_iret, i_zret, i_lret, i_fret, i_dret, i_aret, i_invS0, i_invV0, i_m2, i_m1, i_ml, i_obj, lk, lkp, stf1, stf2, Value.category, rV, xTo, lv_args, xCk, xCat, xRc, xAk, hg_S, hg_I, hg_J, hg_D, hg_R, hs_I, hs_J, hs_D, hs_R, uI_at, uJ_at, uD_at, uR_at, List.take_succ_cons, List.take_zero, List.drop_succ_cons, List.drop_zero, List.reverse_cons, List.reverse_nil, List.nil_append, List.cons_append, List.map_cons, List.map_nil, List.sum_cons, List.sum_nil, List.length_cons, List.length_nil, Option.toList_some, Option.toList_none, true_and, and_true, false_and, and_false, true_implies, false_implies, implies_true, not_true_eq_false, not_false_eq_true, ne_eq, if_true, if_false, Bool.and_true, Bool.true_and, decide_true, decide_false, reduceIte, reduceCtorEq, Bool.and_self, Bool.and_eq_true, decide_eq_true_eq, and_self, true_or, or_true, false_or, or_false, Nat.zero_add, Nat.add_zero, eq_self, Nat.reduceEqDiff, Nat.reduceLeDiff, Nat.reduceLT, Nat.reduceAdd, Nat.reduceSub, Nat.reduceMul, h1, i1_0, nI_dn (show 1 ≤ p by omega), hS, nI_inP (show p - 1 < cap by omega) hcap, nI_ix (show p - 1 < 2147483648 by omega), e31_118, B31_118]
    exact kk _ _ (AW_w h _ _)
theorem L31_72 {v cap p m : Nat} {ng : Int32} {nn : Nat} {I0 : xI} (hS : S v = (103, cap)) (hcap : cap < 2147483648) (hT : S 900800 = (107, 100)) (hO : S 900801 = (107, 100)) (hn : (ng = 0 ∧ nn = 0) ∨ (ng = 1 ∧ nn = 1)) (hm : m < 100) (hp : dg m + nn ≤ p) (hpc : p ≤ cap) (h : AW v cap I0 I)
    (kk : ∀ I' r, AW v cap I0 I' → Q (.ok (some (.int r))) (S, I', J, D, R) b) : xRun xT 31 72 [(0, .int (-(nI m))), (2, .ref v), (5, .int (nI p)), (6, .int ng)] [] (S, I, J, D, R) b Q := by
  have hd := dg_bd m
  have h9 : (-9 ≤ -(nI m)) = (m < 10) := by
    rw [show (-9 : Int32) = -(nI 9) from rfl, Int32.le_iff_toInt_le, neg_I (by decide), neg_I (by omega)]
    exact propext ⟨fun h => by omega, fun h => by omega⟩
  obtain ⟨d1, d2⟩ := dg_10 (m := m)
  have nn2 := neg_neg (nI m)
  have im : xIn (nI m) 100 = True := nI_inP hm (by decide)
  obtain ⟨x, hx⟩ : ∃ x, x = -(nI m) := ⟨_, rfl⟩
  obtain ⟨w, hw⟩ : ∃ w, w = nI m := ⟨_, rfl⟩
  rw [← hx] at h9 nn2 ⊢
  rw [← hw] at nn2 im
  have q1 := nI_dn (show 1 ≤ p by omega)
  have i1 : xIn (nI (p - 1)) cap = True := nI_inP (show p - 1 < cap by omega) hcap
  have x1 : ix (nI (p - 1)) = p - 1 := nI_ix (show p - 1 < 2147483648 by omega)
  have l1 := fun I => L31_104 (S := S) (I := I) (J := J) (D := D) (R := R) (b := b) (Q := Q) (p := p - 1) (ng := ng) (I0 := I0) hS hcap hn
  by_cases hc : m < 10
  · have e := d1 hc
    have l2 := fun I h => l1 I (by omega) (by omega) h kk
    obtain ⟨y, hy⟩ : ∃ y, y = nI p := ⟨_, rfl⟩
    obtain ⟨y1, hy1⟩ : ∃ y, y = nI (p - 1) := ⟨_, rfl⟩
    rw [← hy] at q1 ⊢
    rw [← hy1] at q1 i1 x1 l2
    rw [e31_72]
    simp only [B31_72]
    generalize (900801 : Nat) = t1 at hO ⊢
    generalize (900800 : Nat) = t0 at hT ⊢
    simp only [xSeq, i_push, i_load, i_iload, i_lload, i_dload, i_aload, i_istore, i_astore, i_lstore, i_dstore, i_iinc, i_ii, i_iiz, i_ll, i_llz, i_lli, i_li, i_i, i_l, i_i2l, i_l2i, i_dup, i_dup2, i_dup2w, i_dupx1, i_pop, i_pop2, i_goto, i_ifc, i_icmp, i_getI, i_getL, i_getR, i_putI, i_putZ, i_putL, i_putR, i_aldI, i_aldB, i_aldL, i_aldD, i_astI, i_astL, i_astD, i_alen, i_ret, i_iret, i_zret, i_lret, i_fret, i_dret, i_aret, i_invS0, i_invV0, i_m2, i_m1, i_ml, i_obj, lk, lkp, stf1, stf2, Value.category, rV, xTo, lv_args, xCk, xCat, xRc, xAk, hg_S, hg_I, hg_J, hg_D, hg_R, hs_I, hs_J, hs_D, hs_R, uI_at, uJ_at, uD_at, uR_at, List.take_succ_cons, List.take_zero, List.drop_succ_cons, List.drop_zero, List.reverse_cons, List.reverse_nil, List.nil_append, List.cons_append, List.map_cons, List.map_nil, List.sum_cons, List.sum_nil, List.length_cons, List.length_nil, Option.toList_some, Option.toList_none, true_and, and_true, false_and, and_false, true_implies, false_implies, implies_true, not_true_eq_false, not_false_eq_true, ne_eq, if_true, if_false, Bool.and_true, Bool.true_and, decide_true, decide_false, reduceIte, reduceCtorEq, Bool.and_self, Bool.and_eq_true, decide_eq_true_eq, and_self, true_or, or_true, false_or, or_false, Nat.zero_add, Nat.add_zero, eq_self, Nat.reduceEqDiff, Nat.reduceLeDiff, Nat.reduceLT, Nat.reduceAdd, Nat.reduceSub, Nat.reduceMul, -i_iinc]
    simp only [q1, hO, nn2, im, hS, i1, x1, h9, hc, true_and, and_true, false_and, and_false, true_implies, false_implies, implies_true, not_true_eq_false, not_false_eq_true, ne_eq, if_true, if_false, Bool.and_true, Bool.true_and, decide_true, decide_false, reduceIte, reduceCtorEq, Bool.and_self, Bool.and_eq_true, decide_eq_true_eq, and_self, true_or, or_true, false_or, or_false, Nat.zero_add, Nat.add_zero, eq_self, Nat.reduceEqDiff, Nat.reduceLeDiff, Nat.reduceLT, Nat.reduceAdd, Nat.reduceSub, Nat.reduceMul]
    exact l2 _ (AW_w h _ _)
  · have e := d2 (by omega) hm
    have q2 := nI_dn (show 1 ≤ p - 1 by omega)
    have i2 : xIn (nI (p - 1 - 1)) cap = True := nI_inP (show p - 1 - 1 < cap by omega) hcap
    have x2 : ix (nI (p - 1 - 1)) = p - 1 - 1 := nI_ix (show p - 1 - 1 < 2147483648 by omega)
    have l2 := fun I h => L31_104 (S := S) (I := I) (J := J) (D := D) (R := R) (b := b) (Q := Q) (p := p - 1 - 1) (ng := ng) (I0 := I0) hS hcap hn (by omega) (by omega) h kk
    obtain ⟨y, hy⟩ : ∃ y, y = nI p := ⟨_, rfl⟩
    obtain ⟨y1, hy1⟩ : ∃ y, y = nI (p - 1) := ⟨_, rfl⟩
    obtain ⟨y2, hy2⟩ : ∃ y, y = nI (p - 1 - 1) := ⟨_, rfl⟩
    rw [← hy] at q1 ⊢
    rw [← hy1] at q1 i1 x1 q2
    rw [← hy2] at q2 i2 x2 l2
    rw [e31_72]
    simp only [B31_72]
    generalize (900801 : Nat) = t1 at hO ⊢
    generalize (900800 : Nat) = t0 at hT ⊢
    simp only [xSeq, i_push, i_load, i_iload, i_lload, i_dload, i_aload, i_istore, i_astore, i_lstore, i_dstore, i_iinc, i_ii, i_iiz, i_ll, i_llz, i_lli, i_li, i_i, i_l, i_i2l, i_l2i, i_dup, i_dup2, i_dup2w, i_dupx1, i_pop, i_pop2, i_goto, i_ifc, i_icmp, i_getI, i_getL, i_getR, i_putI, i_putZ, i_putL, i_putR, i_aldI, i_aldB, i_aldL, i_aldD, i_astI, i_astL, i_astD, i_alen, i_ret, i_iret, i_zret, i_lret, i_fret, i_dret, i_aret, i_invS0, i_invV0, i_m2, i_m1, i_ml, i_obj, lk, lkp, stf1, stf2, Value.category, rV, xTo, lv_args, xCk, xCat, xRc, xAk, hg_S, hg_I, hg_J, hg_D, hg_R, hs_I, hs_J, hs_D, hs_R, uI_at, uJ_at, uD_at, uR_at, List.take_succ_cons, List.take_zero, List.drop_succ_cons, List.drop_zero, List.reverse_cons, List.reverse_nil, List.nil_append, List.cons_append, List.map_cons, List.map_nil, List.sum_cons, List.sum_nil, List.length_cons, List.length_nil, Option.toList_some, Option.toList_none, true_and, and_true, false_and, and_false, true_implies, false_implies, implies_true, not_true_eq_false, not_false_eq_true, ne_eq, if_true, if_false, Bool.and_true, Bool.true_and, decide_true, decide_false, reduceIte, reduceCtorEq, Bool.and_self, Bool.and_eq_true, decide_eq_true_eq, and_self, true_or, or_true, false_or, or_false, Nat.zero_add, Nat.add_zero, eq_self, Nat.reduceEqDiff, Nat.reduceLeDiff, Nat.reduceLT, Nat.reduceAdd, Nat.reduceSub, Nat.reduceMul, -i_iinc]
    simp only [q1, q2, hO, hT, nn2, im, hS, i1, x1, i2, x2, h9, hc, true_and, and_true, false_and, and_false, true_implies, false_implies, implies_true, not_true_eq_false, not_false_eq_true, ne_eq, if_true, if_false, Bool.and_true, Bool.true_and, decide_true, decide_false, reduceIte, reduceCtorEq, Bool.and_self, Bool.and_eq_true, decide_eq_true_eq, and_self, true_or, or_true, false_or, or_false, Nat.zero_add, Nat.add_zero, eq_self, Nat.reduceEqDiff, Nat.reduceLeDiff, Nat.reduceLT, Nat.reduceAdd, Nat.reduceSub, Nat.reduceMul]
    exact l2 _ (AW_w (AW_w h _ _) _ _)
theorem L31_22 {v cap : Nat} {ng : Int32} {nn : Nat} {I0 : xI} (hS : S v = (103, cap)) (hcap : cap < 2147483648) (hT : S 900800 = (107, 100)) (hO : S 900801 = (107, 100)) (hn : (ng = 0 ∧ nn = 0) ∨ (ng = 1 ∧ nn = 1))
    (kk : ∀ I' r, AW v cap I0 I' → Q (.ok (some (.int r))) (S, I', J, D, R) b) : ∀ (j m p : Nat) (I : xI), m ≤ 2147483648 → dg m ≤ 2 * j + 2 → dg m + nn ≤ p → p ≤ cap → AW v cap I0 I → xRun xT 31 22 [(0, .int (-(nI m))), (2, .ref v), (5, .int (nI p)), (6, .int ng)] [] (S, I, J, D, R) b Q := by
  intro j
  induction j with
  | zero =>
    intro m p I hm hd hp hpc h
    have hb := dg_bd m
    have hm2 : m < 100 := by
      refine Nat.lt_of_not_le (fun hle => ?_)
      have h1 := dg_100 hle hm
      have h2 := dg_bd (m / 100)
      omega
    have el : (-100 < -(nI m)) = (m < 100) := by rw [show (-100 : Int32) = -(nI 100) from rfl, neg_lt hm (by decide)]
    have l72 := L31_72 (S := S) (J := J) (D := D) (R := R) (b := b) (Q := Q) hS hcap hT hO hn hm2 hp hpc h kk
    obtain ⟨x, hx⟩ : ∃ x, x = -(nI m) := ⟨_, rfl⟩
    rw [← hx] at el l72 ⊢
    rw [e31_22]
    simp only [B31_22]
    generalize (900801 : Nat) = t1 at hO ⊢
    generalize (900800 : Nat) = t0 at hT ⊢
    simp only [xSeq, i_push, i_load, i_iload, i_lload, i_dload, i_aload, i_istore, i_astore, i_lstore, i_dstore, i_iinc, i_ii, i_iiz, i_ll, i_llz, i_lli, i_li, i_i, i_l, i_i2l, i_l2i, i_dup, i_dup2, i_dup2w, i_dupx1, i_pop, i_pop2, i_goto, i_ifc, i_icmp, i_getI, i_getL, i_getR, i_putI, i_putZ, i_putL, i_putR, i_aldI, i_aldB, i_aldL, i_aldD, i_astI, i_astL, i_astD, i_alen, i_ret, i_iret, i_zret, i_lret, i_fret, i_dret, i_aret, i_invS0, i_invV0, i_m2, i_m1, i_ml, i_obj, lk, lkp, stf1, stf2, Value.category, rV, xTo, lv_args, xCk, xCat, xRc, xAk, hg_S, hg_I, hg_J, hg_D, hg_R, hs_I, hs_J, hs_D, hs_R, uI_at, uJ_at, uD_at, uR_at, List.take_succ_cons, List.take_zero, List.drop_succ_cons, List.drop_zero, List.reverse_cons, List.reverse_nil, List.nil_append, List.cons_append, List.map_cons, List.map_nil, List.sum_cons, List.sum_nil, List.length_cons, List.length_nil, Option.toList_some, Option.toList_none, true_and, and_true, false_and, and_false, true_implies, false_implies, implies_true, not_true_eq_false, not_false_eq_true, ne_eq, if_true, if_false, Bool.and_true, Bool.true_and, decide_true, decide_false, reduceIte, reduceCtorEq, Bool.and_self, Bool.and_eq_true, decide_eq_true_eq, and_self, true_or, or_true, false_or, or_false, Nat.zero_add, Nat.add_zero, eq_self, Nat.reduceEqDiff, Nat.reduceLeDiff, Nat.reduceLT, Nat.reduceAdd, Nat.reduceSub, Nat.reduceMul, -i_iinc]
    simp only [el, hm2, true_and, and_true, false_and, and_false, true_implies, false_implies, implies_true, not_true_eq_false, not_false_eq_true, ne_eq, if_true, if_false, Bool.and_true, Bool.true_and, decide_true, decide_false, reduceIte, reduceCtorEq, Bool.and_self, Bool.and_eq_true, decide_eq_true_eq, and_self, true_or, or_true, false_or, or_false, Nat.zero_add, Nat.add_zero, eq_self, Nat.reduceEqDiff, Nat.reduceLeDiff, Nat.reduceLT, Nat.reduceAdd, Nat.reduceSub, Nat.reduceMul]
    exact l72
  | succ j ih =>
    intro m p I hm hd hp hpc h
    have hb := dg_bd m
    have el : (-100 < -(nI m)) = (m < 100) := by rw [show (-100 : Int32) = -(nI 100) from rfl, neg_lt hm (by decide)]
    by_cases hm2 : m < 100
    · have l72 := L31_72 (S := S) (J := J) (D := D) (R := R) (b := b) (Q := Q) hS hcap hT hO hn hm2 hp hpc h kk
      obtain ⟨x, hx⟩ : ∃ x, x = -(nI m) := ⟨_, rfl⟩
      rw [← hx] at el l72 ⊢
      rw [e31_22]
      simp only [B31_22]
      generalize (900801 : Nat) = t1 at hO ⊢
      generalize (900800 : Nat) = t0 at hT ⊢
      simp only [xSeq, i_push, i_load, i_iload, i_lload, i_dload, i_aload, i_istore, i_astore, i_lstore, i_dstore, i_iinc, i_ii, i_iiz, i_ll, i_llz, i_lli, i_li, i_i, i_l, i_i2l, i_l2i, i_dup, i_dup2, i_dup2w, i_dupx1, i_pop, i_pop2, i_goto, i_ifc, i_icmp, i_getI, i_getL, i_getR, i_putI, i_putZ, i_putL, i_putR, i_aldI, i_aldB, i_aldL, i_aldD, i_astI, i_astL, i_astD, i_alen, i_ret, i_iret, i_zret, i_lret, i_fret, i_dret, i_aret, i_invS0, i_invV0, i_m2, i_m1, i_ml, i_obj, lk, lkp, stf1, stf2, Value.category, rV, xTo, lv_args, xCk, xCat, xRc, xAk, hg_S, hg_I, hg_J, hg_D, hg_R, hs_I, hs_J, hs_D, hs_R, uI_at, uJ_at, uD_at, uR_at, List.take_succ_cons, List.take_zero, List.drop_succ_cons, List.drop_zero, List.reverse_cons, List.reverse_nil, List.nil_append, List.cons_append, List.map_cons, List.map_nil, List.sum_cons, List.sum_nil, List.length_cons, List.length_nil, Option.toList_some, Option.toList_none, true_and, and_true, false_and, and_false, true_implies, false_implies, implies_true, not_true_eq_false, not_false_eq_true, ne_eq, if_true, if_false, Bool.and_true, Bool.true_and, decide_true, decide_false, reduceIte, reduceCtorEq, Bool.and_self, Bool.and_eq_true, decide_eq_true_eq, and_self, true_or, or_true, false_or, or_false, Nat.zero_add, Nat.add_zero, eq_self, Nat.reduceEqDiff, Nat.reduceLeDiff, Nat.reduceLT, Nat.reduceAdd, Nat.reduceSub, Nat.reduceMul, -i_iinc]
      simp only [el, hm2, true_and, and_true, false_and, and_false, true_implies, false_implies, implies_true, not_true_eq_false, not_false_eq_true, ne_eq, if_true, if_false, Bool.and_true, Bool.true_and, decide_true, decide_false, reduceIte, reduceCtorEq, Bool.and_self, Bool.and_eq_true, decide_eq_true_eq, and_self, true_or, or_true, false_or, or_false, Nat.zero_add, Nat.add_zero, eq_self, Nat.reduceEqDiff, Nat.reduceLeDiff, Nat.reduceLT, Nat.reduceAdd, Nat.reduceSub, Nat.reduceMul]
      exact l72
    · have h1 := dg_100 (show 100 ≤ m by omega) hm
      have ed := neg_div hm
      have er := neg_rest (m := m)
      have nx := ih (m / 100) (p - 2)
      obtain ⟨x, hx⟩ : ∃ x, x = -(nI m) := ⟨_, rfl⟩
      obtain ⟨y, hy⟩ : ∃ y, y = -(nI (m / 100)) := ⟨_, rfl⟩
      rw [← hx] at el ed er ⊢
      rw [← hy] at ed er nx
      have hr : m % 100 < 100 := Nat.mod_lt _ (by decide)
      rw [e31_22]
      simp only [B31_22]
      generalize (900801 : Nat) = t1 at hO ⊢
      generalize (900800 : Nat) = t0 at hT ⊢
      simp only [xSeq, i_push, i_load, i_iload, i_lload, i_dload, i_aload, i_istore, i_astore, i_lstore, i_dstore, i_iinc, i_ii, i_iiz, i_ll, i_llz, i_lli, i_li, i_i, i_l, i_i2l, i_l2i, i_dup, i_dup2, i_dup2w, i_dupx1, i_pop, i_pop2, i_goto, i_ifc, i_icmp, i_getI, i_getL, i_getR, i_putI, i_putZ, i_putL, i_putR, i_aldI, i_aldB, i_aldL, i_aldD, i_astI, i_astL, i_astD, i_alen, i_ret, i_iret, i_zret, i_lret, i_fret, i_dret, i_aret, i_invS0, i_invV0, i_m2, i_m1, i_ml, i_obj, lk, lkp, stf1, stf2, Value.category, rV, xTo, lv_args, xCk, xCat, xRc, xAk, hg_S, hg_I, hg_J, hg_D, hg_R, hs_I, hs_J, hs_D, hs_R, uI_at, uJ_at, uD_at, uR_at, List.take_succ_cons, List.take_zero, List.drop_succ_cons, List.drop_zero, List.reverse_cons, List.reverse_nil, List.nil_append, List.cons_append, List.map_cons, List.map_nil, List.sum_cons, List.sum_nil, List.length_cons, List.length_nil, Option.toList_some, Option.toList_none, true_and, and_true, false_and, and_false, true_implies, false_implies, implies_true, not_true_eq_false, not_false_eq_true, ne_eq, if_true, if_false, Bool.and_true, Bool.true_and, decide_true, decide_false, reduceIte, reduceCtorEq, Bool.and_self, Bool.and_eq_true, decide_eq_true_eq, and_self, true_or, or_true, false_or, or_false, Nat.zero_add, Nat.add_zero, eq_self, Nat.reduceEqDiff, Nat.reduceLeDiff, Nat.reduceLT, Nat.reduceAdd, Nat.reduceSub, Nat.reduceMul, -i_iinc]
      simp only [true_and, and_true, false_and, and_false, true_implies, false_implies, implies_true, not_true_eq_false, not_false_eq_true, ne_eq, if_true, if_false, Bool.and_true, Bool.true_and, decide_true, decide_false, reduceIte, reduceCtorEq, Bool.and_self, Bool.and_eq_true, decide_eq_true_eq, and_self, true_or, or_true, false_or, or_false, Nat.zero_add, Nat.add_zero, eq_self, Nat.reduceEqDiff, Nat.reduceLeDiff, Nat.reduceLT, Nat.reduceAdd, Nat.reduceSub, Nat.reduceMul, el, hm2, show ((100 : Int32) = 0) = False from eq_false (by decide), ed, er, nI_dn (show 1 ≤ p by omega), nI_dn (show 1 ≤ p - 1 by omega), hO, hT, hS, nI_inP hr (by decide), nI_inP (show p - 1 < cap by omega) hcap, nI_ix (show p - 1 < 2147483648 by omega), nI_inP (show p - 1 - 1 < cap by omega) hcap, nI_ix (show p - 1 - 1 < 2147483648 by omega)]
      rw [show p - 1 - 1 = p - 2 by omega]
      exact nx _ (by omega) (by omega) (by omega) (by omega) (AW_w (AW_w h _ _) _ _)
theorem L31 {v cap p : Nat} {x : Int32} (hS : S v = (103, cap)) (hcap : cap < 2147483648) (hT : S 900800 = (107, 100)) (hO : S 900801 = (107, 100)) (hp : nch x ≤ p) (hpc : p ≤ cap) (h : ∀ k, k < cap → bF (I v k))
    (kk : ∀ I' r, AW v cap I I' → Q (.ok (some (.int r))) (S, I', J, D, R) b) : xRun xT 31 0 [(0, .int x), (1, .int (nI p)), (2, .ref v)] [] (S, I, J, D, R) b Q := by
  obtain ⟨m, hm, e, hx⟩ := num_cases x
  have hb := dg_bd m
  have hc : nch x = (if x < 0 then 1 else 0) + dg m := by unfold nch; rw [e]
  have h0 : AW v cap I I := ⟨h, fun _ _ _ => rfl⟩
  rcases hx with ⟨h1, h2, h3⟩ | ⟨h1, h2, h3⟩
  · rw [if_pos h1] at hc
    have l22 := L31_22 (S := S) (J := J) (D := D) (R := R) (b := b) (Q := Q) (ng := 1) (nn := 1) hS hcap hT hO (Or.inr ⟨rfl, rfl⟩) kk 4 m p I hm (by omega) (by omega) hpc h0
    have h4 : (0 ≤ x) = False := eq_false (Int32.not_le.mpr h1)
    rw [← h2] at l22
    rw [e31_0]
    simp only [B31_0, xSeq, i_push, i_load, i_iload, i_lload, i_dload, i_aload, i_istore, i_astore, i_lstore, i_dstore, i_iinc, i_ii, i_iiz, i_ll, i_llz, i_lli, i_li, i_i, i_l, i_i2l, i_l2i, i_dup, i_dup2, i_dup2w, i_dupx1, i_pop, i_pop2, i_goto, i_ifc, i_icmp, i_getI, i_getL, i_getR, i_putI, i_putZ, i_putL, i_putR, i_aldI, i_aldB, i_aldL, i_aldD, i_astI, i_astL, i_astD, i_alen, i_ret, i_iret, i_zret, i_lret, i_fret, i_dret, i_aret, i_invS0, i_invV0, i_m2, i_m1, i_ml, i_obj, lk, lkp, stf1, stf2, Value.category, rV, xTo, lv_args, xCk, xCat, xRc, xAk, hg_S, hg_I, hg_J, hg_D, hg_R, hs_I, hs_J, hs_D, hs_R, uI_at, uJ_at, uD_at, uR_at, List.take_succ_cons, List.take_zero, List.drop_succ_cons, List.drop_zero, List.reverse_cons, List.reverse_nil, List.nil_append, List.cons_append, List.map_cons, List.map_nil, List.sum_cons, List.sum_nil, List.length_cons, List.length_nil, Option.toList_some, Option.toList_none, true_and, and_true, false_and, and_false, true_implies, false_implies, implies_true, not_true_eq_false, not_false_eq_true, ne_eq, if_true, if_false, Bool.and_true, Bool.true_and, decide_true, decide_false, reduceIte, reduceCtorEq, Bool.and_self, Bool.and_eq_true, decide_eq_true_eq, and_self, true_or, or_true, false_or, or_false, Nat.zero_add, Nat.add_zero, eq_self, Nat.reduceEqDiff, Nat.reduceLeDiff, Nat.reduceLT, Nat.reduceAdd, Nat.reduceSub, Nat.reduceMul, h4, e31_12, B31_12, i1_0]
    exact l22
  · rw [if_neg h1] at hc
    have l22 := L31_22 (S := S) (J := J) (D := D) (R := R) (b := b) (Q := Q) (ng := 0) (nn := 0) hS hcap hT hO (Or.inl ⟨rfl, rfl⟩) kk 4 m p I hm (by omega) (by omega) hpc h0
    have h4 : (0 ≤ x) = True := eq_true (Int32.not_lt.mp h1)
    rw [← h2] at l22
    rw [e31_0]
    simp only [B31_0, xSeq, i_push, i_load, i_iload, i_lload, i_dload, i_aload, i_istore, i_astore, i_lstore, i_dstore, i_iinc, i_ii, i_iiz, i_ll, i_llz, i_lli, i_li, i_i, i_l, i_i2l, i_l2i, i_dup, i_dup2, i_dup2w, i_dupx1, i_pop, i_pop2, i_goto, i_ifc, i_icmp, i_getI, i_getL, i_getR, i_putI, i_putZ, i_putL, i_putR, i_aldI, i_aldB, i_aldL, i_aldD, i_astI, i_astL, i_astD, i_alen, i_ret, i_iret, i_zret, i_lret, i_fret, i_dret, i_aret, i_invS0, i_invV0, i_m2, i_m1, i_ml, i_obj, lk, lkp, stf1, stf2, Value.category, rV, xTo, lv_args, xCk, xCat, xRc, xAk, hg_S, hg_I, hg_J, hg_D, hg_R, hs_I, hs_J, hs_D, hs_R, uI_at, uJ_at, uD_at, uR_at, List.take_succ_cons, List.take_zero, List.drop_succ_cons, List.drop_zero, List.reverse_cons, List.reverse_nil, List.nil_append, List.cons_append, List.map_cons, List.map_nil, List.sum_cons, List.sum_nil, List.length_cons, List.length_nil, Option.toList_some, Option.toList_none, true_and, and_true, false_and, and_false, true_implies, false_implies, implies_true, not_true_eq_false, not_false_eq_true, ne_eq, if_true, if_false, Bool.and_true, Bool.true_and, decide_true, decide_false, reduceIte, reduceCtorEq, Bool.and_self, Bool.and_eq_true, decide_eq_true_eq, and_self, true_or, or_true, false_or, or_false, Nat.zero_add, Nat.add_zero, eq_self, Nat.reduceEqDiff, Nat.reduceLeDiff, Nat.reduceLT, Nat.reduceAdd, Nat.reduceSub, Nat.reduceMul, h4, e31_11, B31_11, e31_12, B31_12]
    exact l22
end
/-! ===== numbers in the output ===== -/
section
variable {S0 : xS} {I0 : xI} {J0 : xJ} {R0 : xR} {S : xS} {I : xI} {J : xJ} {D : xDb} {R : xR} {b : Nat × Nat} {Q : xQ}
theorem L29 (hL0 : LC S0 R0) (hT0 : S0 900800 = (107, 100)) (hO0 : S0 900801 = (107, 100)) {f v cap cnt : Nat} {x : Int32} (h : OS S0 I0 J0 R0 f v cap cnt S I J R) (hn : cnt < 900) (hf : f < 900000) (b1 : 1 ≤ b.1) (b2 : 5000 ≤ b.2)
    (kk : ∀ S' I' J' D' R' f' v' cap' b', OS S0 I0 J0 R0 f' v' cap' (cnt + nch x) S' I' J' R' → f' ≤ f + 1 → Q (.ok (some (.ref 140))) (S', I', J', D', R') b') :
    xRun xT 29 0 [(0, .ref 140), (1, .int x)] [] (S, I, J, D, R) b Q := by
  have hL : LC S R := LC_g hL0 h.2.2.2.1 h.2.2.2.2.1
  have hcap := h.1.2.2.2.2.2.1
  have hc16 := h.1.2.2.2.2.2.2.1
  have hx := nch_bd x
  rw [e29_0]
  simp only [B29_0, xSeq, i_push, i_load, i_iload, i_lload, i_dload, i_aload, i_istore, i_astore, i_lstore, i_dstore, i_iinc, i_ii, i_iiz, i_ll, i_llz, i_lli, i_li, i_i, i_l, i_i2l, i_l2i, i_dup, i_dup2, i_dup2w, i_dupx1, i_pop, i_pop2, i_goto, i_ifc, i_icmp, i_getI, i_getL, i_getR, i_putI, i_putZ, i_putL, i_putR, i_aldI, i_aldB, i_aldL, i_aldD, i_astI, i_astL, i_astD, i_alen, i_ret, i_iret, i_zret, i_lret, i_fret, i_dret, i_aret, i_invS0, i_invV0, i_m2, i_m1, i_ml, i_obj, lk, lkp, stf1, stf2, Value.category, rV, xTo, lv_args, xCk, xCat, xRc, xAk, hg_S, hg_I, hg_J, hg_D, hg_R, hs_I, hs_J, hs_D, hs_R, uI_at, uJ_at, uD_at, uR_at, List.take_succ_cons, List.take_zero, List.drop_succ_cons, List.drop_zero, List.reverse_cons, List.reverse_nil, List.nil_append, List.cons_append, List.map_cons, List.map_nil, List.sum_cons, List.sum_nil, List.length_cons, List.length_nil, Option.toList_some, Option.toList_none, true_and, and_true, false_and, and_false, true_implies, false_implies, implies_true, not_true_eq_false, not_false_eq_true, ne_eq, if_true, if_false, Bool.and_true, Bool.true_and, decide_true, decide_false, reduceIte, reduceCtorEq, Bool.and_self, Bool.and_eq_true, decide_eq_true_eq, and_self, true_or, or_true, false_or, or_false, Nat.zero_add, Nat.add_zero, eq_self, Nat.reduceEqDiff, Nat.reduceLeDiff, Nat.reduceLT, Nat.reduceAdd, Nat.reduceSub, Nat.reduceMul, LC_out hL, h.1.2.2.2.1, R30, nI_add]
  refine w_invVA (mc := 1) (ms := 5000) b1 b2 rfl (by simp only [xSeq, i_push, i_load, i_iload, i_lload, i_dload, i_aload, i_istore, i_astore, i_lstore, i_dstore, i_iinc, i_ii, i_iiz, i_ll, i_llz, i_lli, i_li, i_i, i_l, i_i2l, i_l2i, i_dup, i_dup2, i_dup2w, i_dupx1, i_pop, i_pop2, i_goto, i_ifc, i_icmp, i_getI, i_getL, i_getR, i_putI, i_putZ, i_putL, i_putR, i_aldI, i_aldB, i_aldL, i_aldD, i_astI, i_astL, i_astD, i_alen, i_ret, i_iret, i_zret, i_lret, i_fret, i_dret, i_aret, i_invS0, i_invV0, i_m2, i_m1, i_ml, i_obj, lk, lkp, stf1, stf2, Value.category, rV, xTo, lv_args, xCk, xCat, xRc, xAk, hg_S, hg_I, hg_J, hg_D, hg_R, hs_I, hs_J, hs_D, hs_R, uI_at, uJ_at, uD_at, uR_at, List.take_succ_cons, List.take_zero, List.drop_succ_cons, List.drop_zero, List.reverse_cons, List.reverse_nil, List.nil_append, List.cons_append, List.map_cons, List.map_nil, List.sum_cons, List.sum_nil, List.length_cons, List.length_nil, Option.toList_some, Option.toList_none, true_and, and_true, false_and, and_false, true_implies, false_implies, implies_true, not_true_eq_false, not_false_eq_true, ne_eq, if_true, if_false, Bool.and_true, Bool.true_and, decide_true, decide_false, reduceIte, reduceCtorEq, Bool.and_self, Bool.and_eq_true, decide_eq_true_eq, and_self, true_or, or_true, false_or, or_false, Nat.zero_add, Nat.add_zero, eq_self, Nat.reduceEqDiff, Nat.reduceLeDiff, Nat.reduceLT, Nat.reduceAdd, Nat.reduceSub, Nat.reduceMul, LC_out hL]) ?_
  simp only [xSeq, i_push, i_load, i_iload, i_lload, i_dload, i_aload, i_istore, i_astore, i_lstore, i_dstore, i_iinc, i_ii, i_iiz, i_ll, i_llz, i_lli, i_li, i_i, i_l, i_i2l, i_l2i, i_dup, i_dup2, i_dup2w, i_dupx1, i_pop, i_pop2, i_goto, i_ifc, i_icmp, i_getI, i_getL, i_getR, i_putI, i_putZ, i_putL, i_putR, i_aldI, i_aldB, i_aldL, i_aldD, i_astI, i_astL, i_astD, i_alen, i_ret, i_iret, i_zret, i_lret, i_fret, i_dret, i_aret, i_invS0, i_invV0, i_m2, i_m1, i_ml, i_obj, lk, lkp, stf1, stf2, Value.category, rV, xTo, lv_args, xCk, xCat, xRc, xAk, hg_S, hg_I, hg_J, hg_D, hg_R, hs_I, hs_J, hs_D, hs_R, uI_at, uJ_at, uD_at, uR_at, List.take_succ_cons, List.take_zero, List.drop_succ_cons, List.drop_zero, List.reverse_cons, List.reverse_nil, List.nil_append, List.cons_append, List.map_cons, List.map_nil, List.sum_cons, List.sum_nil, List.length_cons, List.length_nil, Option.toList_some, Option.toList_none, true_and, and_true, false_and, and_false, true_implies, false_implies, implies_true, not_true_eq_false, not_false_eq_true, ne_eq, if_true, if_false, Bool.and_true, Bool.true_and, decide_true, decide_false, reduceIte, reduceCtorEq, Bool.and_self, Bool.and_eq_true, decide_eq_true_eq, and_self, true_or, or_true, false_or, or_false, Nat.zero_add, Nat.add_zero, eq_self, Nat.reduceEqDiff, Nat.reduceLeDiff, Nat.reduceLT, Nat.reduceAdd, Nat.reduceSub, Nat.reduceMul]
  refine L18 hL h (by omega) (by omega) hf (by decide) (by decide) (fun S' I' J' D' R' f' v' cap' b' h' hf' hc' => ?_)
  have hL' : LC S' R' := LC_g hL0 h'.2.2.2.1 h'.2.2.2.2.1
  have h1' := h'
  obtain ⟨⟨o1, o2, o3, o4, o5, o6, o7, o8, o9⟩, o10, o11, f1, f2, f3, f4⟩ := h1'
  have t0 : S' 900800 = (107, 100) := (f1 _ (Or.inr (by decide))).trans hT0
  have t1 : S' 900801 = (107, 100) := (f1 _ (Or.inr (by decide))).trans hO0
  simp only [xSeq, i_push, i_load, i_iload, i_lload, i_dload, i_aload, i_istore, i_astore, i_lstore, i_dstore, i_iinc, i_ii, i_iiz, i_ll, i_llz, i_lli, i_li, i_i, i_l, i_i2l, i_l2i, i_dup, i_dup2, i_dup2w, i_dupx1, i_pop, i_pop2, i_goto, i_ifc, i_icmp, i_getI, i_getL, i_getR, i_putI, i_putZ, i_putL, i_putR, i_aldI, i_aldB, i_aldL, i_aldD, i_astI, i_astL, i_astD, i_alen, i_ret, i_iret, i_zret, i_lret, i_fret, i_dret, i_aret, i_invS0, i_invV0, i_m2, i_m1, i_ml, i_obj, lk, lkp, stf1, stf2, Value.category, rV, xTo, lv_args, xCk, xCat, xRc, xAk, hg_S, hg_I, hg_J, hg_D, hg_R, hs_I, hs_J, hs_D, hs_R, uI_at, uJ_at, uD_at, uR_at, List.take_succ_cons, List.take_zero, List.drop_succ_cons, List.drop_zero, List.reverse_cons, List.reverse_nil, List.nil_append, List.cons_append, List.map_cons, List.map_nil, List.sum_cons, List.sum_nil, List.length_cons, List.length_nil, Option.toList_some, Option.toList_none, true_and, and_true, false_and, and_false, true_implies, false_implies, implies_true, not_true_eq_false, not_false_eq_true, ne_eq, if_true, if_false, Bool.and_true, Bool.true_and, decide_true, decide_false, reduceIte, reduceCtorEq, Bool.and_self, Bool.and_eq_true, decide_eq_true_eq, and_self, true_or, or_true, false_or, or_false, Nat.zero_add, Nat.add_zero, eq_self, Nat.reduceEqDiff, Nat.reduceLeDiff, Nat.reduceLT, Nat.reduceAdd, Nat.reduceSub, Nat.reduceMul, R22 hL' o3, i1_0, LC_out hL', o1]
  refine L31 (v := v') (cap := cap') (p := cnt + nch x) (x := x) o2 (by omega) t0 t1 (by omega) hc' o9 (fun I'' r hw => ?_)
  obtain ⟨w1, w2⟩ := hw
  simp only [xSeq, i_push, i_load, i_iload, i_lload, i_dload, i_aload, i_istore, i_astore, i_lstore, i_dstore, i_iinc, i_ii, i_iiz, i_ll, i_llz, i_lli, i_li, i_i, i_l, i_i2l, i_l2i, i_dup, i_dup2, i_dup2w, i_dupx1, i_pop, i_pop2, i_goto, i_ifc, i_icmp, i_getI, i_getL, i_getR, i_putI, i_putZ, i_putL, i_putR, i_aldI, i_aldB, i_aldL, i_aldD, i_astI, i_astL, i_astD, i_alen, i_ret, i_iret, i_zret, i_lret, i_fret, i_dret, i_aret, i_invS0, i_invV0, i_m2, i_m1, i_ml, i_obj, lk, lkp, stf1, stf2, Value.category, rV, xTo, lv_args, xCk, xCat, xRc, xAk, hg_S, hg_I, hg_J, hg_D, hg_R, hs_I, hs_J, hs_D, hs_R, uI_at, uJ_at, uD_at, uR_at, List.take_succ_cons, List.take_zero, List.drop_succ_cons, List.drop_zero, List.reverse_cons, List.reverse_nil, List.nil_append, List.cons_append, List.map_cons, List.map_nil, List.sum_cons, List.sum_nil, List.length_cons, List.length_nil, Option.toList_some, Option.toList_none, true_and, and_true, false_and, and_false, true_implies, false_implies, implies_true, not_true_eq_false, not_false_eq_true, ne_eq, if_true, if_false, Bool.and_true, Bool.true_and, decide_true, decide_false, reduceIte, reduceCtorEq, Bool.and_self, Bool.and_eq_true, decide_eq_true_eq, and_self, true_or, or_true, false_or, or_false, Nat.zero_add, Nat.add_zero, eq_self, Nat.reduceEqDiff, Nat.reduceLeDiff, Nat.reduceLT, Nat.reduceAdd, Nat.reduceSub, Nat.reduceMul, e29_48, B29_48, LC_out hL']
  refine kk _ _ _ _ _ f' v' cap' _ ⟨⟨o1, o2, ?_, ?_, o5, hc', o7, o8, fun k hk => ?_⟩, o10, o11, f1, f2, fun o j g g2 g3 => ?_, f4⟩ hf'
  · rw [uI_at, if_neg (by omega), w2 _ _ (by omega)]
    exact o3
  · rw [uI_at, if_pos ⟨rfl, rfl⟩]
  · rw [uI_at, if_neg (by omega)]
    exact w1 k hk
  · rw [uI_at, if_neg (by omega), w2 _ _ (by omega)]
    exact f3 o j g g2 g3
theorem L28 (hL0 : LC S0 R0) (hT0 : S0 900800 = (107, 100)) (hO0 : S0 900801 = (107, 100)) {f v cap cnt : Nat} {x : Int32} (h : OS S0 I0 J0 R0 f v cap cnt S I J R) (hn : cnt < 900) (hf : f < 900000) (b1 : 1 ≤ b.1) (b2 : 5000 ≤ b.2)
    (kk : ∀ S' I' J' D' R' f' v' cap' b', OS S0 I0 J0 R0 f' v' cap' (cnt + nch x) S' I' J' R' → f' ≤ f + 1 → Q (.ok (some (.ref 140))) (S', I', J', D', R') b') :
    xRun xT 28 0 [(0, .ref 140), (1, .int x)] [] (S, I, J, D, R) b Q := by
  have hL : LC S R := LC_g hL0 h.2.2.2.1 h.2.2.2.2.1
  rw [e28_0]
  simp only [B28_0, xSeq, i_push, i_load, i_iload, i_lload, i_dload, i_aload, i_istore, i_astore, i_lstore, i_dstore, i_iinc, i_ii, i_iiz, i_ll, i_llz, i_lli, i_li, i_i, i_l, i_i2l, i_l2i, i_dup, i_dup2, i_dup2w, i_dupx1, i_pop, i_pop2, i_goto, i_ifc, i_icmp, i_getI, i_getL, i_getR, i_putI, i_putZ, i_putL, i_putR, i_aldI, i_aldB, i_aldL, i_aldD, i_astI, i_astL, i_astD, i_alen, i_ret, i_iret, i_zret, i_lret, i_fret, i_dret, i_aret, i_invS0, i_invV0, i_m2, i_m1, i_ml, i_obj, lk, lkp, stf1, stf2, Value.category, rV, xTo, lv_args, xCk, xCat, xRc, xAk, hg_S, hg_I, hg_J, hg_D, hg_R, hs_I, hs_J, hs_D, hs_R, uI_at, uJ_at, uD_at, uR_at, List.take_succ_cons, List.take_zero, List.drop_succ_cons, List.drop_zero, List.reverse_cons, List.reverse_nil, List.nil_append, List.cons_append, List.map_cons, List.map_nil, List.sum_cons, List.sum_nil, List.length_cons, List.length_nil, Option.toList_some, Option.toList_none, true_and, and_true, false_and, and_false, true_implies, false_implies, implies_true, not_true_eq_false, not_false_eq_true, ne_eq, if_true, if_false, Bool.and_true, Bool.true_and, decide_true, decide_false, reduceIte, reduceCtorEq, Bool.and_self, Bool.and_eq_true, decide_eq_true_eq, and_self, true_or, or_true, false_or, or_false, Nat.zero_add, Nat.add_zero, eq_self, Nat.reduceEqDiff, Nat.reduceLeDiff, Nat.reduceLT, Nat.reduceAdd, Nat.reduceSub, Nat.reduceMul]
  refine w_invVA (mc := 1) (ms := 5000) b1 b2 rfl (by simp only [xSeq, i_push, i_load, i_iload, i_lload, i_dload, i_aload, i_istore, i_astore, i_lstore, i_dstore, i_iinc, i_ii, i_iiz, i_ll, i_llz, i_lli, i_li, i_i, i_l, i_i2l, i_l2i, i_dup, i_dup2, i_dup2w, i_dupx1, i_pop, i_pop2, i_goto, i_ifc, i_icmp, i_getI, i_getL, i_getR, i_putI, i_putZ, i_putL, i_putR, i_aldI, i_aldB, i_aldL, i_aldD, i_astI, i_astL, i_astD, i_alen, i_ret, i_iret, i_zret, i_lret, i_fret, i_dret, i_aret, i_invS0, i_invV0, i_m2, i_m1, i_ml, i_obj, lk, lkp, stf1, stf2, Value.category, rV, xTo, lv_args, xCk, xCat, xRc, xAk, hg_S, hg_I, hg_J, hg_D, hg_R, hs_I, hs_J, hs_D, hs_R, uI_at, uJ_at, uD_at, uR_at, List.take_succ_cons, List.take_zero, List.drop_succ_cons, List.drop_zero, List.reverse_cons, List.reverse_nil, List.nil_append, List.cons_append, List.map_cons, List.map_nil, List.sum_cons, List.sum_nil, List.length_cons, List.length_nil, Option.toList_some, Option.toList_none, true_and, and_true, false_and, and_false, true_implies, false_implies, implies_true, not_true_eq_false, not_false_eq_true, ne_eq, if_true, if_false, Bool.and_true, Bool.true_and, decide_true, decide_false, reduceIte, reduceCtorEq, Bool.and_self, Bool.and_eq_true, decide_eq_true_eq, and_self, true_or, or_true, false_or, or_false, Nat.zero_add, Nat.add_zero, eq_self, Nat.reduceEqDiff, Nat.reduceLeDiff, Nat.reduceLT, Nat.reduceAdd, Nat.reduceSub, Nat.reduceMul, LC_out hL]) ?_
  simp only [xSeq, i_push, i_load, i_iload, i_lload, i_dload, i_aload, i_istore, i_astore, i_lstore, i_dstore, i_iinc, i_ii, i_iiz, i_ll, i_llz, i_lli, i_li, i_i, i_l, i_i2l, i_l2i, i_dup, i_dup2, i_dup2w, i_dupx1, i_pop, i_pop2, i_goto, i_ifc, i_icmp, i_getI, i_getL, i_getR, i_putI, i_putZ, i_putL, i_putR, i_aldI, i_aldB, i_aldL, i_aldD, i_astI, i_astL, i_astD, i_alen, i_ret, i_iret, i_zret, i_lret, i_fret, i_dret, i_aret, i_invS0, i_invV0, i_m2, i_m1, i_ml, i_obj, lk, lkp, stf1, stf2, Value.category, rV, xTo, lv_args, xCk, xCat, xRc, xAk, hg_S, hg_I, hg_J, hg_D, hg_R, hs_I, hs_J, hs_D, hs_R, uI_at, uJ_at, uD_at, uR_at, List.take_succ_cons, List.take_zero, List.drop_succ_cons, List.drop_zero, List.reverse_cons, List.reverse_nil, List.nil_append, List.cons_append, List.map_cons, List.map_nil, List.sum_cons, List.sum_nil, List.length_cons, List.length_nil, Option.toList_some, Option.toList_none, true_and, and_true, false_and, and_false, true_implies, false_implies, implies_true, not_true_eq_false, not_false_eq_true, ne_eq, if_true, if_false, Bool.and_true, Bool.true_and, decide_true, decide_false, reduceIte, reduceCtorEq, Bool.and_self, Bool.and_eq_true, decide_eq_true_eq, and_self, true_or, or_true, false_or, or_false, Nat.zero_add, Nat.add_zero, eq_self, Nat.reduceEqDiff, Nat.reduceLeDiff, Nat.reduceLT, Nat.reduceAdd, Nat.reduceSub, Nat.reduceMul]
  refine L29 hL0 hT0 hO0 h hn hf (by decide) (by decide) (fun S' I' J' D' R' f' v' cap' b' h' hf' => ?_)
  simp only [xSeq, i_push, i_load, i_iload, i_lload, i_dload, i_aload, i_istore, i_astore, i_lstore, i_dstore, i_iinc, i_ii, i_iiz, i_ll, i_llz, i_lli, i_li, i_i, i_l, i_i2l, i_l2i, i_dup, i_dup2, i_dup2w, i_dupx1, i_pop, i_pop2, i_goto, i_ifc, i_icmp, i_getI, i_getL, i_getR, i_putI, i_putZ, i_putL, i_putR, i_aldI, i_aldB, i_aldL, i_aldD, i_astI, i_astL, i_astD, i_alen, i_ret, i_iret, i_zret, i_lret, i_fret, i_dret, i_aret, i_invS0, i_invV0, i_m2, i_m1, i_ml, i_obj, lk, lkp, stf1, stf2, Value.category, rV, xTo, lv_args, xCk, xCat, xRc, xAk, hg_S, hg_I, hg_J, hg_D, hg_R, hs_I, hs_J, hs_D, hs_R, uI_at, uJ_at, uD_at, uR_at, List.take_succ_cons, List.take_zero, List.drop_succ_cons, List.drop_zero, List.reverse_cons, List.reverse_nil, List.nil_append, List.cons_append, List.map_cons, List.map_nil, List.sum_cons, List.sum_nil, List.length_cons, List.length_nil, Option.toList_some, Option.toList_none, true_and, and_true, false_and, and_false, true_implies, false_implies, implies_true, not_true_eq_false, not_false_eq_true, ne_eq, if_true, if_false, Bool.and_true, Bool.true_and, decide_true, decide_false, reduceIte, reduceCtorEq, Bool.and_self, Bool.and_eq_true, decide_eq_true_eq, and_self, true_or, or_true, false_or, or_false, Nat.zero_add, Nat.add_zero, eq_self, Nat.reduceEqDiff, Nat.reduceLeDiff, Nat.reduceLT, Nat.reduceAdd, Nat.reduceSub, Nat.reduceMul]
  exact kk S' I' J' D' R' f' v' cap' _ h' hf'
/-- the model writes a number -/
theorem lN_div {a c : Nat} (ha : a < 2 ^ 63) (h0 : 0 < c) (hc : c < 2 ^ 63) : lN a / lN c = lN (a / c) := by
  apply Int64.toInt_inj.mp
  have hd := Nat.div_le_self a c
  rw [Int64.toInt_div, pk_lT ha, pk_lT hc, pk_lT (by omega), Int.tdiv_eq_ediv_of_nonneg (by omega)]
  rw [← Int.natCast_ediv]
  obtain ⟨q, hq⟩ : ∃ q, q = a / c := ⟨_, rfl⟩
  rw [← hq] at hd ⊢
  exact Int.bmod_eq_of_le (by omega) (by omega)
theorem lg_le {a c : Nat} (ha : a < 2 ^ 63) (hc : c < 2 ^ 63) : (lg_cmp (lN a) (lN c) ≤ 0) = (a ≤ c) := by
  have h1 : (lN a > lN c) = (c < a) := by
    show (lN c < lN a) = (c < a)
    rw [Int64.lt_iff_toInt_lt, pk_lT ha, pk_lT hc]
    exact propext ⟨fun h => by omega, fun h => by omega⟩
  unfold lg_cmp
  by_cases h : c < a
  · rw [if_pos (by rw [h1]; exact h)]
    exact propext ⟨fun h2 => absurd h2 (by decide), fun h2 => by omega⟩
  · rw [if_neg (by rw [h1]; exact h)]
    split
    · exact propext ⟨fun _ => by omega, fun _ => by decide⟩
    · exact propext ⟨fun _ => by omega, fun _ => by decide⟩
theorem lN_n0 {c : Nat} (h0 : 0 < c) (hc : c < 2 ^ 63) : (lN c = 0) = False := eq_false (fun e => by
  have h := pk_lT hc
  rw [e] at h
  have h2 : (0 : Int) = (c : Int) := h
  omega)
theorem L329_41 {m : Nat} (hL : LM S R) (hm : m ≤ 2147483648) {I0 : xI} {N : Nat} (hN : N ≤ 800)
    (kk : ∀ I, OM I0 N I → Q (.ok none) (S, I, J, D, R) b) : ∀ (j k : Nat) (I : xI), j ≤ 10 → k + j = N → OM I0 k I → xRun xT 329 41 [(0, .ref 200), (2, .long (lN m)), (4, .long (lN (10 ^ j / 10)))] [] (S, I, J, D, R) b Q
  | 0, k, I, hj, hk, h => by
    have e : k = N := by omega
    subst e
    rw [e329_41]
    simp only [B329_41, xSeq, i_push, i_load, i_iload, i_lload, i_dload, i_aload, i_istore, i_astore, i_lstore, i_dstore, i_iinc, i_ii, i_iiz, i_ll, i_llz, i_lli, i_li, i_i, i_l, i_i2l, i_l2i, i_dup, i_dup2, i_dup2w, i_dupx1, i_pop, i_pop2, i_goto, i_ifc, i_icmp, i_getI, i_getL, i_getR, i_putI, i_putZ, i_putL, i_putR, i_aldI, i_aldB, i_aldL, i_aldD, i_astI, i_astL, i_astD, i_alen, i_ret, i_iret, i_zret, i_lret, i_fret, i_dret, i_aret, i_invS0, i_invV0, i_m2, i_m1, i_ml, i_obj, lk, lkp, stf1, stf2, Value.category, rV, xTo, lv_args, xCk, xCat, xRc, xAk, hg_S, hg_I, hg_J, hg_D, hg_R, hs_I, hs_J, hs_D, hs_R, uI_at, uJ_at, uD_at, uR_at, List.take_succ_cons, List.take_zero, List.drop_succ_cons, List.drop_zero, List.reverse_cons, List.reverse_nil, List.nil_append, List.cons_append, List.map_cons, List.map_nil, List.sum_cons, List.sum_nil, List.length_cons, List.length_nil, Option.toList_some, Option.toList_none, true_and, and_true, false_and, and_false, true_implies, false_implies, implies_true, not_true_eq_false, not_false_eq_true, ne_eq, if_true, if_false, Bool.and_true, Bool.true_and, decide_true, decide_false, reduceIte, reduceCtorEq, Bool.and_self, Bool.and_eq_true, decide_eq_true_eq, and_self, true_or, or_true, false_or, or_false, Nat.zero_add, Nat.add_zero, eq_self, Nat.reduceEqDiff, Nat.reduceLeDiff, Nat.reduceLT, Nat.reduceAdd, Nat.reduceSub, Nat.reduceMul, show (lg_cmp (lN (10 ^ 0 / 10)) 0 ≤ 0) = True from eq_true (by decide), e329_76, B329_76]
    exact kk I h
  | j + 1, k, I, hj, hk, h => by
    have hp : 10 ^ j ≤ 10 ^ 9 := Nat.pow_le_pow_right (by decide) (by omega)
    have hp0 : 0 < 10 ^ j := Nat.pow_pos (by decide)
    have hp2 : (10 : Nat) ^ 9 = 1000000000 := rfl
    have eu : 10 ^ (j + 1) / 10 = 10 ^ j := by rw [Nat.pow_succ, Nat.mul_div_cancel _ (by decide)]
    obtain ⟨u, hu⟩ : ∃ u, u = 10 ^ j := ⟨_, rfl⟩
    rw [eu]
    have e1 : (lg_cmp (lN u) 0 ≤ 0) = False := by
      rw [show (0 : Int64) = lN 0 from rfl, lg_le (by omega) (by decide)]
      exact eq_false (by omega)
    have e2 : lN u / 10 = lN (u / 10) := by rw [show (10 : Int64) = lN 10 from rfl, lN_div (by omega) (by decide) (by decide)]
    have e3 := lN_n0 (c := u) (by omega) (by omega)
    have nx := fun I => L329_41 hL hm hN kk j (k + 1) I (by omega) (by omega)
    rw [← hu] at nx ⊢
    rw [e329_41]
    simp only [B329_41, xSeq, i_push, i_load, i_iload, i_lload, i_dload, i_aload, i_istore, i_astore, i_lstore, i_dstore, i_iinc, i_ii, i_iiz, i_ll, i_llz, i_lli, i_li, i_i, i_l, i_i2l, i_l2i, i_dup, i_dup2, i_dup2w, i_dupx1, i_pop, i_pop2, i_goto, i_ifc, i_icmp, i_getI, i_getL, i_getR, i_putI, i_putZ, i_putL, i_putR, i_aldI, i_aldB, i_aldL, i_aldD, i_astI, i_astL, i_astD, i_alen, i_ret, i_iret, i_zret, i_lret, i_fret, i_dret, i_aret, i_invS0, i_invV0, i_m2, i_m1, i_ml, i_obj, lk, lkp, stf1, stf2, Value.category, rV, xTo, lv_args, xCk, xCat, xRc, xAk, hg_S, hg_I, hg_J, hg_D, hg_R, hs_I, hs_J, hs_D, hs_R, uI_at, uJ_at, uD_at, uR_at, List.take_succ_cons, List.take_zero, List.drop_succ_cons, List.drop_zero, List.reverse_cons, List.reverse_nil, List.nil_append, List.cons_append, List.map_cons, List.map_nil, List.sum_cons, List.sum_nil, List.length_cons, List.length_nil, Option.toList_some, Option.toList_none, true_and, and_true, false_and, and_false, true_implies, false_implies, implies_true, not_true_eq_false, not_false_eq_true, ne_eq, if_true, if_false, Bool.and_true, Bool.true_and, decide_true, decide_false, reduceIte, reduceCtorEq, Bool.and_self, Bool.and_eq_true, decide_eq_true_eq, and_self, true_or, or_true, false_or, or_false, Nat.zero_add, Nat.add_zero, eq_self, Nat.reduceEqDiff, Nat.reduceLeDiff, Nat.reduceLT, Nat.reduceAdd, Nat.reduceSub, Nat.reduceMul, e1, e3, LM_out hL, show ((10 : Int64) = 0) = False from eq_false (by decide)]
    rw [R327 hL h.1 (by omega)]
    simp only [xSeq, i_push, i_load, i_iload, i_lload, i_dload, i_aload, i_istore, i_astore, i_lstore, i_dstore, i_iinc, i_ii, i_iiz, i_ll, i_llz, i_lli, i_li, i_i, i_l, i_i2l, i_l2i, i_dup, i_dup2, i_dup2w, i_dupx1, i_pop, i_pop2, i_goto, i_ifc, i_icmp, i_getI, i_getL, i_getR, i_putI, i_putZ, i_putL, i_putR, i_aldI, i_aldB, i_aldL, i_aldD, i_astI, i_astL, i_astD, i_alen, i_ret, i_iret, i_zret, i_lret, i_fret, i_dret, i_aret, i_invS0, i_invV0, i_m2, i_m1, i_ml, i_obj, lk, lkp, stf1, stf2, Value.category, rV, xTo, lv_args, xCk, xCat, xRc, xAk, hg_S, hg_I, hg_J, hg_D, hg_R, hs_I, hs_J, hs_D, hs_R, uI_at, uJ_at, uD_at, uR_at, List.take_succ_cons, List.take_zero, List.drop_succ_cons, List.drop_zero, List.reverse_cons, List.reverse_nil, List.nil_append, List.cons_append, List.map_cons, List.map_nil, List.sum_cons, List.sum_nil, List.length_cons, List.length_nil, Option.toList_some, Option.toList_none, true_and, and_true, false_and, and_false, true_implies, false_implies, implies_true, not_true_eq_false, not_false_eq_true, ne_eq, if_true, if_false, Bool.and_true, Bool.true_and, decide_true, decide_false, reduceIte, reduceCtorEq, Bool.and_self, Bool.and_eq_true, decide_eq_true_eq, and_self, true_or, or_true, false_or, or_false, Nat.zero_add, Nat.add_zero, eq_self, Nat.reduceEqDiff, Nat.reduceLeDiff, Nat.reduceLT, Nat.reduceAdd, Nat.reduceSub, Nat.reduceMul, e2]
    exact ⟨by decide, nx _ (OM_w h)⟩
theorem L329_19 {m : Nat} (hL : LM S R) (hm : m ≤ 2147483648) {I0 : xI} {N : Nat} (hN : N ≤ 800)
    (kk : ∀ I, OM I0 N I → Q (.ok none) (S, I, J, D, R) b) {k : Nat} {I : xI} (hk : k + dg m = N) (h : OM I0 k I) : ∀ (j i : Nat), i + 1 + j = dg m → xRun xT 329 19 [(0, .ref 200), (2, .long (lN m)), (4, .long (lN (10 ^ i)))] [] (S, I, J, D, R) b Q
  | 0, i, hi => by
    have hb := dg_bd m
    have hp : 10 ^ i ≤ 10 ^ 9 := Nat.pow_le_pow_right (by decide) (by omega)
    have hp0 : 0 < 10 ^ i := Nat.pow_pos (by decide)
    have hp2 : (10 : Nat) ^ 9 = 1000000000 := rfl
    have eu : 10 ^ (i + 1) / 10 = 10 ^ i := by rw [Nat.pow_succ, Nat.mul_div_cancel _ (by decide)]
    have hmi : m < 10 ^ (i + 1) := by
      by_cases h9 : i + 1 ≤ 9
      · have h1 := dg_pow hm h9
        refine Nat.lt_of_not_le (fun hle => ?_)
        have := h1.mp (Or.inl hle)
        omega
      · have : i = 9 := by omega
        subst this
        have h3 : (10 : Nat) ^ (9 + 1) = 10000000000 := rfl
        omega
    have hdv : m / 10 ^ i ≤ 9 := by
      have h2 : m / 10 ^ i < 10 := by
        rw [Nat.div_lt_iff_lt_mul hp0, Nat.mul_comm, ← Nat.pow_succ]
        exact hmi
      omega
    have l41 := L329_41 (S := S) (J := J) (D := D) (R := R) (b := b) (Q := Q) hL hm hN kk (i + 1) k I (by omega) (by omega) h
    rw [eu] at l41
    have hdl := Nat.div_le_self m (10 ^ i)
    obtain ⟨u, hu⟩ : ∃ u, u = 10 ^ i := ⟨_, rfl⟩
    rw [← hu] at l41 hdv hdl ⊢
    have e1 : lN m / lN u = lN (m / u) := lN_div (by omega) (by omega) (by omega)
    have e2 : (lg_cmp (lN (m / u)) 9 ≤ 0) = True := by
      rw [show (9 : Int64) = lN 9 from rfl, lg_le (by omega) (by decide)]
      exact eq_true hdv
    have e3 := lN_n0 (c := u) (by omega) (by omega)
    rw [e329_19]
    simp only [B329_19, xSeq, i_push, i_load, i_iload, i_lload, i_dload, i_aload, i_istore, i_astore, i_lstore, i_dstore, i_iinc, i_ii, i_iiz, i_ll, i_llz, i_lli, i_li, i_i, i_l, i_i2l, i_l2i, i_dup, i_dup2, i_dup2w, i_dupx1, i_pop, i_pop2, i_goto, i_ifc, i_icmp, i_getI, i_getL, i_getR, i_putI, i_putZ, i_putL, i_putR, i_aldI, i_aldB, i_aldL, i_aldD, i_astI, i_astL, i_astD, i_alen, i_ret, i_iret, i_zret, i_lret, i_fret, i_dret, i_aret, i_invS0, i_invV0, i_m2, i_m1, i_ml, i_obj, lk, lkp, stf1, stf2, Value.category, rV, xTo, lv_args, xCk, xCat, xRc, xAk, hg_S, hg_I, hg_J, hg_D, hg_R, hs_I, hs_J, hs_D, hs_R, uI_at, uJ_at, uD_at, uR_at, List.take_succ_cons, List.take_zero, List.drop_succ_cons, List.drop_zero, List.reverse_cons, List.reverse_nil, List.nil_append, List.cons_append, List.map_cons, List.map_nil, List.sum_cons, List.sum_nil, List.length_cons, List.length_nil, Option.toList_some, Option.toList_none, true_and, and_true, false_and, and_false, true_implies, false_implies, implies_true, not_true_eq_false, not_false_eq_true, ne_eq, if_true, if_false, Bool.and_true, Bool.true_and, decide_true, decide_false, reduceIte, reduceCtorEq, Bool.and_self, Bool.and_eq_true, decide_eq_true_eq, and_self, true_or, or_true, false_or, or_false, Nat.zero_add, Nat.add_zero, eq_self, Nat.reduceEqDiff, Nat.reduceLeDiff, Nat.reduceLT, Nat.reduceAdd, Nat.reduceSub, Nat.reduceMul, e3, e1, e2]
    exact l41
  | j + 1, i, hi => by
    have hb := dg_bd m
    have hp : 10 ^ i ≤ 10 ^ 8 := Nat.pow_le_pow_right (by decide) (by omega)
    have hp0 : 0 < 10 ^ i := Nat.pow_pos (by decide)
    have hp2 : (10 : Nat) ^ 8 = 100000000 := rfl
    have hmi : 10 ^ (i + 1) ≤ m := by
      rcases (dg_pow hm (i := i + 1) (by omega)).mpr (by omega) with h1 | h1
      · exact h1
      · omega
    have hdv : ¬ m / 10 ^ i ≤ 9 := by
      have h2 : 10 ≤ m / 10 ^ i := by
        rw [Nat.le_div_iff_mul_le hp0, Nat.mul_comm, ← Nat.pow_succ]
        exact hmi
      omega
    have nx := L329_19 hL hm hN kk hk h j (i + 1) (by omega)
    rw [Nat.pow_succ] at nx
    have hdl := Nat.div_le_self m (10 ^ i)
    obtain ⟨u, hu⟩ : ∃ u, u = 10 ^ i := ⟨_, rfl⟩
    rw [← hu] at nx hdv hdl ⊢
    have e1 : lN m / lN u = lN (m / u) := lN_div (by omega) (by omega) (by omega)
    have e2 : (lg_cmp (lN (m / u)) 9 ≤ 0) = False := by
      rw [show (9 : Int64) = lN 9 from rfl, lg_le (by omega) (by decide)]
      exact eq_false hdv
    have e3 := lN_n0 (c := u) (by omega) (by omega)
    have e4 : lN u * 10 = lN (u * 10) := by rw [show (10 : Int64) = lN 10 from rfl, lN_mul]
    rw [e329_19]
    simp only [B329_19, xSeq, i_push, i_load, i_iload, i_lload, i_dload, i_aload, i_istore, i_astore, i_lstore, i_dstore, i_iinc, i_ii, i_iiz, i_ll, i_llz, i_lli, i_li, i_i, i_l, i_i2l, i_l2i, i_dup, i_dup2, i_dup2w, i_dupx1, i_pop, i_pop2, i_goto, i_ifc, i_icmp, i_getI, i_getL, i_getR, i_putI, i_putZ, i_putL, i_putR, i_aldI, i_aldB, i_aldL, i_aldD, i_astI, i_astL, i_astD, i_alen, i_ret, i_iret, i_zret, i_lret, i_fret, i_dret, i_aret, i_invS0, i_invV0, i_m2, i_m1, i_ml, i_obj, lk, lkp, stf1, stf2, Value.category, rV, xTo, lv_args, xCk, xCat, xRc, xAk, hg_S, hg_I, hg_J, hg_D, hg_R, hs_I, hs_J, hs_D, hs_R, uI_at, uJ_at, uD_at, uR_at, List.take_succ_cons, List.take_zero, List.drop_succ_cons, List.drop_zero, List.reverse_cons, List.reverse_nil, List.nil_append, List.cons_append, List.map_cons, List.map_nil, List.sum_cons, List.sum_nil, List.length_cons, List.length_nil, Option.toList_some, Option.toList_none, true_and, and_true, false_and, and_false, true_implies, false_implies, implies_true, not_true_eq_false, not_false_eq_true, ne_eq, if_true, if_false, Bool.and_true, Bool.true_and, decide_true, decide_false, reduceIte, reduceCtorEq, Bool.and_self, Bool.and_eq_true, decide_eq_true_eq, and_self, true_or, or_true, false_or, or_false, Nat.zero_add, Nat.add_zero, eq_self, Nat.reduceEqDiff, Nat.reduceLeDiff, Nat.reduceLT, Nat.reduceAdd, Nat.reduceSub, Nat.reduceMul, e3, e1, e2, e4]
    exact nx
theorem abs_n {m : Nat} (hm : m ≤ 2147483648) : (0 < m → jAbsL (-(nI m)).toInt64 = lN m) ∧ (m < 2147483648 → jAbsL (nI m).toInt64 = lN m) := by
  have hz : ((0 : Int64)).toInt = 0 := rfl
  refine ⟨fun h0 => ?_, fun h => ?_⟩
  · have e : (-(nI m)).toInt64 = -(lN m) := by
      apply Int64.toInt_inj.mp
      rw [Int32.toInt_toInt64, neg_I hm, Int64.toInt_neg, pk_lT (by omega)]
      exact (Int.bmod_eq_of_le (by omega) (by omega)).symm
    unfold jAbsL
    rw [e, if_neg (by
      rw [Int64.lt_iff_toInt_lt, hz, Int64.toInt_neg, pk_lT (by omega), Int.bmod_eq_of_le (by omega) (by omega)]
      omega)]
    exact Int64.neg_neg
  · unfold jAbsL
    rw [nI_l (by omega)]
    split
    · rfl
    · next h2 =>
      have h3 : m = 0 := by
        rw [Int64.lt_iff_toInt_lt, hz, pk_lT (by omega)] at h2
        omega
      subst h3
      rfl
theorem L329 {x : Int32} (hL : LM S R) {I0 : xI} {k : Nat} (h : OM I0 k I) (hk : k + nch x ≤ 800)
    (kk : ∀ I, OM I0 (k + nch x) I → Q (.ok none) (S, I, J, D, R) b) : xRun xT 329 0 [(0, .ref 200), (1, .int x)] [] (S, I, J, D, R) b Q := by
  obtain ⟨m, hm, e, hx⟩ := num_cases x
  have hb := dg_bd m
  have hc : nch x = (if x < 0 then 1 else 0) + dg m := by unfold nch; rw [e]
  obtain ⟨a1, a2⟩ := abs_n hm
  rcases hx with ⟨h1, h2, h3⟩ | ⟨h1, h2, h3⟩
  · rw [if_pos h1] at hc
    have h4 : (0 ≤ x) = False := eq_false (Int32.not_le.mpr h1)
    have ea := a1 h3
    rw [← h2] at ea
    have l19 := fun I h => L329_19 (S := S) (J := J) (D := D) (R := R) (b := b) (Q := Q) (m := m) (I0 := I0) (N := k + nch x) (k := k + 1) (I := I) hL hm hk kk (by omega) h (dg m - 1) 0 (by omega)
    rw [Nat.pow_zero] at l19
    rw [e329_0]
    simp only [B329_0, xSeq, i_push, i_load, i_iload, i_lload, i_dload, i_aload, i_istore, i_astore, i_lstore, i_dstore, i_iinc, i_ii, i_iiz, i_ll, i_llz, i_lli, i_li, i_i, i_l, i_i2l, i_l2i, i_dup, i_dup2, i_dup2w, i_dupx1, i_pop, i_pop2, i_goto, i_ifc, i_icmp, i_getI, i_getL, i_getR, i_putI, i_putZ, i_putL, i_putR, i_aldI, i_aldB, i_aldL, i_aldD, i_astI, i_astL, i_astD, i_alen, i_ret, i_iret, i_zret, i_lret, i_fret, i_dret, i_aret, i_invS0, i_invV0, i_m2, i_m1, i_ml, i_obj, lk, lkp, stf1, stf2, Value.category, rV, xTo, lv_args, xCk, xCat, xRc, xAk, hg_S, hg_I, hg_J, hg_D, hg_R, hs_I, hs_J, hs_D, hs_R, uI_at, uJ_at, uD_at, uR_at, List.take_succ_cons, List.take_zero, List.drop_succ_cons, List.drop_zero, List.reverse_cons, List.reverse_nil, List.nil_append, List.cons_append, List.map_cons, List.map_nil, List.sum_cons, List.sum_nil, List.length_cons, List.length_nil, Option.toList_some, Option.toList_none, true_and, and_true, false_and, and_false, true_implies, false_implies, implies_true, not_true_eq_false, not_false_eq_true, ne_eq, if_true, if_false, Bool.and_true, Bool.true_and, decide_true, decide_false, reduceIte, reduceCtorEq, Bool.and_self, Bool.and_eq_true, decide_eq_true_eq, and_self, true_or, or_true, false_or, or_false, Nat.zero_add, Nat.add_zero, eq_self, Nat.reduceEqDiff, Nat.reduceLeDiff, Nat.reduceLT, Nat.reduceAdd, Nat.reduceSub, Nat.reduceMul, h4, LM_out hL]
    rw [R327 hL h.1 (by omega)]
    simp only [xSeq, i_push, i_load, i_iload, i_lload, i_dload, i_aload, i_istore, i_astore, i_lstore, i_dstore, i_iinc, i_ii, i_iiz, i_ll, i_llz, i_lli, i_li, i_i, i_l, i_i2l, i_l2i, i_dup, i_dup2, i_dup2w, i_dupx1, i_pop, i_pop2, i_goto, i_ifc, i_icmp, i_getI, i_getL, i_getR, i_putI, i_putZ, i_putL, i_putR, i_aldI, i_aldB, i_aldL, i_aldD, i_astI, i_astL, i_astD, i_alen, i_ret, i_iret, i_zret, i_lret, i_fret, i_dret, i_aret, i_invS0, i_invV0, i_m2, i_m1, i_ml, i_obj, lk, lkp, stf1, stf2, Value.category, rV, xTo, lv_args, xCk, xCat, xRc, xAk, hg_S, hg_I, hg_J, hg_D, hg_R, hs_I, hs_J, hs_D, hs_R, uI_at, uJ_at, uD_at, uR_at, List.take_succ_cons, List.take_zero, List.drop_succ_cons, List.drop_zero, List.reverse_cons, List.reverse_nil, List.nil_append, List.cons_append, List.map_cons, List.map_nil, List.sum_cons, List.sum_nil, List.length_cons, List.length_nil, Option.toList_some, Option.toList_none, true_and, and_true, false_and, and_false, true_implies, false_implies, implies_true, not_true_eq_false, not_false_eq_true, ne_eq, if_true, if_false, Bool.and_true, Bool.true_and, decide_true, decide_false, reduceIte, reduceCtorEq, Bool.and_self, Bool.and_eq_true, decide_eq_true_eq, and_self, true_or, or_true, false_or, or_false, Nat.zero_add, Nat.add_zero, eq_self, Nat.reduceEqDiff, Nat.reduceLeDiff, Nat.reduceLT, Nat.reduceAdd, Nat.reduceSub, Nat.reduceMul, e329_10, B329_10, ea]
    exact l19 _ (OM_w h)
  · rw [if_neg h1] at hc
    have h4 : (0 ≤ x) = True := eq_true (Int32.not_lt.mp h1)
    have ea := a2 h3
    rw [← h2] at ea
    have l19 := L329_19 (S := S) (J := J) (D := D) (R := R) (b := b) (Q := Q) (m := m) (I0 := I0) (N := k + nch x) (k := k) (I := I) hL hm hk kk (by omega) h (dg m - 1) 0 (by omega)
    rw [Nat.pow_zero] at l19
    rw [e329_0]
    simp only [B329_0, xSeq, i_push, i_load, i_iload, i_lload, i_dload, i_aload, i_istore, i_astore, i_lstore, i_dstore, i_iinc, i_ii, i_iiz, i_ll, i_llz, i_lli, i_li, i_i, i_l, i_i2l, i_l2i, i_dup, i_dup2, i_dup2w, i_dupx1, i_pop, i_pop2, i_goto, i_ifc, i_icmp, i_getI, i_getL, i_getR, i_putI, i_putZ, i_putL, i_putR, i_aldI, i_aldB, i_aldL, i_aldD, i_astI, i_astL, i_astD, i_alen, i_ret, i_iret, i_zret, i_lret, i_fret, i_dret, i_aret, i_invS0, i_invV0, i_m2, i_m1, i_ml, i_obj, lk, lkp, stf1, stf2, Value.category, rV, xTo, lv_args, xCk, xCat, xRc, xAk, hg_S, hg_I, hg_J, hg_D, hg_R, hs_I, hs_J, hs_D, hs_R, uI_at, uJ_at, uD_at, uR_at, List.take_succ_cons, List.take_zero, List.drop_succ_cons, List.drop_zero, List.reverse_cons, List.reverse_nil, List.nil_append, List.cons_append, List.map_cons, List.map_nil, List.sum_cons, List.sum_nil, List.length_cons, List.length_nil, Option.toList_some, Option.toList_none, true_and, and_true, false_and, and_false, true_implies, false_implies, implies_true, not_true_eq_false, not_false_eq_true, ne_eq, if_true, if_false, Bool.and_true, Bool.true_and, decide_true, decide_false, reduceIte, reduceCtorEq, Bool.and_self, Bool.and_eq_true, decide_eq_true_eq, and_self, true_or, or_true, false_or, or_false, Nat.zero_add, Nat.add_zero, eq_self, Nat.reduceEqDiff, Nat.reduceLeDiff, Nat.reduceLT, Nat.reduceAdd, Nat.reduceSub, Nat.reduceMul, h4, e329_10, B329_10, ea]
    exact l19
end
