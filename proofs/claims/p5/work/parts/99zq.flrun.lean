/-! ===== the lab's flood runs ===== -/
section
/-- a chain in a row -/
def Ch (f : Nat → Int32) : Int32 → List Nat → Prop
  | h, [] => h = -1
  | h, c :: l => h = nI c ∧ Ch f (f c) l
theorem Ch_up {f : Nat → Int32} {o : Nat} {v : Int32} : ∀ (l : List Nat) (h : Int32), o ∉ l → Ch f h l → Ch (fun k => if k = o then v else f k) h l
  | [], h, _, hc => hc
  | c :: l, h, hn, hc => by
    obtain ⟨h1, h2⟩ := hc
    have hne : ¬ c = o := fun e => hn (e ▸ List.mem_cons_self)
    refine ⟨h1, ?_⟩
    simp only [hne, if_false]
    exact Ch_up l _ (fun hm => hn (List.mem_cons_of_mem _ hm)) h2
/-- chains of what waits, marks of what is visited -/
def HF (n : Nat) (vis : Nat → Bool) (B : Nat → List Nat) (I0 I : xI) : Prop :=
  (∀ l, l < 289 → Ch (I 152) (I 137 l) (B l)) ∧ (∀ c, c < 2 ^ n → (vis c = false → I 152 c = -2) ∧ (vis c = true → I 152 c ≠ -2)) ∧ ∀ o k, o ≠ 137 → o ≠ 152 → I o k = I0 o k
variable {S : xS} {I : xI} {J : xJ} {D : xDb} {R : xR} {b : Nat × Nat} {Q : xQ} {E : Nat → Int32} {n a u : Nat} {vis done : Nat → Bool} {L : Nat → Nat} {B : Nat → List Nat} {ht : Nat}
theorem HF_XL {I0 : xI} (h : HF n vis B I0 I) (hX : XL n E S I0 R) : XL n E S I R := by
  obtain ⟨x1, x2, x3, x4, x5, x6, x7, x8⟩ := hX
  have f := h.2.2
  refine ⟨x1, ?_, ?_, ?_, ?_, ?_, ?_, fun c hc => ?_⟩
  · rw [f _ _ (by decide) (by decide)]; exact x2
  · rw [f _ _ (by decide) (by decide)]; exact x3
  · rw [f _ _ (by decide) (by decide)]; exact x4
  · rw [f _ _ (by decide) (by decide)]; exact x5
  · rw [f _ _ (by decide) (by decide)]; exact x6
  · intro i hi
    rw [f _ _ (by decide) (by decide), f _ _ (by decide) (by decide), f _ _ (by decide) (by decide)]
    exact x7 i hi
  · rw [f _ _ (by decide) (by decide)]; exact x8 c hc
theorem n1_n2 : ((-1 : Int32) = -2) = False := eq_false (by decide)
theorem nI_n2 {k : Nat} (hk : k < 2147483648) : (nI k = -2) = False := eq_false (fun e => by
  have h := nI_toInt hk
  rw [e] at h
  exact absurd h (by
    show ¬ (-2 : Int) = (k : Int)
    omega))
theorem nI_n1 {k : Nat} (hk : k < 2147483648) : (nI k = -1) = False := eq_false (fun e => by
  have h := nI_toInt hk
  rw [e] at h
  exact absurd h (by
    show ¬ (-1 : Int) = (k : Int)
    omega))
theorem HF_new {I0 : xI} (hf : HF n vis B I0 I) {o l : Nat} (hl : l < 289) (hv : vis o = false) (hB : ∀ l c, c ∈ B l → vis c = true) (hk : ∀ l c, c ∈ B l → c < 65536) :
    HF n (fun k => if k = o then true else vis k) (fun k => if k = l then o :: B k else B k) I0 (uI (uI I 152 o (I 137 l)) 137 l (nI o)) := by
  obtain ⟨h1, h2, h3⟩ := hf
  have ne : I 137 l ≠ -2 := by
    have := h1 l hl
    cases hb : B l with
    | nil =>
      rw [hb] at this
      have e : I 137 l = -1 := this
      rw [e]
      decide
    | cons c q =>
      rw [hb] at this
      have e : I 137 l = nI c := this.1
      have := hk l c (by rw [hb]; exact List.mem_cons_self)
      rw [e]
      intro e2
      exact (iff_of_eq (nI_n2 (show c < 2147483648 by omega))).mp e2
  have nb : ∀ l, o ∉ B l := fun l hm => by
    have := hB l o hm
    rw [hv] at this
    exact absurd this (by decide)
  have er : (uI (uI I 152 o (I 137 l)) 137 l (nI o)) 152 = fun k => if k = o then I 137 l else I 152 k := by
    funext k
    rw [uI_at, if_neg (fun e => absurd e.1 (by decide)), uI_at]
    by_cases e : k = o
    · rw [if_pos ⟨rfl, e⟩, if_pos e]
    · rw [if_neg (fun h => e h.2), if_neg e]
  refine ⟨fun k hk => ?_, fun c hc => ?_, fun p k p1 p2 => ?_⟩
  · rw [er]
    by_cases e : k = l
    · subst e
      simp only [if_true]
      rw [uI_at, if_pos ⟨rfl, rfl⟩]
      refine ⟨rfl, ?_⟩
      simp only [if_true]
      exact Ch_up _ _ (nb k) (h1 k hk)
    · simp only [e, if_false]
      rw [uI_at, if_neg (fun h => e h.2), uI_at, if_neg (fun h => absurd h.1 (by decide))]
      exact Ch_up _ _ (nb k) (h1 k hk)
  · rw [er]
    by_cases e : c = o
    · simp only [e, if_true]
      exact ⟨fun h => absurd h (by decide), fun _ => ne⟩
    · simp only [e, if_false]
      exact h2 c hc
  · rw [uI_at, if_neg (fun e => p1 e.1), uI_at, if_neg (fun e => p2 e.1)]
    exact h3 p k p1 p2
theorem L115_2 {I0 : xI} (hL : LC S R) (hX0 : XL n E S I0 R) (hE : EB E n) (hu : u < 2 ^ n) (hth : ht ≤ 288)
    (kk : ∀ I vis L B, FS (eN E) n a u vis done L B ht → vis u = true → L u = ht → (∀ t, t < n → vis (u ^^^ 2 ^ t) = true) → HF n vis B I0 I → Q (.ok none) (S, I, J, D, R) b) :
    ∀ (j i : Nat) (I : xI) (vis : Nat → Bool) (L : Nat → Nat) (B : Nat → List Nat), i + j = n → FS (eN E) n a u vis done L B ht → vis u = true → L u = ht → (∀ t, t < i → vis (u ^^^ 2 ^ t) = true) → HF n vis B I0 I →
      xRun xT 115 2 [(0, .ref 130), (1, .int (nI u)), (2, .int (nI ht)), (3, .int (nI i))] [] (S, I, J, D, R) b Q
  | 0, i, I, vis, L, B, hi, hS, hv, hl, hn, hf => by
    have hn16 := hE.1
    have hX := HF_XL hf hX0
    have e : i = n := by omega
    subst e
    rw [e115_2]
    simp only [B115_2, xSeq, i_push, i_load, i_iload, i_lload, i_dload, i_aload, i_istore, i_astore, i_lstore, i_dstore, i_iinc, i_ii, i_iiz, i_ll, i_llz, i_lli, i_li, i_i, i_l, i_i2l, i_l2i, i_dup, i_dup2, i_dup2w, i_dupx1, i_pop, i_pop2, i_goto, i_ifc, i_icmp, i_getI, i_getL, i_getR, i_putI, i_putZ, i_putL, i_putR, i_aldI, i_aldB, i_aldL, i_aldD, i_astI, i_astL, i_astD, i_alen, i_ret, i_iret, i_zret, i_lret, i_fret, i_dret, i_aret, i_invS0, i_invV0, i_m2, i_m1, i_ml, i_obj, lk, lkp, stf1, stf2, Value.category, rV, xTo, lv_args, xCk, xCat, xRc, xAk, hg_S, hg_I, hg_J, hg_D, hg_R, hs_I, hs_J, hs_D, hs_R, uI_at, uJ_at, uD_at, uR_at, List.take_succ_cons, List.take_zero, List.drop_succ_cons, List.drop_zero, List.reverse_cons, List.reverse_nil, List.nil_append, List.cons_append, List.map_cons, List.map_nil, List.sum_cons, List.sum_nil, List.length_cons, List.length_nil, Option.toList_some, Option.toList_none, true_and, and_true, false_and, and_false, true_implies, false_implies, implies_true, not_true_eq_false, not_false_eq_true, ne_eq, if_true, if_false, Bool.and_true, Bool.true_and, decide_true, decide_false, reduceIte, reduceCtorEq, Bool.and_self, Bool.and_eq_true, decide_eq_true_eq, and_self, true_or, or_true, false_or, or_false, Nat.zero_add, Nat.add_zero, eq_self, Nat.reduceEqDiff, Nat.reduceLeDiff, Nat.reduceLT, Nat.reduceAdd, Nat.reduceSub, Nat.reduceMul, LC_out hL, hX.2.2.1, nI_leP (show i < 2147483648 by omega) (show i < 2147483648 by omega), Nat.le_refl, e115_75, B115_75]
    exact kk I vis L B hS hv hl hn hf
  | j + 1, i, I, vis, L, B, hi, hS, hv, hl, hn, hf => by
    have hp := pow16 hE.1
    have hn16 := hE.1
    have hX := HF_XL hf hX0
    have hx : u ^^^ 2 ^ i < 2 ^ n := Nat.xor_lt_two_pow hu (Nat.pow_lt_pow_right (by decide) (by omega))
    obtain ⟨e1, -, e3, -⟩ := eN_ok hE hx
    have hm : max ht (eN E (u ^^^ 2 ^ i)) ≤ 288 := Nat.max_le.mpr ⟨hth, e3⟩
    have he : ∀ k, k < 2 ^ n → eN E k ≤ 288 := fun k hk => (eN_ok hE hk).2.2.1
    obtain ⟨f1, f2⟩ := hf.2.1 _ hx
    have nx := fun I vis L B => L115_2 hL hX0 hE hu hth kk j (i + 1) I vis L B (by omega)
    have hw : (I 151 (u ^^^ 2 ^ i)) = E (u ^^^ 2 ^ i) := hX.2.2.2.2.2.2.2 _ hx
    rw [e115_2]
    simp only [B115_2, xSeq, i_push, i_load, i_iload, i_lload, i_dload, i_aload, i_istore, i_astore, i_lstore, i_dstore, i_iinc, i_ii, i_iiz, i_ll, i_llz, i_lli, i_li, i_i, i_l, i_i2l, i_l2i, i_dup, i_dup2, i_dup2w, i_dupx1, i_pop, i_pop2, i_goto, i_ifc, i_icmp, i_getI, i_getL, i_getR, i_putI, i_putZ, i_putL, i_putR, i_aldI, i_aldB, i_aldL, i_aldD, i_astI, i_astL, i_astD, i_alen, i_ret, i_iret, i_zret, i_lret, i_fret, i_dret, i_aret, i_invS0, i_invV0, i_m2, i_m1, i_ml, i_obj, lk, lkp, stf1, stf2, Value.category, rV, xTo, lv_args, xCk, xCat, xRc, xAk, hg_S, hg_I, hg_J, hg_D, hg_R, hs_I, hs_J, hs_D, hs_R, uI_at, uJ_at, uD_at, uR_at, List.take_succ_cons, List.take_zero, List.drop_succ_cons, List.drop_zero, List.reverse_cons, List.reverse_nil, List.nil_append, List.cons_append, List.map_cons, List.map_nil, List.sum_cons, List.sum_nil, List.length_cons, List.length_nil, Option.toList_some, Option.toList_none, true_and, and_true, false_and, and_false, true_implies, false_implies, implies_true, not_true_eq_false, not_false_eq_true, ne_eq, if_true, if_false, Bool.and_true, Bool.true_and, decide_true, decide_false, reduceIte, reduceCtorEq, Bool.and_self, Bool.and_eq_true, decide_eq_true_eq, and_self, true_or, or_true, false_or, or_false, Nat.zero_add, Nat.add_zero, eq_self, Nat.reduceEqDiff, Nat.reduceLeDiff, Nat.reduceLT, Nat.reduceAdd, Nat.reduceSub, Nat.reduceMul, LC_out hL, LE_out hX.1, hX.2.2.1, nI_leP (show n < 2147483648 by omega) (show i < 2147483648 by omega), show (n ≤ i) = False from eq_false (by omega), q_1shl (show i < 31 by omega), i_xorN, nI_inP (show u ^^^ 2 ^ i < 65536 by omega) (by decide), nI_ix (show u ^^^ 2 ^ i < 2147483648 by omega), hw, e1, jMax_nI (show ht < 2147483648 by omega) (show eN E (u ^^^ 2 ^ i) < 2147483648 by omega), nI_inP (show max ht (eN E (u ^^^ 2 ^ i)) < 289 by omega) (by decide), nI_ix (show max ht (eN E (u ^^^ 2 ^ i)) < 2147483648 by omega), e115_69, B115_69, nI_1]
    cases hb : vis (u ^^^ 2 ^ i)
    · have g1 := f1 hb
      have hou : u ≠ u ^^^ 2 ^ i := fun e2 => by rw [← e2, hv] at hb; exact absurd hb (by decide)
      simp only [g1, true_and, and_true, false_and, and_false, true_implies, false_implies, implies_true, not_true_eq_false, not_false_eq_true, ne_eq, if_true, if_false, Bool.and_true, Bool.true_and, decide_true, decide_false, reduceIte, reduceCtorEq, Bool.and_self, Bool.and_eq_true, decide_eq_true_eq, and_self, true_or, or_true, false_or, or_false, Nat.zero_add, Nat.add_zero, eq_self, Nat.reduceEqDiff, Nat.reduceLeDiff, Nat.reduceLT, Nat.reduceAdd, Nat.reduceSub, Nat.reduceMul]
      refine nx _ _ _ _ (FS_new hS hv hl (show i < n by omega) he hb) ?_ ?_ (fun t ht2 => ?_) (HF_new hf (by omega) hb (fun l c hc => (hS.v4 l c hc).1) (fun l c hc => Nat.lt_of_lt_of_le (hS.v1 c (hS.v4 l c hc).1).1 hp))
      · simp only [hou, if_false]; exact hv
      · simp only [hou, if_false]; exact hl
      · by_cases e : t = i
        · subst e
          simp only [if_true]
        · have := hn t (by omega)
          split
          · rfl
          · exact this
    · have g2 := f2 hb
      simp only [g2, true_and, and_true, false_and, and_false, true_implies, false_implies, implies_true, not_true_eq_false, not_false_eq_true, ne_eq, if_true, if_false, Bool.and_true, Bool.true_and, decide_true, decide_false, reduceIte, reduceCtorEq, Bool.and_self, Bool.and_eq_true, decide_eq_true_eq, and_self, true_or, or_true, false_or, or_false, Nat.zero_add, Nat.add_zero, eq_self, Nat.reduceEqDiff, Nat.reduceLeDiff, Nat.reduceLT, Nat.reduceAdd, Nat.reduceSub, Nat.reduceMul]
      refine nx _ _ _ _ hS hv hl (fun t ht2 => ?_) hf
      by_cases e : t = i
      · rw [e]; exact hb
      · exact hn t (by omega)
end
