/-! ===== the energy and the flip of one spin ===== -/
section
variable {n m : Nat} {fi se dg : Nat → Nat} {sb : Nat → Nat → Nat}
theorem sm_add (f g : Nat → Int32) : ∀ n, sm (fun k => f k + g k) n = sm f n + sm g n
  | 0 => rfl
  | n + 1 => by
    rw [sm, sm, sm, sm_add f g n]
    grind
theorem sm_mul (c : Int32) (f : Nat → Int32) : ∀ n, sm (fun k => c * f k) n = c * sm f n
  | 0 => by simp [sm]
  | n + 1 => by
    rw [sm, sm, sm_mul c f n]
    grind
theorem sm_zero : ∀ n, sm (fun _ => 0) n = 0
  | 0 => rfl
  | n + 1 => by rw [sm, sm_zero n]; rfl
theorem sm_one (c : Int32) (t : Nat) : ∀ n, sm (fun k => if k = t then c else 0) n = if t < n then c else 0
  | 0 => by simp [sm]
  | n + 1 => by
    rw [sm, sm_one c t n]
    by_cases h : t < n
    · rw [if_pos h, if_neg (by omega), if_pos (by omega), Int32.add_zero]
    · by_cases h2 : n = t
      · rw [if_neg h, if_pos h2, if_pos (by omega), Int32.zero_add]
      · rw [if_neg h, if_neg h2, if_neg (by omega), Int32.add_zero]
/-- the bonds of each site are the incident ones -/
def GN (n m : Nat) (fi se dg : Nat → Nat) (sb : Nat → Nat → Nat) : Prop := (∀ k, k < m → fi k ≠ se k) ∧ ∀ t, t < n → ∀ f : Nat → Int32, sm (fun i => f (sb t i)) (dg t) = sm (fun k => if fi k = t ∨ se k = t then f k else 0) m
/-- the energy -/
def en (F : Int32) (st : Nat → Int32) (n m : Nat) (fi se : Nat → Nat) (s : Nat) : Int32 := -(F * mg n s + ps m st fi se s)
theorem bit_x (s t i : Nat) : (s ^^^ 2 ^ t).testBit i = (s.testBit i ^^ decide (t = i)) := by
  rw [Nat.testBit_xor, Nat.testBit_two_pow]
theorem sg_not (b : Bool) : sg (!b) = - sg b := by cases b <;> rfl
theorem mg_x (n s t : Nat) (ht : t < n) : mg n (s ^^^ 2 ^ t) = mg n s + -2 * sg (s.testBit t) := by
  unfold mg
  have h1 : sm (fun i => sg ((s ^^^ 2 ^ t).testBit i)) n = sm (fun i => sg (s.testBit i) + (if i = t then -2 * sg (s.testBit t) else 0)) n := sm_congr (fun i hi => by
    rw [bit_x]
    by_cases h : i = t
    · subst h
      simp only [decide_true, Bool.xor_true, if_true, sg_not]
      grind
    · rw [if_neg h, decide_eq_false (fun e => h e.symm), Bool.xor_false, Int32.add_zero])
  rw [h1, sm_add, sm_one, if_pos ht]
theorem pr_n1 (st : Int32) (a b : Bool) : pr st (!a) b = - pr st a b := by
  cases a <;> cases b <;> simp [pr]
theorem pr_n2 (st : Int32) (a b : Bool) : pr st a (!b) = - pr st a b := by
  cases a <;> cases b <;> simp [pr]
theorem ps_x (hN : GN n m fi se dg sb) (st : Nat → Int32) (s t : Nat) (ht : t < n) : ps m st fi se (s ^^^ 2 ^ t) = ps m st fi se s + -2 * sm (fun i => pr (st (sb t i)) (s.testBit (fi (sb t i))) (s.testBit (se (sb t i)))) (dg t) := by
  rw [hN.2 t ht (fun k => pr (st k) (s.testBit (fi k)) (s.testBit (se k)))]
  rw [← sm_mul]
  unfold ps
  rw [← sm_add]
  refine sm_congr (fun k hk => ?_)
  rw [bit_x, bit_x]
  have hne := hN.1 k hk
  by_cases h1 : fi k = t
  · have h2 : ¬ se k = t := fun e => hne (h1.trans e.symm)
    rw [if_pos (Or.inl h1), decide_eq_true h1.symm, decide_eq_false (fun e => h2 e.symm), Bool.xor_true, Bool.xor_false, pr_n1]
    grind
  · by_cases h2 : se k = t
    · rw [if_pos (Or.inr h2), decide_eq_false (fun e => h1 e.symm), decide_eq_true h2.symm, Bool.xor_true, Bool.xor_false, pr_n2]
      grind
    · rw [if_neg (fun e => e.elim h1 h2), decide_eq_false (fun e => h1 e.symm), decide_eq_false (fun e => h2 e.symm), Bool.xor_false, Bool.xor_false]
      grind
theorem en_x (hN : GN n m fi se dg sb) (F : Int32) (st : Nat → Int32) (s t : Nat) (ht : t < n) : en F st n m fi se (s ^^^ 2 ^ t) = en F st n m fi se s + dl F st fi se dg sb s t := by
  unfold en dl
  rw [mg_x n s t ht, ps_x hN st s t ht]
  grind
end
section
variable {S : xS} {I : xI} {J : xJ} {D : xDb} {R : xR} {b : Nat × Nat} {Q : xQ} {n m : Nat} {fi se dg : Nat → Nat} {sb : Nat → Nat → Nat}
theorem pop_up {s n : Nat} (hs : s < 2 ^ n) : ∀ k, pop (n + k) s = pop n s
  | 0 => rfl
  | k + 1 => by
    rw [show n + (k + 1) = n + k + 1 by omega, pop, pop_up hs k]
    have h : bt s (n + k) = 0 := by
      unfold bt
      rw [Nat.div_eq_of_lt (Nat.lt_of_lt_of_le hs (Nat.pow_le_pow_right (by decide) (by omega)))]
    rw [h, Nat.add_zero]
theorem sg_bt (s i : Nat) : sg (s.testBit i) = 2 * nI (bt s i) - 1 := by
  unfold bt sg
  rw [Nat.testBit_eq_decide_div_mod_eq]
  rcases Nat.mod_two_eq_zero_or_one (s / 2 ^ i) with e | e <;> rw [e] <;> decide
theorem mg_pop (s : Nat) : ∀ n, mg n s = 2 * nI (pop n s) - nI n
  | 0 => by simp [mg, sm, pop, nI_0]
  | n + 1 => by
    have h := mg_pop s n
    unfold mg at h ⊢
    rw [sm, h, pop, sg_bt, ← nI_add, ← nI_1]
    grind
theorem R51 (hL : LC S R) (hC : I 102 2 = nI n) (hn : n ≤ 64) {s : Nat} (hs : s < 2 ^ n) : xRun xT 51 0 [(0, .ref 102), (1, .long (lN s))] [] (S, I, J, D, R) b Q = Q (.ok (some (.int (mg n s)))) (S, I, J, D, R) b := by
  have h64 : s < 2 ^ 64 := Nat.lt_of_lt_of_le hs (Nat.pow_le_pow_right (by decide) hn)
  have hp : pop 64 s = pop n s := by
    have := pop_up hs (64 - n)
    rw [show n + (64 - n) = 64 by omega] at this
    exact this
  rw [e51_0]
  simp only [B51_0, xSeq, i_push, i_load, i_iload, i_lload, i_dload, i_aload, i_istore, i_astore, i_lstore, i_dstore, i_iinc, i_ii, i_iiz, i_ll, i_llz, i_lli, i_li, i_i, i_l, i_i2l, i_l2i, i_dup, i_dup2, i_dup2w, i_dupx1, i_pop, i_pop2, i_goto, i_ifc, i_icmp, i_getI, i_getL, i_getR, i_putI, i_putZ, i_putL, i_putR, i_aldI, i_aldB, i_aldL, i_aldD, i_astI, i_astL, i_astD, i_alen, i_ret, i_iret, i_zret, i_lret, i_fret, i_dret, i_aret, i_invS0, i_invV0, i_m2, i_m1, i_ml, i_obj, lk, lkp, stf1, stf2, Value.category, rV, xTo, lv_args, xCk, xCat, xRc, xAk, hg_S, hg_I, hg_J, hg_D, hg_R, hs_I, hs_J, hs_D, hs_R, uI_at, uJ_at, uD_at, uR_at, List.take_succ_cons, List.take_zero, List.drop_succ_cons, List.drop_zero, List.reverse_cons, List.reverse_nil, List.nil_append, List.cons_append, List.map_cons, List.map_nil, List.sum_cons, List.sum_nil, List.length_cons, List.length_nil, Option.toList_some, Option.toList_none, true_and, and_true, false_and, and_false, true_implies, false_implies, implies_true, not_true_eq_false, not_false_eq_true, ne_eq, if_true, if_false, Bool.and_true, Bool.true_and, decide_true, decide_false, reduceIte, reduceCtorEq, Bool.and_self, Bool.and_eq_true, decide_eq_true_eq, and_self, true_or, or_true, false_or, or_false, Nat.zero_add, Nat.add_zero, eq_self, Nat.reduceEqDiff, Nat.reduceLeDiff, Nat.reduceLT, Nat.reduceAdd, Nat.reduceSub, Nat.reduceMul, LC_out hL, Y2 (S := S) (R := R) h64, hC, hp, mg_pop]
theorem R74 (hL : LC S R) (hG : GR n m fi se dg sb) (hC : CL I n m fi se dg sb) {s : Nat} (hs : s < 2 ^ 64) (hs2 : s < 2 ^ n) : xRun xT 74 0 [(0, .ref 110), (1, .long (lN s))] [] (S, I, J, D, R) b Q = Q (.ok (some (.int (en (I 110 6) (I 111) n m fi se s)))) (S, I, J, D, R) b := by
  have h := R74_17 (J := J) (D := D) (b := b) (Q := Q) hL hG hC hs m 0 (I 110 6 * mg n s) (by omega)
  rw [ps, sm, Int32.add_zero] at h
  rw [e74_0]
  simp only [B74_0, xSeq, i_push, i_load, i_iload, i_lload, i_dload, i_aload, i_istore, i_astore, i_lstore, i_dstore, i_iinc, i_ii, i_iiz, i_ll, i_llz, i_lli, i_li, i_i, i_l, i_i2l, i_l2i, i_dup, i_dup2, i_dup2w, i_dupx1, i_pop, i_pop2, i_goto, i_ifc, i_icmp, i_getI, i_getL, i_getR, i_putI, i_putZ, i_putL, i_putR, i_aldI, i_aldB, i_aldL, i_aldD, i_astI, i_astL, i_astD, i_alen, i_ret, i_iret, i_zret, i_lret, i_fret, i_dret, i_aret, i_invS0, i_invV0, i_m2, i_m1, i_ml, i_obj, lk, lkp, stf1, stf2, Value.category, rV, xTo, lv_args, xCk, xCat, xRc, xAk, hg_S, hg_I, hg_J, hg_D, hg_R, hs_I, hs_J, hs_D, hs_R, uI_at, uJ_at, uD_at, uR_at, List.take_succ_cons, List.take_zero, List.drop_succ_cons, List.drop_zero, List.reverse_cons, List.reverse_nil, List.nil_append, List.cons_append, List.map_cons, List.map_nil, List.sum_cons, List.sum_nil, List.length_cons, List.length_nil, Option.toList_some, Option.toList_none, true_and, and_true, false_and, and_false, true_implies, false_implies, implies_true, not_true_eq_false, not_false_eq_true, ne_eq, if_true, if_false, Bool.and_true, Bool.true_and, decide_true, decide_false, reduceIte, reduceCtorEq, Bool.and_self, Bool.and_eq_true, decide_eq_true_eq, and_self, true_or, or_true, false_or, or_false, Nat.zero_add, Nat.add_zero, eq_self, Nat.reduceEqDiff, Nat.reduceLeDiff, Nat.reduceLT, Nat.reduceAdd, Nat.reduceSub, Nat.reduceMul, LC_out hL, R51 (S := S) (R := R) hL hC.1 hG.2.1 hs2]
  simp only [nI_0] at h
  exact h
end
