/-! ===== sums within bounds ===== -/
section
theorem i32_addT {a c : Int32} {x y : Int} (ha : -x ≤ a.toInt ∧ a.toInt ≤ x) (hc : -y ≤ c.toInt ∧ c.toInt ≤ y) (h : x + y < 2147483648) : (a + c).toInt = a.toInt + c.toInt := by
  rw [Int32.toInt_add]
  exact Int.bmod_eq_of_le (by omega) (by omega)
theorem sm_bd {f : Nat → Int32} {K : Int} (hK : 0 ≤ K) : ∀ n : Nat, (∀ k, k < n → -K ≤ (f k).toInt ∧ (f k).toInt ≤ K) → (n : Int) * K < 2147483648 → -((n : Int) * K) ≤ (sm f n).toInt ∧ (sm f n).toInt ≤ (n : Int) * K
  | 0, _, _ => by
    rw [sm]
    simp
  | n + 1, h, hb => by
    have e : ((n + 1 : Nat) : Int) * K = (n : Int) * K + K := by rw [Int.natCast_add, Int.add_mul]; simp
    rw [e] at hb ⊢
    have ih := sm_bd hK n (fun k hk => h k (Nat.lt_succ_of_lt hk)) (by omega)
    have h1 := h n (Nat.lt_succ_self n)
    rw [sm, i32_addT ih h1 hb]
    omega
theorem sg_bd (a : Bool) : (-1 : Int) ≤ (sg a).toInt ∧ (sg a).toInt ≤ 1 := by cases a <;> decide
theorem i32_negT {a : Int32} (h : -2147483648 < a.toInt) : (-a).toInt = -a.toInt := by
  have h2 := Int32.toInt_lt a
  rw [Int32.toInt_neg]
  exact Int.bmod_eq_of_le (by omega) (by omega)
theorem pr_bd {st : Int32} (h : -3 ≤ st.toInt ∧ st.toInt ≤ 3) (a c : Bool) : (-3 : Int) ≤ (pr st a c).toInt ∧ (pr st a c).toInt ≤ 3 := by
  unfold pr
  split
  · exact h
  · rw [i32_negT (by omega)]
    omega
theorem mul_sg_bd {F : Int32} (h : -3 ≤ F.toInt ∧ F.toInt ≤ 3) (a : Bool) : (-3 : Int) ≤ (F * sg a).toInt ∧ (F * sg a).toInt ≤ 3 := by
  cases a
  · rw [show F * sg false = -F by simp [sg, Int32.mul_neg]]
    rw [i32_negT (by omega)]
    omega
  · rw [show F * sg true = F by simp [sg]]
    exact h
theorem mulT {F a : Int32} {x y : Int} (h : -x ≤ F.toInt ∧ F.toInt ≤ x) (ha : -y ≤ a.toInt ∧ a.toInt ≤ y) (h0 : 0 ≤ x) (h1 : 0 ≤ y) (hb : x * y < 2147483648) : (F * a).toInt = F.toInt * a.toInt ∧ -(x * y) ≤ (F * a).toInt ∧ (F * a).toInt ≤ x * y := by
  have k1 : F.toInt * a.toInt ≤ x * y := by
    by_cases g : 0 ≤ F.toInt
    · exact Int.le_trans (Int.mul_le_mul_of_nonneg_left ha.2 g) (Int.mul_le_mul_of_nonneg_right h.2 h1)
    · have e : F.toInt * a.toInt = (-F.toInt) * (-a.toInt) := by rw [Int.neg_mul_neg]
      rw [e]
      exact Int.le_trans (Int.mul_le_mul_of_nonneg_left (show -a.toInt ≤ y by omega) (by omega)) (Int.mul_le_mul_of_nonneg_right (by omega) h1)
  have k2 : -(x * y) ≤ F.toInt * a.toInt := by
    have : -(F.toInt * a.toInt) ≤ x * y := by
      by_cases g : 0 ≤ F.toInt
      · have e : -(F.toInt * a.toInt) = F.toInt * (-a.toInt) := by rw [Int.mul_neg]
        rw [e]
        exact Int.le_trans (Int.mul_le_mul_of_nonneg_left (show -a.toInt ≤ y by omega) g) (Int.mul_le_mul_of_nonneg_right h.2 h1)
      · have e : -(F.toInt * a.toInt) = (-F.toInt) * a.toInt := by rw [Int.neg_mul]
        rw [e]
        exact Int.le_trans (Int.mul_le_mul_of_nonneg_left ha.2 (by omega)) (Int.mul_le_mul_of_nonneg_right (by omega) h1)
    omega
  have e : (F * a).toInt = F.toInt * a.toInt := by
    rw [Int32.toInt_mul]
    exact Int.bmod_eq_of_le (by omega) (by omega)
  rw [e]
  exact ⟨rfl, k2, k1⟩
variable {n m : Nat} {fi se dg : Nat → Nat} {sb : Nat → Nat → Nat}
/-- strengths and field as the document allows -/
def SB (F : Int32) (st : Nat → Int32) (m : Nat) : Prop := (-3 ≤ F.toInt ∧ F.toInt ≤ 3) ∧ ∀ k, k < m → -3 ≤ (st k).toInt ∧ (st k).toInt ≤ 3
theorem SB_1 {F : Int32} {st : Nat → Int32} (h0 : F = 0) (h : ∀ k, k < 32 → st k = 1) : SB F st 32 := by
  refine ⟨?_, fun k hk => ?_⟩
  · rw [h0]; decide
  · rw [h k hk]; decide
theorem en_bd {F : Int32} {st : Nat → Int32} (hs : SB F st m) (hn : n ≤ 64) (hm : m ≤ 128) (s : Nat) : -576 ≤ (en F st n m fi se s).toInt ∧ (en F st n m fi se s).toInt ≤ 576 := by
  have h1 : -(n * 1 : Int) ≤ (mg n s).toInt ∧ (mg n s).toInt ≤ (n * 1 : Int) := sm_bd (K := 1) (by decide) n (fun k _ => sg_bd _) (by omega)
  have h2 : -(m * 3 : Int) ≤ (ps m st fi se s).toInt ∧ (ps m st fi se s).toInt ≤ (m * 3 : Int) := sm_bd (K := 3) (by decide) m (fun k hk => pr_bd (hs.2 k hk) _ _) (by omega)
  have h3 := mulT (x := 3) (y := 64) hs.1 (show -64 ≤ (mg n s).toInt ∧ (mg n s).toInt ≤ 64 by omega) (by decide) (by decide) (by decide)
  unfold en
  have h4 := i32_addT (x := 192) (y := 384) (show -192 ≤ (F * mg n s).toInt ∧ (F * mg n s).toInt ≤ 192 by omega) (show -384 ≤ (ps m st fi se s).toInt ∧ (ps m st fi se s).toInt ≤ 384 by omega) (by decide)
  rw [i32_negT (by omega)]
  omega
theorem dl_bd {F : Int32} {st : Nat → Int32} (hs : SB F st m) (hG : GR n m fi se dg sb) (s : Nat) {t : Nat} (ht : t < n) : -30 ≤ (dl F st fi se dg sb s t).toInt ∧ (dl F st fi se dg sb s t).toInt ≤ 30 := by
  have hd := hG.2.2.2.2.2.1 t ht
  have h2 : -(dg t * 3 : Int) ≤ (sm (fun i => pr (st (sb t i)) (s.testBit (fi (sb t i))) (s.testBit (se (sb t i)))) (dg t)).toInt ∧ (sm (fun i => pr (st (sb t i)) (s.testBit (fi (sb t i))) (s.testBit (se (sb t i)))) (dg t)).toInt ≤ (dg t * 3 : Int) := sm_bd (K := 3) (by decide) (dg t) (fun i hi => pr_bd (hs.2 _ (hG.2.2.2.2.2.2 t i ht hi)) _ _) (by omega)
  have h1 := mul_sg_bd hs.1 (s.testBit t)
  unfold dl
  have h4 := i32_addT (x := 3) (y := 12) h1 (show -12 ≤ (sm (fun i => pr (st (sb t i)) (s.testBit (fi (sb t i))) (s.testBit (se (sb t i)))) (dg t)).toInt ∧ (sm (fun i => pr (st (sb t i)) (s.testBit (fi (sb t i))) (s.testBit (se (sb t i)))) (dg t)).toInt ≤ 12 by omega) (by decide)
  have h5 := mulT (F := 2) (x := 2) (y := 15) (by decide) (show -15 ≤ (F * sg (s.testBit t) + sm (fun i => pr (st (sb t i)) (s.testBit (fi (sb t i))) (s.testBit (se (sb t i)))) (dg t)).toInt ∧ (F * sg (s.testBit t) + sm (fun i => pr (st (sb t i)) (s.testBit (fi (sb t i))) (s.testBit (se (sb t i)))) (dg t)).toInt ≤ 15 by omega) (by decide) (by decide) (by decide)
  exact h5.2
/-- the flip that lowers most, of the first i sites: by how much; the configuration behind it -/
def bs (d : Nat → Int32) (c : Nat) : Nat → Int32 × Nat
  | 0 => (0, c)
  | i + 1 => if d i < (bs d c i).1 then (d i, c ^^^ 2 ^ i) else bs d c i
/-- by how much; its site -/
def bm (d : Nat → Int32) : Nat → Int32 × Int32
  | 0 => (0, -1)
  | i + 1 => if d i < (bm d i).1 then (d i, nI i) else bm d i
theorem bs_lt {d : Nat → Int32} {c : Nat} : ∀ {i : Nat}, c < 2 ^ i → True := fun _ => trivial
theorem bs_bm (d : Nat → Int32) (c : Nat) : ∀ i, (∃ k, k < i ∧ bm d i = (d k, nI k) ∧ bs d c i = (d k, c ^^^ 2 ^ k) ∧ d k < 0) ∨ (bm d i = (0, -1) ∧ bs d c i = (0, c))
  | 0 => Or.inr ⟨rfl, rfl⟩
  | i + 1 => by
    rcases bs_bm d c i with ⟨k, h1, h2, h3, h4⟩ | ⟨h2, h3⟩
    · rw [bm, bs, h2, h3]
      by_cases h : d i < d k
      · rw [if_pos h, if_pos h]
        exact Or.inl ⟨i, Nat.lt_succ_self i, rfl, rfl, Int32.lt_trans h h4⟩
      · rw [if_neg h, if_neg h]
        exact Or.inl ⟨k, Nat.lt_succ_of_lt h1, rfl, rfl, h4⟩
    · rw [bm, bs, h2, h3]
      by_cases h : d i < 0
      · rw [if_pos h, if_pos h]
        exact Or.inl ⟨i, Nat.lt_succ_self i, rfl, rfl, h⟩
      · rw [if_neg h, if_neg h]
        exact Or.inr ⟨rfl, rfl⟩
theorem xor_ne (c k : Nat) : c ^^^ 2 ^ k ≠ c := fun h => by
  have e := bit_x c k k
  rw [h] at e
  cases hb : c.testBit k <;> simp [hb] at e
/-- a descent of at most r flips -/
def ds (f : Nat → Nat) : Nat → Nat → Nat × Nat
  | 0, c => (c, 0)
  | r + 1, c => if f c = c then (c, 0) else ((ds f r (f c)).1, (ds f r (f c)).2 + 1)
theorem ds_lt (f : Nat → Nat) {N : Nat} (hf : ∀ c, c < N → f c < N) : ∀ r c, c < N → (ds f r c).1 < N
  | 0, c, h => h
  | r + 1, c, h => by
    rw [ds]
    split
    · exact h
    · exact ds_lt f hf r _ (hf c h)
theorem ds_le (f : Nat → Nat) : ∀ r c, (ds f r c).2 ≤ r
  | 0, _ => Nat.le_refl _
  | r + 1, c => by
    have := ds_le f r (f c)
    rw [ds]
    split
    · omega
    · show (ds f r (f c)).2 + 1 ≤ r + 1
      omega
/-- the next configuration of a descent -/
def nc (F : Int32) (st : Nat → Int32) (n : Nat) (fi se dg : Nat → Nat) (sb : Nat → Nat → Nat) (c : Nat) : Nat := (bs (dl F st fi se dg sb c) c n).2
theorem bs_b {d : Nat → Int32} {c N : Nat} (hc : c < 2 ^ N) {i : Nat} (hi : i ≤ N) : (bs d c i).2 < 2 ^ N := by
  rcases bs_bm d c i with ⟨k, h1, h2, h3, h4⟩ | ⟨h2, h3⟩
  · rw [h3]
    exact Nat.xor_lt_two_pow hc (Nat.pow_lt_pow_right (by decide) (by omega))
  · rw [h3]
    exact hc
/-- how far a configuration can go down -/
def mu (F : Int32) (st : Nat → Int32) (n m : Nat) (fi se : Nat → Nat) (c : Nat) : Nat := ((en F st n m fi se c).toInt + 576).toNat
theorem mu_nc {F : Int32} {st : Nat → Int32} (hs : SB F st m) (hG : GR n m fi se dg sb) (hN : GN n m fi se dg sb) {c : Nat} (h : nc F st n fi se dg sb c ≠ c) : mu F st n m fi se (nc F st n fi se dg sb c) < mu F st n m fi se c := by
  unfold nc at h ⊢
  rcases bs_bm (dl F st fi se dg sb c) c n with ⟨k, h1, h2, h3, h4⟩ | ⟨h2, h3⟩
  · rw [h3]
    show mu F st n m fi se (c ^^^ 2 ^ k) < mu F st n m fi se c
    have e := en_x hN F st c k h1
    have b1 := en_bd (fi := fi) (se := se) hs hG.2.1 hG.2.2.1 c
    have b2 := en_bd (fi := fi) (se := se) hs hG.2.1 hG.2.2.1 (c ^^^ 2 ^ k)
    have b3 := dl_bd hs hG c h1
    have e2 := i32_addT (x := 576) (y := 30) b1 b3 (by decide)
    rw [← e] at e2
    have h5 := Int32.lt_iff_toInt_lt.mp h4
    have h6 : (0 : Int32).toInt = 0 := rfl
    unfold mu
    omega
  · rw [h3] at h
    exact absurd rfl h
end
/-! ===== descents ===== -/
section
variable {S : xS} {I : xI} {J : xJ} {D : xDb} {R : xR} {b : Nat × Nat} {Q : xQ} {n m : Nat} {fi se dg : Nat → Nat} {sb : Nat → Nat → Nat}
theorem q_1shlL {t : Nat} (h : t < 64) : jLshl 1 (nI t) = lN (2 ^ t) := by rw [show (1 : Int64) = lN 1 from rfl, q_shl 1 h, Nat.one_mul]
theorem R93_8 (hL : LC S R) (hG : GR n m fi se dg sb) (hC : CL I n m fi se dg sb) {c : Nat} (hc : c < 2 ^ 64) : ∀ (j i : Nat), i + j = n → xRun xT 93 8 [(0, .ref 110), (1, .long (lN c)), (3, .int (bs (dl (I 110 6) (I 111) fi se dg sb c) c i).1), (4, .long (lN (bs (dl (I 110 6) (I 111) fi se dg sb c) c i).2)), (6, .int (nI i))] [] (S, I, J, D, R) b Q = Q (.ok (some (.long (lN (nc (I 110 6) (I 111) n fi se dg sb c))))) (S, I, J, D, R) b
  | 0, i, hi => by
    have g1 := hG.2.1
    have c1 := hC.1
    have e : i = n := by omega
    subst e
    rw [e93_8]
    simp only [B93_8, xSeq, i_push, i_load, i_iload, i_lload, i_dload, i_aload, i_istore, i_astore, i_lstore, i_dstore, i_iinc, i_ii, i_iiz, i_ll, i_llz, i_lli, i_li, i_i, i_l, i_i2l, i_l2i, i_dup, i_dup2, i_dup2w, i_dupx1, i_pop, i_pop2, i_goto, i_ifc, i_icmp, i_getI, i_getL, i_getR, i_putI, i_putZ, i_putL, i_putR, i_aldI, i_aldB, i_aldL, i_aldD, i_astI, i_astL, i_astD, i_alen, i_ret, i_iret, i_zret, i_lret, i_fret, i_dret, i_aret, i_invS0, i_invV0, i_m2, i_m1, i_ml, i_obj, lk, lkp, stf1, stf2, Value.category, rV, xTo, lv_args, xCk, xCat, xRc, xAk, hg_S, hg_I, hg_J, hg_D, hg_R, hs_I, hs_J, hs_D, hs_R, uI_at, uJ_at, uD_at, uR_at, List.take_succ_cons, List.take_zero, List.drop_succ_cons, List.drop_zero, List.reverse_cons, List.reverse_nil, List.nil_append, List.cons_append, List.map_cons, List.map_nil, List.sum_cons, List.sum_nil, List.length_cons, List.length_nil, Option.toList_some, Option.toList_none, true_and, and_true, false_and, and_false, true_implies, false_implies, implies_true, not_true_eq_false, not_false_eq_true, ne_eq, if_true, if_false, Bool.and_true, Bool.true_and, decide_true, decide_false, reduceIte, reduceCtorEq, Bool.and_self, Bool.and_eq_true, decide_eq_true_eq, and_self, true_or, or_true, false_or, or_false, Nat.zero_add, Nat.add_zero, eq_self, Nat.reduceEqDiff, Nat.reduceLeDiff, Nat.reduceLT, Nat.reduceAdd, Nat.reduceSub, Nat.reduceMul, LC_out hL, c1, nI_leP (show i < 2147483648 by omega) (show i < 2147483648 by omega), Nat.le_refl, e93_52, B93_52, nc]
  | j + 1, i, hi => by
    have g1 := hG.2.1
    have c1 := hC.1
    have ih := R93_8 hL hG hC hc j (i + 1) (by omega)
    rw [bs] at ih
    rw [e93_8]
    simp only [B93_8, xSeq, i_push, i_load, i_iload, i_lload, i_dload, i_aload, i_istore, i_astore, i_lstore, i_dstore, i_iinc, i_ii, i_iiz, i_ll, i_llz, i_lli, i_li, i_i, i_l, i_i2l, i_l2i, i_dup, i_dup2, i_dup2w, i_dupx1, i_pop, i_pop2, i_goto, i_ifc, i_icmp, i_getI, i_getL, i_getR, i_putI, i_putZ, i_putL, i_putR, i_aldI, i_aldB, i_aldL, i_aldD, i_astI, i_astL, i_astD, i_alen, i_ret, i_iret, i_zret, i_lret, i_fret, i_dret, i_aret, i_invS0, i_invV0, i_m2, i_m1, i_ml, i_obj, lk, lkp, stf1, stf2, Value.category, rV, xTo, lv_args, xCk, xCat, xRc, xAk, hg_S, hg_I, hg_J, hg_D, hg_R, hs_I, hs_J, hs_D, hs_R, uI_at, uJ_at, uD_at, uR_at, List.take_succ_cons, List.take_zero, List.drop_succ_cons, List.drop_zero, List.reverse_cons, List.reverse_nil, List.nil_append, List.cons_append, List.map_cons, List.map_nil, List.sum_cons, List.sum_nil, List.length_cons, List.length_nil, Option.toList_some, Option.toList_none, true_and, and_true, false_and, and_false, true_implies, false_implies, implies_true, not_true_eq_false, not_false_eq_true, ne_eq, if_true, if_false, Bool.and_true, Bool.true_and, decide_true, decide_false, reduceIte, reduceCtorEq, Bool.and_self, Bool.and_eq_true, decide_eq_true_eq, and_self, true_or, or_true, false_or, or_false, Nat.zero_add, Nat.add_zero, eq_self, Nat.reduceEqDiff, Nat.reduceLeDiff, Nat.reduceLT, Nat.reduceAdd, Nat.reduceSub, Nat.reduceMul, LC_out hL, c1, nI_leP (show n < 2147483648 by omega) (show i < 2147483648 by omega), show (n ≤ i) = False from eq_false (by omega), R76 hL hG hC hc (show i < n by omega), q_1shlL (show i < 64 by omega), q_xor, e93_46, B93_46, nI_1]
    by_cases h : dl (I 110 6) (I 111) fi se dg sb c i < (bs (dl (I 110 6) (I 111) fi se dg sb c) c i).1
    · rw [if_pos h] at ih
      simp only [show ((bs (dl (I 110 6) (I 111) fi se dg sb c) c i).1 ≤ dl (I 110 6) (I 111) fi se dg sb c i) = False from eq_false (Int32.not_le.mpr h), true_and, and_true, false_and, and_false, true_implies, false_implies, implies_true, not_true_eq_false, not_false_eq_true, ne_eq, if_true, if_false, Bool.and_true, Bool.true_and, decide_true, decide_false, reduceIte, reduceCtorEq, Bool.and_self, Bool.and_eq_true, decide_eq_true_eq, and_self, true_or, or_true, false_or, or_false, Nat.zero_add, Nat.add_zero, eq_self, Nat.reduceEqDiff, Nat.reduceLeDiff, Nat.reduceLT, Nat.reduceAdd, Nat.reduceSub, Nat.reduceMul]
      exact ih
    · rw [if_neg h] at ih
      simp only [show ((bs (dl (I 110 6) (I 111) fi se dg sb c) c i).1 ≤ dl (I 110 6) (I 111) fi se dg sb c i) = True from eq_true (Int32.not_lt.mp h), true_and, and_true, false_and, and_false, true_implies, false_implies, implies_true, not_true_eq_false, not_false_eq_true, ne_eq, if_true, if_false, Bool.and_true, Bool.true_and, decide_true, decide_false, reduceIte, reduceCtorEq, Bool.and_self, Bool.and_eq_true, decide_eq_true_eq, and_self, true_or, or_true, false_or, or_false, Nat.zero_add, Nat.add_zero, eq_self, Nat.reduceEqDiff, Nat.reduceLeDiff, Nat.reduceLT, Nat.reduceAdd, Nat.reduceSub, Nat.reduceMul]
      exact ih
theorem R93 (hL : LC S R) (hG : GR n m fi se dg sb) (hC : CL I n m fi se dg sb) {c : Nat} (hc : c < 2 ^ 64) : xRun xT 93 0 [(0, .ref 110), (1, .long (lN c))] [] (S, I, J, D, R) b Q = Q (.ok (some (.long (lN (nc (I 110 6) (I 111) n fi se dg sb c))))) (S, I, J, D, R) b := by
  rw [e93_0]
  simp only [B93_0, xSeq, i_push, i_load, i_iload, i_lload, i_dload, i_aload, i_istore, i_astore, i_lstore, i_dstore, i_iinc, i_ii, i_iiz, i_ll, i_llz, i_lli, i_li, i_i, i_l, i_i2l, i_l2i, i_dup, i_dup2, i_dup2w, i_dupx1, i_pop, i_pop2, i_goto, i_ifc, i_icmp, i_getI, i_getL, i_getR, i_putI, i_putZ, i_putL, i_putR, i_aldI, i_aldB, i_aldL, i_aldD, i_astI, i_astL, i_astD, i_alen, i_ret, i_iret, i_zret, i_lret, i_fret, i_dret, i_aret, i_invS0, i_invV0, i_m2, i_m1, i_ml, i_obj, lk, lkp, stf1, stf2, Value.category, rV, xTo, lv_args, xCk, xCat, xRc, xAk, hg_S, hg_I, hg_J, hg_D, hg_R, hs_I, hs_J, hs_D, hs_R, uI_at, uJ_at, uD_at, uR_at, List.take_succ_cons, List.take_zero, List.drop_succ_cons, List.drop_zero, List.reverse_cons, List.reverse_nil, List.nil_append, List.cons_append, List.map_cons, List.map_nil, List.sum_cons, List.sum_nil, List.length_cons, List.length_nil, Option.toList_some, Option.toList_none, true_and, and_true, false_and, and_false, true_implies, false_implies, implies_true, not_true_eq_false, not_false_eq_true, ne_eq, if_true, if_false, Bool.and_true, Bool.true_and, decide_true, decide_false, reduceIte, reduceCtorEq, Bool.and_self, Bool.and_eq_true, decide_eq_true_eq, and_self, true_or, or_true, false_or, or_false, Nat.zero_add, Nat.add_zero, eq_self, Nat.reduceEqDiff, Nat.reduceLeDiff, Nat.reduceLT, Nat.reduceAdd, Nat.reduceSub, Nat.reduceMul]
  exact R93_8 hL hG hC hc n 0 (by omega)
theorem lN_cmp {a c : Nat} (ha : a < 2 ^ 64) (hc : c < 2 ^ 64) : (lg_cmp (lN a) (lN c) = 0) = (a = c) := by
  have e : (lN a = lN c) = (a = c) := propext ⟨fun h => by
    have h2 : (lN a).toBitVec.toNat = (lN c).toBitVec.toNat := by rw [h]
    rwa [q_tn ha, q_tn hc] at h2, fun h => by rw [h]⟩
  rw [← e]
  unfold lg_cmp
  by_cases h : lN a = lN c
  · rw [h, if_neg Int64.lt_irrefl, if_pos rfl]
    simp
  · rw [if_neg h]
    split
    · exact propext ⟨fun k => absurd k (by decide), fun k => absurd k h⟩
    · exact propext ⟨fun k => absurd k (by decide), fun k => absurd k h⟩
theorem nc_lt {F : Int32} {st : Nat → Int32} {c : Nat} (hc : c < 2 ^ n) : nc F st n fi se dg sb c < 2 ^ n := bs_b hc (Nat.le_refl n)
theorem R183_13 (hL : LC S R) (hG : GR n m fi se dg sb) (hC : CL I n m fi se dg sb) : ∀ (j i k c : Nat), i + j = 100000 → c < 2 ^ n → xRun xT 183 13 [(0, .ref 100), (3, .long (lN c)), (5, .int (nI k)), (6, .int (nI i))] [] (S, I, J, D, R) b Q = Q (.ok (some (.int (nI (k + (ds (nc (I 110 6) (I 111) n fi se dg sb) j c).2))))) (S, I, J, D, R) b
  | 0, i, k, c, hi, hc => by
    have e : i = 100000 := by omega
    rw [e183_13]
    simp only [B183_13, xSeq, i_push, i_load, i_iload, i_lload, i_dload, i_aload, i_istore, i_astore, i_lstore, i_dstore, i_iinc, i_ii, i_iiz, i_ll, i_llz, i_lli, i_li, i_i, i_l, i_i2l, i_l2i, i_dup, i_dup2, i_dup2w, i_dupx1, i_pop, i_pop2, i_goto, i_ifc, i_icmp, i_getI, i_getL, i_getR, i_putI, i_putZ, i_putL, i_putR, i_aldI, i_aldB, i_aldL, i_aldD, i_astI, i_astL, i_astD, i_alen, i_ret, i_iret, i_zret, i_lret, i_fret, i_dret, i_aret, i_invS0, i_invV0, i_m2, i_m1, i_ml, i_obj, lk, lkp, stf1, stf2, Value.category, rV, xTo, lv_args, xCk, xCat, xRc, xAk, hg_S, hg_I, hg_J, hg_D, hg_R, hs_I, hs_J, hs_D, hs_R, uI_at, uJ_at, uD_at, uR_at, List.take_succ_cons, List.take_zero, List.drop_succ_cons, List.drop_zero, List.reverse_cons, List.reverse_nil, List.nil_append, List.cons_append, List.map_cons, List.map_nil, List.sum_cons, List.sum_nil, List.length_cons, List.length_nil, Option.toList_some, Option.toList_none, true_and, and_true, false_and, and_false, true_implies, false_implies, implies_true, not_true_eq_false, not_false_eq_true, ne_eq, if_true, if_false, Bool.and_true, Bool.true_and, decide_true, decide_false, reduceIte, reduceCtorEq, Bool.and_self, Bool.and_eq_true, decide_eq_true_eq, and_self, true_or, or_true, false_or, or_false, Nat.zero_add, Nat.add_zero, eq_self, Nat.reduceEqDiff, Nat.reduceLeDiff, Nat.reduceLT, Nat.reduceAdd, Nat.reduceSub, Nat.reduceMul, show ((100000 : Int32) ≤ nI i) = True from eq_true (by rw [e]; decide), e183_53, B183_53, ds]
  | j + 1, i, k, c, hi, hc => by
    have h64 : c < 2 ^ 64 := Nat.lt_of_lt_of_le hc (Nat.pow_le_pow_right (by decide) hG.2.1)
    have hc2 := nc_lt (F := I 110 6) (st := I 111) (fi := fi) (se := se) (dg := dg) (sb := sb) hc
    have h642 := Nat.lt_of_lt_of_le hc2 (Nat.pow_le_pow_right (show 0 < 2 by decide) hG.2.1)
    have ih := R183_13 hL hG hC j (i + 1) (k + 1) (nc (I 110 6) (I 111) n fi se dg sb c) (by omega) hc2
    rw [e183_13]
    simp only [B183_13, xSeq, i_push, i_load, i_iload, i_lload, i_dload, i_aload, i_istore, i_astore, i_lstore, i_dstore, i_iinc, i_ii, i_iiz, i_ll, i_llz, i_lli, i_li, i_i, i_l, i_i2l, i_l2i, i_dup, i_dup2, i_dup2w, i_dupx1, i_pop, i_pop2, i_goto, i_ifc, i_icmp, i_getI, i_getL, i_getR, i_putI, i_putZ, i_putL, i_putR, i_aldI, i_aldB, i_aldL, i_aldD, i_astI, i_astL, i_astD, i_alen, i_ret, i_iret, i_zret, i_lret, i_fret, i_dret, i_aret, i_invS0, i_invV0, i_m2, i_m1, i_ml, i_obj, lk, lkp, stf1, stf2, Value.category, rV, xTo, lv_args, xCk, xCat, xRc, xAk, hg_S, hg_I, hg_J, hg_D, hg_R, hs_I, hs_J, hs_D, hs_R, uI_at, uJ_at, uD_at, uR_at, List.take_succ_cons, List.take_zero, List.drop_succ_cons, List.drop_zero, List.reverse_cons, List.reverse_nil, List.nil_append, List.cons_append, List.map_cons, List.map_nil, List.sum_cons, List.sum_nil, List.length_cons, List.length_nil, Option.toList_some, Option.toList_none, true_and, and_true, false_and, and_false, true_implies, false_implies, implies_true, not_true_eq_false, not_false_eq_true, ne_eq, if_true, if_false, Bool.and_true, Bool.true_and, decide_true, decide_false, reduceIte, reduceCtorEq, Bool.and_self, Bool.and_eq_true, decide_eq_true_eq, and_self, true_or, or_true, false_or, or_false, Nat.zero_add, Nat.add_zero, eq_self, Nat.reduceEqDiff, Nat.reduceLeDiff, Nat.reduceLT, Nat.reduceAdd, Nat.reduceSub, Nat.reduceMul, show ((100000 : Int32) ≤ nI i) = False from eq_false (by rw [show (100000 : Int32) = nI 100000 from rfl]; exact nI_ge (by omega) (by decide)), LC_out hL, R93 hL hG hC h64, lN_cmp h642 h64, ds]
    by_cases h : nc (I 110 6) (I 111) n fi se dg sb c = c
    · simp only [h, true_and, and_true, false_and, and_false, true_implies, false_implies, implies_true, not_true_eq_false, not_false_eq_true, ne_eq, if_true, if_false, Bool.and_true, Bool.true_and, decide_true, decide_false, reduceIte, reduceCtorEq, Bool.and_self, Bool.and_eq_true, decide_eq_true_eq, and_self, true_or, or_true, false_or, or_false, Nat.zero_add, Nat.add_zero, eq_self, Nat.reduceEqDiff, Nat.reduceLeDiff, Nat.reduceLT, Nat.reduceAdd, Nat.reduceSub, Nat.reduceMul, e183_53, B183_53, xSeq, i_push, i_load, i_iload, i_lload, i_dload, i_aload, i_istore, i_astore, i_lstore, i_dstore, i_iinc, i_ii, i_iiz, i_ll, i_llz, i_lli, i_li, i_i, i_l, i_i2l, i_l2i, i_dup, i_dup2, i_dup2w, i_dupx1, i_pop, i_pop2, i_goto, i_ifc, i_icmp, i_getI, i_getL, i_getR, i_putI, i_putZ, i_putL, i_putR, i_aldI, i_aldB, i_aldL, i_aldD, i_astI, i_astL, i_astD, i_alen, i_ret, i_iret, i_zret, i_lret, i_fret, i_dret, i_aret, i_invS0, i_invV0, i_m2, i_m1, i_ml, i_obj, lk, lkp, stf1, stf2, Value.category, rV, xTo, lv_args, xCk, xCat, xRc, xAk, hg_S, hg_I, hg_J, hg_D, hg_R, hs_I, hs_J, hs_D, hs_R, uI_at, uJ_at, uD_at, uR_at, List.take_succ_cons, List.take_zero, List.drop_succ_cons, List.drop_zero, List.reverse_cons, List.reverse_nil, List.nil_append, List.cons_append, List.map_cons, List.map_nil, List.sum_cons, List.sum_nil, List.length_cons, List.length_nil, Option.toList_some, Option.toList_none]
    · simp only [h, true_and, and_true, false_and, and_false, true_implies, false_implies, implies_true, not_true_eq_false, not_false_eq_true, ne_eq, if_true, if_false, Bool.and_true, Bool.true_and, decide_true, decide_false, reduceIte, reduceCtorEq, Bool.and_self, Bool.and_eq_true, decide_eq_true_eq, and_self, true_or, or_true, false_or, or_false, Nat.zero_add, Nat.add_zero, eq_self, Nat.reduceEqDiff, Nat.reduceLeDiff, Nat.reduceLT, Nat.reduceAdd, Nat.reduceSub, Nat.reduceMul, e183_41, B183_41, xSeq, i_push, i_load, i_iload, i_lload, i_dload, i_aload, i_istore, i_astore, i_lstore, i_dstore, i_iinc, i_ii, i_iiz, i_ll, i_llz, i_lli, i_li, i_i, i_l, i_i2l, i_l2i, i_dup, i_dup2, i_dup2w, i_dupx1, i_pop, i_pop2, i_goto, i_ifc, i_icmp, i_getI, i_getL, i_getR, i_putI, i_putZ, i_putL, i_putR, i_aldI, i_aldB, i_aldL, i_aldD, i_astI, i_astL, i_astD, i_alen, i_ret, i_iret, i_zret, i_lret, i_fret, i_dret, i_aret, i_invS0, i_invV0, i_m2, i_m1, i_ml, i_obj, lk, lkp, stf1, stf2, Value.category, rV, xTo, lv_args, xCk, xCat, xRc, xAk, hg_S, hg_I, hg_J, hg_D, hg_R, hs_I, hs_J, hs_D, hs_R, uI_at, uJ_at, uD_at, uR_at, List.take_succ_cons, List.take_zero, List.drop_succ_cons, List.drop_zero, List.reverse_cons, List.reverse_nil, List.nil_append, List.cons_append, List.map_cons, List.map_nil, List.sum_cons, List.sum_nil, List.length_cons, List.length_nil, Option.toList_some, Option.toList_none, nI_1]
      rw [show k + ((ds (nc (I 110 6) (I 111) n fi se dg sb) j (nc (I 110 6) (I 111) n fi se dg sb c)).2 + 1) = k + 1 + (ds (nc (I 110 6) (I 111) n fi se dg sb) j (nc (I 110 6) (I 111) n fi se dg sb c)).2 by omega]
      exact ih
theorem R183_z (hL : LC S R) (hG : GR n m fi se dg sb) (hC : CL I n m fi se dg sb) {c : Nat} (hc : c < 2 ^ n) : xRun xT 183 13 [(0, .ref 100), (3, .long (lN c)), (5, .int 0), (6, .int 0)] [] (S, I, J, D, R) b Q = Q (.ok (some (.int (nI (ds (nc (I 110 6) (I 111) n fi se dg sb) 100000 c).2)))) (S, I, J, D, R) b := by
  obtain ⟨r, hr⟩ : ∃ r : Nat, r = 100000 := ⟨_, rfl⟩
  have h := R183_13 (J := J) (D := D) (b := b) (Q := Q) hL hG hC r 0 0 c (by omega) hc
  rw [Nat.zero_add, nI_0, hr] at h
  exact h
theorem R188_10 (hL : LC S R) (hG : GR n m fi se dg sb) (hC : CL I n m fi se dg sb) : ∀ (j i c : Nat), i + j = 100000 → c < 2 ^ n → xRun xT 188 10 [(0, .ref 100), (3, .long (lN c)), (5, .int (nI i))] [] (S, I, J, D, R) b Q = Q (.ok (some (.long (lN (ds (nc (I 110 6) (I 111) n fi se dg sb) j c).1)))) (S, I, J, D, R) b
  | 0, i, c, hi, hc => by
    have e : i = 100000 := by omega
    rw [e188_10]
    simp only [B188_10, xSeq, i_push, i_load, i_iload, i_lload, i_dload, i_aload, i_istore, i_astore, i_lstore, i_dstore, i_iinc, i_ii, i_iiz, i_ll, i_llz, i_lli, i_li, i_i, i_l, i_i2l, i_l2i, i_dup, i_dup2, i_dup2w, i_dupx1, i_pop, i_pop2, i_goto, i_ifc, i_icmp, i_getI, i_getL, i_getR, i_putI, i_putZ, i_putL, i_putR, i_aldI, i_aldB, i_aldL, i_aldD, i_astI, i_astL, i_astD, i_alen, i_ret, i_iret, i_zret, i_lret, i_fret, i_dret, i_aret, i_invS0, i_invV0, i_m2, i_m1, i_ml, i_obj, lk, lkp, stf1, stf2, Value.category, rV, xTo, lv_args, xCk, xCat, xRc, xAk, hg_S, hg_I, hg_J, hg_D, hg_R, hs_I, hs_J, hs_D, hs_R, uI_at, uJ_at, uD_at, uR_at, List.take_succ_cons, List.take_zero, List.drop_succ_cons, List.drop_zero, List.reverse_cons, List.reverse_nil, List.nil_append, List.cons_append, List.map_cons, List.map_nil, List.sum_cons, List.sum_nil, List.length_cons, List.length_nil, Option.toList_some, Option.toList_none, true_and, and_true, false_and, and_false, true_implies, false_implies, implies_true, not_true_eq_false, not_false_eq_true, ne_eq, if_true, if_false, Bool.and_true, Bool.true_and, decide_true, decide_false, reduceIte, reduceCtorEq, Bool.and_self, Bool.and_eq_true, decide_eq_true_eq, and_self, true_or, or_true, false_or, or_false, Nat.zero_add, Nat.add_zero, eq_self, Nat.reduceEqDiff, Nat.reduceLeDiff, Nat.reduceLT, Nat.reduceAdd, Nat.reduceSub, Nat.reduceMul, show ((100000 : Int32) ≤ nI i) = True from eq_true (by rw [e]; decide), e188_47, B188_47, ds]
  | j + 1, i, c, hi, hc => by
    have h64 : c < 2 ^ 64 := Nat.lt_of_lt_of_le hc (Nat.pow_le_pow_right (by decide) hG.2.1)
    have hc2 := nc_lt (F := I 110 6) (st := I 111) (fi := fi) (se := se) (dg := dg) (sb := sb) hc
    have h642 := Nat.lt_of_lt_of_le hc2 (Nat.pow_le_pow_right (show 0 < 2 by decide) hG.2.1)
    have ih := R188_10 hL hG hC j (i + 1) (nc (I 110 6) (I 111) n fi se dg sb c) (by omega) hc2
    rw [e188_10]
    simp only [B188_10, xSeq, i_push, i_load, i_iload, i_lload, i_dload, i_aload, i_istore, i_astore, i_lstore, i_dstore, i_iinc, i_ii, i_iiz, i_ll, i_llz, i_lli, i_li, i_i, i_l, i_i2l, i_l2i, i_dup, i_dup2, i_dup2w, i_dupx1, i_pop, i_pop2, i_goto, i_ifc, i_icmp, i_getI, i_getL, i_getR, i_putI, i_putZ, i_putL, i_putR, i_aldI, i_aldB, i_aldL, i_aldD, i_astI, i_astL, i_astD, i_alen, i_ret, i_iret, i_zret, i_lret, i_fret, i_dret, i_aret, i_invS0, i_invV0, i_m2, i_m1, i_ml, i_obj, lk, lkp, stf1, stf2, Value.category, rV, xTo, lv_args, xCk, xCat, xRc, xAk, hg_S, hg_I, hg_J, hg_D, hg_R, hs_I, hs_J, hs_D, hs_R, uI_at, uJ_at, uD_at, uR_at, List.take_succ_cons, List.take_zero, List.drop_succ_cons, List.drop_zero, List.reverse_cons, List.reverse_nil, List.nil_append, List.cons_append, List.map_cons, List.map_nil, List.sum_cons, List.sum_nil, List.length_cons, List.length_nil, Option.toList_some, Option.toList_none, true_and, and_true, false_and, and_false, true_implies, false_implies, implies_true, not_true_eq_false, not_false_eq_true, ne_eq, if_true, if_false, Bool.and_true, Bool.true_and, decide_true, decide_false, reduceIte, reduceCtorEq, Bool.and_self, Bool.and_eq_true, decide_eq_true_eq, and_self, true_or, or_true, false_or, or_false, Nat.zero_add, Nat.add_zero, eq_self, Nat.reduceEqDiff, Nat.reduceLeDiff, Nat.reduceLT, Nat.reduceAdd, Nat.reduceSub, Nat.reduceMul, show ((100000 : Int32) ≤ nI i) = False from eq_false (by rw [show (100000 : Int32) = nI 100000 from rfl]; exact nI_ge (by omega) (by decide)), LC_out hL, R93 hL hG hC h64, lN_cmp h642 h64, ds]
    by_cases h : nc (I 110 6) (I 111) n fi se dg sb c = c
    · simp only [h, true_and, and_true, false_and, and_false, true_implies, false_implies, implies_true, not_true_eq_false, not_false_eq_true, ne_eq, if_true, if_false, Bool.and_true, Bool.true_and, decide_true, decide_false, reduceIte, reduceCtorEq, Bool.and_self, Bool.and_eq_true, decide_eq_true_eq, and_self, true_or, or_true, false_or, or_false, Nat.zero_add, Nat.add_zero, eq_self, Nat.reduceEqDiff, Nat.reduceLeDiff, Nat.reduceLT, Nat.reduceAdd, Nat.reduceSub, Nat.reduceMul, e188_47, B188_47, xSeq, i_push, i_load, i_iload, i_lload, i_dload, i_aload, i_istore, i_astore, i_lstore, i_dstore, i_iinc, i_ii, i_iiz, i_ll, i_llz, i_lli, i_li, i_i, i_l, i_i2l, i_l2i, i_dup, i_dup2, i_dup2w, i_dupx1, i_pop, i_pop2, i_goto, i_ifc, i_icmp, i_getI, i_getL, i_getR, i_putI, i_putZ, i_putL, i_putR, i_aldI, i_aldB, i_aldL, i_aldD, i_astI, i_astL, i_astD, i_alen, i_ret, i_iret, i_zret, i_lret, i_fret, i_dret, i_aret, i_invS0, i_invV0, i_m2, i_m1, i_ml, i_obj, lk, lkp, stf1, stf2, Value.category, rV, xTo, lv_args, xCk, xCat, xRc, xAk, hg_S, hg_I, hg_J, hg_D, hg_R, hs_I, hs_J, hs_D, hs_R, uI_at, uJ_at, uD_at, uR_at, List.take_succ_cons, List.take_zero, List.drop_succ_cons, List.drop_zero, List.reverse_cons, List.reverse_nil, List.nil_append, List.cons_append, List.map_cons, List.map_nil, List.sum_cons, List.sum_nil, List.length_cons, List.length_nil, Option.toList_some, Option.toList_none]
    · simp only [h, true_and, and_true, false_and, and_false, true_implies, false_implies, implies_true, not_true_eq_false, not_false_eq_true, ne_eq, if_true, if_false, Bool.and_true, Bool.true_and, decide_true, decide_false, reduceIte, reduceCtorEq, Bool.and_self, Bool.and_eq_true, decide_eq_true_eq, and_self, true_or, or_true, false_or, or_false, Nat.zero_add, Nat.add_zero, eq_self, Nat.reduceEqDiff, Nat.reduceLeDiff, Nat.reduceLT, Nat.reduceAdd, Nat.reduceSub, Nat.reduceMul, e188_38, B188_38, xSeq, i_push, i_load, i_iload, i_lload, i_dload, i_aload, i_istore, i_astore, i_lstore, i_dstore, i_iinc, i_ii, i_iiz, i_ll, i_llz, i_lli, i_li, i_i, i_l, i_i2l, i_l2i, i_dup, i_dup2, i_dup2w, i_dupx1, i_pop, i_pop2, i_goto, i_ifc, i_icmp, i_getI, i_getL, i_getR, i_putI, i_putZ, i_putL, i_putR, i_aldI, i_aldB, i_aldL, i_aldD, i_astI, i_astL, i_astD, i_alen, i_ret, i_iret, i_zret, i_lret, i_fret, i_dret, i_aret, i_invS0, i_invV0, i_m2, i_m1, i_ml, i_obj, lk, lkp, stf1, stf2, Value.category, rV, xTo, lv_args, xCk, xCat, xRc, xAk, hg_S, hg_I, hg_J, hg_D, hg_R, hs_I, hs_J, hs_D, hs_R, uI_at, uJ_at, uD_at, uR_at, List.take_succ_cons, List.take_zero, List.drop_succ_cons, List.drop_zero, List.reverse_cons, List.reverse_nil, List.nil_append, List.cons_append, List.map_cons, List.map_nil, List.sum_cons, List.sum_nil, List.length_cons, List.length_nil, Option.toList_some, Option.toList_none, nI_1]
      exact ih
theorem R188_z (hL : LC S R) (hG : GR n m fi se dg sb) (hC : CL I n m fi se dg sb) {c : Nat} (hc : c < 2 ^ n) : xRun xT 188 10 [(0, .ref 100), (3, .long (lN c)), (5, .int 0)] [] (S, I, J, D, R) b Q = Q (.ok (some (.long (lN (ds (nc (I 110 6) (I 111) n fi se dg sb) 100000 c).1)))) (S, I, J, D, R) b := by
  obtain ⟨r, hr⟩ : ∃ r : Nat, r = 100000 := ⟨_, rfl⟩
  have h := R188_10 (J := J) (D := D) (b := b) (Q := Q) hL hG hC r 0 c (by omega) hc
  rw [nI_0, hr] at h
  exact h
theorem R268_18 (hL : LM S R) (hG : GR n m fi se dg sb) (hC : CM I n m fi se dg sb) {c : Nat} (hc : c < 2 ^ 64) (hJ : J 200 39 = lN c) : ∀ (j i : Nat), i + j = n → xRun xT 268 18 [(0, .ref 200), (3, .int (bm (dl (I 300 4) (fun k => I 300 (16 + k)) fi se dg sb c) i).2), (4, .int (bm (dl (I 300 4) (fun k => I 300 (16 + k)) fi se dg sb c) i).1), (5, .int (nI i))] [] (S, I, J, D, R) b Q = xRun xT 268 65 [(0, .ref 200), (3, .int (bm (dl (I 300 4) (fun k => I 300 (16 + k)) fi se dg sb c) n).2)] [] (S, I, J, D, R) b Q
  | 0, i, hi => by
    have g1 := hG.2.1
    have c1 := hC.1
    have e : i = n := by omega
    subst e
    rw [e268_18]
    simp only [B268_18, xSeq, i_push, i_load, i_iload, i_lload, i_dload, i_aload, i_istore, i_astore, i_lstore, i_dstore, i_iinc, i_ii, i_iiz, i_ll, i_llz, i_lli, i_li, i_i, i_l, i_i2l, i_l2i, i_dup, i_dup2, i_dup2w, i_dupx1, i_pop, i_pop2, i_goto, i_ifc, i_icmp, i_getI, i_getL, i_getR, i_putI, i_putZ, i_putL, i_putR, i_aldI, i_aldB, i_aldL, i_aldD, i_astI, i_astL, i_astD, i_alen, i_ret, i_iret, i_zret, i_lret, i_fret, i_dret, i_aret, i_invS0, i_invV0, i_m2, i_m1, i_ml, i_obj, lk, lkp, stf1, stf2, Value.category, rV, xTo, lv_args, xCk, xCat, xRc, xAk, hg_S, hg_I, hg_J, hg_D, hg_R, hs_I, hs_J, hs_D, hs_R, uI_at, uJ_at, uD_at, uR_at, List.take_succ_cons, List.take_zero, List.drop_succ_cons, List.drop_zero, List.reverse_cons, List.reverse_nil, List.nil_append, List.cons_append, List.map_cons, List.map_nil, List.sum_cons, List.sum_nil, List.length_cons, List.length_nil, Option.toList_some, Option.toList_none, true_and, and_true, false_and, and_false, true_implies, false_implies, implies_true, not_true_eq_false, not_false_eq_true, ne_eq, if_true, if_false, Bool.and_true, Bool.true_and, decide_true, decide_false, reduceIte, reduceCtorEq, Bool.and_self, Bool.and_eq_true, decide_eq_true_eq, and_self, true_or, or_true, false_or, or_false, Nat.zero_add, Nat.add_zero, eq_self, Nat.reduceEqDiff, Nat.reduceLeDiff, Nat.reduceLT, Nat.reduceAdd, Nat.reduceSub, Nat.reduceMul, LM_out hL, xi144_0, ix_0, xi144_1, ix_1, xi144_2, ix_2, xi144_3, ix_3, xi144_4, ix_4, xi144_5, ix_5, xi144_6, ix_6, xi144_7, ix_7, xi144_8, ix_8, xi144_9, ix_9, xi144_10, ix_10, c1, nI_leP (show i < 2147483648 by omega) (show i < 2147483648 by omega), Nat.le_refl]
  | j + 1, i, hi => by
    have g1 := hG.2.1
    have c1 := hC.1
    have ih := R268_18 hL hG hC hc hJ j (i + 1) (by omega)
    rw [bm] at ih
    rw [e268_18]
    simp only [B268_18, xSeq, i_push, i_load, i_iload, i_lload, i_dload, i_aload, i_istore, i_astore, i_lstore, i_dstore, i_iinc, i_ii, i_iiz, i_ll, i_llz, i_lli, i_li, i_i, i_l, i_i2l, i_l2i, i_dup, i_dup2, i_dup2w, i_dupx1, i_pop, i_pop2, i_goto, i_ifc, i_icmp, i_getI, i_getL, i_getR, i_putI, i_putZ, i_putL, i_putR, i_aldI, i_aldB, i_aldL, i_aldD, i_astI, i_astL, i_astD, i_alen, i_ret, i_iret, i_zret, i_lret, i_fret, i_dret, i_aret, i_invS0, i_invV0, i_m2, i_m1, i_ml, i_obj, lk, lkp, stf1, stf2, Value.category, rV, xTo, lv_args, xCk, xCat, xRc, xAk, hg_S, hg_I, hg_J, hg_D, hg_R, hs_I, hs_J, hs_D, hs_R, uI_at, uJ_at, uD_at, uR_at, List.take_succ_cons, List.take_zero, List.drop_succ_cons, List.drop_zero, List.reverse_cons, List.reverse_nil, List.nil_append, List.cons_append, List.map_cons, List.map_nil, List.sum_cons, List.sum_nil, List.length_cons, List.length_nil, Option.toList_some, Option.toList_none, true_and, and_true, false_and, and_false, true_implies, false_implies, implies_true, not_true_eq_false, not_false_eq_true, ne_eq, if_true, if_false, Bool.and_true, Bool.true_and, decide_true, decide_false, reduceIte, reduceCtorEq, Bool.and_self, Bool.and_eq_true, decide_eq_true_eq, and_self, true_or, or_true, false_or, or_false, Nat.zero_add, Nat.add_zero, eq_self, Nat.reduceEqDiff, Nat.reduceLeDiff, Nat.reduceLT, Nat.reduceAdd, Nat.reduceSub, Nat.reduceMul, LM_out hL, xi144_0, ix_0, xi144_1, ix_1, xi144_2, ix_2, xi144_3, ix_3, xi144_4, ix_4, xi144_5, ix_5, xi144_6, ix_6, xi144_7, ix_7, xi144_8, ix_8, xi144_9, ix_9, xi144_10, ix_10, c1, hJ, nI_leP (show n < 2147483648 by omega) (show i < 2147483648 by omega), show (n ≤ i) = False from eq_false (by omega), R257 hL hG hC hc (show i < n by omega), e268_52, B268_52, e268_59, B268_59, nI_1]
    by_cases h : dl (I 300 4) (fun k => I 300 (16 + k)) fi se dg sb c i < (bm (dl (I 300 4) (fun k => I 300 (16 + k)) fi se dg sb c) i).1
    · rw [if_pos h] at ih
      simp only [h, true_and, and_true, false_and, and_false, true_implies, false_implies, implies_true, not_true_eq_false, not_false_eq_true, ne_eq, if_true, if_false, Bool.and_true, Bool.true_and, decide_true, decide_false, reduceIte, reduceCtorEq, Bool.and_self, Bool.and_eq_true, decide_eq_true_eq, and_self, true_or, or_true, false_or, or_false, Nat.zero_add, Nat.add_zero, eq_self, Nat.reduceEqDiff, Nat.reduceLeDiff, Nat.reduceLT, Nat.reduceAdd, Nat.reduceSub, Nat.reduceMul]
      exact ih
    · rw [if_neg h] at ih
      simp only [h, true_and, and_true, false_and, and_false, true_implies, false_implies, implies_true, not_true_eq_false, not_false_eq_true, ne_eq, if_true, if_false, Bool.and_true, Bool.true_and, decide_true, decide_false, reduceIte, reduceCtorEq, Bool.and_self, Bool.and_eq_true, decide_eq_true_eq, and_self, true_or, or_true, false_or, or_false, Nat.zero_add, Nat.add_zero, eq_self, Nat.reduceEqDiff, Nat.reduceLeDiff, Nat.reduceLT, Nat.reduceAdd, Nat.reduceSub, Nat.reduceMul]
      exact ih
theorem R268_10 (hL : LM S R) (hG : GR n m fi se dg sb) (hN : GN n m fi se dg sb) (hC : CM I n m fi se dg sb) (hs : SB (I 300 4) (fun k => I 300 (16 + k)) m) : ∀ (r k c : Nat), c < 2 ^ n → mu (I 300 4) (fun k => I 300 (16 + k)) n m fi se c < r → xRun xT 268 10 [(0, .ref 200)] [] (S, uI I 200 38 (nI k), uJ J 200 39 (lN c), D, R) b Q = Q (.ok none) (S, uI I 200 38 (nI (k + (ds (nc (I 300 4) (fun k => I 300 (16 + k)) n fi se dg sb) r c).2)), uJ J 200 39 (lN (ds (nc (I 300 4) (fun k => I 300 (16 + k)) n fi se dg sb) r c).1), D, R) b
  | 0, k, c, hc, hm => absurd hm (Nat.not_lt_zero _)
  | r + 1, k, c, hc, hm => by
    have h64 : c < 2 ^ 64 := Nat.lt_of_lt_of_le hc (Nat.pow_le_pow_right (by decide) hG.2.1)
    have hc2 := nc_lt (F := I 300 4) (st := fun k => I 300 (16 + k)) (fi := fi) (se := se) (dg := dg) (sb := sb) hc
    have h18 := R268_18 (I := uI I 200 38 (nI k)) (J := uJ J 200 39 (lN c)) (D := D) (b := b) (Q := Q) hL hG (CM_u hC (by decide)) h64 (by simp only [uJ_at, true_and, and_true, false_and, and_false, true_implies, false_implies, implies_true, not_true_eq_false, not_false_eq_true, ne_eq, if_true, if_false, Bool.and_true, Bool.true_and, decide_true, decide_false, reduceIte, reduceCtorEq, Bool.and_self, Bool.and_eq_true, decide_eq_true_eq, and_self, true_or, or_true, false_or, or_false, Nat.zero_add, Nat.add_zero, eq_self, Nat.reduceEqDiff, Nat.reduceLeDiff, Nat.reduceLT, Nat.reduceAdd, Nat.reduceSub, Nat.reduceMul]) n 0 (by omega)
    rw [nI_0] at h18
    have eF : uI I 200 38 (nI k) 300 4 = I 300 4 := rfl
    have eS : (fun j => uI I 200 38 (nI k) 300 (16 + j)) = fun j => I 300 (16 + j) := rfl
    rw [eF, eS, bm] at h18
    rw [e268_10]
    simp only [B268_10, xSeq, i_push, i_load, i_iload, i_lload, i_dload, i_aload, i_istore, i_astore, i_lstore, i_dstore, i_iinc, i_ii, i_iiz, i_ll, i_llz, i_lli, i_li, i_i, i_l, i_i2l, i_l2i, i_dup, i_dup2, i_dup2w, i_dupx1, i_pop, i_pop2, i_goto, i_ifc, i_icmp, i_getI, i_getL, i_getR, i_putI, i_putZ, i_putL, i_putR, i_aldI, i_aldB, i_aldL, i_aldD, i_astI, i_astL, i_astD, i_alen, i_ret, i_iret, i_zret, i_lret, i_fret, i_dret, i_aret, i_invS0, i_invV0, i_m2, i_m1, i_ml, i_obj, lk, lkp, stf1, stf2, Value.category, rV, xTo, lv_args, xCk, xCat, xRc, xAk, hg_S, hg_I, hg_J, hg_D, hg_R, hs_I, hs_J, hs_D, hs_R, uI_at, uJ_at, uD_at, uR_at, List.take_succ_cons, List.take_zero, List.drop_succ_cons, List.drop_zero, List.reverse_cons, List.reverse_nil, List.nil_append, List.cons_append, List.map_cons, List.map_nil, List.sum_cons, List.sum_nil, List.length_cons, List.length_nil, Option.toList_some, Option.toList_none, true_and, and_true, false_and, and_false, true_implies, false_implies, implies_true, not_true_eq_false, not_false_eq_true, ne_eq, if_true, if_false, Bool.and_true, Bool.true_and, decide_true, decide_false, reduceIte, reduceCtorEq, Bool.and_self, Bool.and_eq_true, decide_eq_true_eq, and_self, true_or, or_true, false_or, or_false, Nat.zero_add, Nat.add_zero, eq_self, Nat.reduceEqDiff, Nat.reduceLeDiff, Nat.reduceLT, Nat.reduceAdd, Nat.reduceSub, Nat.reduceMul, h18, e268_65, B268_65]
    rcases bs_bm (dl (I 300 4) (fun k => I 300 (16 + k)) fi se dg sb c) c n with ⟨t, h1, h2, h3, h4⟩ | ⟨h2, h3⟩
    · have e1 : nc (I 300 4) (fun k => I 300 (16 + k)) n fi se dg sb c = c ^^^ 2 ^ t := by unfold nc; rw [h3]
      have h5 : nc (I 300 4) (fun k => I 300 (16 + k)) n fi se dg sb c ≠ c := by rw [e1]; exact xor_ne c t
      have h6 := mu_nc hs hG hN h5
      have ih := R268_10 hL hG hN hC hs r (k + 1) _ hc2 (by omega)
      have h7 : (nI t = -1) = False := eq_false (fun e => by
        have := congrArg Int32.toInt e
        rw [nI_toInt (by have := hG.2.1; omega)] at this
        have h9 : (-1 : Int32).toInt = -1 := rfl
        omega)
      simp only [h2, h7, ne_eq, not_false_eq_true, xSeq, i_push, i_load, i_iload, i_lload, i_dload, i_aload, i_istore, i_astore, i_lstore, i_dstore, i_iinc, i_ii, i_iiz, i_ll, i_llz, i_lli, i_li, i_i, i_l, i_i2l, i_l2i, i_dup, i_dup2, i_dup2w, i_dupx1, i_pop, i_pop2, i_goto, i_ifc, i_icmp, i_getI, i_getL, i_getR, i_putI, i_putZ, i_putL, i_putR, i_aldI, i_aldB, i_aldL, i_aldD, i_astI, i_astL, i_astD, i_alen, i_ret, i_iret, i_zret, i_lret, i_fret, i_dret, i_aret, i_invS0, i_invV0, i_m2, i_m1, i_ml, i_obj, lk, lkp, stf1, stf2, Value.category, rV, xTo, lv_args, xCk, xCat, xRc, xAk, hg_S, hg_I, hg_J, hg_D, hg_R, hs_I, hs_J, hs_D, hs_R, uI_at, uJ_at, uD_at, uR_at, List.take_succ_cons, List.take_zero, List.drop_succ_cons, List.drop_zero, List.reverse_cons, List.reverse_nil, List.nil_append, List.cons_append, List.map_cons, List.map_nil, List.sum_cons, List.sum_nil, List.length_cons, List.length_nil, Option.toList_some, Option.toList_none, true_and, and_true, false_and, and_false, true_implies, false_implies, implies_true, not_true_eq_false, not_false_eq_true, ne_eq, if_true, if_false, Bool.and_true, Bool.true_and, decide_true, decide_false, reduceIte, reduceCtorEq, Bool.and_self, Bool.and_eq_true, decide_eq_true_eq, and_self, true_or, or_true, false_or, or_false, Nat.zero_add, Nat.add_zero, eq_self, Nat.reduceEqDiff, Nat.reduceLeDiff, Nat.reduceLT, Nat.reduceAdd, Nat.reduceSub, Nat.reduceMul, e268_71, B268_71, LM_out hL, q_1shlL (show t < 64 by have := hG.2.1; omega), q_xor, nI_1, uI_uI, uJ_uJ]
      rw [ds, if_neg h5, ← e1]
      show xRun xT 268 10 [(0, .ref 200)] [] (S, uI I 200 38 (nI (k + 1)), uJ J 200 39 (lN (nc (I 300 4) (fun k => I 300 (16 + k)) n fi se dg sb c)), D, R) b Q = _
      rw [ih]
      show Q (.ok none) (S, uI I 200 38 (nI (k + 1 + (ds (nc (I 300 4) (fun k => I 300 (16 + k)) n fi se dg sb) r (nc (I 300 4) (fun k => I 300 (16 + k)) n fi se dg sb c)).2)), uJ J 200 39 (lN (ds (nc (I 300 4) (fun k => I 300 (16 + k)) n fi se dg sb) r (nc (I 300 4) (fun k => I 300 (16 + k)) n fi se dg sb c)).1), D, R) b = _
      rw [show k + 1 + (ds (nc (I 300 4) (fun k => I 300 (16 + k)) n fi se dg sb) r (nc (I 300 4) (fun k => I 300 (16 + k)) n fi se dg sb c)).2 = k + ((ds (nc (I 300 4) (fun k => I 300 (16 + k)) n fi se dg sb) r (nc (I 300 4) (fun k => I 300 (16 + k)) n fi se dg sb c)).2 + 1) by omega]
    · have e1 : nc (I 300 4) (fun k => I 300 (16 + k)) n fi se dg sb c = c := by unfold nc; rw [h3]
      simp only [h2, ne_eq, not_true_eq_false, xSeq, i_push, i_load, i_iload, i_lload, i_dload, i_aload, i_istore, i_astore, i_lstore, i_dstore, i_iinc, i_ii, i_iiz, i_ll, i_llz, i_lli, i_li, i_i, i_l, i_i2l, i_l2i, i_dup, i_dup2, i_dup2w, i_dupx1, i_pop, i_pop2, i_goto, i_ifc, i_icmp, i_getI, i_getL, i_getR, i_putI, i_putZ, i_putL, i_putR, i_aldI, i_aldB, i_aldL, i_aldD, i_astI, i_astL, i_astD, i_alen, i_ret, i_iret, i_zret, i_lret, i_fret, i_dret, i_aret, i_invS0, i_invV0, i_m2, i_m1, i_ml, i_obj, lk, lkp, stf1, stf2, Value.category, rV, xTo, lv_args, xCk, xCat, xRc, xAk, hg_S, hg_I, hg_J, hg_D, hg_R, hs_I, hs_J, hs_D, hs_R, uI_at, uJ_at, uD_at, uR_at, List.take_succ_cons, List.take_zero, List.drop_succ_cons, List.drop_zero, List.reverse_cons, List.reverse_nil, List.nil_append, List.cons_append, List.map_cons, List.map_nil, List.sum_cons, List.sum_nil, List.length_cons, List.length_nil, Option.toList_some, Option.toList_none, true_and, and_true, false_and, and_false, true_implies, false_implies, implies_true, not_true_eq_false, not_false_eq_true, ne_eq, if_true, if_false, Bool.and_true, Bool.true_and, decide_true, decide_false, reduceIte, reduceCtorEq, Bool.and_self, Bool.and_eq_true, decide_eq_true_eq, and_self, true_or, or_true, false_or, or_false, Nat.zero_add, Nat.add_zero, eq_self, Nat.reduceEqDiff, Nat.reduceLeDiff, Nat.reduceLT, Nat.reduceAdd, Nat.reduceSub, Nat.reduceMul, ds, e1]
theorem R268 (hL : LM S R) (hG : GR n m fi se dg sb) (hN : GN n m fi se dg sb) (hC : CM I n m fi se dg sb) (hs : SB (I 300 4) (fun k => I 300 (16 + k)) m) {c : Nat} (hc : c < 2 ^ n) : xRun xT 268 0 [(0, .ref 200), (1, .long (lN c))] [] (S, I, J, D, R) b Q = Q (.ok none) (S, uI I 200 38 (nI (ds (nc (I 300 4) (fun k => I 300 (16 + k)) n fi se dg sb) 100000 c).2), uJ J 200 39 (lN (ds (nc (I 300 4) (fun k => I 300 (16 + k)) n fi se dg sb) 100000 c).1), D, R) b := by
  have b1 := en_bd (fi := fi) (se := se) hs hG.2.1 hG.2.2.1 c
  have hm : mu (I 300 4) (fun k => I 300 (16 + k)) n m fi se c < 100000 := by
    unfold mu
    omega
  obtain ⟨r, hr⟩ : ∃ r : Nat, r = 100000 := ⟨_, rfl⟩
  rw [← hr] at hm ⊢
  have h := R268_10 (J := J) (D := D) (b := b) (Q := Q) hL hG hN hC hs r 0 c hc hm
  rw [Nat.zero_add, nI_0] at h
  rw [e268_0]
  simp only [B268_0, xSeq, i_push, i_load, i_iload, i_lload, i_dload, i_aload, i_istore, i_astore, i_lstore, i_dstore, i_iinc, i_ii, i_iiz, i_ll, i_llz, i_lli, i_li, i_i, i_l, i_i2l, i_l2i, i_dup, i_dup2, i_dup2w, i_dupx1, i_pop, i_pop2, i_goto, i_ifc, i_icmp, i_getI, i_getL, i_getR, i_putI, i_putZ, i_putL, i_putR, i_aldI, i_aldB, i_aldL, i_aldD, i_astI, i_astL, i_astD, i_alen, i_ret, i_iret, i_zret, i_lret, i_fret, i_dret, i_aret, i_invS0, i_invV0, i_m2, i_m1, i_ml, i_obj, lk, lkp, stf1, stf2, Value.category, rV, xTo, lv_args, xCk, xCat, xRc, xAk, hg_S, hg_I, hg_J, hg_D, hg_R, hs_I, hs_J, hs_D, hs_R, uI_at, uJ_at, uD_at, uR_at, List.take_succ_cons, List.take_zero, List.drop_succ_cons, List.drop_zero, List.reverse_cons, List.reverse_nil, List.nil_append, List.cons_append, List.map_cons, List.map_nil, List.sum_cons, List.sum_nil, List.length_cons, List.length_nil, Option.toList_some, Option.toList_none, true_and, and_true, false_and, and_false, true_implies, false_implies, implies_true, not_true_eq_false, not_false_eq_true, ne_eq, if_true, if_false, Bool.and_true, Bool.true_and, decide_true, decide_false, reduceIte, reduceCtorEq, Bool.and_self, Bool.and_eq_true, decide_eq_true_eq, and_self, true_or, or_true, false_or, or_false, Nat.zero_add, Nat.add_zero, eq_self, Nat.reduceEqDiff, Nat.reduceLeDiff, Nat.reduceLT, Nat.reduceAdd, Nat.reduceSub, Nat.reduceMul, LM_out hL]
  exact h
end
