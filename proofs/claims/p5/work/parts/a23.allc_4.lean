/-! ===== all clusters: printed by a23.allc.py ===== -/
section
variable {g : xGd} {x : xSt} {sv : Option xSt} {k : Nat} {by' : Nat → Nat} {e1 e2 : Int32} {z : xA} {N P f : Nat} {S : xS} {I : xI} {J : xJ} {D : xDb} {R : xR} {b : Nat × Nat} {Q : xQ} {n m : Nat} {fi se dg : Nat → Nat} {sb : Nat → Nat → Nat}
/-- groups flipped by chance: the mask so far, the generator -/
def cfm (r : Nat → Nat) (ge : Nat) : Nat → Nat × Nat
  | 0 => (0, ge)
  | i + 1 => if r i = i then ((cfm r ge i).1 ||| dw (cfm r ge i).2 2 * 2 ^ i, nx (cfm r ge i).2) else ((cfm r ge i).1 ||| (cfm r ge i).1 / 2 ^ r i % 2 * 2 ^ i, (cfm r ge i).2)
theorem bmul {d : Nat} (h : d < 2) (i k : Nat) : (d * 2 ^ i).testBit k = (decide (i = k) && decide (d = 1)) := by
  rcases (show d = 0 ∨ d = 1 by omega) with e | e
  · subst e; rw [Nat.zero_mul, Nat.zero_testBit]; simp
  · subst e; rw [Nat.one_mul, Nat.testBit_two_pow]; simp
theorem cfm_ok {r : Nat → Nat} {ge : Nat} (hg : ge < 2147483648) (hn : n ≤ 64) : ∀ i, i ≤ n → (cfm r ge i).1 < 2 ^ i ∧ (cfm r ge i).2 < 2147483648
  | 0, _ => ⟨by show 0 < 2 ^ 0; decide, hg⟩
  | i + 1, hi => by
    obtain ⟨h1, h2⟩ := cfm_ok (r := r) hg hn i (by omega)
    have h3 : (cfm r ge i).1 < 2 ^ (i + 1) := Nat.lt_trans h1 (Nat.pow_lt_pow_right (by decide) (Nat.lt_succ_self i))
    have h4 : ∀ d, d < 2 → d * 2 ^ i < 2 ^ (i + 1) := fun d hd => by
      have e : 2 ^ (i + 1) = 2 * 2 ^ i := by rw [Nat.pow_succ, Nat.mul_comm]
      rw [e]
      exact Nat.mul_lt_mul_of_pos_right hd (Nat.two_pow_pos i)
    rw [cfm]
    split
    · exact ⟨Nat.or_lt_two_pow h3 (h4 _ (dw_lt _ (by decide))), nx_lt _⟩
    · exact ⟨Nat.or_lt_two_pow h3 (h4 _ (Nat.mod_lt _ (by decide))), h2⟩
theorem cfm_bit {r : Nat → Nat} {ge : Nat} (hr : ∀ k, k < n → r k ≤ k ∧ r (r k) = r k) : ∀ i, i ≤ n → ∀ k, (cfm r ge i).1.testBit k = (decide (k < i) && decide (dw (cfm r ge (r k)).2 2 = 1))
  | 0, _, k => by show Nat.testBit 0 k = _; rw [Nat.zero_testBit]; simp
  | i + 1, hi, k => by
    have h := cfm_bit (ge := ge) hr i (by omega)
    obtain ⟨h1, h2⟩ := hr i (by omega)
    rw [cfm]
    split
    · next e =>
      show ((cfm r ge i).1 ||| dw (cfm r ge i).2 2 * 2 ^ i).testBit k = _
      rw [Nat.testBit_or, h k, bmul (dw_lt _ (by decide))]
      by_cases q : i = k
      · subst q
        rw [e]; simp
      · by_cases q2 : k < i
        · rw [decide_eq_true q2, decide_eq_false q, decide_eq_true (show k < i + 1 by omega)]; simp
        · rw [decide_eq_false q2, decide_eq_false q, decide_eq_false (show ¬ k < i + 1 by omega)]; simp
    · next e =>
      show ((cfm r ge i).1 ||| (cfm r ge i).1 / 2 ^ r i % 2 * 2 ^ i).testBit k = _
      have e3 : decide ((cfm r ge i).1 / 2 ^ r i % 2 = 1) = (cfm r ge i).1.testBit (r i) := by rw [Nat.testBit_eq_decide_div_mod_eq]
      rw [Nat.testBit_or, h k, bmul (Nat.mod_lt _ (by decide)), e3, h (r i), h2, decide_eq_true (show r i < i by omega)]
      by_cases q : i = k
      · subst q
        simp
      · by_cases q2 : k < i
        · rw [decide_eq_true q2, decide_eq_false q, decide_eq_true (show k < i + 1 by omega)]; simp
        · rw [decide_eq_false q2, decide_eq_false q, decide_eq_false (show ¬ k < i + 1 by omega)]; simp
theorem jd_WR (hG : GR n m fi se dg sb) {a bb : Nat} {st : Nat → Nat} {x ge : Nat} (hg : ge < 2147483648) : ∀ i, i ≤ m → ∃ p, WR n p (fun k => (jd n a bb st fi se x ge i).1.getD k 0)
  | 0, _ => ⟨fun k => k, fun k hk => by
      have e : (List.range n).getD k 0 = k := by rw [← List.getElem_eq_getD (h := by rw [List.length_range]; exact hk) 0, List.getElem_range]
      exact ⟨Nat.le_refl _, rfl, fun _ => e⟩⟩
  | i + 1, hi => by
    obtain ⟨p, h⟩ := jd_WR (a := a) (bb := bb) (st := st) (x := x) hG hg i (by omega)
    obtain ⟨y1, y2, y3⟩ := jd_ok (a := a) (bb := bb) (st := st) (x := x) hG hg i (by omega)
    rw [jd]
    split
    · split
      · exact ⟨p, h⟩
      · exact ⟨_, WR_congr (WR_join h (hG.2.2.2.1 i (by omega)) (hG.2.2.2.2.1 i (by omega))) (fun k hk => jl_at (by omega))⟩
    · exact ⟨p, h⟩
theorem L88x_11 {J0 : xJ} (hL : LC S R) (h2 : I 102 2 = nI n) (hn : n ≤ 64) {r : Nat → Nat} (hr : ∀ k, k < n → r k < n) {p : Nat → Nat} (hp : ∀ k, k < n → I 116 k = nI (p k)) (hW : WR n p r) {x ge : Nat} (hx : x < 2 ^ 64) (hg : ge < 2147483648) (hJ : J0 110 4 = lN x)
    (kk : Q (.ok (some (.int (nI (ct (fun s => decide (r s = s)) n))))) (S, I, uJ (uJ J0 110 5 (lN (cfm r ge n).2)) 110 4 (lN (x ^^^ (cfm r ge n).1)), D, R) b) :
    ∀ (j i : Nat), i + j = n → xRun xT 88 11 [(0, .ref 110), (1, .long (lN (cfm r ge i).1)), (3, .int (nI (ct (fun s => decide (r s = s)) i))), (4, .int (nI i))] [] (S, I, uJ J0 110 5 (lN (cfm r ge i).2), D, R) b Q
  | 0, i, hi => by
    have e : i = n := by omega
    subst e
    have e4 : uJ J0 110 5 (lN (cfm r ge i).2) 110 4 = lN x := by rw [uJ_at, if_neg (by decide)]; exact hJ
    rw [e88_11]
    simp only [B88_11, xSeq, i_push, i_load, i_iload, i_lload, i_dload, i_aload, i_istore, i_astore, i_lstore, i_dstore, i_iinc, i_ii, i_iiz, i_ll, i_llz, i_lli, i_li, i_i, i_l, i_i2l, i_l2i, i_dup, i_dup2, i_dup2w, i_dupx1, i_pop, i_pop2, i_goto, i_ifc, i_icmp, i_getI, i_getL, i_getR, i_putI, i_putZ, i_putL, i_putR, i_aldI, i_aldB, i_aldL, i_aldD, i_astI, i_astL, i_astD, i_alen, i_ret, i_iret, i_zret, i_lret, i_fret, i_dret, i_aret, i_invS0, i_invV0, i_m2, i_m1, i_ml, i_obj, lk, lkp, stf1, stf2, Value.category, rV, xTo, lv_args, xCk, xCat, xRc, xAk, hg_S, hg_I, hg_J, hg_D, hg_R, hs_I, hs_J, hs_D, hs_R, uI_at, uJ_at, uD_at, uR_at, List.take_succ_cons, List.take_zero, List.drop_succ_cons, List.drop_zero, List.reverse_cons, List.reverse_nil, List.nil_append, List.cons_append, List.map_cons, List.map_nil, List.sum_cons, List.sum_nil, List.length_cons, List.length_nil, Option.toList_some, Option.toList_none, true_and, and_true, false_and, and_false, true_implies, false_implies, implies_true, not_true_eq_false, not_false_eq_true, ne_eq, if_true, if_false, Bool.and_true, Bool.true_and, decide_true, decide_false, reduceIte, reduceCtorEq, Bool.and_self, Bool.and_eq_true, decide_eq_true_eq, and_self, true_or, or_true, false_or, or_false, Nat.zero_add, Nat.add_zero, eq_self, Nat.reduceEqDiff, Nat.reduceLeDiff, Nat.reduceLT, Nat.reduceAdd, Nat.reduceSub, Nat.reduceMul, LC_out hL, h2, nI_leP (show i < 2147483648 by omega) (show i < 2147483648 by omega), Nat.le_refl, e88_74, B88_74, e4, hJ, q_xor]
    exact kk
  | j + 1, i, hi => by
    have e90 := fun (J : xJ) (b : Nat × Nat) (Q : xQ) => R90 (S := S) (R := R) (I := I) (J := J) (D := D) (b := b) (Q := Q) hL hn hp hW (show i < n by omega)
    have hri := hr i (by omega)
    obtain ⟨hf, hg2⟩ := cfm_ok (r := r) hg hn i (by omega)
    have hf : (cfm r ge i).1 < 2 ^ 64 := Nat.lt_of_lt_of_le hf (Nat.pow_le_pow_right (by decide) (by omega))
    have nx := L88x_11 hL h2 hn hr hp hW hx hg hJ kk j (i + 1) (by omega)
    rw [ct, cfm] at nx
    obtain ⟨y, hy⟩ : ∃ y, y = cfm r ge i := ⟨_, rfl⟩
    rw [← hy] at hf hg2 nx ⊢
    obtain ⟨fm, gg⟩ := y
    simp only at hf hg2 nx ⊢
    have hd := dw_lt gg (show 0 < 2 by decide)
    have e84 := fun (b : Nat × Nat) (Q : xQ) => R84 (S := S) (R := R) (I := I) (J := uJ J0 110 5 (lN gg)) (D := D) (b := b) (Q := Q) (k := 2) hL hg2 (by rw [uJ_at, if_pos ⟨rfl, rfl⟩]) (by decide) (by decide)
    rw [show nI 2 = (2 : Int32) from rfl] at e84
    simp only [uJ_uJ] at e84
    have hw : 2 ^ i ≤ 2 ^ 63 := Nat.pow_le_pow_right (by decide) (by omega)
    have hb1 : dw gg 2 * 2 ^ i < 2 ^ 64 := by
      have : dw gg 2 * 2 ^ i ≤ 1 * 2 ^ i := Nat.mul_le_mul_right _ (by omega)
      omega
    have hb2 : fm / 2 ^ r i % 2 * 2 ^ i < 2 ^ 64 := by
      have : fm / 2 ^ r i % 2 * 2 ^ i ≤ 1 * 2 ^ i := Nat.mul_le_mul_right _ (by omega)
      omega
    have hq : fm / 2 ^ r i < 2 ^ 64 := Nat.lt_of_le_of_lt (Nat.div_le_self _ _) hf
    rw [e88_11]
    simp only [B88_11, xSeq, i_push, i_load, i_iload, i_lload, i_dload, i_aload, i_istore, i_astore, i_lstore, i_dstore, i_iinc, i_ii, i_iiz, i_ll, i_llz, i_lli, i_li, i_i, i_l, i_i2l, i_l2i, i_dup, i_dup2, i_dup2w, i_dupx1, i_pop, i_pop2, i_goto, i_ifc, i_icmp, i_getI, i_getL, i_getR, i_putI, i_putZ, i_putL, i_putR, i_aldI, i_aldB, i_aldL, i_aldD, i_astI, i_astL, i_astD, i_alen, i_ret, i_iret, i_zret, i_lret, i_fret, i_dret, i_aret, i_invS0, i_invV0, i_m2, i_m1, i_ml, i_obj, lk, lkp, stf1, stf2, Value.category, rV, xTo, lv_args, xCk, xCat, xRc, xAk, hg_S, hg_I, hg_J, hg_D, hg_R, hs_I, hs_J, hs_D, hs_R, uI_at, uJ_at, uD_at, uR_at, List.take_succ_cons, List.take_zero, List.drop_succ_cons, List.drop_zero, List.reverse_cons, List.reverse_nil, List.nil_append, List.cons_append, List.map_cons, List.map_nil, List.sum_cons, List.sum_nil, List.length_cons, List.length_nil, Option.toList_some, Option.toList_none, true_and, and_true, false_and, and_false, true_implies, false_implies, implies_true, not_true_eq_false, not_false_eq_true, ne_eq, if_true, if_false, Bool.and_true, Bool.true_and, decide_true, decide_false, reduceIte, reduceCtorEq, Bool.and_self, Bool.and_eq_true, decide_eq_true_eq, and_self, true_or, or_true, false_or, or_false, Nat.zero_add, Nat.add_zero, eq_self, Nat.reduceEqDiff, Nat.reduceLeDiff, Nat.reduceLT, Nat.reduceAdd, Nat.reduceSub, Nat.reduceMul, LC_out hL, h2, nI_leP (show n < 2147483648 by omega) (show i < 2147483648 by omega), show (n ≤ i) = False from eq_false (by omega), e90, nI_iff (show r i < 2147483648 by omega) (show i < 2147483648 by omega), e84, nI_l (show dw gg 2 < 2147483648 by omega), q_shl (dw gg 2) (show i < 64 by omega), q_or hf hb1, e88_68, B88_68, e88_56, B88_56, q_ushr hf (show r i < 64 by omega), q_a1 hq, q_shl (fm / 2 ^ r i % 2) (show i < 64 by omega), q_or hf hb2, nI_1]
    by_cases e : r i = i
    · simp only [e, true_and, and_true, false_and, and_false, true_implies, false_implies, implies_true, not_true_eq_false, not_false_eq_true, ne_eq, if_true, if_false, Bool.and_true, Bool.true_and, decide_true, decide_false, reduceIte, reduceCtorEq, Bool.and_self, Bool.and_eq_true, decide_eq_true_eq, and_self, true_or, or_true, false_or, or_false, Nat.zero_add, Nat.add_zero, eq_self, Nat.reduceEqDiff, Nat.reduceLeDiff, Nat.reduceLT, Nat.reduceAdd, Nat.reduceSub, Nat.reduceMul] at nx ⊢
      exact nx
    · simp only [e, true_and, and_true, false_and, and_false, true_implies, false_implies, implies_true, not_true_eq_false, not_false_eq_true, ne_eq, if_true, if_false, Bool.and_true, Bool.true_and, decide_true, decide_false, reduceIte, reduceCtorEq, Bool.and_self, Bool.and_eq_true, decide_eq_true_eq, and_self, true_or, or_true, false_or, or_false, Nat.zero_add, Nat.add_zero, eq_self, Nat.reduceEqDiff, Nat.reduceLeDiff, Nat.reduceLT, Nat.reduceAdd, Nat.reduceSub, Nat.reduceMul] at nx ⊢
      exact nx
/-- the groups of all clusters -/
def jdg (g : xGd) (x : xSt) : List Nat × Nat := jd (gn g) (stA x) (stB x) (stn x) (gf g) (gs g) (stZ x).1 (stZ x).2.1 (gm g)
def jrg (g : xGd) (x : xSt) (k : Nat) : Nat := (jdg g x).1.getD k 0
def acg (g : xGd) (x : xSt) : Nat × Nat := cfm (jrg g x) (jdg g x).2 (gn g)
theorem jrg_ok (w : WF N g x sv k by') : (∀ i, i < gn g → jrg g x i < gn g) ∧ (jdg g x).2 < 2147483648 ∧ ∀ i, i < gn g → jrg g x i ≤ i ∧ jrg g x (jrg g x i) = jrg g x i := by
  obtain ⟨y1, y2, y3⟩ := jd_ok (a := stA x) (bb := stB x) (st := stn x) (x := (stZ x).1) (gG w.1).1 w.2.1.2.1.2.1 (gm g) (Nat.le_refl _)
  obtain ⟨p, hW⟩ := jd_WR (a := stA x) (bb := stB x) (st := stn x) (x := (stZ x).1) (gG w.1).1 w.2.1.2.1.2.1 (gm g) (Nat.le_refl _)
  exact ⟨y2, y3, fun i hi => ⟨(WR_root hW i i (Nat.le_refl _) hi).1, (WR_root hW i i (Nat.le_refl _) hi).2.2⟩⟩
theorem acg_ok (w : WF N g x sv k by') : (acg g x).1 < 2 ^ gn g ∧ (acg g x).2 < 2147483648 := cfm_ok (jrg_ok w).2.1 (gn_bd w.1).2.1 _ (Nat.le_refl _)
/-- the model: one group -/
theorem L281x_121 {J0 : xJ} {r : Nat → Nat} (hL : LM S R) (h10 : I 300 10 = nI n) (hn : n ≤ 64) (hI : ∀ k, k < n → I 341 k = nI (r k)) (hr : ∀ k, k < n → r k < 64) {s x : Nat} (hs : s < 64)
    (kk : ∀ y, y < 2 ^ 64 → (∀ k, y.testBit k = (x.testBit k ^^ (decide (k < n) && decide (r k = s)))) → xRun xT 281 160 [(0, .ref 200), (1, .int (nI s))] [] (S, I, uJ J0 200 3 (lN y), D, R) b Q) :
    ∀ (j i y : Nat), i + j = n → y < 2 ^ 64 → (∀ k, y.testBit k = (x.testBit k ^^ (decide (k < i) && decide (r k = s)))) → xRun xT 281 121 [(0, .ref 200), (1, .int (nI s)), (2, .int (nI i))] [] (S, I, uJ J0 200 3 (lN y), D, R) b Q
  | 0, i, y, hi, h1, h2 => by
    have e : i = n := by omega
    subst e
    rw [e281_121]
    simp only [B281_121, xSeq, i_push, i_load, i_iload, i_lload, i_dload, i_aload, i_istore, i_astore, i_lstore, i_dstore, i_iinc, i_ii, i_iiz, i_ll, i_llz, i_lli, i_li, i_i, i_l, i_i2l, i_l2i, i_dup, i_dup2, i_dup2w, i_dupx1, i_pop, i_pop2, i_goto, i_ifc, i_icmp, i_getI, i_getL, i_getR, i_putI, i_putZ, i_putL, i_putR, i_aldI, i_aldB, i_aldL, i_aldD, i_astI, i_astL, i_astD, i_alen, i_ret, i_iret, i_zret, i_lret, i_fret, i_dret, i_aret, i_invS0, i_invV0, i_m2, i_m1, i_ml, i_obj, lk, lkp, stf1, stf2, Value.category, rV, xTo, lv_args, xCk, xCat, xRc, xAk, hg_S, hg_I, hg_J, hg_D, hg_R, hs_I, hs_J, hs_D, hs_R, uI_at, uJ_at, uD_at, uR_at, List.take_succ_cons, List.take_zero, List.drop_succ_cons, List.drop_zero, List.reverse_cons, List.reverse_nil, List.nil_append, List.cons_append, List.map_cons, List.map_nil, List.sum_cons, List.sum_nil, List.length_cons, List.length_nil, Option.toList_some, Option.toList_none, true_and, and_true, false_and, and_false, true_implies, false_implies, implies_true, not_true_eq_false, not_false_eq_true, ne_eq, if_true, if_false, Bool.and_true, Bool.true_and, decide_true, decide_false, reduceIte, reduceCtorEq, Bool.and_self, Bool.and_eq_true, decide_eq_true_eq, and_self, true_or, or_true, false_or, or_false, Nat.zero_add, Nat.add_zero, eq_self, Nat.reduceEqDiff, Nat.reduceLeDiff, Nat.reduceLT, Nat.reduceAdd, Nat.reduceSub, Nat.reduceMul, xi144_0, ix_0, xi144_1, ix_1, xi144_2, ix_2, xi144_3, ix_3, xi144_4, ix_4, xi144_5, ix_5, xi144_6, ix_6, xi144_7, ix_7, xi144_8, ix_8, xi144_9, ix_9, xi144_10, ix_10, LM_out hL, h10, nI_leP (show i < 2147483648 by omega) (show i < 2147483648 by omega), Nat.le_refl]
    exact kk y h1 h2
  | j + 1, i, y, hi, h1, h2 => by
    have h3 := hr i (by omega)
    have e3 : uJ J0 200 3 (lN y) 200 3 = lN y := by rw [uJ_at, if_pos ⟨rfl, rfl⟩]
    have nx := fun y => L281x_121 hL h10 hn hI hr hs kk j (i + 1) y (by omega)
    rw [e281_121]
    simp only [B281_121, xSeq, i_push, i_load, i_iload, i_lload, i_dload, i_aload, i_istore, i_astore, i_lstore, i_dstore, i_iinc, i_ii, i_iiz, i_ll, i_llz, i_lli, i_li, i_i, i_l, i_i2l, i_l2i, i_dup, i_dup2, i_dup2w, i_dupx1, i_pop, i_pop2, i_goto, i_ifc, i_icmp, i_getI, i_getL, i_getR, i_putI, i_putZ, i_putL, i_putR, i_aldI, i_aldB, i_aldL, i_aldD, i_astI, i_astL, i_astD, i_alen, i_ret, i_iret, i_zret, i_lret, i_fret, i_dret, i_aret, i_invS0, i_invV0, i_m2, i_m1, i_ml, i_obj, lk, lkp, stf1, stf2, Value.category, rV, xTo, lv_args, xCk, xCat, xRc, xAk, hg_S, hg_I, hg_J, hg_D, hg_R, hs_I, hs_J, hs_D, hs_R, uI_at, uJ_at, uD_at, uR_at, List.take_succ_cons, List.take_zero, List.drop_succ_cons, List.drop_zero, List.reverse_cons, List.reverse_nil, List.nil_append, List.cons_append, List.map_cons, List.map_nil, List.sum_cons, List.sum_nil, List.length_cons, List.length_nil, Option.toList_some, Option.toList_none, true_and, and_true, false_and, and_false, true_implies, false_implies, implies_true, not_true_eq_false, not_false_eq_true, ne_eq, if_true, if_false, Bool.and_true, Bool.true_and, decide_true, decide_false, reduceIte, reduceCtorEq, Bool.and_self, Bool.and_eq_true, decide_eq_true_eq, and_self, true_or, or_true, false_or, or_false, Nat.zero_add, Nat.add_zero, eq_self, Nat.reduceEqDiff, Nat.reduceLeDiff, Nat.reduceLT, Nat.reduceAdd, Nat.reduceSub, Nat.reduceMul, xi144_0, ix_0, xi144_1, ix_1, xi144_2, ix_2, xi144_3, ix_3, xi144_4, ix_4, xi144_5, ix_5, xi144_6, ix_6, xi144_7, ix_7, xi144_8, ix_8, xi144_9, ix_9, xi144_10, ix_10, LM_out hL, h10, nI_leP (show n < 2147483648 by omega) (show i < 2147483648 by omega), show (n ≤ i) = False from eq_false (by omega), nI_inP (show i < 64 by omega) (by decide), nI_ix (show i < 2147483648 by omega), hI i (by omega), nI_iff (show r i < 2147483648 by omega) (show s < 2147483648 by omega), e3, q_1shlL (show i < 64 by omega), q_xor, uJ_uJ, e281_154, B281_154, nI_1]
    by_cases e : r i = s
    · simp only [e, true_and, and_true, false_and, and_false, true_implies, false_implies, implies_true, not_true_eq_false, not_false_eq_true, ne_eq, if_true, if_false, Bool.and_true, Bool.true_and, decide_true, decide_false, reduceIte, reduceCtorEq, Bool.and_self, Bool.and_eq_true, decide_eq_true_eq, and_self, true_or, or_true, false_or, or_false, Nat.zero_add, Nat.add_zero, eq_self, Nat.reduceEqDiff, Nat.reduceLeDiff, Nat.reduceLT, Nat.reduceAdd, Nat.reduceSub, Nat.reduceMul]
      refine nx _ (Nat.xor_lt_two_pow h1 (Nat.pow_lt_pow_right (by decide) (show i < 64 by omega))) (fun k => ?_)
      rw [Nat.testBit_xor, h2 k, Nat.testBit_two_pow]
      by_cases q : i = k
      · subst q; rw [e]; simp
      · by_cases q2 : k < i
        · rw [decide_eq_true q2, decide_eq_false q, decide_eq_true (show k < i + 1 by omega)]; simp
        · rw [decide_eq_false q2, decide_eq_false q, decide_eq_false (show ¬ k < i + 1 by omega)]; simp
    · simp only [e, true_and, and_true, false_and, and_false, true_implies, false_implies, implies_true, not_true_eq_false, not_false_eq_true, ne_eq, if_true, if_false, Bool.and_true, Bool.true_and, decide_true, decide_false, reduceIte, reduceCtorEq, Bool.and_self, Bool.and_eq_true, decide_eq_true_eq, and_self, true_or, or_true, false_or, or_false, Nat.zero_add, Nat.add_zero, eq_self, Nat.reduceEqDiff, Nat.reduceLeDiff, Nat.reduceLT, Nat.reduceAdd, Nat.reduceSub, Nat.reduceMul]
      refine nx _ h1 (fun k => ?_)
      rw [h2 k]
      by_cases q : i = k
      · subst q; rw [decide_eq_false e]; simp
      · by_cases q2 : k < i
        · rw [decide_eq_true q2, decide_eq_true (show k < i + 1 by omega)]
        · rw [decide_eq_false q2, decide_eq_false (show ¬ k < i + 1 by omega)]
theorem uJ_43 (J0 : xJ) (a c y : Int64) : uJ (uJ (uJ J0 200 4 a) 200 3 y) 200 4 c = uJ (uJ J0 200 4 c) 200 3 y := by
  funext o j
  simp only [uJ_at]
  by_cases q : o = 200 ∧ j = 4
  · obtain ⟨rfl, rfl⟩ := q
    simp
  · simp only [q, if_false]
theorem L281x_86 {J0 : xJ} {r : Nat → Nat} (hL : LM S R) (h10 : I 300 10 = nI n) (hn : n ≤ 64) (hI : ∀ k, k < n → I 341 k = nI (r k)) (hr : ∀ k, k < n → r k < 64) {x ge : Nat} (hg : ge < 2147483648)
    (kk : ∀ y, y < 2 ^ 64 → (∀ k, y.testBit k = (x.testBit k ^^ (decide (k < n) && decide (r k < n) && decide (dw (cfm r ge (r k)).2 2 = 1)))) → xRun xT 281 166 [(0, .ref 200)] [] (S, I, uJ (uJ J0 200 4 (lN (cfm r ge n).2)) 200 3 (lN y), D, R) b Q)
    (hrr : ∀ k, k < n → r (r k) = r k) : ∀ (j i y : Nat), i + j = n → y < 2 ^ 64 → (∀ k, y.testBit k = (x.testBit k ^^ (decide (k < n) && decide (r k < i) && decide (dw (cfm r ge (r k)).2 2 = 1)))) → xRun xT 281 86 [(0, .ref 200), (1, .int (nI i))] [] (S, I, uJ (uJ J0 200 4 (lN (cfm r ge i).2)) 200 3 (lN y), D, R) b Q
  | 0, i, y, hi, h1, h2 => by
    have e : i = n := by omega
    subst e
    rw [e281_86]
    simp only [B281_86, xSeq, i_push, i_load, i_iload, i_lload, i_dload, i_aload, i_istore, i_astore, i_lstore, i_dstore, i_iinc, i_ii, i_iiz, i_ll, i_llz, i_lli, i_li, i_i, i_l, i_i2l, i_l2i, i_dup, i_dup2, i_dup2w, i_dupx1, i_pop, i_pop2, i_goto, i_ifc, i_icmp, i_getI, i_getL, i_getR, i_putI, i_putZ, i_putL, i_putR, i_aldI, i_aldB, i_aldL, i_aldD, i_astI, i_astL, i_astD, i_alen, i_ret, i_iret, i_zret, i_lret, i_fret, i_dret, i_aret, i_invS0, i_invV0, i_m2, i_m1, i_ml, i_obj, lk, lkp, stf1, stf2, Value.category, rV, xTo, lv_args, xCk, xCat, xRc, xAk, hg_S, hg_I, hg_J, hg_D, hg_R, hs_I, hs_J, hs_D, hs_R, uI_at, uJ_at, uD_at, uR_at, List.take_succ_cons, List.take_zero, List.drop_succ_cons, List.drop_zero, List.reverse_cons, List.reverse_nil, List.nil_append, List.cons_append, List.map_cons, List.map_nil, List.sum_cons, List.sum_nil, List.length_cons, List.length_nil, Option.toList_some, Option.toList_none, true_and, and_true, false_and, and_false, true_implies, false_implies, implies_true, not_true_eq_false, not_false_eq_true, ne_eq, if_true, if_false, Bool.and_true, Bool.true_and, decide_true, decide_false, reduceIte, reduceCtorEq, Bool.and_self, Bool.and_eq_true, decide_eq_true_eq, and_self, true_or, or_true, false_or, or_false, Nat.zero_add, Nat.add_zero, eq_self, Nat.reduceEqDiff, Nat.reduceLeDiff, Nat.reduceLT, Nat.reduceAdd, Nat.reduceSub, Nat.reduceMul, xi144_0, ix_0, xi144_1, ix_1, xi144_2, ix_2, xi144_3, ix_3, xi144_4, ix_4, xi144_5, ix_5, xi144_6, ix_6, xi144_7, ix_7, xi144_8, ix_8, xi144_9, ix_9, xi144_10, ix_10, LM_out hL, h10, nI_leP (show i < 2147483648 by omega) (show i < 2147483648 by omega), Nat.le_refl]
    exact kk y h1 h2
  | j + 1, i, y, hi, h1, h2 => by
    have h3 := hr i (by omega)
    obtain ⟨-, hg2⟩ := cfm_ok (r := r) hg hn i (by omega)
    have nxt := fun y => L281x_86 hL h10 hn hI hr hg kk hrr j (i + 1) y (by omega)
    have step : ∀ k, (decide (r k < i + 1)) = (decide (r k < i) || decide (r k = i)) := fun k => by
      by_cases q : r k = i
      · rw [decide_eq_true q, decide_eq_true (show r k < i + 1 by omega)]; simp
      · by_cases q2 : r k < i
        · rw [decide_eq_true q2, decide_eq_true (show r k < i + 1 by omega)]; simp
        · rw [decide_eq_false q2, decide_eq_false q, decide_eq_false (show ¬ r k < i + 1 by omega)]; simp
    obtain ⟨gg, hgg⟩ : ∃ gg, gg = (cfm r ge i).2 := ⟨_, rfl⟩
    have e273 := fun (b : Nat × Nat) (Q : xQ) => R273 (S := S) (R := R) (I := I) (J := uJ (uJ J0 200 4 (lN gg)) 200 3 (lN y)) (D := D) (b := b) (Q := Q) (k := 2) hL (hgg ▸ hg2) (by rw [uJ_at, if_neg (by decide), uJ_at, if_pos ⟨rfl, rfl⟩]) (by decide) (by decide)
    rw [show nI 2 = (2 : Int32) from rfl] at e273
    simp only [uJ_43] at e273
    rw [← hgg]
    rw [e281_86]
    simp only [B281_86, xSeq, i_push, i_load, i_iload, i_lload, i_dload, i_aload, i_istore, i_astore, i_lstore, i_dstore, i_iinc, i_ii, i_iiz, i_ll, i_llz, i_lli, i_li, i_i, i_l, i_i2l, i_l2i, i_dup, i_dup2, i_dup2w, i_dupx1, i_pop, i_pop2, i_goto, i_ifc, i_icmp, i_getI, i_getL, i_getR, i_putI, i_putZ, i_putL, i_putR, i_aldI, i_aldB, i_aldL, i_aldD, i_astI, i_astL, i_astD, i_alen, i_ret, i_iret, i_zret, i_lret, i_fret, i_dret, i_aret, i_invS0, i_invV0, i_m2, i_m1, i_ml, i_obj, lk, lkp, stf1, stf2, Value.category, rV, xTo, lv_args, xCk, xCat, xRc, xAk, hg_S, hg_I, hg_J, hg_D, hg_R, hs_I, hs_J, hs_D, hs_R, uI_at, uJ_at, uD_at, uR_at, List.take_succ_cons, List.take_zero, List.drop_succ_cons, List.drop_zero, List.reverse_cons, List.reverse_nil, List.nil_append, List.cons_append, List.map_cons, List.map_nil, List.sum_cons, List.sum_nil, List.length_cons, List.length_nil, Option.toList_some, Option.toList_none, true_and, and_true, false_and, and_false, true_implies, false_implies, implies_true, not_true_eq_false, not_false_eq_true, ne_eq, if_true, if_false, Bool.and_true, Bool.true_and, decide_true, decide_false, reduceIte, reduceCtorEq, Bool.and_self, Bool.and_eq_true, decide_eq_true_eq, and_self, true_or, or_true, false_or, or_false, Nat.zero_add, Nat.add_zero, eq_self, Nat.reduceEqDiff, Nat.reduceLeDiff, Nat.reduceLT, Nat.reduceAdd, Nat.reduceSub, Nat.reduceMul, xi144_0, ix_0, xi144_1, ix_1, xi144_2, ix_2, xi144_3, ix_3, xi144_4, ix_4, xi144_5, ix_5, xi144_6, ix_6, xi144_7, ix_7, xi144_8, ix_8, xi144_9, ix_9, xi144_10, ix_10, LM_out hL, h10, nI_leP (show n < 2147483648 by omega) (show i < 2147483648 by omega), show (n ≤ i) = False from eq_false (by omega), nI_inP (show i < 64 by omega) (by decide), nI_ix (show i < 2147483648 by omega), hI i (by omega), nI_iff (show r i < 2147483648 by omega) (show i < 2147483648 by omega), e273, e281_160, B281_160, e281_119, B281_119, nI_1]
    have hd := dw_lt gg (show 0 < 2 by decide)
    by_cases e : r i = i
    · have ec : (cfm r ge (i + 1)).2 = nx gg := by rw [cfm, if_pos e, hgg]
      rw [ec] at nxt
      by_cases e2 : dw gg 2 = 1
      · simp only [e, e2, show (nI 1 = 1) = True from eq_true rfl, true_and, and_true, false_and, and_false, true_implies, false_implies, implies_true, not_true_eq_false, not_false_eq_true, ne_eq, if_true, if_false, Bool.and_true, Bool.true_and, decide_true, decide_false, reduceIte, reduceCtorEq, Bool.and_self, Bool.and_eq_true, decide_eq_true_eq, and_self, true_or, or_true, false_or, or_false, Nat.zero_add, Nat.add_zero, eq_self, Nat.reduceEqDiff, Nat.reduceLeDiff, Nat.reduceLT, Nat.reduceAdd, Nat.reduceSub, Nat.reduceMul]
        refine L281x_121 (x := y) (J0 := uJ J0 200 4 (lN (nx gg))) hL h10 hn hI hr (show i < 64 by omega) (fun y' h1' h2' => ?_) n 0 y (by omega) h1 (fun k => by simp)
        rw [e281_160]
        simp only [B281_160, xSeq, i_push, i_load, i_iload, i_lload, i_dload, i_aload, i_istore, i_astore, i_lstore, i_dstore, i_iinc, i_ii, i_iiz, i_ll, i_llz, i_lli, i_li, i_i, i_l, i_i2l, i_l2i, i_dup, i_dup2, i_dup2w, i_dupx1, i_pop, i_pop2, i_goto, i_ifc, i_icmp, i_getI, i_getL, i_getR, i_putI, i_putZ, i_putL, i_putR, i_aldI, i_aldB, i_aldL, i_aldD, i_astI, i_astL, i_astD, i_alen, i_ret, i_iret, i_zret, i_lret, i_fret, i_dret, i_aret, i_invS0, i_invV0, i_m2, i_m1, i_ml, i_obj, lk, lkp, stf1, stf2, Value.category, rV, xTo, lv_args, xCk, xCat, xRc, xAk, hg_S, hg_I, hg_J, hg_D, hg_R, hs_I, hs_J, hs_D, hs_R, uI_at, uJ_at, uD_at, uR_at, List.take_succ_cons, List.take_zero, List.drop_succ_cons, List.drop_zero, List.reverse_cons, List.reverse_nil, List.nil_append, List.cons_append, List.map_cons, List.map_nil, List.sum_cons, List.sum_nil, List.length_cons, List.length_nil, Option.toList_some, Option.toList_none, true_and, and_true, false_and, and_false, true_implies, false_implies, implies_true, not_true_eq_false, not_false_eq_true, ne_eq, if_true, if_false, Bool.and_true, Bool.true_and, decide_true, decide_false, reduceIte, reduceCtorEq, Bool.and_self, Bool.and_eq_true, decide_eq_true_eq, and_self, true_or, or_true, false_or, or_false, Nat.zero_add, Nat.add_zero, eq_self, Nat.reduceEqDiff, Nat.reduceLeDiff, Nat.reduceLT, Nat.reduceAdd, Nat.reduceSub, Nat.reduceMul, nI_1]
        refine nxt y' h1' (fun k => ?_)
        rw [h2' k, h2 k, step k]
        by_cases q : r k = i
        · rw [decide_eq_true q, q, ← hgg, decide_eq_true e2, decide_eq_false (Nat.lt_irrefl i)]; simp
        · rw [decide_eq_false q]; simp
      · have e2' : (nI (dw gg 2) = 1) = False := by
          rw [show (1 : Int32) = nI 1 from rfl, nI_iff (show dw gg 2 < 2147483648 by omega) (by decide)]; exact eq_false e2
        simp only [e, e2', true_and, and_true, false_and, and_false, true_implies, false_implies, implies_true, not_true_eq_false, not_false_eq_true, ne_eq, if_true, if_false, Bool.and_true, Bool.true_and, decide_true, decide_false, reduceIte, reduceCtorEq, Bool.and_self, Bool.and_eq_true, decide_eq_true_eq, and_self, true_or, or_true, false_or, or_false, Nat.zero_add, Nat.add_zero, eq_self, Nat.reduceEqDiff, Nat.reduceLeDiff, Nat.reduceLT, Nat.reduceAdd, Nat.reduceSub, Nat.reduceMul]
        refine nxt y h1 (fun k => ?_)
        rw [h2 k, step k]
        by_cases q : r k = i
        · rw [decide_eq_true q, q, ← hgg, decide_eq_false e2]; simp
        · rw [decide_eq_false q]; simp
    · have ec : (cfm r ge (i + 1)).2 = gg := by rw [cfm, if_neg e, hgg]
      rw [ec] at nxt
      simp only [e, true_and, and_true, false_and, and_false, true_implies, false_implies, implies_true, not_true_eq_false, not_false_eq_true, ne_eq, if_true, if_false, Bool.and_true, Bool.true_and, decide_true, decide_false, reduceIte, reduceCtorEq, Bool.and_self, Bool.and_eq_true, decide_eq_true_eq, and_self, true_or, or_true, false_or, or_false, Nat.zero_add, Nat.add_zero, eq_self, Nat.reduceEqDiff, Nat.reduceLeDiff, Nat.reduceLT, Nat.reduceAdd, Nat.reduceSub, Nat.reduceMul]
      refine nxt y h1 (fun k => ?_)
      rw [h2 k, step k]
      by_cases q : r k = i
      · by_cases q2 : k < n
        · exact absurd (q ▸ hrr k q2) e
        · rw [decide_eq_false q2]; simp
      · rw [decide_eq_false q]; simp
theorem KC27a (w : WA N z)  (hf0 : ¬ FRO z.1 z.2.1) : CC 1 349 [(0, .ref 100), (1, .ref 400)] z z (fun r _ _ => r = some (.int 1)) := by
  intro P f S I J D R h hw hf
  obtain ⟨s4, s5, s8, s9⟩ := hw
  obtain ⟨hL, hC, hG, ⟨i6, i7, i8, i9, i10, i11, j4, j5⟩, j102, i111, ⟨s1, s2, s3⟩, ⟨n0, n1, n2, n3⟩⟩ := AC_o h w
  refine ⟨P, Nat.le_refl P, fun _ => rfl, fun b Q b1 b2 kk => ?_⟩
  rw [e349_0]
  simp only [B349_0, xSeq, i_push, i_load, i_iload, i_lload, i_dload, i_aload, i_istore, i_astore, i_lstore, i_dstore, i_iinc, i_ii, i_iiz, i_ll, i_llz, i_lli, i_li, i_i, i_l, i_i2l, i_l2i, i_dup, i_dup2, i_dup2w, i_dupx1, i_pop, i_pop2, i_goto, i_ifc, i_icmp, i_getI, i_getL, i_getR, i_putI, i_putZ, i_putL, i_putR, i_aldI, i_aldB, i_aldL, i_aldD, i_astI, i_astL, i_astD, i_alen, i_ret, i_iret, i_zret, i_lret, i_fret, i_dret, i_aret, i_invS0, i_invV0, i_m2, i_m1, i_ml, i_obj, lk, lkp, stf1, stf2, Value.category, rV, xTo, lv_args, xCk, xCat, xRc, xAk, hg_S, hg_I, hg_J, hg_D, hg_R, hs_I, hs_J, hs_D, hs_R, uI_at, uJ_at, uD_at, uR_at, List.take_succ_cons, List.take_zero, List.drop_succ_cons, List.drop_zero, List.reverse_cons, List.reverse_nil, List.nil_append, List.cons_append, List.map_cons, List.map_nil, List.sum_cons, List.sum_nil, List.length_cons, List.length_nil, Option.toList_some, Option.toList_none, true_and, and_true, false_and, and_false, true_implies, false_implies, implies_true, not_true_eq_false, not_false_eq_true, ne_eq, if_true, if_false, Bool.and_true, Bool.true_and, decide_true, decide_false, reduceIte, reduceCtorEq, Bool.and_self, Bool.and_eq_true, decide_eq_true_eq, and_self, true_or, or_true, false_or, or_false, Nat.zero_add, Nat.add_zero, eq_self, Nat.reduceEqDiff, Nat.reduceLeDiff, Nat.reduceLT, Nat.reduceAdd, Nat.reduceSub, Nat.reduceMul, LC_out hL]
  refine w_tryVA (mc := 10) (ms := 100) (by omega) (by omega) rfl (by simp only [xSeq, i_push, i_load, i_iload, i_lload, i_dload, i_aload, i_istore, i_astore, i_lstore, i_dstore, i_iinc, i_ii, i_iiz, i_ll, i_llz, i_lli, i_li, i_i, i_l, i_i2l, i_l2i, i_dup, i_dup2, i_dup2w, i_dupx1, i_pop, i_pop2, i_goto, i_ifc, i_icmp, i_getI, i_getL, i_getR, i_putI, i_putZ, i_putL, i_putR, i_aldI, i_aldB, i_aldL, i_aldD, i_astI, i_astL, i_astD, i_alen, i_ret, i_iret, i_zret, i_lret, i_fret, i_dret, i_aret, i_invS0, i_invV0, i_m2, i_m1, i_ml, i_obj, lk, lkp, stf1, stf2, Value.category, rV, xTo, lv_args, xCk, xCat, xRc, xAk, hg_S, hg_I, hg_J, hg_D, hg_R, hs_I, hs_J, hs_D, hs_R, uI_at, uJ_at, uD_at, uR_at, List.take_succ_cons, List.take_zero, List.drop_succ_cons, List.drop_zero, List.reverse_cons, List.reverse_nil, List.nil_append, List.cons_append, List.map_cons, List.map_nil, List.sum_cons, List.sum_nil, List.length_cons, List.length_nil, Option.toList_some, Option.toList_none, true_and, and_true, false_and, and_false, true_implies, false_implies, implies_true, not_true_eq_false, not_false_eq_true, ne_eq, if_true, if_false, Bool.and_true, Bool.true_and, decide_true, decide_false, reduceIte, reduceCtorEq, Bool.and_self, Bool.and_eq_true, decide_eq_true_eq, and_self, true_or, or_true, false_or, or_false, Nat.zero_add, Nat.add_zero, eq_self, Nat.reduceEqDiff, Nat.reduceLeDiff, Nat.reduceLT, Nat.reduceAdd, Nat.reduceSub, Nat.reduceMul, LC_out hL]) ?_
  simp only [xSeq, i_push, i_load, i_iload, i_lload, i_dload, i_aload, i_istore, i_astore, i_lstore, i_dstore, i_iinc, i_ii, i_iiz, i_ll, i_llz, i_lli, i_li, i_i, i_l, i_i2l, i_l2i, i_dup, i_dup2, i_dup2w, i_dupx1, i_pop, i_pop2, i_goto, i_ifc, i_icmp, i_getI, i_getL, i_getR, i_putI, i_putZ, i_putL, i_putR, i_aldI, i_aldB, i_aldL, i_aldD, i_astI, i_astL, i_astD, i_alen, i_ret, i_iret, i_zret, i_lret, i_fret, i_dret, i_aret, i_invS0, i_invV0, i_m2, i_m1, i_ml, i_obj, lk, lkp, stf1, stf2, Value.category, rV, xTo, lv_args, xCk, xCat, xRc, xAk, hg_S, hg_I, hg_J, hg_D, hg_R, hs_I, hs_J, hs_D, hs_R, uI_at, uJ_at, uD_at, uR_at, List.take_succ_cons, List.take_zero, List.drop_succ_cons, List.drop_zero, List.reverse_cons, List.reverse_nil, List.nil_append, List.cons_append, List.map_cons, List.map_nil, List.sum_cons, List.sum_nil, List.length_cons, List.length_nil, Option.toList_some, Option.toList_none, true_and, and_true, false_and, and_false, true_implies, false_implies, implies_true, not_true_eq_false, not_false_eq_true, ne_eq, if_true, if_false, Bool.and_true, Bool.true_and, decide_true, decide_false, reduceIte, reduceCtorEq, Bool.and_self, Bool.and_eq_true, decide_eq_true_eq, and_self, true_or, or_true, false_or, or_false, Nat.zero_add, Nat.add_zero, eq_self, Nat.reduceEqDiff, Nat.reduceLeDiff, Nat.reduceLT, Nat.reduceAdd, Nat.reduceSub, Nat.reduceMul]
  rw [e166_0]
  simp only [B166_0, xSeq, i_push, i_load, i_iload, i_lload, i_dload, i_aload, i_istore, i_astore, i_lstore, i_dstore, i_iinc, i_ii, i_iiz, i_ll, i_llz, i_lli, i_li, i_i, i_l, i_i2l, i_l2i, i_dup, i_dup2, i_dup2w, i_dupx1, i_pop, i_pop2, i_goto, i_ifc, i_icmp, i_getI, i_getL, i_getR, i_putI, i_putZ, i_putL, i_putR, i_aldI, i_aldB, i_aldL, i_aldD, i_astI, i_astL, i_astD, i_alen, i_ret, i_iret, i_zret, i_lret, i_fret, i_dret, i_aret, i_invS0, i_invV0, i_m2, i_m1, i_ml, i_obj, lk, lkp, stf1, stf2, Value.category, rV, xTo, lv_args, xCk, xCat, xRc, xAk, hg_S, hg_I, hg_J, hg_D, hg_R, hs_I, hs_J, hs_D, hs_R, uI_at, uJ_at, uD_at, uR_at, List.take_succ_cons, List.take_zero, List.drop_succ_cons, List.drop_zero, List.reverse_cons, List.reverse_nil, List.nil_append, List.cons_append, List.map_cons, List.map_nil, List.sum_cons, List.sum_nil, List.length_cons, List.length_nil, Option.toList_some, Option.toList_none, true_and, and_true, false_and, and_false, true_implies, false_implies, implies_true, not_true_eq_false, not_false_eq_true, ne_eq, if_true, if_false, Bool.and_true, Bool.true_and, decide_true, decide_false, reduceIte, reduceCtorEq, Bool.and_self, Bool.and_eq_true, decide_eq_true_eq, and_self, true_or, or_true, false_or, or_false, Nat.zero_add, Nat.add_zero, eq_self, Nat.reduceEqDiff, Nat.reduceLeDiff, Nat.reduceLT, Nat.reduceAdd, Nat.reduceSub, Nat.reduceMul, LC_out hL]
  refine w_invVA (mc := 1) (ms := 6) (Nat.le_of_ble_eq_true rfl) (Nat.le_of_ble_eq_true rfl) rfl (by simp only [xSeq, i_push, i_load, i_iload, i_lload, i_dload, i_aload, i_istore, i_astore, i_lstore, i_dstore, i_iinc, i_ii, i_iiz, i_ll, i_llz, i_lli, i_li, i_i, i_l, i_i2l, i_l2i, i_dup, i_dup2, i_dup2w, i_dupx1, i_pop, i_pop2, i_goto, i_ifc, i_icmp, i_getI, i_getL, i_getR, i_putI, i_putZ, i_putL, i_putR, i_aldI, i_aldB, i_aldL, i_aldD, i_astI, i_astL, i_astD, i_alen, i_ret, i_iret, i_zret, i_lret, i_fret, i_dret, i_aret, i_invS0, i_invV0, i_m2, i_m1, i_ml, i_obj, lk, lkp, stf1, stf2, Value.category, rV, xTo, lv_args, xCk, xCat, xRc, xAk, hg_S, hg_I, hg_J, hg_D, hg_R, hs_I, hs_J, hs_D, hs_R, uI_at, uJ_at, uD_at, uR_at, List.take_succ_cons, List.take_zero, List.drop_succ_cons, List.drop_zero, List.reverse_cons, List.reverse_nil, List.nil_append, List.cons_append, List.map_cons, List.map_nil, List.sum_cons, List.sum_nil, List.length_cons, List.length_nil, Option.toList_some, Option.toList_none, true_and, and_true, false_and, and_false, true_implies, false_implies, implies_true, not_true_eq_false, not_false_eq_true, ne_eq, if_true, if_false, Bool.and_true, Bool.true_and, decide_true, decide_false, reduceIte, reduceCtorEq, Bool.and_self, Bool.and_eq_true, decide_eq_true_eq, and_self, true_or, or_true, false_or, or_false, Nat.zero_add, Nat.add_zero, eq_self, Nat.reduceEqDiff, Nat.reduceLeDiff, Nat.reduceLT, Nat.reduceAdd, Nat.reduceSub, Nat.reduceMul, LC_out hL]) ?_
  simp only [xSeq, i_push, i_load, i_iload, i_lload, i_dload, i_aload, i_istore, i_astore, i_lstore, i_dstore, i_iinc, i_ii, i_iiz, i_ll, i_llz, i_lli, i_li, i_i, i_l, i_i2l, i_l2i, i_dup, i_dup2, i_dup2w, i_dupx1, i_pop, i_pop2, i_goto, i_ifc, i_icmp, i_getI, i_getL, i_getR, i_putI, i_putZ, i_putL, i_putR, i_aldI, i_aldB, i_aldL, i_aldD, i_astI, i_astL, i_astD, i_alen, i_ret, i_iret, i_zret, i_lret, i_fret, i_dret, i_aret, i_invS0, i_invV0, i_m2, i_m1, i_ml, i_obj, lk, lkp, stf1, stf2, Value.category, rV, xTo, lv_args, xCk, xCat, xRc, xAk, hg_S, hg_I, hg_J, hg_D, hg_R, hs_I, hs_J, hs_D, hs_R, uI_at, uJ_at, uD_at, uR_at, List.take_succ_cons, List.take_zero, List.drop_succ_cons, List.drop_zero, List.reverse_cons, List.reverse_nil, List.nil_append, List.cons_append, List.map_cons, List.map_nil, List.sum_cons, List.sum_nil, List.length_cons, List.length_nil, Option.toList_some, Option.toList_none, true_and, and_true, false_and, and_false, true_implies, false_implies, implies_true, not_true_eq_false, not_false_eq_true, ne_eq, if_true, if_false, Bool.and_true, Bool.true_and, decide_true, decide_false, reduceIte, reduceCtorEq, Bool.and_self, Bool.and_eq_true, decide_eq_true_eq, and_self, true_or, or_true, false_or, or_false, Nat.zero_add, Nat.add_zero, eq_self, Nat.reduceEqDiff, Nat.reduceLeDiff, Nat.reduceLT, Nat.reduceAdd, Nat.reduceSub, Nat.reduceMul]
  rw [T165 (m := gm z.1) hL hC.2.1 n2 (fun e => hf0 ((FRO_c i6 i111).mp e))]
  simp only [xSeq, i_push, i_load, i_iload, i_lload, i_dload, i_aload, i_istore, i_astore, i_lstore, i_dstore, i_iinc, i_ii, i_iiz, i_ll, i_llz, i_lli, i_li, i_i, i_l, i_i2l, i_l2i, i_dup, i_dup2, i_dup2w, i_dupx1, i_pop, i_pop2, i_goto, i_ifc, i_icmp, i_getI, i_getL, i_getR, i_putI, i_putZ, i_putL, i_putR, i_aldI, i_aldB, i_aldL, i_aldD, i_astI, i_astL, i_astD, i_alen, i_ret, i_iret, i_zret, i_lret, i_fret, i_dret, i_aret, i_invS0, i_invV0, i_m2, i_m1, i_ml, i_obj, lk, lkp, stf1, stf2, Value.category, rV, xTo, lv_args, xCk, xCat, xRc, xAk, hg_S, hg_I, hg_J, hg_D, hg_R, hs_I, hs_J, hs_D, hs_R, uI_at, uJ_at, uD_at, uR_at, List.take_succ_cons, List.take_zero, List.drop_succ_cons, List.drop_zero, List.reverse_cons, List.reverse_nil, List.nil_append, List.cons_append, List.map_cons, List.map_nil, List.sum_cons, List.sum_nil, List.length_cons, List.length_nil, Option.toList_some, Option.toList_none, true_and, and_true, false_and, and_false, true_implies, false_implies, implies_true, not_true_eq_false, not_false_eq_true, ne_eq, if_true, if_false, Bool.and_true, Bool.true_and, decide_true, decide_false, reduceIte, reduceCtorEq, Bool.and_self, Bool.and_eq_true, decide_eq_true_eq, and_self, true_or, or_true, false_or, or_false, Nat.zero_add, Nat.add_zero, eq_self, Nat.reduceEqDiff, Nat.reduceLeDiff, Nat.reduceLT, Nat.reduceAdd, Nat.reduceSub, Nat.reduceMul, xToT_ok, tE0_0, tE1_0, tE1_1, tE2_0, tE3_0, tE4_0, tE5_0, tE5_1, tE6_0, tE7_0, tE7_1, tE8_0, tE9_0, tE9_1, tE9_2, tE10_0, tE11_0, tE11_1, tE12_0, tE12_1, tE13_0, tE13_1, tE13_2, tE14_0, tE14_1, tE15_0, tE16_0, tE17_0, LC_out hL, s4, xi1, ix_0, i1_0, e349_14, B349_14, s4]
  exact kk _ S I J D R f _ rfl h frC_rfl (by omega)
theorem KM27a (w : WA N z)  (hf0 : ¬ FRO z.1 z.2.1) : MC 281 [(0, .ref 200)] z z (fun r I _ _ => r = some (.int 0) ∧ I 200 19 = 1) := MC_q (c := 1) (fun _ _ _ e => ⟨rfl, e⟩) (fun S I J D R b Q h => by
  obtain ⟨hM, hD, hG, ⟨i2, i3, i4, i5, i6, i7, j3, j4⟩, i16, ⟨s1, s2, s3⟩, ⟨n0, n1, n2, n3⟩⟩ := AM_o h w
  rw [e281_0]
  simp only [B281_0, xSeq, i_push, i_load, i_iload, i_lload, i_dload, i_aload, i_istore, i_astore, i_lstore, i_dstore, i_iinc, i_ii, i_iiz, i_ll, i_llz, i_lli, i_li, i_i, i_l, i_i2l, i_l2i, i_dup, i_dup2, i_dup2w, i_dupx1, i_pop, i_pop2, i_goto, i_ifc, i_icmp, i_getI, i_getL, i_getR, i_putI, i_putZ, i_putL, i_putR, i_aldI, i_aldB, i_aldL, i_aldD, i_astI, i_astL, i_astD, i_alen, i_ret, i_iret, i_zret, i_lret, i_fret, i_dret, i_aret, i_invS0, i_invV0, i_m2, i_m1, i_ml, i_obj, lk, lkp, stf1, stf2, Value.category, rV, xTo, lv_args, xCk, xCat, xRc, xAk, hg_S, hg_I, hg_J, hg_D, hg_R, hs_I, hs_J, hs_D, hs_R, uI_at, uJ_at, uD_at, uR_at, List.take_succ_cons, List.take_zero, List.drop_succ_cons, List.drop_zero, List.reverse_cons, List.reverse_nil, List.nil_append, List.cons_append, List.map_cons, List.map_nil, List.sum_cons, List.sum_nil, List.length_cons, List.length_nil, Option.toList_some, Option.toList_none, true_and, and_true, false_and, and_false, true_implies, false_implies, implies_true, not_true_eq_false, not_false_eq_true, ne_eq, if_true, if_false, Bool.and_true, Bool.true_and, decide_true, decide_false, reduceIte, reduceCtorEq, Bool.and_self, Bool.and_eq_true, decide_eq_true_eq, and_self, true_or, or_true, false_or, or_false, Nat.zero_add, Nat.add_zero, eq_self, Nat.reduceEqDiff, Nat.reduceLeDiff, Nat.reduceLT, Nat.reduceAdd, Nat.reduceSub, Nat.reduceMul, LM_out hM, i1_0, i2_0, uI_uI, R278n (I := uI I 200 19 0) (m := gm z.1) hM hD.2.1 n2 (fun e => hf0 ((FRO_m i4 i16).mp e)), R234 hM (v := 1) (Or.inr rfl)])
theorem KC27b (w : WA N z) (hf0 : FRO z.1 z.2.1) : CC 1 349 [(0, .ref 100), (1, .ref 400)] z (zC z ((stZ z.2.1).1 ^^^ (acg z.1 z.2.1).1) (acg z.1 z.2.1).2) (fun r J _ => r = some (.int 0) ∧ J 400 0 = (nI (ct (fun s => decide (jrg z.1 z.2.1 s = s)) (gn z.1))).toInt64) := by
  intro P f S I J D R h hw hf
  obtain ⟨s4, s5, s8, s9⟩ := hw
  obtain ⟨hL, hC, hG, ⟨i6, i7, i8, i9, i10, i11, j4, j5⟩, j102, i111, ⟨s1, s2, s3⟩, ⟨n0, n1, n2, n3⟩⟩ := AC_o h w
  obtain ⟨a1, a2, a3⟩ := AC_ab w
  obtain ⟨y1, y2, y3⟩ := jrg_ok w
  have h86 := fun k hk => (FRO_n w hf0 (j := k) hk)
  have hfc := (FRO_c i6 i111).mpr hf0
  refine ⟨P, Nat.le_refl P, fun _ => rfl, fun b Q b1 b2 kk => ?_⟩
  rw [e349_0]
  simp only [B349_0, xSeq, i_push, i_load, i_iload, i_lload, i_dload, i_aload, i_istore, i_astore, i_lstore, i_dstore, i_iinc, i_ii, i_iiz, i_ll, i_llz, i_lli, i_li, i_i, i_l, i_i2l, i_l2i, i_dup, i_dup2, i_dup2w, i_dupx1, i_pop, i_pop2, i_goto, i_ifc, i_icmp, i_getI, i_getL, i_getR, i_putI, i_putZ, i_putL, i_putR, i_aldI, i_aldB, i_aldL, i_aldD, i_astI, i_astL, i_astD, i_alen, i_ret, i_iret, i_zret, i_lret, i_fret, i_dret, i_aret, i_invS0, i_invV0, i_m2, i_m1, i_ml, i_obj, lk, lkp, stf1, stf2, Value.category, rV, xTo, lv_args, xCk, xCat, xRc, xAk, hg_S, hg_I, hg_J, hg_D, hg_R, hs_I, hs_J, hs_D, hs_R, uI_at, uJ_at, uD_at, uR_at, List.take_succ_cons, List.take_zero, List.drop_succ_cons, List.drop_zero, List.reverse_cons, List.reverse_nil, List.nil_append, List.cons_append, List.map_cons, List.map_nil, List.sum_cons, List.sum_nil, List.length_cons, List.length_nil, Option.toList_some, Option.toList_none, true_and, and_true, false_and, and_false, true_implies, false_implies, implies_true, not_true_eq_false, not_false_eq_true, ne_eq, if_true, if_false, Bool.and_true, Bool.true_and, decide_true, decide_false, reduceIte, reduceCtorEq, Bool.and_self, Bool.and_eq_true, decide_eq_true_eq, and_self, true_or, or_true, false_or, or_false, Nat.zero_add, Nat.add_zero, eq_self, Nat.reduceEqDiff, Nat.reduceLeDiff, Nat.reduceLT, Nat.reduceAdd, Nat.reduceSub, Nat.reduceMul, LC_out hL]
  refine w_tryVA (mc := 10) (ms := 100) (by omega) (by omega) rfl (by simp only [xSeq, i_push, i_load, i_iload, i_lload, i_dload, i_aload, i_istore, i_astore, i_lstore, i_dstore, i_iinc, i_ii, i_iiz, i_ll, i_llz, i_lli, i_li, i_i, i_l, i_i2l, i_l2i, i_dup, i_dup2, i_dup2w, i_dupx1, i_pop, i_pop2, i_goto, i_ifc, i_icmp, i_getI, i_getL, i_getR, i_putI, i_putZ, i_putL, i_putR, i_aldI, i_aldB, i_aldL, i_aldD, i_astI, i_astL, i_astD, i_alen, i_ret, i_iret, i_zret, i_lret, i_fret, i_dret, i_aret, i_invS0, i_invV0, i_m2, i_m1, i_ml, i_obj, lk, lkp, stf1, stf2, Value.category, rV, xTo, lv_args, xCk, xCat, xRc, xAk, hg_S, hg_I, hg_J, hg_D, hg_R, hs_I, hs_J, hs_D, hs_R, uI_at, uJ_at, uD_at, uR_at, List.take_succ_cons, List.take_zero, List.drop_succ_cons, List.drop_zero, List.reverse_cons, List.reverse_nil, List.nil_append, List.cons_append, List.map_cons, List.map_nil, List.sum_cons, List.sum_nil, List.length_cons, List.length_nil, Option.toList_some, Option.toList_none, true_and, and_true, false_and, and_false, true_implies, false_implies, implies_true, not_true_eq_false, not_false_eq_true, ne_eq, if_true, if_false, Bool.and_true, Bool.true_and, decide_true, decide_false, reduceIte, reduceCtorEq, Bool.and_self, Bool.and_eq_true, decide_eq_true_eq, and_self, true_or, or_true, false_or, or_false, Nat.zero_add, Nat.add_zero, eq_self, Nat.reduceEqDiff, Nat.reduceLeDiff, Nat.reduceLT, Nat.reduceAdd, Nat.reduceSub, Nat.reduceMul, LC_out hL]) ?_
  simp only [xSeq, i_push, i_load, i_iload, i_lload, i_dload, i_aload, i_istore, i_astore, i_lstore, i_dstore, i_iinc, i_ii, i_iiz, i_ll, i_llz, i_lli, i_li, i_i, i_l, i_i2l, i_l2i, i_dup, i_dup2, i_dup2w, i_dupx1, i_pop, i_pop2, i_goto, i_ifc, i_icmp, i_getI, i_getL, i_getR, i_putI, i_putZ, i_putL, i_putR, i_aldI, i_aldB, i_aldL, i_aldD, i_astI, i_astL, i_astD, i_alen, i_ret, i_iret, i_zret, i_lret, i_fret, i_dret, i_aret, i_invS0, i_invV0, i_m2, i_m1, i_ml, i_obj, lk, lkp, stf1, stf2, Value.category, rV, xTo, lv_args, xCk, xCat, xRc, xAk, hg_S, hg_I, hg_J, hg_D, hg_R, hs_I, hs_J, hs_D, hs_R, uI_at, uJ_at, uD_at, uR_at, List.take_succ_cons, List.take_zero, List.drop_succ_cons, List.drop_zero, List.reverse_cons, List.reverse_nil, List.nil_append, List.cons_append, List.map_cons, List.map_nil, List.sum_cons, List.sum_nil, List.length_cons, List.length_nil, Option.toList_some, Option.toList_none, true_and, and_true, false_and, and_false, true_implies, false_implies, implies_true, not_true_eq_false, not_false_eq_true, ne_eq, if_true, if_false, Bool.and_true, Bool.true_and, decide_true, decide_false, reduceIte, reduceCtorEq, Bool.and_self, Bool.and_eq_true, decide_eq_true_eq, and_self, true_or, or_true, false_or, or_false, Nat.zero_add, Nat.add_zero, eq_self, Nat.reduceEqDiff, Nat.reduceLeDiff, Nat.reduceLT, Nat.reduceAdd, Nat.reduceSub, Nat.reduceMul]
  rw [e166_0]
  simp only [B166_0, xSeq, i_push, i_load, i_iload, i_lload, i_dload, i_aload, i_istore, i_astore, i_lstore, i_dstore, i_iinc, i_ii, i_iiz, i_ll, i_llz, i_lli, i_li, i_i, i_l, i_i2l, i_l2i, i_dup, i_dup2, i_dup2w, i_dupx1, i_pop, i_pop2, i_goto, i_ifc, i_icmp, i_getI, i_getL, i_getR, i_putI, i_putZ, i_putL, i_putR, i_aldI, i_aldB, i_aldL, i_aldD, i_astI, i_astL, i_astD, i_alen, i_ret, i_iret, i_zret, i_lret, i_fret, i_dret, i_aret, i_invS0, i_invV0, i_m2, i_m1, i_ml, i_obj, lk, lkp, stf1, stf2, Value.category, rV, xTo, lv_args, xCk, xCat, xRc, xAk, hg_S, hg_I, hg_J, hg_D, hg_R, hs_I, hs_J, hs_D, hs_R, uI_at, uJ_at, uD_at, uR_at, List.take_succ_cons, List.take_zero, List.drop_succ_cons, List.drop_zero, List.reverse_cons, List.reverse_nil, List.nil_append, List.cons_append, List.map_cons, List.map_nil, List.sum_cons, List.sum_nil, List.length_cons, List.length_nil, Option.toList_some, Option.toList_none, true_and, and_true, false_and, and_false, true_implies, false_implies, implies_true, not_true_eq_false, not_false_eq_true, ne_eq, if_true, if_false, Bool.and_true, Bool.true_and, decide_true, decide_false, reduceIte, reduceCtorEq, Bool.and_self, Bool.and_eq_true, decide_eq_true_eq, and_self, true_or, or_true, false_or, or_false, Nat.zero_add, Nat.add_zero, eq_self, Nat.reduceEqDiff, Nat.reduceLeDiff, Nat.reduceLT, Nat.reduceAdd, Nat.reduceSub, Nat.reduceMul, LC_out hL]
  refine w_invVA (mc := 1) (ms := 6) (Nat.le_of_ble_eq_true rfl) (Nat.le_of_ble_eq_true rfl) rfl (by simp only [xSeq, i_push, i_load, i_iload, i_lload, i_dload, i_aload, i_istore, i_astore, i_lstore, i_dstore, i_iinc, i_ii, i_iiz, i_ll, i_llz, i_lli, i_li, i_i, i_l, i_i2l, i_l2i, i_dup, i_dup2, i_dup2w, i_dupx1, i_pop, i_pop2, i_goto, i_ifc, i_icmp, i_getI, i_getL, i_getR, i_putI, i_putZ, i_putL, i_putR, i_aldI, i_aldB, i_aldL, i_aldD, i_astI, i_astL, i_astD, i_alen, i_ret, i_iret, i_zret, i_lret, i_fret, i_dret, i_aret, i_invS0, i_invV0, i_m2, i_m1, i_ml, i_obj, lk, lkp, stf1, stf2, Value.category, rV, xTo, lv_args, xCk, xCat, xRc, xAk, hg_S, hg_I, hg_J, hg_D, hg_R, hs_I, hs_J, hs_D, hs_R, uI_at, uJ_at, uD_at, uR_at, List.take_succ_cons, List.take_zero, List.drop_succ_cons, List.drop_zero, List.reverse_cons, List.reverse_nil, List.nil_append, List.cons_append, List.map_cons, List.map_nil, List.sum_cons, List.sum_nil, List.length_cons, List.length_nil, Option.toList_some, Option.toList_none, true_and, and_true, false_and, and_false, true_implies, false_implies, implies_true, not_true_eq_false, not_false_eq_true, ne_eq, if_true, if_false, Bool.and_true, Bool.true_and, decide_true, decide_false, reduceIte, reduceCtorEq, Bool.and_self, Bool.and_eq_true, decide_eq_true_eq, and_self, true_or, or_true, false_or, or_false, Nat.zero_add, Nat.add_zero, eq_self, Nat.reduceEqDiff, Nat.reduceLeDiff, Nat.reduceLT, Nat.reduceAdd, Nat.reduceSub, Nat.reduceMul, LC_out hL]) ?_
  simp only [xSeq, i_push, i_load, i_iload, i_lload, i_dload, i_aload, i_istore, i_astore, i_lstore, i_dstore, i_iinc, i_ii, i_iiz, i_ll, i_llz, i_lli, i_li, i_i, i_l, i_i2l, i_l2i, i_dup, i_dup2, i_dup2w, i_dupx1, i_pop, i_pop2, i_goto, i_ifc, i_icmp, i_getI, i_getL, i_getR, i_putI, i_putZ, i_putL, i_putR, i_aldI, i_aldB, i_aldL, i_aldD, i_astI, i_astL, i_astD, i_alen, i_ret, i_iret, i_zret, i_lret, i_fret, i_dret, i_aret, i_invS0, i_invV0, i_m2, i_m1, i_ml, i_obj, lk, lkp, stf1, stf2, Value.category, rV, xTo, lv_args, xCk, xCat, xRc, xAk, hg_S, hg_I, hg_J, hg_D, hg_R, hs_I, hs_J, hs_D, hs_R, uI_at, uJ_at, uD_at, uR_at, List.take_succ_cons, List.take_zero, List.drop_succ_cons, List.drop_zero, List.reverse_cons, List.reverse_nil, List.nil_append, List.cons_append, List.map_cons, List.map_nil, List.sum_cons, List.sum_nil, List.length_cons, List.length_nil, Option.toList_some, Option.toList_none, true_and, and_true, false_and, and_false, true_implies, false_implies, implies_true, not_true_eq_false, not_false_eq_true, ne_eq, if_true, if_false, Bool.and_true, Bool.true_and, decide_true, decide_false, reduceIte, reduceCtorEq, Bool.and_self, Bool.and_eq_true, decide_eq_true_eq, and_self, true_or, or_true, false_or, or_false, Nat.zero_add, Nat.add_zero, eq_self, Nat.reduceEqDiff, Nat.reduceLeDiff, Nat.reduceLT, Nat.reduceAdd, Nat.reduceSub, Nat.reduceMul]
  rw [P165 (m := gm z.1) hL hC.2.1 n2 hfc.1 hfc.2]
  simp only [xSeq, i_push, i_load, i_iload, i_lload, i_dload, i_aload, i_istore, i_astore, i_lstore, i_dstore, i_iinc, i_ii, i_iiz, i_ll, i_llz, i_lli, i_li, i_i, i_l, i_i2l, i_l2i, i_dup, i_dup2, i_dup2w, i_dupx1, i_pop, i_pop2, i_goto, i_ifc, i_icmp, i_getI, i_getL, i_getR, i_putI, i_putZ, i_putL, i_putR, i_aldI, i_aldB, i_aldL, i_aldD, i_astI, i_astL, i_astD, i_alen, i_ret, i_iret, i_zret, i_lret, i_fret, i_dret, i_aret, i_invS0, i_invV0, i_m2, i_m1, i_ml, i_obj, lk, lkp, stf1, stf2, Value.category, rV, xTo, lv_args, xCk, xCat, xRc, xAk, hg_S, hg_I, hg_J, hg_D, hg_R, hs_I, hs_J, hs_D, hs_R, uI_at, uJ_at, uD_at, uR_at, List.take_succ_cons, List.take_zero, List.drop_succ_cons, List.drop_zero, List.reverse_cons, List.reverse_nil, List.nil_append, List.cons_append, List.map_cons, List.map_nil, List.sum_cons, List.sum_nil, List.length_cons, List.length_nil, Option.toList_some, Option.toList_none, true_and, and_true, false_and, and_false, true_implies, false_implies, implies_true, not_true_eq_false, not_false_eq_true, ne_eq, if_true, if_false, Bool.and_true, Bool.true_and, decide_true, decide_false, reduceIte, reduceCtorEq, Bool.and_self, Bool.and_eq_true, decide_eq_true_eq, and_self, true_or, or_true, false_or, or_false, Nat.zero_add, Nat.add_zero, eq_self, Nat.reduceEqDiff, Nat.reduceLeDiff, Nat.reduceLT, Nat.reduceAdd, Nat.reduceSub, Nat.reduceMul, LC_out hL]
  rw [e88_0]
  simp only [B88_0, xSeq, i_push, i_load, i_iload, i_lload, i_dload, i_aload, i_istore, i_astore, i_lstore, i_dstore, i_iinc, i_ii, i_iiz, i_ll, i_llz, i_lli, i_li, i_i, i_l, i_i2l, i_l2i, i_dup, i_dup2, i_dup2w, i_dupx1, i_pop, i_pop2, i_goto, i_ifc, i_icmp, i_getI, i_getL, i_getR, i_putI, i_putZ, i_putL, i_putR, i_aldI, i_aldB, i_aldL, i_aldD, i_astI, i_astL, i_astD, i_alen, i_ret, i_iret, i_zret, i_lret, i_fret, i_dret, i_aret, i_invS0, i_invV0, i_m2, i_m1, i_ml, i_obj, lk, lkp, stf1, stf2, Value.category, rV, xTo, lv_args, xCk, xCat, xRc, xAk, hg_S, hg_I, hg_J, hg_D, hg_R, hs_I, hs_J, hs_D, hs_R, uI_at, uJ_at, uD_at, uR_at, List.take_succ_cons, List.take_zero, List.drop_succ_cons, List.drop_zero, List.reverse_cons, List.reverse_nil, List.nil_append, List.cons_append, List.map_cons, List.map_nil, List.sum_cons, List.sum_nil, List.length_cons, List.length_nil, Option.toList_some, Option.toList_none, true_and, and_true, false_and, and_false, true_implies, false_implies, implies_true, not_true_eq_false, not_false_eq_true, ne_eq, if_true, if_false, Bool.and_true, Bool.true_and, decide_true, decide_false, reduceIte, reduceCtorEq, Bool.and_self, Bool.and_eq_true, decide_eq_true_eq, and_self, true_or, or_true, false_or, or_false, Nat.zero_add, Nat.add_zero, eq_self, Nat.reduceEqDiff, Nat.reduceLeDiff, Nat.reduceLT, Nat.reduceAdd, Nat.reduceSub, Nat.reduceMul, LC_out hL]
  refine L89 (n := gn z.1) (m := gm z.1) (st := stn z.2.1) hL hG hC i7 i8 a1 a2 a3 (fun k hk => (i111 k hk).trans (h86 k hk).1) (fun k hk => Nat.lt_trans (h86 k hk).2 (by decide)) s2 j4 s3 j5 (fun I' h' => ?_)
  obtain ⟨⟨p, hp, hW⟩, hf2⟩ := h'
  simp only [xSeq, i_push, i_load, i_iload, i_lload, i_dload, i_aload, i_istore, i_astore, i_lstore, i_dstore, i_iinc, i_ii, i_iiz, i_ll, i_llz, i_lli, i_li, i_i, i_l, i_i2l, i_l2i, i_dup, i_dup2, i_dup2w, i_dupx1, i_pop, i_pop2, i_goto, i_ifc, i_icmp, i_getI, i_getL, i_getR, i_putI, i_putZ, i_putL, i_putR, i_aldI, i_aldB, i_aldL, i_aldD, i_astI, i_astL, i_astD, i_alen, i_ret, i_iret, i_zret, i_lret, i_fret, i_dret, i_aret, i_invS0, i_invV0, i_m2, i_m1, i_ml, i_obj, lk, lkp, stf1, stf2, Value.category, rV, xTo, lv_args, xCk, xCat, xRc, xAk, hg_S, hg_I, hg_J, hg_D, hg_R, hs_I, hs_J, hs_D, hs_R, uI_at, uJ_at, uD_at, uR_at, List.take_succ_cons, List.take_zero, List.drop_succ_cons, List.drop_zero, List.reverse_cons, List.reverse_nil, List.nil_append, List.cons_append, List.map_cons, List.map_nil, List.sum_cons, List.sum_nil, List.length_cons, List.length_nil, Option.toList_some, Option.toList_none, true_and, and_true, false_and, and_false, true_implies, false_implies, implies_true, not_true_eq_false, not_false_eq_true, ne_eq, if_true, if_false, Bool.and_true, Bool.true_and, decide_true, decide_false, reduceIte, reduceCtorEq, Bool.and_self, Bool.and_eq_true, decide_eq_true_eq, and_self, true_or, or_true, false_or, or_false, Nat.zero_add, Nat.add_zero, eq_self, Nat.reduceEqDiff, Nat.reduceLeDiff, Nat.reduceLT, Nat.reduceAdd, Nat.reduceSub, Nat.reduceMul]
  have h2 : I' 102 2 = nI (gn z.1) := (hf2 _ _ (by decide)).trans hC.1
  refine L88x_11 (r := jrg z.1 z.2.1) (ge := (jdg z.1 z.2.1).2) hL h2 n1 y1 hp hW s2 y2 (J0 := J) j4 ?_ (gn z.1) 0 (by omega)
  simp only [xSeq, i_push, i_load, i_iload, i_lload, i_dload, i_aload, i_istore, i_astore, i_lstore, i_dstore, i_iinc, i_ii, i_iiz, i_ll, i_llz, i_lli, i_li, i_i, i_l, i_i2l, i_l2i, i_dup, i_dup2, i_dup2w, i_dupx1, i_pop, i_pop2, i_goto, i_ifc, i_icmp, i_getI, i_getL, i_getR, i_putI, i_putZ, i_putL, i_putR, i_aldI, i_aldB, i_aldL, i_aldD, i_astI, i_astL, i_astD, i_alen, i_ret, i_iret, i_zret, i_lret, i_fret, i_dret, i_aret, i_invS0, i_invV0, i_m2, i_m1, i_ml, i_obj, lk, lkp, stf1, stf2, Value.category, rV, xTo, lv_args, xCk, xCat, xRc, xAk, hg_S, hg_I, hg_J, hg_D, hg_R, hs_I, hs_J, hs_D, hs_R, uI_at, uJ_at, uD_at, uR_at, List.take_succ_cons, List.take_zero, List.drop_succ_cons, List.drop_zero, List.reverse_cons, List.reverse_nil, List.nil_append, List.cons_append, List.map_cons, List.map_nil, List.sum_cons, List.sum_nil, List.length_cons, List.length_nil, Option.toList_some, Option.toList_none, true_and, and_true, false_and, and_false, true_implies, false_implies, implies_true, not_true_eq_false, not_false_eq_true, ne_eq, if_true, if_false, Bool.and_true, Bool.true_and, decide_true, decide_false, reduceIte, reduceCtorEq, Bool.and_self, Bool.and_eq_true, decide_eq_true_eq, and_self, true_or, or_true, false_or, or_false, Nat.zero_add, Nat.add_zero, eq_self, Nat.reduceEqDiff, Nat.reduceLeDiff, Nat.reduceLT, Nat.reduceAdd, Nat.reduceSub, Nat.reduceMul, xToT_ok, tE0_0, tE1_0, tE1_1, tE2_0, tE3_0, tE4_0, tE5_0, tE5_1, tE6_0, tE7_0, tE7_1, tE8_0, tE9_0, tE9_1, tE9_2, tE10_0, tE11_0, tE11_1, tE12_0, tE12_1, tE13_0, tE13_1, tE13_2, tE14_0, tE14_1, tE15_0, tE16_0, tE17_0, LC_out hL, s4, xi1, ix_0, i1_0, e349_14, B349_14]
  obtain ⟨h2, fr2⟩ := AC_116 h hf2
  exact kk _ S I' _ D R f _ ⟨rfl, (uJ_at _ _ _ _ _ _).trans (if_pos ⟨rfl, rfl⟩)⟩ (AC_out (AC_toC h2 _ _) _) (frC_tr fr2 (frC_tr (frC_toC _ _) frC_out)) (by omega)
theorem KM27b (w : WA N z) (hf0 : FRO z.1 z.2.1) : MC 281 [(0, .ref 200)] z (zC z ((stZ z.2.1).1 ^^^ (acg z.1 z.2.1).1) (acg z.1 z.2.1).2) (fun r I _ _ => r = some (.int (nI (ct (fun s => decide (jrg z.1 z.2.1 s = s)) (gn z.1)))) ∧ I 200 19 = 0) := by
  intro S I J D R b Q h kk
  obtain ⟨hM, hD, hG, ⟨i2, i3, i4, i5, i6, i7, j3, j4⟩, i16, ⟨s1, s2, s3⟩, ⟨n0, n1, n2, n3⟩⟩ := AM_o h w
  have h9 := AM_19 h 0
  obtain ⟨a1, a2, a3⟩ := AC_ab w
  obtain ⟨y1, y2, y3⟩ := jrg_ok w
  have y64 : ∀ k, k < gn z.1 → jrg z.1 z.2.1 k < 64 := fun k hk => Nat.lt_of_lt_of_le (y1 k hk) n1
  have h86 := fun k hk => (FRO_n w hf0 (j := k) hk)
  have hfc := (FRO_m i4 i16).mpr hf0
  have h278 := fun (J : xJ) (b : Nat × Nat) (Q : xQ) => R278 (S := S) (R := R) (I := uI I 200 19 0) (J := J) (D := D) (b := b) (Q := Q) (m := gm z.1) hM hD.2.1 n2 hfc.1 hfc.2
  rw [e281_0]
  simp only [B281_0, xSeq, i_push, i_load, i_iload, i_lload, i_dload, i_aload, i_istore, i_astore, i_lstore, i_dstore, i_iinc, i_ii, i_iiz, i_ll, i_llz, i_lli, i_li, i_i, i_l, i_i2l, i_l2i, i_dup, i_dup2, i_dup2w, i_dupx1, i_pop, i_pop2, i_goto, i_ifc, i_icmp, i_getI, i_getL, i_getR, i_putI, i_putZ, i_putL, i_putR, i_aldI, i_aldB, i_aldL, i_aldD, i_astI, i_astL, i_astD, i_alen, i_ret, i_iret, i_zret, i_lret, i_fret, i_dret, i_aret, i_invS0, i_invV0, i_m2, i_m1, i_ml, i_obj, lk, lkp, stf1, stf2, Value.category, rV, xTo, lv_args, xCk, xCat, xRc, xAk, hg_S, hg_I, hg_J, hg_D, hg_R, hs_I, hs_J, hs_D, hs_R, uI_at, uJ_at, uD_at, uR_at, List.take_succ_cons, List.take_zero, List.drop_succ_cons, List.drop_zero, List.reverse_cons, List.reverse_nil, List.nil_append, List.cons_append, List.map_cons, List.map_nil, List.sum_cons, List.sum_nil, List.length_cons, List.length_nil, Option.toList_some, Option.toList_none, true_and, and_true, false_and, and_false, true_implies, false_implies, implies_true, not_true_eq_false, not_false_eq_true, ne_eq, if_true, if_false, Bool.and_true, Bool.true_and, decide_true, decide_false, reduceIte, reduceCtorEq, Bool.and_self, Bool.and_eq_true, decide_eq_true_eq, and_self, true_or, or_true, false_or, or_false, Nat.zero_add, Nat.add_zero, eq_self, Nat.reduceEqDiff, Nat.reduceLeDiff, Nat.reduceLT, Nat.reduceAdd, Nat.reduceSub, Nat.reduceMul, LM_out hM, i1_0, i2_0, h278, R234 hM (v := 0) (Or.inl rfl)]
  rw [e281_19]
  simp only [B281_19, xSeq, i_push, i_load, i_iload, i_lload, i_dload, i_aload, i_istore, i_astore, i_lstore, i_dstore, i_iinc, i_ii, i_iiz, i_ll, i_llz, i_lli, i_li, i_i, i_l, i_i2l, i_l2i, i_dup, i_dup2, i_dup2w, i_dupx1, i_pop, i_pop2, i_goto, i_ifc, i_icmp, i_getI, i_getL, i_getR, i_putI, i_putZ, i_putL, i_putR, i_aldI, i_aldB, i_aldL, i_aldD, i_astI, i_astL, i_astD, i_alen, i_ret, i_iret, i_zret, i_lret, i_fret, i_dret, i_aret, i_invS0, i_invV0, i_m2, i_m1, i_ml, i_obj, lk, lkp, stf1, stf2, Value.category, rV, xTo, lv_args, xCk, xCat, xRc, xAk, hg_S, hg_I, hg_J, hg_D, hg_R, hs_I, hs_J, hs_D, hs_R, uI_at, uJ_at, uD_at, uR_at, List.take_succ_cons, List.take_zero, List.drop_succ_cons, List.drop_zero, List.reverse_cons, List.reverse_nil, List.nil_append, List.cons_append, List.map_cons, List.map_nil, List.sum_cons, List.sum_nil, List.length_cons, List.length_nil, Option.toList_some, Option.toList_none, true_and, and_true, false_and, and_false, true_implies, false_implies, implies_true, not_true_eq_false, not_false_eq_true, ne_eq, if_true, if_false, Bool.and_true, Bool.true_and, decide_true, decide_false, reduceIte, reduceCtorEq, Bool.and_self, Bool.and_eq_true, decide_eq_true_eq, and_self, true_or, or_true, false_or, or_false, Nat.zero_add, Nat.add_zero, eq_self, Nat.reduceEqDiff, Nat.reduceLeDiff, Nat.reduceLT, Nat.reduceAdd, Nat.reduceSub, Nat.reduceMul, LM_out hM]
  refine L282 (I0 := uI I 200 19 0) hM hD.1 n1 (fun I' h' => ?_)
  simp only [xSeq, i_push, i_load, i_iload, i_lload, i_dload, i_aload, i_istore, i_astore, i_lstore, i_dstore, i_iinc, i_ii, i_iiz, i_ll, i_llz, i_lli, i_li, i_i, i_l, i_i2l, i_l2i, i_dup, i_dup2, i_dup2w, i_dupx1, i_pop, i_pop2, i_goto, i_ifc, i_icmp, i_getI, i_getL, i_getR, i_putI, i_putZ, i_putL, i_putR, i_aldI, i_aldB, i_aldL, i_aldD, i_astI, i_astL, i_astD, i_alen, i_ret, i_iret, i_zret, i_lret, i_fret, i_dret, i_aret, i_invS0, i_invV0, i_m2, i_m1, i_ml, i_obj, lk, lkp, stf1, stf2, Value.category, rV, xTo, lv_args, xCk, xCat, xRc, xAk, hg_S, hg_I, hg_J, hg_D, hg_R, hs_I, hs_J, hs_D, hs_R, uI_at, uJ_at, uD_at, uR_at, List.take_succ_cons, List.take_zero, List.drop_succ_cons, List.drop_zero, List.reverse_cons, List.reverse_nil, List.nil_append, List.cons_append, List.map_cons, List.map_nil, List.sum_cons, List.sum_nil, List.length_cons, List.length_nil, Option.toList_some, Option.toList_none, true_and, and_true, false_and, and_false, true_implies, false_implies, implies_true, not_true_eq_false, not_false_eq_true, ne_eq, if_true, if_false, Bool.and_true, Bool.true_and, decide_true, decide_false, reduceIte, reduceCtorEq, Bool.and_self, Bool.and_eq_true, decide_eq_true_eq, and_self, true_or, or_true, false_or, or_false, Nat.zero_add, Nat.add_zero, eq_self, Nat.reduceEqDiff, Nat.reduceLeDiff, Nat.reduceLT, Nat.reduceAdd, Nat.reduceSub, Nat.reduceMul]
  have e5 : uJ J 200 4 (lN (jd (gn z.1) (stA z.2.1) (stB z.2.1) (stn z.2.1) (gf z.1) (gs z.1) (stZ z.2.1).1 (stZ z.2.1).2.1 0).2) = J := uJ_same j4
  have hr := L281_25 (S := S) (R := R) (D := D) (b := b) (Q := Q) (n := gn z.1) (m := gm z.1) (st := stn z.2.1) (I0 := uI I 200 19 0) (J0 := J) hM hG (CM_u hD (by decide)) i2 i3 a1 a2 a3 (fun k hk => (i16 k hk).trans (h86 k hk).1) (fun k hk => Nat.lt_trans (h86 k hk).2 (by decide)) s2 j3 s3 (fun I2 h2 => by
    have h10 := (GO_CM h2 (CM_u hD (by decide))).1
    have k6 : ∀ o j, ¬ (o = 340 ∨ o = 341 ∨ o = 342 ∨ (353 ≤ o ∧ o ≤ 357)) → I2 o j = uI I 200 19 0 o j := fun o j q => h2.2 o j (by omega)
    rw [e281_84]
    simp only [B281_84, xSeq, i_push, i_load, i_iload, i_lload, i_dload, i_aload, i_istore, i_astore, i_lstore, i_dstore, i_iinc, i_ii, i_iiz, i_ll, i_llz, i_lli, i_li, i_i, i_l, i_i2l, i_l2i, i_dup, i_dup2, i_dup2w, i_dupx1, i_pop, i_pop2, i_goto, i_ifc, i_icmp, i_getI, i_getL, i_getR, i_putI, i_putZ, i_putL, i_putR, i_aldI, i_aldB, i_aldL, i_aldD, i_astI, i_astL, i_astD, i_alen, i_ret, i_iret, i_zret, i_lret, i_fret, i_dret, i_aret, i_invS0, i_invV0, i_m2, i_m1, i_ml, i_obj, lk, lkp, stf1, stf2, Value.category, rV, xTo, lv_args, xCk, xCat, xRc, xAk, hg_S, hg_I, hg_J, hg_D, hg_R, hs_I, hs_J, hs_D, hs_R, uI_at, uJ_at, uD_at, uR_at, List.take_succ_cons, List.take_zero, List.drop_succ_cons, List.drop_zero, List.reverse_cons, List.reverse_nil, List.nil_append, List.cons_append, List.map_cons, List.map_nil, List.sum_cons, List.sum_nil, List.length_cons, List.length_nil, Option.toList_some, Option.toList_none, true_and, and_true, false_and, and_false, true_implies, false_implies, implies_true, not_true_eq_false, not_false_eq_true, ne_eq, if_true, if_false, Bool.and_true, Bool.true_and, decide_true, decide_false, reduceIte, reduceCtorEq, Bool.and_self, Bool.and_eq_true, decide_eq_true_eq, and_self, true_or, or_true, false_or, or_false, Nat.zero_add, Nat.add_zero, eq_self, Nat.reduceEqDiff, Nat.reduceLeDiff, Nat.reduceLT, Nat.reduceAdd, Nat.reduceSub, Nat.reduceMul]
    have hw := L281x_86 (S := S) (R := R) (D := D) (b := b) (Q := Q) (J0 := J) (r := jrg z.1 z.2.1) (ge := (jdg z.1 z.2.1).2) (x := (stZ z.2.1).1) hM h10 n1 h2.1 y64 y2 (fun y q1 q2 => by
      have ey : y = (stZ z.2.1).1 ^^^ (acg z.1 z.2.1).1 := Nat.eq_of_testBit_eq (fun k => by
        rw [q2 k, Nat.testBit_xor]
        unfold acg
        rw [cfm_bit y3 _ (Nat.le_refl _) k]
        by_cases q : k < gn z.1
        · rw [decide_eq_true q, decide_eq_true (y1 k q)]; simp
        · rw [decide_eq_false q]; simp)
      rw [e281_166]
      simp only [B281_166, xSeq, i_push, i_load, i_iload, i_lload, i_dload, i_aload, i_istore, i_astore, i_lstore, i_dstore, i_iinc, i_ii, i_iiz, i_ll, i_llz, i_lli, i_li, i_i, i_l, i_i2l, i_l2i, i_dup, i_dup2, i_dup2w, i_dupx1, i_pop, i_pop2, i_goto, i_ifc, i_icmp, i_getI, i_getL, i_getR, i_putI, i_putZ, i_putL, i_putR, i_aldI, i_aldB, i_aldL, i_aldD, i_astI, i_astL, i_astD, i_alen, i_ret, i_iret, i_zret, i_lret, i_fret, i_dret, i_aret, i_invS0, i_invV0, i_m2, i_m1, i_ml, i_obj, lk, lkp, stf1, stf2, Value.category, rV, xTo, lv_args, xCk, xCat, xRc, xAk, hg_S, hg_I, hg_J, hg_D, hg_R, hs_I, hs_J, hs_D, hs_R, uI_at, uJ_at, uD_at, uR_at, List.take_succ_cons, List.take_zero, List.drop_succ_cons, List.drop_zero, List.reverse_cons, List.reverse_nil, List.nil_append, List.cons_append, List.map_cons, List.map_nil, List.sum_cons, List.sum_nil, List.length_cons, List.length_nil, Option.toList_some, Option.toList_none, true_and, and_true, false_and, and_false, true_implies, false_implies, implies_true, not_true_eq_false, not_false_eq_true, ne_eq, if_true, if_false, Bool.and_true, Bool.true_and, decide_true, decide_false, reduceIte, reduceCtorEq, Bool.and_self, Bool.and_eq_true, decide_eq_true_eq, and_self, true_or, or_true, false_or, or_false, Nat.zero_add, Nat.add_zero, eq_self, Nat.reduceEqDiff, Nat.reduceLeDiff, Nat.reduceLT, Nat.reduceAdd, Nat.reduceSub, Nat.reduceMul, LM_out hM]
      rw [R284 hM h10 n1 h2.1 y64]
      simp only [xSeq, i_push, i_load, i_iload, i_lload, i_dload, i_aload, i_istore, i_astore, i_lstore, i_dstore, i_iinc, i_ii, i_iiz, i_ll, i_llz, i_lli, i_li, i_i, i_l, i_i2l, i_l2i, i_dup, i_dup2, i_dup2w, i_dupx1, i_pop, i_pop2, i_goto, i_ifc, i_icmp, i_getI, i_getL, i_getR, i_putI, i_putZ, i_putL, i_putR, i_aldI, i_aldB, i_aldL, i_aldD, i_astI, i_astL, i_astD, i_alen, i_ret, i_iret, i_zret, i_lret, i_fret, i_dret, i_aret, i_invS0, i_invV0, i_m2, i_m1, i_ml, i_obj, lk, lkp, stf1, stf2, Value.category, rV, xTo, lv_args, xCk, xCat, xRc, xAk, hg_S, hg_I, hg_J, hg_D, hg_R, hs_I, hs_J, hs_D, hs_R, uI_at, uJ_at, uD_at, uR_at, List.take_succ_cons, List.take_zero, List.drop_succ_cons, List.drop_zero, List.reverse_cons, List.reverse_nil, List.nil_append, List.cons_append, List.map_cons, List.map_nil, List.sum_cons, List.sum_nil, List.length_cons, List.length_nil, Option.toList_some, Option.toList_none, true_and, and_true, false_and, and_false, true_implies, false_implies, implies_true, not_true_eq_false, not_false_eq_true, ne_eq, if_true, if_false, Bool.and_true, Bool.true_and, decide_true, decide_false, reduceIte, reduceCtorEq, Bool.and_self, Bool.and_eq_true, decide_eq_true_eq, and_self, true_or, or_true, false_or, or_false, Nat.zero_add, Nat.add_zero, eq_self, Nat.reduceEqDiff, Nat.reduceLeDiff, Nat.reduceLT, Nat.reduceAdd, Nat.reduceSub, Nat.reduceMul]
      rw [ey]
      exact kk _ I2 _ _ ⟨rfl, h2.2 200 19 (by decide)⟩ (AM_toC (AM_scr h9 k6) _ _) (frM_tr (frM_19 (J := J) 0) (frM_tr (frM_scr k6) (frM_toC _ _)))) (fun k hk => (y3 k hk).2) (gn z.1) 0 (stZ z.2.1).1 (by omega) s2 (fun k => by simp)
    have e6 : uJ (uJ J 200 4 (lN (cfm (jrg z.1 z.2.1) (jdg z.1 z.2.1).2 0).2)) 200 3 (lN (stZ z.2.1).1) = uJ J 200 4 (lN (jdg z.1 z.2.1).2) := uJ_com (by decide) j3
    rw [e6] at hw
    exact hw) (gm z.1) 0 I' (by omega) ⟨fun k hk => ?_, h'.2⟩
  · rw [e5] at hr
    exact hr
  · have e : (List.range (gn z.1)).getD k 0 = k := by rw [← List.getElem_eq_getD (h := by rw [List.length_range]; exact hk) 0, List.getElem_range]
    exact (h'.1 k hk).trans (congrArg nI e.symm)
end
/-! ===== visited: printed by a24.visit.py ===== -/
section
variable {g : xGd} {x : xSt} {sv : Option xSt} {k : Nat} {by' : Nat → Nat} {e1 e2 : Int32} {z : xA} {N P f : Nat} {S : xS} {I : xI} {J : xJ} {D : xDb} {R : xR} {b : Nat × Nat} {Q : xQ} {n m : Nat}
/-- seen before; how many different ones -/
def sn (C : Nat → Nat) (i : Nat) : Bool := decide (0 < ct (fun j => decide (C j = C i)) i)
def dct (C : Nat → Nat) : Nat → Nat
  | 0 => 0
  | i + 1 => if sn C i = true then dct C i else dct C i + 1
theorem dct_le (C : Nat → Nat) : ∀ i, dct C i ≤ i
  | 0 => Nat.le_refl _
  | i + 1 => by
    have := dct_le C i
    rw [dct]
    split <;> omega
theorem sn_t {C : Nat → Nat} {i : Nat} : sn C i = true ↔ ∃ j, j < i ∧ C j = C i := by
  unfold sn
  rw [decide_eq_true_iff, ct_pos]
  simp
def hq (V s k : Nat) : Nat := (s + k) % V
theorem hq_lt {V : Nat} (hV : V = 32768) (s k : Nat) : hq V s k < V := Nat.mod_lt _ (by omega)
/-- a table of them -/
def TB (V : Nat) (h : Nat → Nat) (C : Nat → Nat) (i : Nat) (T : Nat → Nat) : Prop := (∀ p, p < V → T p ≤ i) ∧ ct (fun p => decide (T p ≠ 0)) V = dct C i ∧
  ∀ j, j < i → ∃ k, k < V ∧ (∀ k', k' < k → T (hq V (h (C j)) k') ≠ 0) ∧ T (hq V (h (C j)) k) ≠ 0 ∧ C (T (hq V (h (C j)) k) - 1) = C j
theorem ct_true : ∀ n, ct (fun _ => true) n = n
  | 0 => rfl
  | n + 1 => by rw [ct, ct_true n, if_pos rfl]
theorem TB_0 (V : Nat) (h : Nat → Nat) (C : Nat → Nat) : TB V h C 0 (fun _ => 0) := ⟨fun _ _ => Nat.le_refl _, by
  rw [ct_congr (q := fun _ => false) (fun k _ => by simp), ct_no]; rfl, fun j hj => absurd hj (Nat.not_lt_zero j)⟩
theorem TB_room {V : Nat} (hV : V = 32768) {h : Nat → Nat} {C : Nat → Nat} {i : Nat} {T : Nat → Nat} (ht : TB V h C i T) (hi : i < V) {s : Nat} (hs : s < V) : ∃ k, k < V ∧ T (hq V s k) = 0 := by
  have h1 : ∃ p, p < V ∧ T p = 0 := by
    refine Classical.byContradiction (fun hn => ?_)
    have e := ht.2.1
    have e3 : ct (fun p => decide (T p ≠ 0)) V = V := by
      have e4 : ct (fun p => decide (T p ≠ 0)) V = ct (fun _ => true) V := ct_congr (fun p hp => decide_eq_true (show T p ≠ 0 from fun e => hn ⟨p, hp, e⟩))
      rw [e4, ct_true]
    rw [e3] at e
    have := dct_le C i
    omega
  obtain ⟨p, hp, e⟩ := h1
  refine ⟨(p + V - s) % V, Nat.mod_lt _ (by omega), ?_⟩
  have e2 : hq V s ((p + V - s) % V) = p := by subst hV; unfold hq; omega
  rw [e2]
  exact e
theorem TB_no {V : Nat} (hV : V = 32768) {h : Nat → Nat} {C : Nat → Nat} {i : Nat} {T : Nat → Nat} (ht : TB V h C i T) {k : Nat} (h1 : ∀ k', k' < k → T (hq V (h (C i)) k') ≠ 0 ∧ C (T (hq V (h (C i)) k') - 1) ≠ C i) (h2 : T (hq V (h (C i)) k) = 0) : sn C i = false := by
  rw [Bool.eq_false_iff]
  intro e
  obtain ⟨j, hj, e2⟩ := sn_t.mp e
  obtain ⟨k2, a1, a2, a3, a4⟩ := ht.2.2 j hj
  rw [e2] at a2 a3 a4
  rcases Nat.lt_trichotomy k2 k with q | q | q
  · exact (h1 k2 q).2 a4
  · rw [q] at a3; exact a3 h2
  · exact a2 k q h2
theorem TB_new {V : Nat} (hV : V = 32768) {h : Nat → Nat} {C : Nat → Nat} {i : Nat} {T : Nat → Nat} (ht : TB V h C i T) (hi : i < V) {k : Nat} (hk : k < V) (h1 : ∀ k', k' < k → T (hq V (h (C i)) k') ≠ 0) (h2 : T (hq V (h (C i)) k) = 0) (hs : sn C i = false) : TB V h C (i + 1) (fun p => if p = hq V (h (C i)) k then i + 1 else T p) := by
  obtain ⟨a1, a2, a3⟩ := ht
  obtain ⟨p, hp⟩ : ∃ p, p = hq V (h (C i)) k := ⟨_, rfl⟩
  have hl : p < V := hp ▸ hq_lt hV _ _
  rw [← hp] at h2 ⊢
  have un : ∀ q, T q ≠ 0 → (fun p_1 => if p_1 = p then i + 1 else T p_1) q = T q := fun q hq' => if_neg (fun e => hq' (by rw [e]; exact h2))
  have up : (fun p_1 => if p_1 = p then i + 1 else T p_1) p = i + 1 := if_pos rfl
  refine ⟨fun q hq => ?_, ?_, fun j hj => ?_⟩
  · show (if q = p then i + 1 else T q) ≤ i + 1
    have := a1 q hq
    split <;> omega
  · rw [ct_congr (q := fun q => decide (T q ≠ 0) || decide (p = q)) (fun q _ => ?_), ct_set (by rw [h2]; rfl), a2, dct, hs, if_pos hl]
    · simp
    · by_cases e : q = p
      · subst e; simp
      · simp only [if_neg e, decide_eq_false (fun e2 : p = q => e e2.symm), Bool.or_false]
  · by_cases e : j = i
    · subst e
      refine ⟨k, hk, fun k' hk' => ?_, ?_, ?_⟩
      · rw [un _ (h1 k' hk')]; exact h1 k' hk'
      · rw [← hp, up]; omega
      · rw [← hp, up]; rfl
    · obtain ⟨k2, c1, c2, c3, c4⟩ := a3 j (by omega)
      refine ⟨k2, c1, fun k' hk' => ?_, ?_, ?_⟩
      · rw [un _ (c2 k' hk')]; exact c2 k' hk'
      · rw [un _ c3]; exact c3
      · rw [un _ c3]; exact c4
theorem TB_old {V : Nat} (hV : V = 32768) {h : Nat → Nat} {C : Nat → Nat} {i : Nat} {T : Nat → Nat} (ht : TB V h C i T) {k : Nat} (hk : k < V) (h1 : ∀ k', k' < k → T (hq V (h (C i)) k') ≠ 0) (h2 : T (hq V (h (C i)) k) ≠ 0) (h3 : C (T (hq V (h (C i)) k) - 1) = C i) : sn C i = true ∧ TB V h C (i + 1) T := by
  have hs : sn C i = true := sn_t.mpr ⟨T (hq V (h (C i)) k) - 1, by have := ht.1 _ (hq_lt hV (h (C i)) k); omega, h3⟩
  refine ⟨hs, fun p hp => Nat.le_succ_of_le (ht.1 p hp), ?_, fun j hj => ?_⟩
  · rw [ht.2.1, dct, if_pos hs]
  · by_cases e : j = i
    · subst e; exact ⟨k, hk, h1, h2, h3⟩
    · exact ht.2.2 j (by omega)
theorem lN_64 (n : Nat) : lN n = lN (n % 2 ^ 64) := by
  apply q_inj
  rw [q_tb, q_tb]
  apply BitVec.eq_of_toNat_eq
  rw [BitVec.toNat_ofNat, BitVec.toNat_ofNat, Nat.mod_mod]
theorem nI_15 (a : Nat) : nI a &&& 32767 = nI (a % 32768) := by
  rw [show (32767 : Int32) = nI 32767 from rfl, i_andN, show (32767 : Nat) = 2 ^ 15 - 1 from rfl, Nat.and_two_pow_sub_one_eq_mod]
/-- the hashes of both sides -/
def hsC (c : Nat) : Nat := c * 11400714819323198485 % 2 ^ 64 / 2 ^ 49
theorem hsC_lt (c : Nat) : hsC c < 32768 := by
  have := Nat.mod_lt (c * 11400714819323198485) (show 0 < 2 ^ 64 by decide)
  unfold hsC
  omega
theorem hsC_e (c : Nat) : (jLushr (lN c * -7046029254386353131) 49).toInt32 = nI (hsC c) := by
  rw [show (-7046029254386353131 : Int64) = lN 11400714819323198485 from by decide, lN_mul, lN_64, show (49 : Int32) = nI 49 from rfl, q_ushr (Nat.mod_lt _ (by decide)) (by decide), lN_i]
  rfl
def hsM (c : Nat) : Nat := (c ^^^ c / 2 ^ 15 ^^^ c / 2 ^ 31 ^^^ c / 2 ^ 47) % 32768
theorem hsM_lt (c : Nat) : hsM c < 32768 := Nat.mod_lt _ (by decide)
theorem hsM_e {c : Nat} (hc : c < 2 ^ 64) : ((lN c ^^^ jLushr (lN c) 15 ^^^ jLushr (lN c) 31 ^^^ jLushr (lN c) 47) &&& 32767).toInt32 = nI (hsM c) := by
  have h (k : Nat) : c / 2 ^ k < 2 ^ 64 := Nat.lt_of_le_of_lt (Nat.div_le_self _ _) hc
  rw [show (15 : Int32) = nI 15 from rfl, show (31 : Int32) = nI 31 from rfl, show (47 : Int32) = nI 47 from rfl, q_ushr hc (by decide), q_ushr hc (by decide), q_ushr hc (by decide), q_xor, q_xor, q_xor, show (32767 : Int64) = lN 32767 from rfl, q_and (Nat.xor_lt_two_pow (Nat.xor_lt_two_pow (Nat.xor_lt_two_pow hc (h 15)) (h 31)) (h 47)) (by decide), lN_i, show (32767 : Nat) = 2 ^ 15 - 1 from rfl, Nat.and_two_pow_sub_one_eq_mod]
  rfl
def HTv (V r : Nat) (I0 : xI) (T : Nat → Nat) (I : xI) : Prop := (∀ p, p < V → I r p = nI (T p)) ∧ ∀ o k, o ≠ r → I o k = I0 o k
theorem HTv_up {V r : Nat} {I0 I : xI} {T : Nat → Nat} (h : HTv V r I0 T I) (p v : Nat) : HTv V r I0 (fun q => if q = p then v else T q) (uI I r p (nI v)) := by
  refine ⟨fun q hq => ?_, fun o k ho => ?_⟩
  · rw [uI_at]
    by_cases e : q = p
    · subst e; rw [if_pos ⟨rfl, rfl⟩]; show nI v = nI (if q = q then v else T q); rw [if_pos rfl]
    · rw [if_neg (fun e2 => e e2.2), h.1 q hq]; show nI (T q) = nI (if q = p then v else T q); rw [if_neg e]
  · rw [uI_at, if_neg (fun e => ho e.1)]; exact h.2 o k ho
theorem nI_dec {v : Nat} (h : v ≠ 0) (h2 : v < 2147483648) : nI v - 1 = nI (v - 1) := by
  obtain ⟨w, rfl⟩ : ∃ w, v = w + 1 := ⟨v - 1, by omega⟩
  rw [← nI_1, Nat.add_sub_cancel]
  exact Int32.add_sub_cancel _ _
theorem nI_z {v : Nat} (h : v < 2147483648) : (nI v = 0) = (v = 0) := by rw [show (0 : Int32) = nI 0 from rfl, nI_iff h (by decide)]
/-- the class: one of them -/
theorem L38_21 {V : Nat} (hV : V = 32768) {hf : Nat → Nat} (hf1 : ∀ c, hf c < 32768) {I0 : xI} {C : Nat → Nat} {K : Nat} (hS : S 112 = (4, 0)) (h1 : R 112 1 = some 117) (h2 : S 117 = (101, 10000)) (h3 : R 112 3 = some 119) (h4 : S 119 = (100, V)) (hK : K ≤ 10000) (hC : ∀ i, i < K → J 117 i = lN (C i) ∧ C i < 2 ^ 64) {i : Nat} (hi : i < K) {T : Nat → Nat} (ht : TB V hf C i T) (hI : HTv V 119 I0 T I)
    (kk : ∀ I' T', HTv V 119 I0 T' I' → TB V hf C (i + 1) T' → Q (.ok (some (.int (if sn C i = true then 0 else 1)))) (S, I', J, D, R) b) :
    ∀ (j k : Nat), k + j = V → (∀ k', k' < k → T (hq V (hf (C i)) k') ≠ 0 ∧ C (T (hq V (hf (C i)) k') - 1) ≠ C i) → xRun xT 38 21 [(0, .ref 112), (1, .int (nI i)), (2, .long (lN (C i))), (4, .int (nI (hf (C i)))), (5, .int (nI k))] [] (S, I, J, D, R) b Q
  | 0, k, hk, hp => by
    obtain ⟨k0, c1, c2⟩ := TB_room hV ht (s := hf (C i)) (by omega) (by have := hf1 (C i); omega)
    exact absurd c2 (hp k0 (by omega)).1
  | j + 1, k, hk, hp => by
    have l1 := hf1 (C i)
    have l2 := hq_lt hV (hf (C i)) k
    have l3 := ht.1 _ l2
    have nx := L38_21 hV hf1 hS h1 h2 h3 h4 hK hC hi ht hI kk j (k + 1) (by omega)
    have e1 : nI (hf (C i)) + nI k = nI (hf (C i) + k) := nI_add _ _
    have e2 : nI (hf (C i) + k) &&& 32767 = nI (hq V (hf (C i)) k) := by subst hV; exact nI_15 _
    have eT := hI.1 _ l2
    obtain ⟨p, hpp⟩ : ∃ p, p = hq V (hf (C i)) k := ⟨_, rfl⟩
    rw [← hpp] at e2 eT l2 l3
    rw [e38_21]
    simp only [B38_21, xSeq, i_push, i_load, i_iload, i_lload, i_dload, i_aload, i_istore, i_astore, i_lstore, i_dstore, i_iinc, i_ii, i_iiz, i_ll, i_llz, i_lli, i_li, i_i, i_l, i_i2l, i_l2i, i_dup, i_dup2, i_dup2w, i_dupx1, i_pop, i_pop2, i_goto, i_ifc, i_icmp, i_getI, i_getL, i_getR, i_putI, i_putZ, i_putL, i_putR, i_aldI, i_aldB, i_aldL, i_aldD, i_astI, i_astL, i_astD, i_alen, i_ret, i_iret, i_zret, i_lret, i_fret, i_dret, i_aret, i_invS0, i_invV0, i_m2, i_m1, i_ml, i_obj, lk, lkp, stf1, stf2, Value.category, rV, xTo, lv_args, xCk, xCat, xRc, xAk, hg_S, hg_I, hg_J, hg_D, hg_R, hs_I, hs_J, hs_D, hs_R, uI_at, uJ_at, uD_at, uR_at, List.take_succ_cons, List.take_zero, List.drop_succ_cons, List.drop_zero, List.reverse_cons, List.reverse_nil, List.nil_append, List.cons_append, List.map_cons, List.map_nil, List.sum_cons, List.sum_nil, List.length_cons, List.length_nil, Option.toList_some, Option.toList_none, true_and, and_true, false_and, and_false, true_implies, false_implies, implies_true, not_true_eq_false, not_false_eq_true, ne_eq, if_true, if_false, Bool.and_true, Bool.true_and, decide_true, decide_false, reduceIte, reduceCtorEq, Bool.and_self, Bool.and_eq_true, decide_eq_true_eq, and_self, true_or, or_true, false_or, or_false, Nat.zero_add, Nat.add_zero, eq_self, Nat.reduceEqDiff, Nat.reduceLeDiff, Nat.reduceLT, Nat.reduceAdd, Nat.reduceSub, Nat.reduceMul, hS, h1, h2, h3, h4, show (32768 : Int32) = nI V from by rw [hV]; rfl, nI_leP (show V < 2147483648 by omega) (show k < 2147483648 by omega), show (V ≤ k) = False from eq_false (by omega), e1, e2, nI_inP l2 (show V < 2147483648 by omega), nI_ix (show p < 2147483648 by omega), eT, nI_z (show T p < 2147483648 by omega)]
    by_cases e : T p = 0
    · simp only [e, ne_eq, true_and, and_true, false_and, and_false, true_implies, false_implies, implies_true, not_true_eq_false, not_false_eq_true, ne_eq, if_true, if_false, Bool.and_true, Bool.true_and, decide_true, decide_false, reduceIte, reduceCtorEq, Bool.and_self, Bool.and_eq_true, decide_eq_true_eq, and_self, true_or, or_true, false_or, or_false, Nat.zero_add, Nat.add_zero, eq_self, Nat.reduceEqDiff, Nat.reduceLeDiff, Nat.reduceLT, Nat.reduceAdd, Nat.reduceSub, Nat.reduceMul, nI_1]
      have hs := TB_no hV ht hp (hpp ▸ e)
      have t2 := TB_new hV ht (by omega) (show k < V by omega) (fun k' q => (hp k' q).1) (hpp ▸ e) hs
      rw [← hpp] at t2
      have := kk _ _ (HTv_up hI p (i + 1)) t2
      rw [hs] at this
      exact this
    · simp only [e, ne_eq, true_and, and_true, false_and, and_false, true_implies, false_implies, implies_true, not_true_eq_false, not_false_eq_true, ne_eq, if_true, if_false, Bool.and_true, Bool.true_and, decide_true, decide_false, reduceIte, reduceCtorEq, Bool.and_self, Bool.and_eq_true, decide_eq_true_eq, and_self, true_or, or_true, false_or, or_false, Nat.zero_add, Nat.add_zero, eq_self, Nat.reduceEqDiff, Nat.reduceLeDiff, Nat.reduceLT, Nat.reduceAdd, Nat.reduceSub, Nat.reduceMul, nI_1]
      have tl := hC (T p - 1) (by omega)
      have ti := hC i hi
      rw [e38_61]
      simp only [B38_61, xSeq, i_push, i_load, i_iload, i_lload, i_dload, i_aload, i_istore, i_astore, i_lstore, i_dstore, i_iinc, i_ii, i_iiz, i_ll, i_llz, i_lli, i_li, i_i, i_l, i_i2l, i_l2i, i_dup, i_dup2, i_dup2w, i_dupx1, i_pop, i_pop2, i_goto, i_ifc, i_icmp, i_getI, i_getL, i_getR, i_putI, i_putZ, i_putL, i_putR, i_aldI, i_aldB, i_aldL, i_aldD, i_astI, i_astL, i_astD, i_alen, i_ret, i_iret, i_zret, i_lret, i_fret, i_dret, i_aret, i_invS0, i_invV0, i_m2, i_m1, i_ml, i_obj, lk, lkp, stf1, stf2, Value.category, rV, xTo, lv_args, xCk, xCat, xRc, xAk, hg_S, hg_I, hg_J, hg_D, hg_R, hs_I, hs_J, hs_D, hs_R, uI_at, uJ_at, uD_at, uR_at, List.take_succ_cons, List.take_zero, List.drop_succ_cons, List.drop_zero, List.reverse_cons, List.reverse_nil, List.nil_append, List.cons_append, List.map_cons, List.map_nil, List.sum_cons, List.sum_nil, List.length_cons, List.length_nil, Option.toList_some, Option.toList_none, true_and, and_true, false_and, and_false, true_implies, false_implies, implies_true, not_true_eq_false, not_false_eq_true, ne_eq, if_true, if_false, Bool.and_true, Bool.true_and, decide_true, decide_false, reduceIte, reduceCtorEq, Bool.and_self, Bool.and_eq_true, decide_eq_true_eq, and_self, true_or, or_true, false_or, or_false, Nat.zero_add, Nat.add_zero, eq_self, Nat.reduceEqDiff, Nat.reduceLeDiff, Nat.reduceLT, Nat.reduceAdd, Nat.reduceSub, Nat.reduceMul, hS, h1, h2, h3, h4, nI_inP l2 (show V < 2147483648 by omega), nI_ix (show p < 2147483648 by omega), eT, nI_dec e (by omega), nI_inP (show T p - 1 < 10000 by omega) (by decide), nI_ix (show T p - 1 < 2147483648 by omega), tl.1, lN_cmp tl.2 ti.2]
      by_cases e3 : C (T p - 1) = C i
      · obtain ⟨hs, t2⟩ := TB_old hV ht (show k < V by omega) (fun k' q => (hp k' q).1) (hpp ▸ e) (hpp ▸ e3)
        have := kk _ _ hI t2
        rw [hs] at this
        simp only [e3, ne_eq, true_and, and_true, false_and, and_false, true_implies, false_implies, implies_true, not_true_eq_false, not_false_eq_true, ne_eq, if_true, if_false, Bool.and_true, Bool.true_and, decide_true, decide_false, reduceIte, reduceCtorEq, Bool.and_self, Bool.and_eq_true, decide_eq_true_eq, and_self, true_or, or_true, false_or, or_false, Nat.zero_add, Nat.add_zero, eq_self, Nat.reduceEqDiff, Nat.reduceLeDiff, Nat.reduceLT, Nat.reduceAdd, Nat.reduceSub, Nat.reduceMul]
        exact this
      · simp only [e3, ne_eq, true_and, and_true, false_and, and_false, true_implies, false_implies, implies_true, not_true_eq_false, not_false_eq_true, ne_eq, if_true, if_false, Bool.and_true, Bool.true_and, decide_true, decide_false, reduceIte, reduceCtorEq, Bool.and_self, Bool.and_eq_true, decide_eq_true_eq, and_self, true_or, or_true, false_or, or_false, Nat.zero_add, Nat.add_zero, eq_self, Nat.reduceEqDiff, Nat.reduceLeDiff, Nat.reduceLT, Nat.reduceAdd, Nat.reduceSub, Nat.reduceMul, e38_82, B38_82, xSeq, i_push, i_load, i_iload, i_lload, i_dload, i_aload, i_istore, i_astore, i_lstore, i_dstore, i_iinc, i_ii, i_iiz, i_ll, i_llz, i_lli, i_li, i_i, i_l, i_i2l, i_l2i, i_dup, i_dup2, i_dup2w, i_dupx1, i_pop, i_pop2, i_goto, i_ifc, i_icmp, i_getI, i_getL, i_getR, i_putI, i_putZ, i_putL, i_putR, i_aldI, i_aldB, i_aldL, i_aldD, i_astI, i_astL, i_astD, i_alen, i_ret, i_iret, i_zret, i_lret, i_fret, i_dret, i_aret, i_invS0, i_invV0, i_m2, i_m1, i_ml, i_obj, lk, lkp, stf1, stf2, Value.category, rV, xTo, lv_args, xCk, xCat, xRc, xAk, hg_S, hg_I, hg_J, hg_D, hg_R, hs_I, hs_J, hs_D, hs_R, uI_at, uJ_at, uD_at, uR_at, List.take_succ_cons, List.take_zero, List.drop_succ_cons, List.drop_zero, List.reverse_cons, List.reverse_nil, List.nil_append, List.cons_append, List.map_cons, List.map_nil, List.sum_cons, List.sum_nil, List.length_cons, List.length_nil, Option.toList_some, Option.toList_none, true_and, and_true, false_and, and_false, true_implies, false_implies, implies_true, not_true_eq_false, not_false_eq_true, ne_eq, if_true, if_false, Bool.and_true, Bool.true_and, decide_true, decide_false, reduceIte, reduceCtorEq, Bool.and_self, Bool.and_eq_true, decide_eq_true_eq, and_self, true_or, or_true, false_or, or_false, Nat.zero_add, Nat.add_zero, eq_self, Nat.reduceEqDiff, Nat.reduceLeDiff, Nat.reduceLT, Nat.reduceAdd, Nat.reduceSub, Nat.reduceMul, nI_1]
        refine nx (fun k' q => ?_)
        rcases Nat.lt_succ_iff_lt_or_eq.mp q with q2 | q2
        · exact hp k' q2
        · rw [q2, ← hpp]; exact ⟨e, e3⟩
theorem L38_p {u : Int64} {x i hx : Nat} (hf2 : (jLushr (lN x * u) 49).toInt32 = nI hx) (hS : S 112 = (4, 0)) (h1 : R 112 1 = some 117) (h2 : S 117 = (101, 10000)) (hi : i < 10000) (hC : J 117 i = lN x) : xSeq (xRun xT) Q [i_aload 0, i_getR 4 1, i_iload 1, i_aldL, i_lstore 2, i_lload 2, i_push (.long u), i_ll (fun x y => x * y), i_push (.int 49), i_li jLushr, i_l2i, i_istore 4, i_push (.int 0), i_istore 5, i_goto 38 21 [0, 1, 2, 4, 5]] [(0, .ref 112), (1, .int (nI i))] [] (S, I, J, D, R) b = xRun xT 38 21 [(0, .ref 112), (1, .int (nI i)), (2, .long (lN x)), (4, .int (nI hx)), (5, .int (nI 0))] [] (S, I, J, D, R) b Q := by
  have e1 := nI_inP hi (show 10000 < 2147483648 by decide)
  have e2 := nI_ix (show i < 2147483648 by omega)
  simp only [xSeq, i_push, i_load, i_iload, i_lload, i_dload, i_aload, i_istore, i_astore, i_lstore, i_dstore, i_iinc, i_ii, i_iiz, i_ll, i_llz, i_lli, i_li, i_i, i_l, i_i2l, i_l2i, i_dup, i_dup2, i_dup2w, i_dupx1, i_pop, i_pop2, i_goto, i_ifc, i_icmp, i_getI, i_getL, i_getR, i_putI, i_putZ, i_putL, i_putR, i_aldI, i_aldB, i_aldL, i_aldD, i_astI, i_astL, i_astD, i_alen, i_ret, i_iret, i_zret, i_lret, i_fret, i_dret, i_aret, i_invS0, i_invV0, i_m2, i_m1, i_ml, i_obj, lk, lkp, stf1, stf2, Value.category, rV, xTo, lv_args, xCk, xCat, xRc, xAk, hg_S, hg_I, hg_J, hg_D, hg_R, hs_I, hs_J, hs_D, hs_R, uI_at, uJ_at, uD_at, uR_at, List.take_succ_cons, List.take_zero, List.drop_succ_cons, List.drop_zero, List.reverse_cons, List.reverse_nil, List.nil_append, List.cons_append, List.map_cons, List.map_nil, List.sum_cons, List.sum_nil, List.length_cons, List.length_nil, Option.toList_some, Option.toList_none, true_and, and_true, false_and, and_false, true_implies, false_implies, implies_true, not_true_eq_false, not_false_eq_true, ne_eq, if_true, if_false, Bool.and_true, Bool.true_and, decide_true, decide_false, reduceIte, reduceCtorEq, Bool.and_self, Bool.and_eq_true, decide_eq_true_eq, and_self, true_or, or_true, false_or, or_false, Nat.zero_add, Nat.add_zero, eq_self, Nat.reduceEqDiff, Nat.reduceLeDiff, Nat.reduceLT, Nat.reduceAdd, Nat.reduceSub, Nat.reduceMul, hS, h1, h2, e1, e2, hC, hf2, nI_0]
theorem L38_0 {hx x i : Nat} (hf2 : (jLushr (lN x * -7046029254386353131) 49).toInt32 = nI hx) (hS : S 112 = (4, 0)) (h1 : R 112 1 = some 117) (h2 : S 117 = (101, 10000)) (hi : i < 10000) (hC : J 117 i = lN x) : xRun xT 38 0 [(0, .ref 112), (1, .int (nI i))] [] (S, I, J, D, R) b Q = xRun xT 38 21 [(0, .ref 112), (1, .int (nI i)), (2, .long (lN x)), (4, .int (nI hx)), (5, .int (nI 0))] [] (S, I, J, D, R) b Q := by
  rw [e38_0]
  exact L38_p hf2 hS h1 h2 hi hC
theorem L37_37 {V : Nat} (hV : V = 32768) {hf : Nat → Nat} (hf1 : ∀ c, hf c < 32768) (hf2 : ∀ c, (jLushr (lN c * -7046029254386353131) 49).toInt32 = nI (hf c)) {I0 : xI} {C : Nat → Nat} {K : Nat} (hS : S 112 = (4, 0)) (h1 : R 112 1 = some 117) (h2 : S 117 = (101, 10000)) (h3 : R 112 3 = some 119) (h4 : S 119 = (100, V)) (hK : K ≤ 10000) (hC : ∀ i, i < K → J 117 i = lN (C i) ∧ C i < 2 ^ 64) (h0 : I0 112 0 = nI K)
    (kk : ∀ I' T', HTv V 119 I0 T' I' → Q (.ok (some (.int (nI (dct C K))))) (S, I', J, D, R) b) :
    ∀ (j i : Nat) (I : xI) (T : Nat → Nat), i + j = K → TB V hf C i T → HTv V 119 I0 T I → xRun xT 37 37 [(0, .ref 112), (1, .int (nI (dct C i))), (2, .int (nI i))] [] (S, I, J, D, R) b Q
  | 0, i, I, T, hi, ht, hI => by
    have e : i = K := by omega
    subst e
    rw [e37_37]
    simp only [B37_37, xSeq, i_push, i_load, i_iload, i_lload, i_dload, i_aload, i_istore, i_astore, i_lstore, i_dstore, i_iinc, i_ii, i_iiz, i_ll, i_llz, i_lli, i_li, i_i, i_l, i_i2l, i_l2i, i_dup, i_dup2, i_dup2w, i_dupx1, i_pop, i_pop2, i_goto, i_ifc, i_icmp, i_getI, i_getL, i_getR, i_putI, i_putZ, i_putL, i_putR, i_aldI, i_aldB, i_aldL, i_aldD, i_astI, i_astL, i_astD, i_alen, i_ret, i_iret, i_zret, i_lret, i_fret, i_dret, i_aret, i_invS0, i_invV0, i_m2, i_m1, i_ml, i_obj, lk, lkp, stf1, stf2, Value.category, rV, xTo, lv_args, xCk, xCat, xRc, xAk, hg_S, hg_I, hg_J, hg_D, hg_R, hs_I, hs_J, hs_D, hs_R, uI_at, uJ_at, uD_at, uR_at, List.take_succ_cons, List.take_zero, List.drop_succ_cons, List.drop_zero, List.reverse_cons, List.reverse_nil, List.nil_append, List.cons_append, List.map_cons, List.map_nil, List.sum_cons, List.sum_nil, List.length_cons, List.length_nil, Option.toList_some, Option.toList_none, true_and, and_true, false_and, and_false, true_implies, false_implies, implies_true, not_true_eq_false, not_false_eq_true, ne_eq, if_true, if_false, Bool.and_true, Bool.true_and, decide_true, decide_false, reduceIte, reduceCtorEq, Bool.and_self, Bool.and_eq_true, decide_eq_true_eq, and_self, true_or, or_true, false_or, or_false, Nat.zero_add, Nat.add_zero, eq_self, Nat.reduceEqDiff, Nat.reduceLeDiff, Nat.reduceLT, Nat.reduceAdd, Nat.reduceSub, Nat.reduceMul, hS, (hI.2 112 0 (by decide)).trans h0, nI_leP (show i < 2147483648 by omega) (show i < 2147483648 by omega), Nat.le_refl, e37_62, B37_62]
    exact kk I T hI
  | j + 1, i, I, T, hi, ht, hI => by
    have nx := fun I T => L37_37 hV hf1 hf2 hS h1 h2 h3 h4 hK hC h0 kk j (i + 1) I T (by omega)
    rw [e37_37]
    simp only [B37_37, xSeq, i_push, i_load, i_iload, i_lload, i_dload, i_aload, i_istore, i_astore, i_lstore, i_dstore, i_iinc, i_ii, i_iiz, i_ll, i_llz, i_lli, i_li, i_i, i_l, i_i2l, i_l2i, i_dup, i_dup2, i_dup2w, i_dupx1, i_pop, i_pop2, i_goto, i_ifc, i_icmp, i_getI, i_getL, i_getR, i_putI, i_putZ, i_putL, i_putR, i_aldI, i_aldB, i_aldL, i_aldD, i_astI, i_astL, i_astD, i_alen, i_ret, i_iret, i_zret, i_lret, i_fret, i_dret, i_aret, i_invS0, i_invV0, i_m2, i_m1, i_ml, i_obj, lk, lkp, stf1, stf2, Value.category, rV, xTo, lv_args, xCk, xCat, xRc, xAk, hg_S, hg_I, hg_J, hg_D, hg_R, hs_I, hs_J, hs_D, hs_R, uI_at, uJ_at, uD_at, uR_at, List.take_succ_cons, List.take_zero, List.drop_succ_cons, List.drop_zero, List.reverse_cons, List.reverse_nil, List.nil_append, List.cons_append, List.map_cons, List.map_nil, List.sum_cons, List.sum_nil, List.length_cons, List.length_nil, Option.toList_some, Option.toList_none, true_and, and_true, false_and, and_false, true_implies, false_implies, implies_true, not_true_eq_false, not_false_eq_true, ne_eq, if_true, if_false, Bool.and_true, Bool.true_and, decide_true, decide_false, reduceIte, reduceCtorEq, Bool.and_self, Bool.and_eq_true, decide_eq_true_eq, and_self, true_or, or_true, false_or, or_false, Nat.zero_add, Nat.add_zero, eq_self, Nat.reduceEqDiff, Nat.reduceLeDiff, Nat.reduceLT, Nat.reduceAdd, Nat.reduceSub, Nat.reduceMul, hS, (hI.2 112 0 (by decide)).trans h0, nI_leP (show K < 2147483648 by omega) (show i < 2147483648 by omega), show (K ≤ i) = False from eq_false (by omega)]
    rw [L38_0 (hf2 (C i)) hS h1 h2 (show i < 10000 by omega) (hC i (by omega)).1]
    refine L38_21 hV hf1 (K := K) (C := C) (I := I) (T := T) hS h1 h2 h3 h4 hK hC (show i < K by omega) ht hI (fun I' T' q1 q2 => ?_) V 0 (by omega) (fun k' q => absurd q (Nat.not_lt_zero k'))
    have nx' := nx I' T' q2 q1
    rw [dct] at nx'
    by_cases e : sn C i = true
    · rw [if_pos e] at nx'
      simp only [e, xSeq, i_push, i_load, i_iload, i_lload, i_dload, i_aload, i_istore, i_astore, i_lstore, i_dstore, i_iinc, i_ii, i_iiz, i_ll, i_llz, i_lli, i_li, i_i, i_l, i_i2l, i_l2i, i_dup, i_dup2, i_dup2w, i_dupx1, i_pop, i_pop2, i_goto, i_ifc, i_icmp, i_getI, i_getL, i_getR, i_putI, i_putZ, i_putL, i_putR, i_aldI, i_aldB, i_aldL, i_aldD, i_astI, i_astL, i_astD, i_alen, i_ret, i_iret, i_zret, i_lret, i_fret, i_dret, i_aret, i_invS0, i_invV0, i_m2, i_m1, i_ml, i_obj, lk, lkp, stf1, stf2, Value.category, rV, xTo, lv_args, xCk, xCat, xRc, xAk, hg_S, hg_I, hg_J, hg_D, hg_R, hs_I, hs_J, hs_D, hs_R, uI_at, uJ_at, uD_at, uR_at, List.take_succ_cons, List.take_zero, List.drop_succ_cons, List.drop_zero, List.reverse_cons, List.reverse_nil, List.nil_append, List.cons_append, List.map_cons, List.map_nil, List.sum_cons, List.sum_nil, List.length_cons, List.length_nil, Option.toList_some, Option.toList_none, true_and, and_true, false_and, and_false, true_implies, false_implies, implies_true, not_true_eq_false, not_false_eq_true, ne_eq, if_true, if_false, Bool.and_true, Bool.true_and, decide_true, decide_false, reduceIte, reduceCtorEq, Bool.and_self, Bool.and_eq_true, decide_eq_true_eq, and_self, true_or, or_true, false_or, or_false, Nat.zero_add, Nat.add_zero, eq_self, Nat.reduceEqDiff, Nat.reduceLeDiff, Nat.reduceLT, Nat.reduceAdd, Nat.reduceSub, Nat.reduceMul, true_and, and_true, false_and, and_false, true_implies, false_implies, implies_true, not_true_eq_false, not_false_eq_true, ne_eq, if_true, if_false, Bool.and_true, Bool.true_and, decide_true, decide_false, reduceIte, reduceCtorEq, Bool.and_self, Bool.and_eq_true, decide_eq_true_eq, and_self, true_or, or_true, false_or, or_false, Nat.zero_add, Nat.add_zero, eq_self, Nat.reduceEqDiff, Nat.reduceLeDiff, Nat.reduceLT, Nat.reduceAdd, Nat.reduceSub, Nat.reduceMul, e37_56, B37_56, nI_1]
      exact nx'
    · rw [if_neg e] at nx'
      simp only [e, xSeq, i_push, i_load, i_iload, i_lload, i_dload, i_aload, i_istore, i_astore, i_lstore, i_dstore, i_iinc, i_ii, i_iiz, i_ll, i_llz, i_lli, i_li, i_i, i_l, i_i2l, i_l2i, i_dup, i_dup2, i_dup2w, i_dupx1, i_pop, i_pop2, i_goto, i_ifc, i_icmp, i_getI, i_getL, i_getR, i_putI, i_putZ, i_putL, i_putR, i_aldI, i_aldB, i_aldL, i_aldD, i_astI, i_astL, i_astD, i_alen, i_ret, i_iret, i_zret, i_lret, i_fret, i_dret, i_aret, i_invS0, i_invV0, i_m2, i_m1, i_ml, i_obj, lk, lkp, stf1, stf2, Value.category, rV, xTo, lv_args, xCk, xCat, xRc, xAk, hg_S, hg_I, hg_J, hg_D, hg_R, hs_I, hs_J, hs_D, hs_R, uI_at, uJ_at, uD_at, uR_at, List.take_succ_cons, List.take_zero, List.drop_succ_cons, List.drop_zero, List.reverse_cons, List.reverse_nil, List.nil_append, List.cons_append, List.map_cons, List.map_nil, List.sum_cons, List.sum_nil, List.length_cons, List.length_nil, Option.toList_some, Option.toList_none, true_and, and_true, false_and, and_false, true_implies, false_implies, implies_true, not_true_eq_false, not_false_eq_true, ne_eq, if_true, if_false, Bool.and_true, Bool.true_and, decide_true, decide_false, reduceIte, reduceCtorEq, Bool.and_self, Bool.and_eq_true, decide_eq_true_eq, and_self, true_or, or_true, false_or, or_false, Nat.zero_add, Nat.add_zero, eq_self, Nat.reduceEqDiff, Nat.reduceLeDiff, Nat.reduceLT, Nat.reduceAdd, Nat.reduceSub, Nat.reduceMul, true_and, and_true, false_and, and_false, true_implies, false_implies, implies_true, not_true_eq_false, not_false_eq_true, ne_eq, if_true, if_false, Bool.and_true, Bool.true_and, decide_true, decide_false, reduceIte, reduceCtorEq, Bool.and_self, Bool.and_eq_true, decide_eq_true_eq, and_self, true_or, or_true, false_or, or_false, Nat.zero_add, Nat.add_zero, eq_self, Nat.reduceEqDiff, Nat.reduceLeDiff, Nat.reduceLT, Nat.reduceAdd, Nat.reduceSub, Nat.reduceMul, i1_0, e37_56, B37_56, nI_1]
      exact nx'
/-- the model: one of them -/
theorem L298_71 {V : Nat} (hV : V = 32768) {hf : Nat → Nat} (hf1 : ∀ c, hf c < 32768) {I0 : xI} {C : Nat → Nat} {K : Nat} (hL : LM S R) (hK : K ≤ 10000) (hC : ∀ i, i < K → J 310 i = lN (C i) ∧ C i < 2 ^ 64) {i : Nat} (hi : i < K) {T : Nat → Nat} (ht : TB V hf C i T) (hI : HTv V 342 I0 T I)
    (kk : ∀ I' T', HTv V 342 I0 T' I' → TB V hf C (i + 1) T' → xRun xT 298 138 [(0, .ref 200), (1, .int (nI (if sn C i = true then dct C i else dct C i + 1))), (2, .int (nI i))] [] (S, I', J, D, R) b Q) :
    ∀ (j k : Nat), k + j = V → (∀ k', k' < k → T (hq V (hf (C i)) k') ≠ 0 ∧ C (T (hq V (hf (C i)) k') - 1) ≠ C i) → xRun xT 298 71 [(0, .ref 200), (1, .int (nI (dct C i))), (2, .int (nI i)), (3, .long (lN (C i))), (5, .int (nI (hq V (hf (C i)) k)))] [] (S, I, J, D, R) b Q
  | 0, k, hk, hp => by
    obtain ⟨k0, c1, c2⟩ := TB_room hV ht (s := hf (C i)) (by omega) (by have := hf1 (C i); omega)
    exact absurd c2 (hp k0 (by omega)).1
  | j + 1, k, hk, hp => by
    have l1 := hf1 (C i)
    have l2 := hq_lt hV (hf (C i)) k
    have l3 := ht.1 _ l2
    have nx := L298_71 hV hf1 hL hK hC hi ht hI kk j (k + 1) (by omega)
    have eT := hI.1 _ l2
    have e2 : jRem (nI (hq V (hf (C i)) k + 1)) 32768 = nI (hq V (hf (C i)) (k + 1)) := by
      rw [show (32768 : Int32) = nI V from by rw [hV]; rfl, q_rem (by omega) (by omega) (by omega)]
      subst hV
      congr 1
      unfold hq
      omega
    obtain ⟨p, hpp⟩ : ∃ p, p = hq V (hf (C i)) k := ⟨_, rfl⟩
    rw [← hpp] at e2 eT l2 l3 ⊢
    rw [e298_71]
    simp only [B298_71, xSeq, i_push, i_load, i_iload, i_lload, i_dload, i_aload, i_istore, i_astore, i_lstore, i_dstore, i_iinc, i_ii, i_iiz, i_ll, i_llz, i_lli, i_li, i_i, i_l, i_i2l, i_l2i, i_dup, i_dup2, i_dup2w, i_dupx1, i_pop, i_pop2, i_goto, i_ifc, i_icmp, i_getI, i_getL, i_getR, i_putI, i_putZ, i_putL, i_putR, i_aldI, i_aldB, i_aldL, i_aldD, i_astI, i_astL, i_astD, i_alen, i_ret, i_iret, i_zret, i_lret, i_fret, i_dret, i_aret, i_invS0, i_invV0, i_m2, i_m1, i_ml, i_obj, lk, lkp, stf1, stf2, Value.category, rV, xTo, lv_args, xCk, xCat, xRc, xAk, hg_S, hg_I, hg_J, hg_D, hg_R, hs_I, hs_J, hs_D, hs_R, uI_at, uJ_at, uD_at, uR_at, List.take_succ_cons, List.take_zero, List.drop_succ_cons, List.drop_zero, List.reverse_cons, List.reverse_nil, List.nil_append, List.cons_append, List.map_cons, List.map_nil, List.sum_cons, List.sum_nil, List.length_cons, List.length_nil, Option.toList_some, Option.toList_none, true_and, and_true, false_and, and_false, true_implies, false_implies, implies_true, not_true_eq_false, not_false_eq_true, ne_eq, if_true, if_false, Bool.and_true, Bool.true_and, decide_true, decide_false, reduceIte, reduceCtorEq, Bool.and_self, Bool.and_eq_true, decide_eq_true_eq, and_self, true_or, or_true, false_or, or_false, Nat.zero_add, Nat.add_zero, eq_self, Nat.reduceEqDiff, Nat.reduceLeDiff, Nat.reduceLT, Nat.reduceAdd, Nat.reduceSub, Nat.reduceMul, xi144_0, ix_0, xi144_1, ix_1, xi144_2, ix_2, xi144_3, ix_3, xi144_4, ix_4, xi144_5, ix_5, xi144_6, ix_6, xi144_7, ix_7, xi144_8, ix_8, xi144_9, ix_9, xi144_10, ix_10, LM_out hL, nI_inP (show p < 32768 by omega) (by decide), nI_ix (show p < 2147483648 by omega), eT, nI_z (show T p < 2147483648 by omega)]
    by_cases e : T p = 0
    · have hs := TB_no hV ht hp (hpp ▸ e)
      have t2 := TB_new hV ht (by omega) (show k < V by omega) (fun k' q => (hp k' q).1) (hpp ▸ e) hs
      rw [← hpp] at t2
      have kk' := kk _ _ (HTv_up hI p (i + 1)) t2
      rw [hs, if_neg Bool.false_ne_true] at kk'
      simp only [e, true_and, and_true, false_and, and_false, true_implies, false_implies, implies_true, not_true_eq_false, not_false_eq_true, ne_eq, if_true, if_false, Bool.and_true, Bool.true_and, decide_true, decide_false, reduceIte, reduceCtorEq, Bool.and_self, Bool.and_eq_true, decide_eq_true_eq, and_self, true_or, or_true, false_or, or_false, Nat.zero_add, Nat.add_zero, eq_self, Nat.reduceEqDiff, Nat.reduceLeDiff, Nat.reduceLT, Nat.reduceAdd, Nat.reduceSub, Nat.reduceMul]
      rw [e298_112]
      simp only [B298_112, xSeq, i_push, i_load, i_iload, i_lload, i_dload, i_aload, i_istore, i_astore, i_lstore, i_dstore, i_iinc, i_ii, i_iiz, i_ll, i_llz, i_lli, i_li, i_i, i_l, i_i2l, i_l2i, i_dup, i_dup2, i_dup2w, i_dupx1, i_pop, i_pop2, i_goto, i_ifc, i_icmp, i_getI, i_getL, i_getR, i_putI, i_putZ, i_putL, i_putR, i_aldI, i_aldB, i_aldL, i_aldD, i_astI, i_astL, i_astD, i_alen, i_ret, i_iret, i_zret, i_lret, i_fret, i_dret, i_aret, i_invS0, i_invV0, i_m2, i_m1, i_ml, i_obj, lk, lkp, stf1, stf2, Value.category, rV, xTo, lv_args, xCk, xCat, xRc, xAk, hg_S, hg_I, hg_J, hg_D, hg_R, hs_I, hs_J, hs_D, hs_R, uI_at, uJ_at, uD_at, uR_at, List.take_succ_cons, List.take_zero, List.drop_succ_cons, List.drop_zero, List.reverse_cons, List.reverse_nil, List.nil_append, List.cons_append, List.map_cons, List.map_nil, List.sum_cons, List.sum_nil, List.length_cons, List.length_nil, Option.toList_some, Option.toList_none, true_and, and_true, false_and, and_false, true_implies, false_implies, implies_true, not_true_eq_false, not_false_eq_true, ne_eq, if_true, if_false, Bool.and_true, Bool.true_and, decide_true, decide_false, reduceIte, reduceCtorEq, Bool.and_self, Bool.and_eq_true, decide_eq_true_eq, and_self, true_or, or_true, false_or, or_false, Nat.zero_add, Nat.add_zero, eq_self, Nat.reduceEqDiff, Nat.reduceLeDiff, Nat.reduceLT, Nat.reduceAdd, Nat.reduceSub, Nat.reduceMul, xi144_0, ix_0, xi144_1, ix_1, xi144_2, ix_2, xi144_3, ix_3, xi144_4, ix_4, xi144_5, ix_5, xi144_6, ix_6, xi144_7, ix_7, xi144_8, ix_8, xi144_9, ix_9, xi144_10, ix_10, LM_out hL, nI_inP (show p < 32768 by omega) (by decide), nI_ix (show p < 2147483648 by omega), eT, e, nI_0, true_and, and_true, false_and, and_false, true_implies, false_implies, implies_true, not_true_eq_false, not_false_eq_true, ne_eq, if_true, if_false, Bool.and_true, Bool.true_and, decide_true, decide_false, reduceIte, reduceCtorEq, Bool.and_self, Bool.and_eq_true, decide_eq_true_eq, and_self, true_or, or_true, false_or, or_false, Nat.zero_add, Nat.add_zero, eq_self, Nat.reduceEqDiff, Nat.reduceLeDiff, Nat.reduceLT, Nat.reduceAdd, Nat.reduceSub, Nat.reduceMul]
      rw [e298_125]
      simp only [B298_125, xSeq, i_push, i_load, i_iload, i_lload, i_dload, i_aload, i_istore, i_astore, i_lstore, i_dstore, i_iinc, i_ii, i_iiz, i_ll, i_llz, i_lli, i_li, i_i, i_l, i_i2l, i_l2i, i_dup, i_dup2, i_dup2w, i_dupx1, i_pop, i_pop2, i_goto, i_ifc, i_icmp, i_getI, i_getL, i_getR, i_putI, i_putZ, i_putL, i_putR, i_aldI, i_aldB, i_aldL, i_aldD, i_astI, i_astL, i_astD, i_alen, i_ret, i_iret, i_zret, i_lret, i_fret, i_dret, i_aret, i_invS0, i_invV0, i_m2, i_m1, i_ml, i_obj, lk, lkp, stf1, stf2, Value.category, rV, xTo, lv_args, xCk, xCat, xRc, xAk, hg_S, hg_I, hg_J, hg_D, hg_R, hs_I, hs_J, hs_D, hs_R, uI_at, uJ_at, uD_at, uR_at, List.take_succ_cons, List.take_zero, List.drop_succ_cons, List.drop_zero, List.reverse_cons, List.reverse_nil, List.nil_append, List.cons_append, List.map_cons, List.map_nil, List.sum_cons, List.sum_nil, List.length_cons, List.length_nil, Option.toList_some, Option.toList_none, true_and, and_true, false_and, and_false, true_implies, false_implies, implies_true, not_true_eq_false, not_false_eq_true, ne_eq, if_true, if_false, Bool.and_true, Bool.true_and, decide_true, decide_false, reduceIte, reduceCtorEq, Bool.and_self, Bool.and_eq_true, decide_eq_true_eq, and_self, true_or, or_true, false_or, or_false, Nat.zero_add, Nat.add_zero, eq_self, Nat.reduceEqDiff, Nat.reduceLeDiff, Nat.reduceLT, Nat.reduceAdd, Nat.reduceSub, Nat.reduceMul, xi144_0, ix_0, xi144_1, ix_1, xi144_2, ix_2, xi144_3, ix_3, xi144_4, ix_4, xi144_5, ix_5, xi144_6, ix_6, xi144_7, ix_7, xi144_8, ix_8, xi144_9, ix_9, xi144_10, ix_10, LM_out hL, nI_inP (show p < 32768 by omega) (by decide), nI_ix (show p < 2147483648 by omega), nI_1]
      exact kk'
    · have tl := hC (T p - 1) (by omega)
      have ti := hC i hi
      simp only [e, true_and, and_true, false_and, and_false, true_implies, false_implies, implies_true, not_true_eq_false, not_false_eq_true, ne_eq, if_true, if_false, Bool.and_true, Bool.true_and, decide_true, decide_false, reduceIte, reduceCtorEq, Bool.and_self, Bool.and_eq_true, decide_eq_true_eq, and_self, true_or, or_true, false_or, or_false, Nat.zero_add, Nat.add_zero, eq_self, Nat.reduceEqDiff, Nat.reduceLeDiff, Nat.reduceLT, Nat.reduceAdd, Nat.reduceSub, Nat.reduceMul, nI_dec e (show T p < 2147483648 by omega), nI_inP (show T p - 1 < 10000 by omega) (by decide), nI_ix (show T p - 1 < 2147483648 by omega), tl.1, lN_cmp tl.2 ti.2]
      by_cases e3 : C (T p - 1) = C i
      · obtain ⟨hs, t2⟩ := TB_old hV ht (show k < V by omega) (fun k' q => (hp k' q).1) (hpp ▸ e) (hpp ▸ e3)
        have kk' := kk _ _ hI t2
        rw [if_pos hs] at kk'
        simp only [e3, true_and, and_true, false_and, and_false, true_implies, false_implies, implies_true, not_true_eq_false, not_false_eq_true, ne_eq, if_true, if_false, Bool.and_true, Bool.true_and, decide_true, decide_false, reduceIte, reduceCtorEq, Bool.and_self, Bool.and_eq_true, decide_eq_true_eq, and_self, true_or, or_true, false_or, or_false, Nat.zero_add, Nat.add_zero, eq_self, Nat.reduceEqDiff, Nat.reduceLeDiff, Nat.reduceLT, Nat.reduceAdd, Nat.reduceSub, Nat.reduceMul]
        rw [e298_112]
        simp only [B298_112, xSeq, i_push, i_load, i_iload, i_lload, i_dload, i_aload, i_istore, i_astore, i_lstore, i_dstore, i_iinc, i_ii, i_iiz, i_ll, i_llz, i_lli, i_li, i_i, i_l, i_i2l, i_l2i, i_dup, i_dup2, i_dup2w, i_dupx1, i_pop, i_pop2, i_goto, i_ifc, i_icmp, i_getI, i_getL, i_getR, i_putI, i_putZ, i_putL, i_putR, i_aldI, i_aldB, i_aldL, i_aldD, i_astI, i_astL, i_astD, i_alen, i_ret, i_iret, i_zret, i_lret, i_fret, i_dret, i_aret, i_invS0, i_invV0, i_m2, i_m1, i_ml, i_obj, lk, lkp, stf1, stf2, Value.category, rV, xTo, lv_args, xCk, xCat, xRc, xAk, hg_S, hg_I, hg_J, hg_D, hg_R, hs_I, hs_J, hs_D, hs_R, uI_at, uJ_at, uD_at, uR_at, List.take_succ_cons, List.take_zero, List.drop_succ_cons, List.drop_zero, List.reverse_cons, List.reverse_nil, List.nil_append, List.cons_append, List.map_cons, List.map_nil, List.sum_cons, List.sum_nil, List.length_cons, List.length_nil, Option.toList_some, Option.toList_none, true_and, and_true, false_and, and_false, true_implies, false_implies, implies_true, not_true_eq_false, not_false_eq_true, ne_eq, if_true, if_false, Bool.and_true, Bool.true_and, decide_true, decide_false, reduceIte, reduceCtorEq, Bool.and_self, Bool.and_eq_true, decide_eq_true_eq, and_self, true_or, or_true, false_or, or_false, Nat.zero_add, Nat.add_zero, eq_self, Nat.reduceEqDiff, Nat.reduceLeDiff, Nat.reduceLT, Nat.reduceAdd, Nat.reduceSub, Nat.reduceMul, xi144_0, ix_0, xi144_1, ix_1, xi144_2, ix_2, xi144_3, ix_3, xi144_4, ix_4, xi144_5, ix_5, xi144_6, ix_6, xi144_7, ix_7, xi144_8, ix_8, xi144_9, ix_9, xi144_10, ix_10, LM_out hL, nI_inP (show p < 32768 by omega) (by decide), nI_ix (show p < 2147483648 by omega), eT, nI_z (show T p < 2147483648 by omega), e, true_and, and_true, false_and, and_false, true_implies, false_implies, implies_true, not_true_eq_false, not_false_eq_true, ne_eq, if_true, if_false, Bool.and_true, Bool.true_and, decide_true, decide_false, reduceIte, reduceCtorEq, Bool.and_self, Bool.and_eq_true, decide_eq_true_eq, and_self, true_or, or_true, false_or, or_false, Nat.zero_add, Nat.add_zero, eq_self, Nat.reduceEqDiff, Nat.reduceLeDiff, Nat.reduceLT, Nat.reduceAdd, Nat.reduceSub, Nat.reduceMul]
        exact kk'
      · simp only [e3, true_and, and_true, false_and, and_false, true_implies, false_implies, implies_true, not_true_eq_false, not_false_eq_true, ne_eq, if_true, if_false, Bool.and_true, Bool.true_and, decide_true, decide_false, reduceIte, reduceCtorEq, Bool.and_self, Bool.and_eq_true, decide_eq_true_eq, and_self, true_or, or_true, false_or, or_false, Nat.zero_add, Nat.add_zero, eq_self, Nat.reduceEqDiff, Nat.reduceLeDiff, Nat.reduceLT, Nat.reduceAdd, Nat.reduceSub, Nat.reduceMul, nI_1, show ((32768 : Int32) = 0) = False from eq_false (by decide), e2]
        refine nx (fun k' q => ?_)
        rcases Nat.lt_succ_iff_lt_or_eq.mp q with q2 | q2
        · exact hp k' q2
        · rw [q2, ← hpp]; exact ⟨e, e3⟩
theorem L298_30 {V : Nat} (hV : V = 32768) {hf : Nat → Nat} (hf1 : ∀ c, hf c < 32768) (hf2 : ∀ c, c < 2 ^ 64 → ((lN c ^^^ jLushr (lN c) 15 ^^^ jLushr (lN c) 31 ^^^ jLushr (lN c) 47) &&& 32767).toInt32 = nI (hf c)) {I0 : xI} {C : Nat → Nat} {K : Nat} (hL : LM S R) (hK : K ≤ 10000) (hC : ∀ i, i < K → J 310 i = lN (C i) ∧ C i < 2 ^ 64) (h0 : I0 300 9 = nI K)
    (kk : ∀ I' T', HTv V 342 I0 T' I' → Q (.ok (some (.int (nI (dct C K))))) (S, I', J, D, R) b) :
    ∀ (j i : Nat) (I : xI) (T : Nat → Nat), i + j = K → TB V hf C i T → HTv V 342 I0 T I → xRun xT 298 30 [(0, .ref 200), (1, .int (nI (dct C i))), (2, .int (nI i))] [] (S, I, J, D, R) b Q
  | 0, i, I, T, hi, ht, hI => by
    have e : i = K := by omega
    subst e
    rw [e298_30]
    simp only [B298_30, xSeq, i_push, i_load, i_iload, i_lload, i_dload, i_aload, i_istore, i_astore, i_lstore, i_dstore, i_iinc, i_ii, i_iiz, i_ll, i_llz, i_lli, i_li, i_i, i_l, i_i2l, i_l2i, i_dup, i_dup2, i_dup2w, i_dupx1, i_pop, i_pop2, i_goto, i_ifc, i_icmp, i_getI, i_getL, i_getR, i_putI, i_putZ, i_putL, i_putR, i_aldI, i_aldB, i_aldL, i_aldD, i_astI, i_astL, i_astD, i_alen, i_ret, i_iret, i_zret, i_lret, i_fret, i_dret, i_aret, i_invS0, i_invV0, i_m2, i_m1, i_ml, i_obj, lk, lkp, stf1, stf2, Value.category, rV, xTo, lv_args, xCk, xCat, xRc, xAk, hg_S, hg_I, hg_J, hg_D, hg_R, hs_I, hs_J, hs_D, hs_R, uI_at, uJ_at, uD_at, uR_at, List.take_succ_cons, List.take_zero, List.drop_succ_cons, List.drop_zero, List.reverse_cons, List.reverse_nil, List.nil_append, List.cons_append, List.map_cons, List.map_nil, List.sum_cons, List.sum_nil, List.length_cons, List.length_nil, Option.toList_some, Option.toList_none, true_and, and_true, false_and, and_false, true_implies, false_implies, implies_true, not_true_eq_false, not_false_eq_true, ne_eq, if_true, if_false, Bool.and_true, Bool.true_and, decide_true, decide_false, reduceIte, reduceCtorEq, Bool.and_self, Bool.and_eq_true, decide_eq_true_eq, and_self, true_or, or_true, false_or, or_false, Nat.zero_add, Nat.add_zero, eq_self, Nat.reduceEqDiff, Nat.reduceLeDiff, Nat.reduceLT, Nat.reduceAdd, Nat.reduceSub, Nat.reduceMul, xi144_0, ix_0, xi144_1, ix_1, xi144_2, ix_2, xi144_3, ix_3, xi144_4, ix_4, xi144_5, ix_5, xi144_6, ix_6, xi144_7, ix_7, xi144_8, ix_8, xi144_9, ix_9, xi144_10, ix_10, LM_out hL, (hI.2 300 9 (by decide)).trans h0, nI_leP (show i < 2147483648 by omega) (show i < 2147483648 by omega), Nat.le_refl, e298_144, B298_144]
    exact kk I T hI
  | j + 1, i, I, T, hi, ht, hI => by
    have nx := fun I T => L298_30 hV hf1 hf2 hL hK hC h0 kk j (i + 1) I T (by omega)
    obtain ⟨c1, c2⟩ := hC i (by omega)
    have l1 := hf1 (C i)
    have e0 : hq V (hf (C i)) 0 = hf (C i) := by subst hV; unfold hq; omega
    have hh := L298_71 hV hf1 (K := K) (C := C) (I := I) (T := T) (J := J) (D := D) (b := b) (Q := Q) hL hK hC (show i < K by omega) ht hI (fun I' T' q1 q2 => by
      have nx' := nx I' T' q2 q1
      rw [dct] at nx'
      rw [e298_138]
      simp only [B298_138, xSeq, i_push, i_load, i_iload, i_lload, i_dload, i_aload, i_istore, i_astore, i_lstore, i_dstore, i_iinc, i_ii, i_iiz, i_ll, i_llz, i_lli, i_li, i_i, i_l, i_i2l, i_l2i, i_dup, i_dup2, i_dup2w, i_dupx1, i_pop, i_pop2, i_goto, i_ifc, i_icmp, i_getI, i_getL, i_getR, i_putI, i_putZ, i_putL, i_putR, i_aldI, i_aldB, i_aldL, i_aldD, i_astI, i_astL, i_astD, i_alen, i_ret, i_iret, i_zret, i_lret, i_fret, i_dret, i_aret, i_invS0, i_invV0, i_m2, i_m1, i_ml, i_obj, lk, lkp, stf1, stf2, Value.category, rV, xTo, lv_args, xCk, xCat, xRc, xAk, hg_S, hg_I, hg_J, hg_D, hg_R, hs_I, hs_J, hs_D, hs_R, uI_at, uJ_at, uD_at, uR_at, List.take_succ_cons, List.take_zero, List.drop_succ_cons, List.drop_zero, List.reverse_cons, List.reverse_nil, List.nil_append, List.cons_append, List.map_cons, List.map_nil, List.sum_cons, List.sum_nil, List.length_cons, List.length_nil, Option.toList_some, Option.toList_none, true_and, and_true, false_and, and_false, true_implies, false_implies, implies_true, not_true_eq_false, not_false_eq_true, ne_eq, if_true, if_false, Bool.and_true, Bool.true_and, decide_true, decide_false, reduceIte, reduceCtorEq, Bool.and_self, Bool.and_eq_true, decide_eq_true_eq, and_self, true_or, or_true, false_or, or_false, Nat.zero_add, Nat.add_zero, eq_self, Nat.reduceEqDiff, Nat.reduceLeDiff, Nat.reduceLT, Nat.reduceAdd, Nat.reduceSub, Nat.reduceMul, nI_1]
      exact nx') V 0 (by omega) (fun k' q => absurd q (Nat.not_lt_zero k'))
    rw [e0] at hh
    rw [e298_30]
    simp only [B298_30, xSeq, i_push, i_load, i_iload, i_lload, i_dload, i_aload, i_istore, i_astore, i_lstore, i_dstore, i_iinc, i_ii, i_iiz, i_ll, i_llz, i_lli, i_li, i_i, i_l, i_i2l, i_l2i, i_dup, i_dup2, i_dup2w, i_dupx1, i_pop, i_pop2, i_goto, i_ifc, i_icmp, i_getI, i_getL, i_getR, i_putI, i_putZ, i_putL, i_putR, i_aldI, i_aldB, i_aldL, i_aldD, i_astI, i_astL, i_astD, i_alen, i_ret, i_iret, i_zret, i_lret, i_fret, i_dret, i_aret, i_invS0, i_invV0, i_m2, i_m1, i_ml, i_obj, lk, lkp, stf1, stf2, Value.category, rV, xTo, lv_args, xCk, xCat, xRc, xAk, hg_S, hg_I, hg_J, hg_D, hg_R, hs_I, hs_J, hs_D, hs_R, uI_at, uJ_at, uD_at, uR_at, List.take_succ_cons, List.take_zero, List.drop_succ_cons, List.drop_zero, List.reverse_cons, List.reverse_nil, List.nil_append, List.cons_append, List.map_cons, List.map_nil, List.sum_cons, List.sum_nil, List.length_cons, List.length_nil, Option.toList_some, Option.toList_none, true_and, and_true, false_and, and_false, true_implies, false_implies, implies_true, not_true_eq_false, not_false_eq_true, ne_eq, if_true, if_false, Bool.and_true, Bool.true_and, decide_true, decide_false, reduceIte, reduceCtorEq, Bool.and_self, Bool.and_eq_true, decide_eq_true_eq, and_self, true_or, or_true, false_or, or_false, Nat.zero_add, Nat.add_zero, eq_self, Nat.reduceEqDiff, Nat.reduceLeDiff, Nat.reduceLT, Nat.reduceAdd, Nat.reduceSub, Nat.reduceMul, xi144_0, ix_0, xi144_1, ix_1, xi144_2, ix_2, xi144_3, ix_3, xi144_4, ix_4, xi144_5, ix_5, xi144_6, ix_6, xi144_7, ix_7, xi144_8, ix_8, xi144_9, ix_9, xi144_10, ix_10, LM_out hL, (hI.2 300 9 (by decide)).trans h0, nI_leP (show K < 2147483648 by omega) (show i < 2147483648 by omega), show (K ≤ i) = False from eq_false (by omega), nI_inP (show i < 10000 by omega) (by decide), nI_ix (show i < 2147483648 by omega), c1, hf2 _ c2]
    exact hh
end
/-! ===== visited, as contracts: printed by a25.visitk.py ===== -/
section
variable {g : xGd} {x : xSt} {sv : Option xSt} {k : Nat} {by' : Nat → Nat} {e1 e2 : Int32} {z : xA} {N P f : Nat} {S : xS} {I : xI} {J : xJ} {D : xDb} {R : xR} {b : Nat × Nat} {Q : xQ} {n m : Nat}
def tabP (P : Nat) (R : xR) : Nat := if R 112 3 = some 119 then P else P - 32769
theorem tabP_le : tabP P R ≤ P := by
  unfold tabP
  split <;> omega
/-- the table's row is free to be anything -/
theorem AC_119 {I' : xI} (h : AC g x sv k by' e1 e2 P f S I J R) (hi : ∀ o, o ≠ 119 → I' o = I o) : AC g x sv k by' e1 e2 P f S I' J R := by
  have h' := h
  obtain ⟨a1, ⟨a2, a3, a4, a5⟩, a6, ⟨a7, a8⟩, ⟨a9, a10, a11, a12⟩, a13, p1, p2, p3, p4, p5, q0, q1, q2, q3, q4, q5⟩ := h'
  refine AC_al h a1 (fun o q => hi o (by omega)) (fun o _ => rfl) (fun i _ => ⟨rfl, by rw [hi 118 (by decide)]⟩) (fun y _ i _ => ⟨rfl, by rw [hi 128 (by decide)]⟩) ?_ ⟨p1, p2, p3, p4, p5, q0, ?_, ?_, q3, ?_, ?_⟩
  · rw [hi 130 (by decide)]
    rcases a13 with a13 | a13
    · exact Or.inl a13
    · right
      unfold XL at *
      rw [hi 130 (by decide), hi 151 (by decide), hi 154 (by decide), hi 155 (by decide), hi 156 (by decide)]
      exact a13
  · exact SH_e q1 (fun _ _ => rfl) rfl (fun _ e => by rw [hi 112 (by decide)]; exact e)
  · exact SH_e q2 (fun _ _ => rfl) rfl (fun _ e => by rw [hi 122 (by decide)]; exact e)
  · unfold SX at *
    rw [hi 130 (by decide)]
    exact q4
  · obtain ⟨⟨v, cap, cnt, t1, t2, t3, t4, t5, t6⟩, b1, b2, b3⟩ := q5
    exact ⟨⟨v, cap, cnt, t1, t2, by rw [hi 140 (by decide)]; exact t3, by rw [hi 140 (by decide)]; exact t4, t5, by rw [hi v (by omega)]; exact t6⟩, b1, b2, b3⟩
theorem AC_tt (h : AC g x sv k by' e1 e2 P f S I J R) : (R 112 3 = some 115 ∧ S 115 = (100, 0) ∧ S 119 = (0, 0) ∧ 32769 ≤ P) ∨ (R 112 3 = some 119 ∧ S 119 = (100, 32768)) := by
  obtain ⟨a1, ⟨a2, a3, a4, a5⟩, a6, ⟨a7, a8⟩, ⟨a9, a10, a11, a12⟩, a13, p1, p2, p3, p4, p5, q0, q1, q2, q3, q4, q5⟩ := h
  rcases q3 with ⟨r1, r2, r3, r4⟩ | q3
  · exact Or.inl ⟨r1, r2, r3, by omega⟩
  · exact Or.inr q3
def nSt (S : xS) : xS := nF S 119 (100, 32768)
def nRt (R : xR) : xR := uR (zR R 119) 112 3 (some 119)
theorem nSt_o {o : Nat} (h1 : o ≠ 119) : nSt S o = S o := by
  unfold nSt
  rw [nF_at, if_neg h1]
theorem zI_o {r o : Nat} (h1 : o ≠ r) : zI I r o = I o := by
  funext j
  rw [zI_at, if_neg h1]
theorem zJ_o {r o : Nat} (h1 : o ≠ r) : zJ J r o = J o := by
  funext j
  rw [zJ_at, if_neg h1]
theorem nRt_o {o j : Nat} (h1 : o ≠ 119) (h3 : ¬ (o = 112 ∧ j = 3)) : nRt R o j = R o j := by
  unfold nRt
  rw [uR_at, if_neg h3, zR_at, if_neg h1]
theorem nRt_p : nRt R 112 3 = some 119 := by
  unfold nRt
  rw [uR_at, if_pos ⟨rfl, rfl⟩]
theorem nSt_p : nSt S 119 = (100, 32768) := by
  unfold nSt
  rw [nF_at, if_pos rfl]
theorem AC_tab (h : AC g x sv k by' e1 e2 P f S I J R) (hm : R 112 3 = some 115) : AC g x sv k by' e1 e2 (P - 32769) f (nSt S) (zI I 119) (zJ J 119) (nRt R) := by
  have h' := h
  obtain ⟨a1, ⟨a2, a3, a4, a5⟩, a6, ⟨a7, a8⟩, ⟨a9, a10, a11, a12⟩, a13, p1, p2, p3, p4, p5, q0, q1, q2, q3, q4, q5⟩ := h'
  have r4 : 32769 ≤ p3 := by
    rcases q3 with ⟨r1, r2, r3, r4⟩ | ⟨r1, r2⟩
    · exact r4
    · rw [hm] at r1; cases r1
  have eS : ∀ a, a ≠ 119 → nSt S a = S a := fun a q1 => nSt_o q1
  have eR : ∀ a, a ≠ 119 → a ≠ 112 → nRt R a = R a := fun a q1 q3 => by funext j; exact nRt_o q1 (by omega)
  have eI : ∀ a, a ≠ 119 → zI I 119 a = I a := fun a q1 => zI_o q1
  have eJ : ∀ a, a ≠ 119 → zJ J 119 a = J a := fun a q1 => zJ_o q1
  refine AC_al h (LC_w a1 (fun o q1 q2 => eS o (by unfold pn at q2; omega)) (fun o j q => nRt_o (by omega) (by omega)) (fun j _ => nRt_o (by decide) (by omega))) (fun o q => eI o (by omega)) (fun o q => eJ o (by omega)) (fun i hi => ?_) (fun y hy i hi => ?_) ?_ ⟨p1, p2, 0, p4, p5, by omega, ?_, ?_, Or.inr ⟨nRt_p, nSt_p⟩, ?_, ?_⟩
  · rw [eI 118 (by decide), eJ 117 (by decide)]; exact ⟨rfl, rfl⟩
  · rw [eI 128 (by decide), eJ 127 (by decide)]; exact ⟨rfl, rfl⟩
  · rw [eI 130 (by decide)]
    rcases a13 with a13 | a13
    · exact Or.inl a13
    · right
      unfold XL LE at *
      rw [eI 130 (by decide), eI 151 (by decide), eI 154 (by decide), eI 155 (by decide), eI 156 (by decide), eS 151 (by decide), eS 152 (by decide), eS 153 (by decide), eS 154 (by decide), eS 155 (by decide), eS 156 (by decide), eR 130 (by decide) (by decide)]
      exact a13
  · have e1 : nRt R 112 1 = R 112 1 := nRt_o (by decide) (by decide)
    have e2 : nRt R 112 2 = R 112 2 := nRt_o (by decide) (by decide)
    unfold SH at *
    rw [eS (110 + 3) (by decide), eS (110 + 4) (by decide), eS (110 + 7) (by decide), eS (110 + 8) (by decide), eI (110 + 2) (by decide), show nRt R (110 + 2) 1 = R (110 + 2) 1 from e1, show nRt R (110 + 2) 2 = R (110 + 2) 2 from e2]
    exact q1
  · exact SH_e q2 (fun a ha => eS a (by omega)) (eR 122 (by decide) (by decide)) (fun _ e => by rw [eI 122 (by decide)]; exact e)
  · unfold SX LE at *
    rw [eS 131 (by decide), eS 151 (by decide), eS 152 (by decide), eS 153 (by decide), eS 154 (by decide), eS 155 (by decide), eS 156 (by decide), eR 130 (by decide) (by decide), eI 130 (by decide)]
    rcases q4 with ⟨t1, t2, t3, t4, t5⟩ | t
    · exact Or.inl ⟨t1, t2, fun a b1 b2 => by rw [eS a (by omega)]; exact t3 a b1 b2, t4, t5⟩
    · exact Or.inr t
  · obtain ⟨⟨v, cap, cnt, t1, t2, t3, t4, t5, t6⟩, b1, b2, b3⟩ := q5
    refine ⟨⟨v, cap, cnt, ?_, ?_, ?_, ?_, t5, ?_⟩, b1, b2, fun a w1 w2 => ?_⟩
    · rw [eR 140 (by decide) (by decide)]; exact t1
    · rw [eS v (by omega)]; exact t2
    · rw [eI 140 (by decide)]; exact t3
    · rw [eI 140 (by decide)]; exact t4
    · rw [eI v (by omega)]; exact t6
    · rw [eS a (by omega)]; exact b3 a w1 w2
theorem frC_tab : frC S I J R (nSt S) (zI I 119) (zJ J 119) (nRt R) := fun o h1 => ⟨nSt_o (by omega), zI_o (by omega), by funext j; exact nRt_o (by omega) (by omega), fun _ => zJ_o (by omega)⟩
theorem CS_C (h : AC g x sv k by' e1 e2 P f S I J R) (w : WF N g x sv k by') : ∀ i, i < stK x → J 117 i = lN (stC x i) ∧ stC x i < 2 ^ 64 := fun i hi => ⟨(h.2.2.1.2.2.2 i hi).1, Nat.lt_of_lt_of_le (w.2.1.2.2.2 i hi).1 (Nat.pow_le_pow_right (by decide) (gn_bd w.1).2.1)⟩
theorem V37 (h : AC g x sv k by' e1 e2 P f S I J R) (w : WF N g x sv k by') (hK : 0 < stK x) (h3 : R 112 3 = some 119) (h4 : S 119 = (100, 32768))
    (kk : ∀ I', AC g x sv k by' e1 e2 P f S I' J R → (∀ o, o ≠ 119 → I' o = I o) → Q (.ok (some (.int (nI (dct (stC x) (stK x)))))) (S, I', J, D, R) b) : xRun xT 37 25 [(0, .ref 112)] [] (S, I, J, D, R) b Q := by
  obtain ⟨V, hV⟩ : ∃ V : Nat, V = 32768 := ⟨_, rfl⟩
  rw [← hV] at h4
  have hL := h.1
  have hS : S 112 = (4, 0) := by simp only [LC_out hL]
  have h0 : I 112 0 = nI (stK x) := h.2.2.1.2.2.1.1
  have hk2 : stK x ≤ 10000 := h.2.2.1.2.2.1.2
  obtain ⟨h1, h2⟩ : R 112 1 = some 117 ∧ S 117 = (101, 10000) := by
    obtain ⟨a1, ⟨a2, a3, a4, a5⟩, a6, ⟨a7, a8⟩, ⟨a9, a10, a11, a12⟩, a13, p1, p2, p3, p4, p5, q0, q1, q2, q3, q4, q5⟩ := h
    rcases q1 with ⟨-, -, -, -, -, -, r7, -⟩ | ⟨r1, r2, -⟩
    · have r7 : I 112 0 = 0 := r7
      rw [h0, show (0 : Int32) = nI 0 from rfl] at r7
      have := (nI_eq (by omega) (by decide)).mp r7
      omega
    · exact ⟨r1, r2⟩
  rw [e37_25]
  simp only [B37_25, xSeq, i_push, i_load, i_iload, i_lload, i_dload, i_aload, i_istore, i_astore, i_lstore, i_dstore, i_iinc, i_ii, i_iiz, i_ll, i_llz, i_lli, i_li, i_i, i_l, i_i2l, i_l2i, i_dup, i_dup2, i_dup2w, i_dupx1, i_pop, i_pop2, i_goto, i_ifc, i_icmp, i_getI, i_getL, i_getR, i_putI, i_putZ, i_putL, i_putR, i_aldI, i_aldB, i_aldL, i_aldD, i_astI, i_astL, i_astD, i_alen, i_ret, i_iret, i_zret, i_lret, i_fret, i_dret, i_aret, i_invS0, i_invV0, i_m2, i_m1, i_ml, i_obj, lk, lkp, stf1, stf2, Value.category, rV, xTo, lv_args, xCk, xCat, xRc, xAk, hg_S, hg_I, hg_J, hg_D, hg_R, hs_I, hs_J, hs_D, hs_R, uI_at, uJ_at, uD_at, uR_at, List.take_succ_cons, List.take_zero, List.drop_succ_cons, List.drop_zero, List.reverse_cons, List.reverse_nil, List.nil_append, List.cons_append, List.map_cons, List.map_nil, List.sum_cons, List.sum_nil, List.length_cons, List.length_nil, Option.toList_some, Option.toList_none, true_and, and_true, false_and, and_false, true_implies, false_implies, implies_true, not_true_eq_false, not_false_eq_true, ne_eq, if_true, if_false, Bool.and_true, Bool.true_and, decide_true, decide_false, reduceIte, reduceCtorEq, Bool.and_self, Bool.and_eq_true, decide_eq_true_eq, and_self, true_or, or_true, false_or, or_false, Nat.zero_add, Nat.add_zero, eq_self, Nat.reduceEqDiff, Nat.reduceLeDiff, Nat.reduceLT, Nat.reduceAdd, Nat.reduceSub, Nat.reduceMul, hS, h3, h4, Y6 h4 (show V < 2147483648 by omega)]
  have ht := TB_0 V hsC (stC x)
  have hI : HTv V 119 I (fun _ => 0) (rI I 119 (fill (I 119) 0 V)) := ⟨fun p hp => by rw [rI_at, if_pos rfl, fill_at, if_pos hp]; rfl, fun o j ho => by rw [rI_at, if_neg ho]⟩
  have hh := L37_37 (S := S) (J := J) (D := D) (R := R) (b := b) (Q := Q) hV hsC_lt hsC_e hS h1 h2 h3 h4 hk2 (CS_C h w) h0 (fun I' T' q => kk I' (AC_119 h (fun o ho => funext fun j => q.2 o j ho)) (fun o ho => funext fun j => q.2 o j ho)) (stK x) 0 _ _ (by omega) ht hI
  exact hh
theorem KC32a (w : WA N z) (hK : stK z.2.1 = 0) : CC 1 141 [(0, .ref 100)] z z (fun r _ _ => r = some (.int 0)) := by
  intro P f S I J D R h hw hf
  obtain ⟨hL, hC, hG, ⟨i6, i7, i8, i9, i10, i11, j4, j5⟩, j102, i111, ⟨s1, s2, s3⟩, ⟨n0, n1, n2, n3⟩⟩ := AC_o h w
  refine ⟨P, Nat.le_refl P, fun _ => rfl, fun b Q b1 b2 kk => ?_⟩
  have h0 : I 112 0 = 0 := by rw [h.2.2.1.2.2.1.1, hK]; rfl
  rw [e141_0]
  simp only [B141_0, xSeq, i_push, i_load, i_iload, i_lload, i_dload, i_aload, i_istore, i_astore, i_lstore, i_dstore, i_iinc, i_ii, i_iiz, i_ll, i_llz, i_lli, i_li, i_i, i_l, i_i2l, i_l2i, i_dup, i_dup2, i_dup2w, i_dupx1, i_pop, i_pop2, i_goto, i_ifc, i_icmp, i_getI, i_getL, i_getR, i_putI, i_putZ, i_putL, i_putR, i_aldI, i_aldB, i_aldL, i_aldD, i_astI, i_astL, i_astD, i_alen, i_ret, i_iret, i_zret, i_lret, i_fret, i_dret, i_aret, i_invS0, i_invV0, i_m2, i_m1, i_ml, i_obj, lk, lkp, stf1, stf2, Value.category, rV, xTo, lv_args, xCk, xCat, xRc, xAk, hg_S, hg_I, hg_J, hg_D, hg_R, hs_I, hs_J, hs_D, hs_R, uI_at, uJ_at, uD_at, uR_at, List.take_succ_cons, List.take_zero, List.drop_succ_cons, List.drop_zero, List.reverse_cons, List.reverse_nil, List.nil_append, List.cons_append, List.map_cons, List.map_nil, List.sum_cons, List.sum_nil, List.length_cons, List.length_nil, Option.toList_some, Option.toList_none, true_and, and_true, false_and, and_false, true_implies, false_implies, implies_true, not_true_eq_false, not_false_eq_true, ne_eq, if_true, if_false, Bool.and_true, Bool.true_and, decide_true, decide_false, reduceIte, reduceCtorEq, Bool.and_self, Bool.and_eq_true, decide_eq_true_eq, and_self, true_or, or_true, false_or, or_false, Nat.zero_add, Nat.add_zero, eq_self, Nat.reduceEqDiff, Nat.reduceLeDiff, Nat.reduceLT, Nat.reduceAdd, Nat.reduceSub, Nat.reduceMul, LC_out hL]
  refine w_invVA (mc := 0) (ms := 0) (Nat.zero_le _) (Nat.zero_le _) rfl (by simp only [xSeq, i_push, i_load, i_iload, i_lload, i_dload, i_aload, i_istore, i_astore, i_lstore, i_dstore, i_iinc, i_ii, i_iiz, i_ll, i_llz, i_lli, i_li, i_i, i_l, i_i2l, i_l2i, i_dup, i_dup2, i_dup2w, i_dupx1, i_pop, i_pop2, i_goto, i_ifc, i_icmp, i_getI, i_getL, i_getR, i_putI, i_putZ, i_putL, i_putR, i_aldI, i_aldB, i_aldL, i_aldD, i_astI, i_astL, i_astD, i_alen, i_ret, i_iret, i_zret, i_lret, i_fret, i_dret, i_aret, i_invS0, i_invV0, i_m2, i_m1, i_ml, i_obj, lk, lkp, stf1, stf2, Value.category, rV, xTo, lv_args, xCk, xCat, xRc, xAk, hg_S, hg_I, hg_J, hg_D, hg_R, hs_I, hs_J, hs_D, hs_R, uI_at, uJ_at, uD_at, uR_at, List.take_succ_cons, List.take_zero, List.drop_succ_cons, List.drop_zero, List.reverse_cons, List.reverse_nil, List.nil_append, List.cons_append, List.map_cons, List.map_nil, List.sum_cons, List.sum_nil, List.length_cons, List.length_nil, Option.toList_some, Option.toList_none, true_and, and_true, false_and, and_false, true_implies, false_implies, implies_true, not_true_eq_false, not_false_eq_true, ne_eq, if_true, if_false, Bool.and_true, Bool.true_and, decide_true, decide_false, reduceIte, reduceCtorEq, Bool.and_self, Bool.and_eq_true, decide_eq_true_eq, and_self, true_or, or_true, false_or, or_false, Nat.zero_add, Nat.add_zero, eq_self, Nat.reduceEqDiff, Nat.reduceLeDiff, Nat.reduceLT, Nat.reduceAdd, Nat.reduceSub, Nat.reduceMul, LC_out hL]) ?_
  simp only [xSeq, i_push, i_load, i_iload, i_lload, i_dload, i_aload, i_istore, i_astore, i_lstore, i_dstore, i_iinc, i_ii, i_iiz, i_ll, i_llz, i_lli, i_li, i_i, i_l, i_i2l, i_l2i, i_dup, i_dup2, i_dup2w, i_dupx1, i_pop, i_pop2, i_goto, i_ifc, i_icmp, i_getI, i_getL, i_getR, i_putI, i_putZ, i_putL, i_putR, i_aldI, i_aldB, i_aldL, i_aldD, i_astI, i_astL, i_astD, i_alen, i_ret, i_iret, i_zret, i_lret, i_fret, i_dret, i_aret, i_invS0, i_invV0, i_m2, i_m1, i_ml, i_obj, lk, lkp, stf1, stf2, Value.category, rV, xTo, lv_args, xCk, xCat, xRc, xAk, hg_S, hg_I, hg_J, hg_D, hg_R, hs_I, hs_J, hs_D, hs_R, uI_at, uJ_at, uD_at, uR_at, List.take_succ_cons, List.take_zero, List.drop_succ_cons, List.drop_zero, List.reverse_cons, List.reverse_nil, List.nil_append, List.cons_append, List.map_cons, List.map_nil, List.sum_cons, List.sum_nil, List.length_cons, List.length_nil, Option.toList_some, Option.toList_none, true_and, and_true, false_and, and_false, true_implies, false_implies, implies_true, not_true_eq_false, not_false_eq_true, ne_eq, if_true, if_false, Bool.and_true, Bool.true_and, decide_true, decide_false, reduceIte, reduceCtorEq, Bool.and_self, Bool.and_eq_true, decide_eq_true_eq, and_self, true_or, or_true, false_or, or_false, Nat.zero_add, Nat.add_zero, eq_self, Nat.reduceEqDiff, Nat.reduceLeDiff, Nat.reduceLT, Nat.reduceAdd, Nat.reduceSub, Nat.reduceMul]
  rw [e37_0]
  simp only [B37_0, xSeq, i_push, i_load, i_iload, i_lload, i_dload, i_aload, i_istore, i_astore, i_lstore, i_dstore, i_iinc, i_ii, i_iiz, i_ll, i_llz, i_lli, i_li, i_i, i_l, i_i2l, i_l2i, i_dup, i_dup2, i_dup2w, i_dupx1, i_pop, i_pop2, i_goto, i_ifc, i_icmp, i_getI, i_getL, i_getR, i_putI, i_putZ, i_putL, i_putR, i_aldI, i_aldB, i_aldL, i_aldD, i_astI, i_astL, i_astD, i_alen, i_ret, i_iret, i_zret, i_lret, i_fret, i_dret, i_aret, i_invS0, i_invV0, i_m2, i_m1, i_ml, i_obj, lk, lkp, stf1, stf2, Value.category, rV, xTo, lv_args, xCk, xCat, xRc, xAk, hg_S, hg_I, hg_J, hg_D, hg_R, hs_I, hs_J, hs_D, hs_R, uI_at, uJ_at, uD_at, uR_at, List.take_succ_cons, List.take_zero, List.drop_succ_cons, List.drop_zero, List.reverse_cons, List.reverse_nil, List.nil_append, List.cons_append, List.map_cons, List.map_nil, List.sum_cons, List.sum_nil, List.length_cons, List.length_nil, Option.toList_some, Option.toList_none, true_and, and_true, false_and, and_false, true_implies, false_implies, implies_true, not_true_eq_false, not_false_eq_true, ne_eq, if_true, if_false, Bool.and_true, Bool.true_and, decide_true, decide_false, reduceIte, reduceCtorEq, Bool.and_self, Bool.and_eq_true, decide_eq_true_eq, and_self, true_or, or_true, false_or, or_false, Nat.zero_add, Nat.add_zero, eq_self, Nat.reduceEqDiff, Nat.reduceLeDiff, Nat.reduceLT, Nat.reduceAdd, Nat.reduceSub, Nat.reduceMul, LC_out hL, h0]
  exact kk _ S I J D R f _ rfl h frC_rfl (by omega)
theorem KC32b (w : WA N z) (hK : 0 < stK z.2.1) : CC 1 141 [(0, .ref 100)] z z (fun r _ _ => r = some (.int (nI (dct (stC z.2.1) (stK z.2.1))))) := by
  intro P f S I J D R h hw hf
  obtain ⟨hL, hC, hG, ⟨i6, i7, i8, i9, i10, i11, j4, j5⟩, j102, i111, ⟨s1, s2, s3⟩, ⟨n0, n1, n2, n3⟩⟩ := AC_o h w
  refine ⟨tabP P R, tabP_le, fun e => absurd e (by decide), fun b Q b1 b2 kk => ?_⟩
  have hk2 : stK z.2.1 ≤ 10000 := h.2.2.1.2.2.1.2
  have h0 : (I 112 0 = 0) = False := by
    rw [h.2.2.1.2.2.1.1, nI_z (by omega)]
    exact eq_false (by omega)
  have l37 : ¬ ((32768 : Int32) < 0) := by decide
  rw [e141_0]
  simp only [B141_0, xSeq, i_push, i_load, i_iload, i_lload, i_dload, i_aload, i_istore, i_astore, i_lstore, i_dstore, i_iinc, i_ii, i_iiz, i_ll, i_llz, i_lli, i_li, i_i, i_l, i_i2l, i_l2i, i_dup, i_dup2, i_dup2w, i_dupx1, i_pop, i_pop2, i_goto, i_ifc, i_icmp, i_getI, i_getL, i_getR, i_putI, i_putZ, i_putL, i_putR, i_aldI, i_aldB, i_aldL, i_aldD, i_astI, i_astL, i_astD, i_alen, i_ret, i_iret, i_zret, i_lret, i_fret, i_dret, i_aret, i_invS0, i_invV0, i_m2, i_m1, i_ml, i_obj, lk, lkp, stf1, stf2, Value.category, rV, xTo, lv_args, xCk, xCat, xRc, xAk, hg_S, hg_I, hg_J, hg_D, hg_R, hs_I, hs_J, hs_D, hs_R, uI_at, uJ_at, uD_at, uR_at, List.take_succ_cons, List.take_zero, List.drop_succ_cons, List.drop_zero, List.reverse_cons, List.reverse_nil, List.nil_append, List.cons_append, List.map_cons, List.map_nil, List.sum_cons, List.sum_nil, List.length_cons, List.length_nil, Option.toList_some, Option.toList_none, true_and, and_true, false_and, and_false, true_implies, false_implies, implies_true, not_true_eq_false, not_false_eq_true, ne_eq, if_true, if_false, Bool.and_true, Bool.true_and, decide_true, decide_false, reduceIte, reduceCtorEq, Bool.and_self, Bool.and_eq_true, decide_eq_true_eq, and_self, true_or, or_true, false_or, or_false, Nat.zero_add, Nat.add_zero, eq_self, Nat.reduceEqDiff, Nat.reduceLeDiff, Nat.reduceLT, Nat.reduceAdd, Nat.reduceSub, Nat.reduceMul, LC_out hL]
  refine w_invVA (mc := 1 + (P - tabP P R)) (ms := 1 + (P - tabP P R)) (by omega) (by omega) rfl (by simp only [xSeq, i_push, i_load, i_iload, i_lload, i_dload, i_aload, i_istore, i_astore, i_lstore, i_dstore, i_iinc, i_ii, i_iiz, i_ll, i_llz, i_lli, i_li, i_i, i_l, i_i2l, i_l2i, i_dup, i_dup2, i_dup2w, i_dupx1, i_pop, i_pop2, i_goto, i_ifc, i_icmp, i_getI, i_getL, i_getR, i_putI, i_putZ, i_putL, i_putR, i_aldI, i_aldB, i_aldL, i_aldD, i_astI, i_astL, i_astD, i_alen, i_ret, i_iret, i_zret, i_lret, i_fret, i_dret, i_aret, i_invS0, i_invV0, i_m2, i_m1, i_ml, i_obj, lk, lkp, stf1, stf2, Value.category, rV, xTo, lv_args, xCk, xCat, xRc, xAk, hg_S, hg_I, hg_J, hg_D, hg_R, hs_I, hs_J, hs_D, hs_R, uI_at, uJ_at, uD_at, uR_at, List.take_succ_cons, List.take_zero, List.drop_succ_cons, List.drop_zero, List.reverse_cons, List.reverse_nil, List.nil_append, List.cons_append, List.map_cons, List.map_nil, List.sum_cons, List.sum_nil, List.length_cons, List.length_nil, Option.toList_some, Option.toList_none, true_and, and_true, false_and, and_false, true_implies, false_implies, implies_true, not_true_eq_false, not_false_eq_true, ne_eq, if_true, if_false, Bool.and_true, Bool.true_and, decide_true, decide_false, reduceIte, reduceCtorEq, Bool.and_self, Bool.and_eq_true, decide_eq_true_eq, and_self, true_or, or_true, false_or, or_false, Nat.zero_add, Nat.add_zero, eq_self, Nat.reduceEqDiff, Nat.reduceLeDiff, Nat.reduceLT, Nat.reduceAdd, Nat.reduceSub, Nat.reduceMul, LC_out hL]) ?_
  simp only [xSeq, i_push, i_load, i_iload, i_lload, i_dload, i_aload, i_istore, i_astore, i_lstore, i_dstore, i_iinc, i_ii, i_iiz, i_ll, i_llz, i_lli, i_li, i_i, i_l, i_i2l, i_l2i, i_dup, i_dup2, i_dup2w, i_dupx1, i_pop, i_pop2, i_goto, i_ifc, i_icmp, i_getI, i_getL, i_getR, i_putI, i_putZ, i_putL, i_putR, i_aldI, i_aldB, i_aldL, i_aldD, i_astI, i_astL, i_astD, i_alen, i_ret, i_iret, i_zret, i_lret, i_fret, i_dret, i_aret, i_invS0, i_invV0, i_m2, i_m1, i_ml, i_obj, lk, lkp, stf1, stf2, Value.category, rV, xTo, lv_args, xCk, xCat, xRc, xAk, hg_S, hg_I, hg_J, hg_D, hg_R, hs_I, hs_J, hs_D, hs_R, uI_at, uJ_at, uD_at, uR_at, List.take_succ_cons, List.take_zero, List.drop_succ_cons, List.drop_zero, List.reverse_cons, List.reverse_nil, List.nil_append, List.cons_append, List.map_cons, List.map_nil, List.sum_cons, List.sum_nil, List.length_cons, List.length_nil, Option.toList_some, Option.toList_none, true_and, and_true, false_and, and_false, true_implies, false_implies, implies_true, not_true_eq_false, not_false_eq_true, ne_eq, if_true, if_false, Bool.and_true, Bool.true_and, decide_true, decide_false, reduceIte, reduceCtorEq, Bool.and_self, Bool.and_eq_true, decide_eq_true_eq, and_self, true_or, or_true, false_or, or_false, Nat.zero_add, Nat.add_zero, eq_self, Nat.reduceEqDiff, Nat.reduceLeDiff, Nat.reduceLT, Nat.reduceAdd, Nat.reduceSub, Nat.reduceMul]
  rw [e37_0]
  simp only [B37_0, xSeq, i_push, i_load, i_iload, i_lload, i_dload, i_aload, i_istore, i_astore, i_lstore, i_dstore, i_iinc, i_ii, i_iiz, i_ll, i_llz, i_lli, i_li, i_i, i_l, i_i2l, i_l2i, i_dup, i_dup2, i_dup2w, i_dupx1, i_pop, i_pop2, i_goto, i_ifc, i_icmp, i_getI, i_getL, i_getR, i_putI, i_putZ, i_putL, i_putR, i_aldI, i_aldB, i_aldL, i_aldD, i_astI, i_astL, i_astD, i_alen, i_ret, i_iret, i_zret, i_lret, i_fret, i_dret, i_aret, i_invS0, i_invV0, i_m2, i_m1, i_ml, i_obj, lk, lkp, stf1, stf2, Value.category, rV, xTo, lv_args, xCk, xCat, xRc, xAk, hg_S, hg_I, hg_J, hg_D, hg_R, hs_I, hs_J, hs_D, hs_R, uI_at, uJ_at, uD_at, uR_at, List.take_succ_cons, List.take_zero, List.drop_succ_cons, List.drop_zero, List.reverse_cons, List.reverse_nil, List.nil_append, List.cons_append, List.map_cons, List.map_nil, List.sum_cons, List.sum_nil, List.length_cons, List.length_nil, Option.toList_some, Option.toList_none, true_and, and_true, false_and, and_false, true_implies, false_implies, implies_true, not_true_eq_false, not_false_eq_true, ne_eq, if_true, if_false, Bool.and_true, Bool.true_and, decide_true, decide_false, reduceIte, reduceCtorEq, Bool.and_self, Bool.and_eq_true, decide_eq_true_eq, and_self, true_or, or_true, false_or, or_false, Nat.zero_add, Nat.add_zero, eq_self, Nat.reduceEqDiff, Nat.reduceLeDiff, Nat.reduceLT, Nat.reduceAdd, Nat.reduceSub, Nat.reduceMul, LC_out hL, h0]
  rw [e37_9]
  rcases AC_tt h with ⟨r1, r2, r3, r4⟩ | ⟨r1, r2⟩
  · have hP : tabP P R = P - 32769 := by
      unfold tabP
      rw [r1, if_neg (by decide)]
    rw [hP] at b1 b2 kk ⊢
    have h2 := AC_tab h r1
    have z0 : ((0 : Int32) = 0) = True := eq_self 0
    simp only [B37_9, xSeq, i_push, i_load, i_iload, i_lload, i_dload, i_aload, i_istore, i_astore, i_lstore, i_dstore, i_iinc, i_ii, i_iiz, i_ll, i_llz, i_lli, i_li, i_i, i_l, i_i2l, i_l2i, i_dup, i_dup2, i_dup2w, i_dupx1, i_pop, i_pop2, i_goto, i_ifc, i_icmp, i_getI, i_getL, i_getR, i_putI, i_putZ, i_putL, i_putR, i_aldI, i_aldB, i_aldL, i_aldD, i_astI, i_astL, i_astD, i_alen, i_ret, i_iret, i_zret, i_lret, i_fret, i_dret, i_aret, i_invS0, i_invV0, i_m2, i_m1, i_ml, i_obj, lk, lkp, stf1, stf2, Value.category, rV, xTo, lv_args, xCk, xCat, xRc, xAk, hg_S, hg_I, hg_J, hg_D, hg_R, hs_I, hs_J, hs_D, hs_R, uI_at, uJ_at, uD_at, uR_at, List.take_succ_cons, List.take_zero, List.drop_succ_cons, List.drop_zero, List.reverse_cons, List.reverse_nil, List.nil_append, List.cons_append, List.map_cons, List.map_nil, List.sum_cons, List.sum_nil, List.length_cons, List.length_nil, Option.toList_some, Option.toList_none, true_and, and_true, false_and, and_false, true_implies, false_implies, implies_true, not_true_eq_false, not_false_eq_true, ne_eq, if_true, if_false, Bool.and_true, Bool.true_and, decide_true, decide_false, reduceIte, reduceCtorEq, Bool.and_self, Bool.and_eq_true, decide_eq_true_eq, and_self, true_or, or_true, false_or, or_false, Nat.zero_add, Nat.add_zero, eq_self, Nat.reduceEqDiff, Nat.reduceLeDiff, Nat.reduceLT, Nat.reduceAdd, Nat.reduceSub, Nat.reduceMul, LC_out hL, r1, r2, nI_0, z0]
    refine w_newa 119 32768 l37 (by decide) (by decide) (by first | omega | (simp; done) | (simp; omega)) (by first | omega | (simp; done) | (simp; omega)) (by rw [r3]) (by decide) ?_
    simp only [xSeq, i_push, i_load, i_iload, i_lload, i_dload, i_aload, i_istore, i_astore, i_lstore, i_dstore, i_iinc, i_ii, i_iiz, i_ll, i_llz, i_lli, i_li, i_i, i_l, i_i2l, i_l2i, i_dup, i_dup2, i_dup2w, i_dupx1, i_pop, i_pop2, i_goto, i_ifc, i_icmp, i_getI, i_getL, i_getR, i_putI, i_putZ, i_putL, i_putR, i_aldI, i_aldB, i_aldL, i_aldD, i_astI, i_astL, i_astD, i_alen, i_ret, i_iret, i_zret, i_lret, i_fret, i_dret, i_aret, i_invS0, i_invV0, i_m2, i_m1, i_ml, i_obj, lk, lkp, stf1, stf2, Value.category, rV, xTo, lv_args, xCk, xCat, xRc, xAk, hg_S, hg_I, hg_J, hg_D, hg_R, hs_I, hs_J, hs_D, hs_R, uI_at, uJ_at, uD_at, uR_at, List.take_succ_cons, List.take_zero, List.drop_succ_cons, List.drop_zero, List.reverse_cons, List.reverse_nil, List.nil_append, List.cons_append, List.map_cons, List.map_nil, List.sum_cons, List.sum_nil, List.length_cons, List.length_nil, Option.toList_some, Option.toList_none, true_and, and_true, false_and, and_false, true_implies, false_implies, implies_true, not_true_eq_false, not_false_eq_true, ne_eq, if_true, if_false, Bool.and_true, Bool.true_and, decide_true, decide_false, reduceIte, reduceCtorEq, Bool.and_self, Bool.and_eq_true, decide_eq_true_eq, and_self, true_or, or_true, false_or, or_false, Nat.zero_add, Nat.add_zero, eq_self, Nat.reduceEqDiff, Nat.reduceLeDiff, Nat.reduceLT, Nat.reduceAdd, Nat.reduceSub, Nat.reduceMul, nF_at, zI_at, zJ_at, zD_at, zR_at, LC_out hL]
    refine V37 (S := nSt S) (I := zI I 119) (J := zJ J 119) (R := nRt R) h2 w hK nRt_p nSt_p (fun I' h3 hi => ?_)
    simp only [xSeq, i_push, i_load, i_iload, i_lload, i_dload, i_aload, i_istore, i_astore, i_lstore, i_dstore, i_iinc, i_ii, i_iiz, i_ll, i_llz, i_lli, i_li, i_i, i_l, i_i2l, i_l2i, i_dup, i_dup2, i_dup2w, i_dupx1, i_pop, i_pop2, i_goto, i_ifc, i_icmp, i_getI, i_getL, i_getR, i_putI, i_putZ, i_putL, i_putR, i_aldI, i_aldB, i_aldL, i_aldD, i_astI, i_astL, i_astD, i_alen, i_ret, i_iret, i_zret, i_lret, i_fret, i_dret, i_aret, i_invS0, i_invV0, i_m2, i_m1, i_ml, i_obj, lk, lkp, stf1, stf2, Value.category, rV, xTo, lv_args, xCk, xCat, xRc, xAk, hg_S, hg_I, hg_J, hg_D, hg_R, hs_I, hs_J, hs_D, hs_R, uI_at, uJ_at, uD_at, uR_at, List.take_succ_cons, List.take_zero, List.drop_succ_cons, List.drop_zero, List.reverse_cons, List.reverse_nil, List.nil_append, List.cons_append, List.map_cons, List.map_nil, List.sum_cons, List.sum_nil, List.length_cons, List.length_nil, Option.toList_some, Option.toList_none, true_and, and_true, false_and, and_false, true_implies, false_implies, implies_true, not_true_eq_false, not_false_eq_true, ne_eq, if_true, if_false, Bool.and_true, Bool.true_and, decide_true, decide_false, reduceIte, reduceCtorEq, Bool.and_self, Bool.and_eq_true, decide_eq_true_eq, and_self, true_or, or_true, false_or, or_false, Nat.zero_add, Nat.add_zero, eq_self, Nat.reduceEqDiff, Nat.reduceLeDiff, Nat.reduceLT, Nat.reduceAdd, Nat.reduceSub, Nat.reduceMul]
    exact kk _ _ I' _ _ _ f _ rfl h3 (frC_tr frC_tab (fun o h1 => ⟨rfl, hi o (by omega), rfl, fun _ => rfl⟩)) (by omega)
  · have hP : tabP P R = P := by
      unfold tabP
      rw [if_pos r1]
    rw [hP] at b1 b2 kk ⊢
    have z0 : (nI 32768 = 0) = False := eq_false (by decide)
    simp only [B37_9, xSeq, i_push, i_load, i_iload, i_lload, i_dload, i_aload, i_istore, i_astore, i_lstore, i_dstore, i_iinc, i_ii, i_iiz, i_ll, i_llz, i_lli, i_li, i_i, i_l, i_i2l, i_l2i, i_dup, i_dup2, i_dup2w, i_dupx1, i_pop, i_pop2, i_goto, i_ifc, i_icmp, i_getI, i_getL, i_getR, i_putI, i_putZ, i_putL, i_putR, i_aldI, i_aldB, i_aldL, i_aldD, i_astI, i_astL, i_astD, i_alen, i_ret, i_iret, i_zret, i_lret, i_fret, i_dret, i_aret, i_invS0, i_invV0, i_m2, i_m1, i_ml, i_obj, lk, lkp, stf1, stf2, Value.category, rV, xTo, lv_args, xCk, xCat, xRc, xAk, hg_S, hg_I, hg_J, hg_D, hg_R, hs_I, hs_J, hs_D, hs_R, uI_at, uJ_at, uD_at, uR_at, List.take_succ_cons, List.take_zero, List.drop_succ_cons, List.drop_zero, List.reverse_cons, List.reverse_nil, List.nil_append, List.cons_append, List.map_cons, List.map_nil, List.sum_cons, List.sum_nil, List.length_cons, List.length_nil, Option.toList_some, Option.toList_none, true_and, and_true, false_and, and_false, true_implies, false_implies, implies_true, not_true_eq_false, not_false_eq_true, ne_eq, if_true, if_false, Bool.and_true, Bool.true_and, decide_true, decide_false, reduceIte, reduceCtorEq, Bool.and_self, Bool.and_eq_true, decide_eq_true_eq, and_self, true_or, or_true, false_or, or_false, Nat.zero_add, Nat.add_zero, eq_self, Nat.reduceEqDiff, Nat.reduceLeDiff, Nat.reduceLT, Nat.reduceAdd, Nat.reduceSub, Nat.reduceMul, LC_out hL, r1, r2, z0]
    refine V37 h w hK r1 r2 (fun I' h3 hi => ?_)
    simp only [xSeq, i_push, i_load, i_iload, i_lload, i_dload, i_aload, i_istore, i_astore, i_lstore, i_dstore, i_iinc, i_ii, i_iiz, i_ll, i_llz, i_lli, i_li, i_i, i_l, i_i2l, i_l2i, i_dup, i_dup2, i_dup2w, i_dupx1, i_pop, i_pop2, i_goto, i_ifc, i_icmp, i_getI, i_getL, i_getR, i_putI, i_putZ, i_putL, i_putR, i_aldI, i_aldB, i_aldL, i_aldD, i_astI, i_astL, i_astD, i_alen, i_ret, i_iret, i_zret, i_lret, i_fret, i_dret, i_aret, i_invS0, i_invV0, i_m2, i_m1, i_ml, i_obj, lk, lkp, stf1, stf2, Value.category, rV, xTo, lv_args, xCk, xCat, xRc, xAk, hg_S, hg_I, hg_J, hg_D, hg_R, hs_I, hs_J, hs_D, hs_R, uI_at, uJ_at, uD_at, uR_at, List.take_succ_cons, List.take_zero, List.drop_succ_cons, List.drop_zero, List.reverse_cons, List.reverse_nil, List.nil_append, List.cons_append, List.map_cons, List.map_nil, List.sum_cons, List.sum_nil, List.length_cons, List.length_nil, Option.toList_some, Option.toList_none, true_and, and_true, false_and, and_false, true_implies, false_implies, implies_true, not_true_eq_false, not_false_eq_true, ne_eq, if_true, if_false, Bool.and_true, Bool.true_and, decide_true, decide_false, reduceIte, reduceCtorEq, Bool.and_self, Bool.and_eq_true, decide_eq_true_eq, and_self, true_or, or_true, false_or, or_false, Nat.zero_add, Nat.add_zero, eq_self, Nat.reduceEqDiff, Nat.reduceLeDiff, Nat.reduceLT, Nat.reduceAdd, Nat.reduceSub, Nat.reduceMul]
    exact kk _ S I' J D R f _ rfl h3 (fun o h1 => ⟨rfl, hi o (by omega), rfl, fun _ => rfl⟩) (by omega)
theorem KM32 (w : WA N z) : MC 298 [(0, .ref 200)] z z (fun r I _ _ => r = some (.int (nI (dct (stC z.2.1) (stK z.2.1)))) ∧ I 200 19 = 0) := by
  intro S I J D R b Q h kk
  obtain ⟨hM, hD, hG, ⟨i2, i3, i4, i5, i6, i7, j3, j4⟩, i16, ⟨s1, s2, s3⟩, ⟨n0, n1, n2, n3⟩⟩ := AM_o h w
  have h9 := AM_19 h 0
  obtain ⟨V, hV⟩ : ∃ V : Nat, V = 32768 := ⟨_, rfl⟩
  have hn : (32768 : Int32) = nI V := by rw [hV]; decide
  have hk2 : stK z.2.1 ≤ 10000 := h.2.2.1.2.2.1.2
  have h0 : uI I 200 19 0 300 9 = nI (stK z.2.1) := h.2.2.1.2.2.1.1
  have hC : ∀ i, i < stK z.2.1 → J 310 i = lN (stC z.2.1 i) ∧ stC z.2.1 i < 2 ^ 64 := fun i hi => ⟨(h.2.2.1.2.2.2 i hi).2.2, Nat.lt_of_lt_of_le (w.2.1.2.2.2 i hi).1 (Nat.pow_le_pow_right (by decide) n1)⟩
  have ht := TB_0 V hsM (stC z.2.1)
  have hI : HTv V 342 (uI I 200 19 0) (fun _ => 0) (rI (uI I 200 19 0) 342 (fill (uI I 200 19 0 342) 0 V)) := ⟨fun p hp => by rw [rI_at, if_pos rfl, fill_at, if_pos hp]; rfl, fun o j ho => by rw [rI_at, if_neg ho]⟩
  have hh := L298_30 (S := S) (J := J) (D := D) (R := R) (b := b) (Q := Q) hV hsM_lt (fun _ hc => hsM_e hc) hM hk2 hC h0 (fun I' T' q => by
    have hi : ∀ o, o ≠ 342 → I' o = uI I 200 19 0 o := fun o ho => funext fun j => q.2 o j ho
    have k6 : ∀ o j, ¬ (o = 340 ∨ o = 341 ∨ o = 342 ∨ (353 ≤ o ∧ o ≤ 357)) → I' o j = uI I 200 19 0 o j := fun o j q1 => q.2 o j (by omega)
    exact kk _ I' J _ ⟨rfl, q.2 200 19 (by decide)⟩ (AM_scr h9 k6) (frM_tr (frM_19 (J := J) 0) (frM_scr k6))) (stK z.2.1) 0 _ _ (by omega) ht hI
  have h7 := R298_7 (S := S) (R := R) (I := uI I 200 19 0) (J := J) (D := D) (b := b) (Q := Q) hM hn hV V 0 (uI I 200 19 0 342) (by omega)
  rw [fill_0, rI_self] at h7
  rw [e298_0]
  simp only [B298_0, xSeq, i_push, i_load, i_iload, i_lload, i_dload, i_aload, i_istore, i_astore, i_lstore, i_dstore, i_iinc, i_ii, i_iiz, i_ll, i_llz, i_lli, i_li, i_i, i_l, i_i2l, i_l2i, i_dup, i_dup2, i_dup2w, i_dupx1, i_pop, i_pop2, i_goto, i_ifc, i_icmp, i_getI, i_getL, i_getR, i_putI, i_putZ, i_putL, i_putR, i_aldI, i_aldB, i_aldL, i_aldD, i_astI, i_astL, i_astD, i_alen, i_ret, i_iret, i_zret, i_lret, i_fret, i_dret, i_aret, i_invS0, i_invV0, i_m2, i_m1, i_ml, i_obj, lk, lkp, stf1, stf2, Value.category, rV, xTo, lv_args, xCk, xCat, xRc, xAk, hg_S, hg_I, hg_J, hg_D, hg_R, hs_I, hs_J, hs_D, hs_R, uI_at, uJ_at, uD_at, uR_at, List.take_succ_cons, List.take_zero, List.drop_succ_cons, List.drop_zero, List.reverse_cons, List.reverse_nil, List.nil_append, List.cons_append, List.map_cons, List.map_nil, List.sum_cons, List.sum_nil, List.length_cons, List.length_nil, Option.toList_some, Option.toList_none, true_and, and_true, false_and, and_false, true_implies, false_implies, implies_true, not_true_eq_false, not_false_eq_true, ne_eq, if_true, if_false, Bool.and_true, Bool.true_and, decide_true, decide_false, reduceIte, reduceCtorEq, Bool.and_self, Bool.and_eq_true, decide_eq_true_eq, and_self, true_or, or_true, false_or, or_false, Nat.zero_add, Nat.add_zero, eq_self, Nat.reduceEqDiff, Nat.reduceLeDiff, Nat.reduceLT, Nat.reduceAdd, Nat.reduceSub, Nat.reduceMul, LM_out hM]
  refine h7.symm ▸ ?_
  rw [e298_26]
  simp only [B298_26, xSeq, i_push, i_load, i_iload, i_lload, i_dload, i_aload, i_istore, i_astore, i_lstore, i_dstore, i_iinc, i_ii, i_iiz, i_ll, i_llz, i_lli, i_li, i_i, i_l, i_i2l, i_l2i, i_dup, i_dup2, i_dup2w, i_dupx1, i_pop, i_pop2, i_goto, i_ifc, i_icmp, i_getI, i_getL, i_getR, i_putI, i_putZ, i_putL, i_putR, i_aldI, i_aldB, i_aldL, i_aldD, i_astI, i_astL, i_astD, i_alen, i_ret, i_iret, i_zret, i_lret, i_fret, i_dret, i_aret, i_invS0, i_invV0, i_m2, i_m1, i_ml, i_obj, lk, lkp, stf1, stf2, Value.category, rV, xTo, lv_args, xCk, xCat, xRc, xAk, hg_S, hg_I, hg_J, hg_D, hg_R, hs_I, hs_J, hs_D, hs_R, uI_at, uJ_at, uD_at, uR_at, List.take_succ_cons, List.take_zero, List.drop_succ_cons, List.drop_zero, List.reverse_cons, List.reverse_nil, List.nil_append, List.cons_append, List.map_cons, List.map_nil, List.sum_cons, List.sum_nil, List.length_cons, List.length_nil, Option.toList_some, Option.toList_none, true_and, and_true, false_and, and_false, true_implies, false_implies, implies_true, not_true_eq_false, not_false_eq_true, ne_eq, if_true, if_false, Bool.and_true, Bool.true_and, decide_true, decide_false, reduceIte, reduceCtorEq, Bool.and_self, Bool.and_eq_true, decide_eq_true_eq, and_self, true_or, or_true, false_or, or_false, Nat.zero_add, Nat.add_zero, eq_self, Nat.reduceEqDiff, Nat.reduceLeDiff, Nat.reduceLT, Nat.reduceAdd, Nat.reduceSub, Nat.reduceMul]
  exact hh
end
/-! ===== saved and restored: printed by a26.save.py ===== -/
section
variable {g : xGd} {x x' y : xSt} {sv sv' : Option xSt} {k : Nat} {by' : Nat → Nat} {e1 e2 : Int32} {z : xA} {N P f : Nat} {S : xS} {I I' : xI} {J J' : xJ} {D : xDb} {R : xR} {b : Nat × Nat} {Q : xQ} {n m K : Nat}
def cpq (J : xJ) (z a i : Nat) : xJ := fun o k => if o = a then (if k < i then J z k else J a k) else J o k
theorem cpq_at (J : xJ) (z a i o k : Nat) : cpq J z a i o k = if o = a then (if k < i then J z k else J a k) else J o k := rfl
theorem cpq_0 (J : xJ) (z a : Nat) : cpq J z a 0 = J := by
  funext o k
  rw [cpq_at]
  by_cases e : o = a
  · rw [if_pos e, if_neg (Nat.not_lt_zero k), e]
  · rw [if_neg e]
theorem cpq_s (J : xJ) (z a i : Nat) : uJ (cpq J z a i) a i (J z i) = cpq J z a (i + 1) := by
  funext o k
  rw [uJ_at, cpq_at, cpq_at]
  by_cases e : o = a
  · by_cases f : k = i
    · rw [if_pos ⟨e, f⟩, if_pos e, if_pos (by omega), f]
    · rw [if_neg (fun h => f h.2), if_pos e, if_pos e]
      by_cases g : k < i
      · rw [if_pos g, if_pos (by omega)]
      · rw [if_neg g, if_neg (by omega)]
  · rw [if_neg (fun h => e h.1), if_neg e, if_neg e]
theorem hs_cpL (z a l : Nat) : cpL (S, I, J, D, R) z a 0 0 l = (S, I, cpq J z a l, D, R) := by
  have : (fun o k => if o = a ∧ 0 ≤ k ∧ k < 0 + l then J z (0 + (k - 0)) else J o k) = cpq J z a l := by
    funext o k
    rw [cpq_at]
    by_cases e : o = a
    · by_cases f : k < l
      · rw [if_pos ⟨e, Nat.zero_le k, by omega⟩, if_pos e, if_pos f, Nat.zero_add, Nat.sub_zero]
      · rw [if_neg (fun h => f (by omega)), if_pos e, if_neg f, e]
    · rw [if_neg (fun h => e h.1), if_neg e]
  rw [← this]
  rfl
theorem w_copyL {P : xP} {K : xK} {l : xL} {st : List Value} {z a n k j : Nat} (h1 : xCat st ≤ 8) (h2 : S z = (101, k)) (h3 : S a = (101, j)) (hk : n ≤ k) (hj : n ≤ j) (hn : n < 2147483648) (hK : K l st (S, I, cpq J z a n, D, R) b) : i_copy 101 P Q K l (.int (nI n) :: .int 0 :: .ref a :: .int 0 :: .ref z :: st) (S, I, J, D, R) b := by
  refine ⟨h1, ?_, ?_, by decide, by decide, nI_pos hn, ?_, ?_, fun i _ => rfl, ?_⟩
  · rw [hg_S, h2]
  · rw [hg_S, h3]
  · rw [hg_S, h2, nI_ix hn, ix_0, Nat.zero_add]; exact hk
  · rw [hg_S, h3, nI_ix hn, ix_0, Nat.zero_add]; exact hj
  · rw [if_pos rfl, nI_ix hn, ix_0, hs_cpL]; exact hK
theorem R332_2 {z a n k j : Nat} (h2 : S z = (101, k)) (h3 : S a = (101, j)) (hza : z ≠ a) (hk : n ≤ k) (hj : n ≤ j) (hk2 : k < 2147483648) (hj2 : j < 2147483648) : ∀ (u i : Nat), i + u = n → xRun xT 332 2 [(0, .ref z), (1, .ref a), (2, .int (nI n)), (3, .int (nI i))] [] (S, I, cpq J z a i, D, R) b Q = Q (.ok none) (S, I, cpq J z a n, D, R) b
  | 0, i, hi => by
    have e : i = n := by omega
    subst e
    rw [e332_2]
    simp only [B332_2, xSeq, i_push, i_load, i_iload, i_lload, i_dload, i_aload, i_istore, i_astore, i_lstore, i_dstore, i_iinc, i_ii, i_iiz, i_ll, i_llz, i_lli, i_li, i_i, i_l, i_i2l, i_l2i, i_dup, i_dup2, i_dup2w, i_dupx1, i_pop, i_pop2, i_goto, i_ifc, i_icmp, i_getI, i_getL, i_getR, i_putI, i_putZ, i_putL, i_putR, i_aldI, i_aldB, i_aldL, i_aldD, i_astI, i_astL, i_astD, i_alen, i_ret, i_iret, i_zret, i_lret, i_fret, i_dret, i_aret, i_invS0, i_invV0, i_m2, i_m1, i_ml, i_obj, lk, lkp, stf1, stf2, Value.category, rV, xTo, lv_args, xCk, xCat, xRc, xAk, hg_S, hg_I, hg_J, hg_D, hg_R, hs_I, hs_J, hs_D, hs_R, uI_at, uJ_at, uD_at, uR_at, List.take_succ_cons, List.take_zero, List.drop_succ_cons, List.drop_zero, List.reverse_cons, List.reverse_nil, List.nil_append, List.cons_append, List.map_cons, List.map_nil, List.sum_cons, List.sum_nil, List.length_cons, List.length_nil, Option.toList_some, Option.toList_none, true_and, and_true, false_and, and_false, true_implies, false_implies, implies_true, not_true_eq_false, not_false_eq_true, ne_eq, if_true, if_false, Bool.and_true, Bool.true_and, decide_true, decide_false, reduceIte, reduceCtorEq, Bool.and_self, Bool.and_eq_true, decide_eq_true_eq, and_self, true_or, or_true, false_or, or_false, Nat.zero_add, Nat.add_zero, eq_self, Nat.reduceEqDiff, Nat.reduceLeDiff, Nat.reduceLT, Nat.reduceAdd, Nat.reduceSub, Nat.reduceMul, nI_leP (show i < 2147483648 by omega) (show i < 2147483648 by omega), Nat.le_refl, e332_19, B332_19]
  | u + 1, i, hi => by
    have ih := R332_2 h2 h3 hza hk hj hk2 hj2 u (i + 1) (by omega)
    rw [e332_2]
    simp only [B332_2, xSeq, i_push, i_load, i_iload, i_lload, i_dload, i_aload, i_istore, i_astore, i_lstore, i_dstore, i_iinc, i_ii, i_iiz, i_ll, i_llz, i_lli, i_li, i_i, i_l, i_i2l, i_l2i, i_dup, i_dup2, i_dup2w, i_dupx1, i_pop, i_pop2, i_goto, i_ifc, i_icmp, i_getI, i_getL, i_getR, i_putI, i_putZ, i_putL, i_putR, i_aldI, i_aldB, i_aldL, i_aldD, i_astI, i_astL, i_astD, i_alen, i_ret, i_iret, i_zret, i_lret, i_fret, i_dret, i_aret, i_invS0, i_invV0, i_m2, i_m1, i_ml, i_obj, lk, lkp, stf1, stf2, Value.category, rV, xTo, lv_args, xCk, xCat, xRc, xAk, hg_S, hg_I, hg_J, hg_D, hg_R, hs_I, hs_J, hs_D, hs_R, uI_at, uJ_at, uD_at, uR_at, List.take_succ_cons, List.take_zero, List.drop_succ_cons, List.drop_zero, List.reverse_cons, List.reverse_nil, List.nil_append, List.cons_append, List.map_cons, List.map_nil, List.sum_cons, List.sum_nil, List.length_cons, List.length_nil, Option.toList_some, Option.toList_none, true_and, and_true, false_and, and_false, true_implies, false_implies, implies_true, not_true_eq_false, not_false_eq_true, ne_eq, if_true, if_false, Bool.and_true, Bool.true_and, decide_true, decide_false, reduceIte, reduceCtorEq, Bool.and_self, Bool.and_eq_true, decide_eq_true_eq, and_self, true_or, or_true, false_or, or_false, Nat.zero_add, Nat.add_zero, eq_self, Nat.reduceEqDiff, Nat.reduceLeDiff, Nat.reduceLT, Nat.reduceAdd, Nat.reduceSub, Nat.reduceMul, h2, h3, nI_leP (show n < 2147483648 by omega) (show i < 2147483648 by omega), show (n ≤ i) = False from eq_false (by omega), nI_inP (show i < k by omega) hk2, nI_inP (show i < j by omega) hj2, nI_ix (show i < 2147483648 by omega), show cpq J z a i z i = J z i from by rw [cpq_at, if_neg hza], cpq_s, nI_1]
    exact ih
theorem R332 {z a n k j : Nat} (h2 : S z = (101, k)) (h3 : S a = (101, j)) (hza : z ≠ a) (hk : n ≤ k) (hj : n ≤ j) (hk2 : k < 2147483648) (hj2 : j < 2147483648) : xRun xT 332 0 [(0, .ref z), (1, .ref a), (2, .int (nI n))] [] (S, I, J, D, R) b Q = Q (.ok none) (S, I, cpq J z a n, D, R) b := by
  have h := R332_2 (I := I) (J := J) (D := D) (R := R) (b := b) (Q := Q) h2 h3 hza hk hj hk2 hj2 n 0 (by omega)
  rw [cpq_0] at h
  rw [e332_0]
  simp only [B332_0, xSeq, i_push, i_load, i_iload, i_lload, i_dload, i_aload, i_istore, i_astore, i_lstore, i_dstore, i_iinc, i_ii, i_iiz, i_ll, i_llz, i_lli, i_li, i_i, i_l, i_i2l, i_l2i, i_dup, i_dup2, i_dup2w, i_dupx1, i_pop, i_pop2, i_goto, i_ifc, i_icmp, i_getI, i_getL, i_getR, i_putI, i_putZ, i_putL, i_putR, i_aldI, i_aldB, i_aldL, i_aldD, i_astI, i_astL, i_astD, i_alen, i_ret, i_iret, i_zret, i_lret, i_fret, i_dret, i_aret, i_invS0, i_invV0, i_m2, i_m1, i_ml, i_obj, lk, lkp, stf1, stf2, Value.category, rV, xTo, lv_args, xCk, xCat, xRc, xAk, hg_S, hg_I, hg_J, hg_D, hg_R, hs_I, hs_J, hs_D, hs_R, uI_at, uJ_at, uD_at, uR_at, List.take_succ_cons, List.take_zero, List.drop_succ_cons, List.drop_zero, List.reverse_cons, List.reverse_nil, List.nil_append, List.cons_append, List.map_cons, List.map_nil, List.sum_cons, List.sum_nil, List.length_cons, List.length_nil, Option.toList_some, Option.toList_none, true_and, and_true, false_and, and_false, true_implies, false_implies, implies_true, not_true_eq_false, not_false_eq_true, ne_eq, if_true, if_false, Bool.and_true, Bool.true_and, decide_true, decide_false, reduceIte, reduceCtorEq, Bool.and_self, Bool.and_eq_true, decide_eq_true_eq, and_self, true_or, or_true, false_or, or_false, Nat.zero_add, Nat.add_zero, eq_self, Nat.reduceEqDiff, Nat.reduceLeDiff, Nat.reduceLT, Nat.reduceAdd, Nat.reduceSub, Nat.reduceMul]
  exact h
theorem SH_e' {o p : Nat} (h : SH o p S I R) (hk : I' (o + 2) 0 = 0 ∨ R (o + 2) 1 = some (o + 7)) : SH o p S I' R := by
  rcases h with ⟨r1, r2, r3, r4, r5, r6, r7, r8⟩ | r
  · refine Or.inl ⟨r1, r2, r3, r4, r5, r6, ?_, r8⟩
    rcases hk with hk | hk
    · exact hk
    · rw [hk] at r1
      have := Option.some.inj r1
      omega
  · exact Or.inr r
/-- the lab's words with another state, another saved one -/
theorem AC_gen (h : AC g x sv k by' e1 e2 P f S I J R) (hI : ∀ o, o < 200 → kp o → o ≠ 100 → o ≠ 110 → o ≠ 111 → o ≠ 112 → o ≠ 118 → o ≠ 120 → o ≠ 121 → o ≠ 122 → o ≠ 128 → o ≠ 130 → I' o = I o) (h100 : ∀ j, j ≠ 7 → I' 100 j = I 100 j) (h130 : ∀ j, j ≠ 1 → I' 130 j = I 130 j) (hI2 : ∀ o, 402 ≤ o → o < 900000 → I' o = I o) (hJ : J' 102 = J 102)
    (hx : I' 130 1 = 0 ∨ (I' 130 1 = I 130 1 ∧ eG g x' = eG g x)) (hc : CS 110 (gm g) x' I' J') (hs : I' 100 7 = (if sv'.isSome = true then 1 else 0) ∧ ∀ y, sv' = some y → CS 120 (gm g) y I' J') (hk : I' 112 0 = 0 ∨ R 112 1 = some 117) (hk2 : I' 122 0 = 0 ∨ R 122 1 = some 127) : AC g x' sv' k by' e1 e2 P f S I' J' R := by
  obtain ⟨a1, ⟨a2, a3, a4, a5⟩, a6, ⟨a7, a8⟩, ⟨a9, a10, a11, a12⟩, a13, p1, p2, p3, p4, p5, q0, q1, q2, q3, q4, q5⟩ := h
  have i (o : Nat) (h1 : o < 200) (h2 : kp o ∧ o ≠ 100 ∧ o ≠ 110 ∧ o ≠ 111 ∧ o ≠ 112 ∧ o ≠ 118 ∧ o ≠ 120 ∧ o ≠ 121 ∧ o ≠ 122 ∧ o ≠ 128 ∧ o ≠ 130) := hI o h1 h2.1 h2.2.1 h2.2.2.1 h2.2.2.2.1 h2.2.2.2.2.1 h2.2.2.2.2.2.1 h2.2.2.2.2.2.2.1 h2.2.2.2.2.2.2.2.1 h2.2.2.2.2.2.2.2.2.1 h2.2.2.2.2.2.2.2.2.2.1 h2.2.2.2.2.2.2.2.2.2.2
  refine ⟨a1, ⟨?_, ?_, ?_, ?_⟩, hc, hs, ⟨?_, ?_, ?_, ?_⟩, ?_, p1, p2, p3, p4, p5, q0, SH_e' q1 hk, SH_e' q2 hk2, q3, SX_e q4 (fun _ _ => rfl) (fun _ _ => rfl) (fun h1 h2 => ?_), OU_e q5 (fun _ _ => rfl) (fun _ _ _ => rfl) rfl (i 140 (by decide) (by decide)) (i 160 (by decide) (by decide)) hI2⟩
  · exact CL_k a2 (fun o j h1 h2 => by rw [i o (by omega) (by unfold kp; omega)])
  · rw [i 102 (by decide) (by decide)]; exact a3
  · rw [i 102 (by decide) (by decide)]; exact a4
  · rw [hJ]; exact a5
  · rw [h100 1 (by decide)]; exact a9
  · rw [i 101 (by decide) (by decide)]; exact a10
  · rw [h100 2 (by decide)]; exact a11
  · rw [h100 3 (by decide)]; exact a12
  · rcases hx with hx | ⟨hx, he⟩
    · exact Or.inl hx
    · rcases a13 with a13 | a13
      · left; rw [hx]; exact a13
      · right
        rw [he]
        exact XL_e a13 (fun _ _ => rfl) (fun _ _ => rfl) (fun j _ _ => if e : j = 1 then by rw [e]; exact hx else h130 j e) (i 151 (by decide) (by decide)) (i 154 (by decide) (by decide)) (i 155 (by decide) (by decide)) (i 156 (by decide) (by decide))
  · rcases hx with hx | ⟨hx, he⟩
    · exact hx
    · rw [hx]; exact h2
theorem AM_gen (h : AM g x sv k by' e1 e2 S I J R) (hI : ∀ o, kr o → o ≠ 300 → o ≠ 302 → o ≠ 308 → o ≠ 309 → o ≠ 311 → o ≠ 312 → I' o = I o) (hf : ∀ j, kf j → j ≠ 51 → j ≠ 7 → I' 200 j = I 200 j) (hw : ∀ j, j = 0 ∨ j = 1 ∨ j = 8 ∨ j = 10 → I' 300 j = I 300 j)
    (hx : I' 200 51 = 0 ∨ (I' 200 51 = I 200 51 ∧ eG g x' = eG g x)) (hc : MS 300 3 308 (gn g) (gm g) x' I' J') (hs : I' 200 7 = (if sv'.isSome = true then 1 else 0) ∧ ∀ y, sv' = some y → MS 302 5 311 (gn g) (gm g) y I' J' ∧ I' 302 0 = nI g.1 ∧ I' 302 1 = nI g.2.1 ∧ I' 302 8 = nI (gm g) ∧ I' 302 10 = nI (gn g)) : AM g x' sv' k by' e1 e2 S I' J' R := by
  obtain ⟨a1, ⟨a2, a3, a4, a5⟩, a6, ⟨a7, a8⟩, ⟨a9, a10, a11, a12⟩, a13, u, a14, a15⟩ := h
  have i (o : Nat) (h : kr o ∧ o ≠ 300 ∧ o ≠ 302 ∧ o ≠ 308 ∧ o ≠ 309 ∧ o ≠ 311 ∧ o ≠ 312) := hI o h.1 h.2.1 h.2.2.1 h.2.2.2.1 h.2.2.2.2.1 h.2.2.2.2.2.1 h.2.2.2.2.2.2
  refine ⟨a1, ⟨?_, ?_, ?_, ?_⟩, hc, hs, ⟨?_, ?_, ?_, ?_⟩, ?_, u, ?_, a15⟩
  · exact CM_k2 a2 (hw 10 (by decide)) (hw 8 (by decide)) (fun o j h1 h2 => by rw [i o (by unfold kr; omega)])
  · rw [hw 0 (by decide)]; exact a3
  · rw [hw 1 (by decide)]; exact a4
  · rw [hf 18 (by decide) (by decide) (by decide)]; exact a5
  · rw [hf 21 (by decide) (by decide) (by decide)]; exact a9
  · rw [i 320 (by decide)]; exact a10
  · rw [hf 22 (by decide) (by decide) (by decide)]; exact a11
  · rw [hf 23 (by decide) (by decide) (by decide)]; exact a12
  · rcases hx with hx | ⟨hx, he⟩
    · exact Or.inl hx
    · rcases a13 with a13 | a13
      · left; rw [hx]; exact a13
      · right
        rw [he]
        exact XM_e a13 (fun j h1 h2 => if e : j = 51 then by rw [e]; exact hx else hf j (by unfold kf; omega) e (by omega)) (i 346 (by decide)) (i 347 (by decide)) (i 348 (by decide)) (i 343 (by decide))
  · rw [hf 59 (by decide) (by decide) (by decide)]; exact a14
end
