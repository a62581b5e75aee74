/-! ===== saved and restored: printed by a26.save.py ===== -/
section
variable {g : xGd} {x x' y : xSt} {sv sv' : Option xSt} {k : Nat} {by' : Nat → Nat} {e1 e2 : Int32} {z : xA} {N P f : Nat} {S : xS} {I I' : xI} {J J' : xJ} {D : xDb} {R : xR} {b : Nat × Nat} {Q : xQ} {n m K : Nat}
def cpq (J : xJ) (z a i : Nat) : xJ := fun o k => if o = a then (if k < i then J z k else J a k) else J o k
theorem cpq_at (J : xJ) (z a i o k : Nat) : cpq J z a i o k = if o = a then (if k < i then J z k else J a k) else J o k := rfl
theorem cpq_0 (J : xJ) (z a : Nat) : cpq J z a 0 = J := by
  funext o k
  rw [cpq_at]
  by_cases e : o = a
  · rw [if_pos e, if_neg (Nat.not_lt_zero k), e]
  · rw [if_neg e]
theorem cpq_s (J : xJ) (z a i : Nat) : uJ (cpq J z a i) a i (J z i) = cpq J z a (i + 1) := by
  funext o k
  rw [uJ_at, cpq_at, cpq_at]
  by_cases e : o = a
  · by_cases f : k = i
    · rw [if_pos ⟨e, f⟩, if_pos e, if_pos (by omega), f]
    · rw [if_neg (fun h => f h.2), if_pos e, if_pos e]
      by_cases g : k < i
      · rw [if_pos g, if_pos (by omega)]
      · rw [if_neg g, if_neg (by omega)]
  · rw [if_neg (fun h => e h.1), if_neg e, if_neg e]
theorem hs_cpL (z a l : Nat) : cpL (S, I, J, D, R) z a 0 0 l = (S, I, cpq J z a l, D, R) := by
  have : (fun o k => if o = a ∧ 0 ≤ k ∧ k < 0 + l then J z (0 + (k - 0)) else J o k) = cpq J z a l := by
    funext o k
    rw [cpq_at]
    by_cases e : o = a
    · by_cases f : k < l
      · rw [if_pos ⟨e, Nat.zero_le k, by omega⟩, if_pos e, if_pos f, Nat.zero_add, Nat.sub_zero]
      · rw [if_neg (fun h => f (by omega)), if_pos e, if_neg f, e]
    · rw [if_neg (fun h => e h.1), if_neg e]
  rw [← this]
  rfl
theorem w_copyL {P : xP} {K : xK} {l : xL} {st : List Value} {z a n k j : Nat} (h1 : xCat st ≤ 8) (h2 : S z = (101, k)) (h3 : S a = (101, j)) (hk : n ≤ k) (hj : n ≤ j) (hn : n < 2147483648) (hK : K l st (S, I, cpq J z a n, D, R) b) : i_copy 101 P Q K l (.int (nI n) :: .int 0 :: .ref a :: .int 0 :: .ref z :: st) (S, I, J, D, R) b := by
  refine ⟨h1, ?_, ?_, by decide, by decide, nI_pos hn, ?_, ?_, fun i _ => rfl, ?_⟩
  · rw [hg_S, h2]
  · rw [hg_S, h3]
  · rw [hg_S, h2, nI_ix hn, ix_0, Nat.zero_add]; exact hk
  · rw [hg_S, h3, nI_ix hn, ix_0, Nat.zero_add]; exact hj
  · rw [if_pos rfl, nI_ix hn, ix_0, hs_cpL]; exact hK
theorem R332_2 {z a n k j : Nat} (h2 : S z = (101, k)) (h3 : S a = (101, j)) (hza : z ≠ a) (hk : n ≤ k) (hj : n ≤ j) (hk2 : k < 2147483648) (hj2 : j < 2147483648) : ∀ (u i : Nat), i + u = n → xRun xT 332 2 [(0, .ref z), (1, .ref a), (2, .int (nI n)), (3, .int (nI i))] [] (S, I, cpq J z a i, D, R) b Q = Q (.ok none) (S, I, cpq J z a n, D, R) b
  | 0, i, hi => by
    have e : i = n := by omega
    subst e
    rw [e332_2]
    simp only [B332_2, xSeq, i_push, i_load, i_iload, i_lload, i_dload, i_aload, i_istore, i_astore, i_lstore, i_dstore, i_iinc, i_ii, i_iiz, i_ll, i_llz, i_lli, i_li, i_i, i_l, i_i2l, i_l2i, i_dup, i_dup2, i_dup2w, i_dupx1, i_pop, i_pop2, i_goto, i_ifc, i_icmp, i_getI, i_getL, i_getR, i_putI, i_putZ, i_putL, i_putR, i_aldI, i_aldB, i_aldL, i_aldD, i_astI, i_astL, i_astD, i_alen, i_ret, i_iret, i_zret, i_lret, i_fret, i_dret, i_aret, i_invS0, i_invV0, i_m2, i_m1, i_ml, i_obj, lk, lkp, stf1, stf2, Value.category, rV, xTo, lv_args, xCk, xCat, xRc, xAk, hg_S, hg_I, hg_J, hg_D, hg_R, hs_I, hs_J, hs_D, hs_R, uI_at, uJ_at, uD_at, uR_at, List.take_succ_cons, List.take_zero, List.drop_succ_cons, List.drop_zero, List.reverse_cons, List.reverse_nil, List.nil_append, List.cons_append, List.map_cons, List.map_nil, List.sum_cons, List.sum_nil, List.length_cons, List.length_nil, Option.toList_some, Option.toList_none, true_and, and_true, false_and, and_false, true_implies, false_implies, implies_true, not_true_eq_false, not_false_eq_true, ne_eq, if_true, if_false, Bool.and_true, Bool.true_and, decide_true, decide_false, reduceIte, reduceCtorEq, Bool.and_self, Bool.and_eq_true, decide_eq_true_eq, and_self, true_or, or_true, false_or, or_false, Nat.zero_add, Nat.add_zero, eq_self, Nat.reduceEqDiff, Nat.reduceLeDiff, Nat.reduceLT, Nat.reduceAdd, Nat.reduceSub, Nat.reduceMul, nI_leP (show i < 2147483648 by omega) (show i < 2147483648 by omega), Nat.le_refl, e332_19, B332_19]
  | u + 1, i, hi => by
    have ih := R332_2 h2 h3 hza hk hj hk2 hj2 u (i + 1) (by omega)
    rw [e332_2]
    simp only [B332_2, xSeq, i_push, i_load, i_iload, i_lload, i_dload, i_aload, i_istore, i_astore, i_lstore, i_dstore, i_iinc, i_ii, i_iiz, i_ll, i_llz, i_lli, i_li, i_i, i_l, i_i2l, i_l2i, i_dup, i_dup2, i_dup2w, i_dupx1, i_pop, i_pop2, i_goto, i_ifc, i_icmp, i_getI, i_getL, i_getR, i_putI, i_putZ, i_putL, i_putR, i_aldI, i_aldB, i_aldL, i_aldD, i_astI, i_astL, i_astD, i_alen, i_ret, i_iret, i_zret, i_lret, i_fret, i_dret, i_aret, i_invS0, i_invV0, i_m2, i_m1, i_ml, i_obj, lk, lkp, stf1, stf2, Value.category, rV, xTo, lv_args, xCk, xCat, xRc, xAk, hg_S, hg_I, hg_J, hg_D, hg_R, hs_I, hs_J, hs_D, hs_R, uI_at, uJ_at, uD_at, uR_at, List.take_succ_cons, List.take_zero, List.drop_succ_cons, List.drop_zero, List.reverse_cons, List.reverse_nil, List.nil_append, List.cons_append, List.map_cons, List.map_nil, List.sum_cons, List.sum_nil, List.length_cons, List.length_nil, Option.toList_some, Option.toList_none, true_and, and_true, false_and, and_false, true_implies, false_implies, implies_true, not_true_eq_false, not_false_eq_true, ne_eq, if_true, if_false, Bool.and_true, Bool.true_and, decide_true, decide_false, reduceIte, reduceCtorEq, Bool.and_self, Bool.and_eq_true, decide_eq_true_eq, and_self, true_or, or_true, false_or, or_false, Nat.zero_add, Nat.add_zero, eq_self, Nat.reduceEqDiff, Nat.reduceLeDiff, Nat.reduceLT, Nat.reduceAdd, Nat.reduceSub, Nat.reduceMul, h2, h3, nI_leP (show n < 2147483648 by omega) (show i < 2147483648 by omega), show (n ≤ i) = False from eq_false (by omega), nI_inP (show i < k by omega) hk2, nI_inP (show i < j by omega) hj2, nI_ix (show i < 2147483648 by omega), show cpq J z a i z i = J z i from by rw [cpq_at, if_neg hza], cpq_s, nI_1]
    exact ih
theorem R332 {z a n k j : Nat} (h2 : S z = (101, k)) (h3 : S a = (101, j)) (hza : z ≠ a) (hk : n ≤ k) (hj : n ≤ j) (hk2 : k < 2147483648) (hj2 : j < 2147483648) : xRun xT 332 0 [(0, .ref z), (1, .ref a), (2, .int (nI n))] [] (S, I, J, D, R) b Q = Q (.ok none) (S, I, cpq J z a n, D, R) b := by
  have h := R332_2 (I := I) (J := J) (D := D) (R := R) (b := b) (Q := Q) h2 h3 hza hk hj hk2 hj2 n 0 (by omega)
  rw [cpq_0] at h
  rw [e332_0]
  simp only [B332_0, xSeq, i_push, i_load, i_iload, i_lload, i_dload, i_aload, i_istore, i_astore, i_lstore, i_dstore, i_iinc, i_ii, i_iiz, i_ll, i_llz, i_lli, i_li, i_i, i_l, i_i2l, i_l2i, i_dup, i_dup2, i_dup2w, i_dupx1, i_pop, i_pop2, i_goto, i_ifc, i_icmp, i_getI, i_getL, i_getR, i_putI, i_putZ, i_putL, i_putR, i_aldI, i_aldB, i_aldL, i_aldD, i_astI, i_astL, i_astD, i_alen, i_ret, i_iret, i_zret, i_lret, i_fret, i_dret, i_aret, i_invS0, i_invV0, i_m2, i_m1, i_ml, i_obj, lk, lkp, stf1, stf2, Value.category, rV, xTo, lv_args, xCk, xCat, xRc, xAk, hg_S, hg_I, hg_J, hg_D, hg_R, hs_I, hs_J, hs_D, hs_R, uI_at, uJ_at, uD_at, uR_at, List.take_succ_cons, List.take_zero, List.drop_succ_cons, List.drop_zero, List.reverse_cons, List.reverse_nil, List.nil_append, List.cons_append, List.map_cons, List.map_nil, List.sum_cons, List.sum_nil, List.length_cons, List.length_nil, Option.toList_some, Option.toList_none, true_and, and_true, false_and, and_false, true_implies, false_implies, implies_true, not_true_eq_false, not_false_eq_true, ne_eq, if_true, if_false, Bool.and_true, Bool.true_and, decide_true, decide_false, reduceIte, reduceCtorEq, Bool.and_self, Bool.and_eq_true, decide_eq_true_eq, and_self, true_or, or_true, false_or, or_false, Nat.zero_add, Nat.add_zero, eq_self, Nat.reduceEqDiff, Nat.reduceLeDiff, Nat.reduceLT, Nat.reduceAdd, Nat.reduceSub, Nat.reduceMul]
  exact h
theorem SH_e' {o p : Nat} (h : SH o p S I R) (hk : I' (o + 2) 0 = 0 ∨ R (o + 2) 1 = some (o + 7)) : SH o p S I' R := by
  rcases h with ⟨r1, r2, r3, r4, r5, r6, r7, r8⟩ | r
  · refine Or.inl ⟨r1, r2, r3, r4, r5, r6, ?_, r8⟩
    rcases hk with hk | hk
    · exact hk
    · rw [hk] at r1
      have := Option.some.inj r1
      omega
  · exact Or.inr r
/-- the lab's words with another state, another saved one -/
theorem AC_gen (h : AC g x sv k by' e1 e2 P f S I J R) (hI : ∀ o, o < 200 → kp o → o ≠ 100 → o ≠ 110 → o ≠ 111 → o ≠ 112 → o ≠ 118 → o ≠ 120 → o ≠ 121 → o ≠ 122 → o ≠ 128 → o ≠ 130 → I' o = I o) (h100 : ∀ j, j ≠ 7 → I' 100 j = I 100 j) (h130 : ∀ j, j ≠ 1 → I' 130 j = I 130 j) (hI2 : ∀ o, 402 ≤ o → o < 900000 → I' o = I o) (hJ : J' 102 = J 102)
    (hx : I' 130 1 = 0 ∨ (I' 130 1 = I 130 1 ∧ eG g x' = eG g x)) (hc : CS 110 (gm g) x' I' J') (hs : I' 100 7 = (if sv'.isSome = true then 1 else 0) ∧ ∀ y, sv' = some y → CS 120 (gm g) y I' J') (hk : I' 112 0 = 0 ∨ R 112 1 = some 117) (hk2 : I' 122 0 = 0 ∨ R 122 1 = some 127) : AC g x' sv' k by' e1 e2 P f S I' J' R := by
  obtain ⟨a1, ⟨a2, a3, a4, a5⟩, a6, ⟨a7, a8⟩, ⟨a9, a10, a11, a12⟩, a13, p1, p2, p3, p4, p5, q0, q1, q2, q3, q4, q5⟩ := h
  have i (o : Nat) (h1 : o < 200) (h2 : kp o ∧ o ≠ 100 ∧ o ≠ 110 ∧ o ≠ 111 ∧ o ≠ 112 ∧ o ≠ 118 ∧ o ≠ 120 ∧ o ≠ 121 ∧ o ≠ 122 ∧ o ≠ 128 ∧ o ≠ 130) := hI o h1 h2.1 h2.2.1 h2.2.2.1 h2.2.2.2.1 h2.2.2.2.2.1 h2.2.2.2.2.2.1 h2.2.2.2.2.2.2.1 h2.2.2.2.2.2.2.2.1 h2.2.2.2.2.2.2.2.2.1 h2.2.2.2.2.2.2.2.2.2.1 h2.2.2.2.2.2.2.2.2.2.2
  refine ⟨a1, ⟨?_, ?_, ?_, ?_⟩, hc, hs, ⟨?_, ?_, ?_, ?_⟩, ?_, p1, p2, p3, p4, p5, q0, SH_e' q1 hk, SH_e' q2 hk2, q3, SX_e q4 (fun _ _ => rfl) (fun _ _ => rfl) (fun h1 h2 => ?_), OU_e q5 (fun _ _ => rfl) (fun _ _ _ => rfl) rfl (i 140 (by decide) (by decide)) (i 160 (by decide) (by decide)) hI2⟩
  · exact CL_k a2 (fun o j h1 h2 => by rw [i o (by omega) (by unfold kp; omega)])
  · rw [i 102 (by decide) (by decide)]; exact a3
  · rw [i 102 (by decide) (by decide)]; exact a4
  · rw [hJ]; exact a5
  · rw [h100 1 (by decide)]; exact a9
  · rw [i 101 (by decide) (by decide)]; exact a10
  · rw [h100 2 (by decide)]; exact a11
  · rw [h100 3 (by decide)]; exact a12
  · rcases hx with hx | ⟨hx, he⟩
    · exact Or.inl hx
    · rcases a13 with a13 | a13
      · left; rw [hx]; exact a13
      · right
        rw [he]
        exact XL_e a13 (fun _ _ => rfl) (fun _ _ => rfl) (fun j _ _ => if e : j = 1 then by rw [e]; exact hx else h130 j e) (i 151 (by decide) (by decide)) (i 154 (by decide) (by decide)) (i 155 (by decide) (by decide)) (i 156 (by decide) (by decide))
  · rcases hx with hx | ⟨hx, he⟩
    · exact hx
    · rw [hx]; exact h2
theorem AM_gen (h : AM g x sv k by' e1 e2 S I J R) (hI : ∀ o, kr o → o ≠ 300 → o ≠ 302 → o ≠ 308 → o ≠ 309 → o ≠ 311 → o ≠ 312 → I' o = I o) (hf : ∀ j, kf j → j ≠ 51 → j ≠ 7 → I' 200 j = I 200 j) (hw : ∀ j, j = 0 ∨ j = 1 ∨ j = 8 ∨ j = 10 → I' 300 j = I 300 j)
    (hx : I' 200 51 = 0 ∨ (I' 200 51 = I 200 51 ∧ eG g x' = eG g x)) (hc : MS 300 3 308 (gn g) (gm g) x' I' J') (hs : I' 200 7 = (if sv'.isSome = true then 1 else 0) ∧ ∀ y, sv' = some y → MS 302 5 311 (gn g) (gm g) y I' J' ∧ I' 302 0 = nI g.1 ∧ I' 302 1 = nI g.2.1 ∧ I' 302 8 = nI (gm g) ∧ I' 302 10 = nI (gn g)) : AM g x' sv' k by' e1 e2 S I' J' R := by
  obtain ⟨a1, ⟨a2, a3, a4, a5⟩, a6, ⟨a7, a8⟩, ⟨a9, a10, a11, a12⟩, a13, u, a14, a15⟩ := h
  have i (o : Nat) (h : kr o ∧ o ≠ 300 ∧ o ≠ 302 ∧ o ≠ 308 ∧ o ≠ 309 ∧ o ≠ 311 ∧ o ≠ 312) := hI o h.1 h.2.1 h.2.2.1 h.2.2.2.1 h.2.2.2.2.1 h.2.2.2.2.2.1 h.2.2.2.2.2.2
  refine ⟨a1, ⟨?_, ?_, ?_, ?_⟩, hc, hs, ⟨?_, ?_, ?_, ?_⟩, ?_, u, ?_, a15⟩
  · exact CM_k2 a2 (hw 10 (by decide)) (hw 8 (by decide)) (fun o j h1 h2 => by rw [i o (by unfold kr; omega)])
  · rw [hw 0 (by decide)]; exact a3
  · rw [hw 1 (by decide)]; exact a4
  · rw [hf 18 (by decide) (by decide) (by decide)]; exact a5
  · rw [hf 21 (by decide) (by decide) (by decide)]; exact a9
  · rw [i 320 (by decide)]; exact a10
  · rw [hf 22 (by decide) (by decide) (by decide)]; exact a11
  · rw [hf 23 (by decide) (by decide) (by decide)]; exact a12
  · rcases hx with hx | ⟨hx, he⟩
    · exact Or.inl hx
    · rcases a13 with a13 | a13
      · left; rw [hx]; exact a13
      · right
        rw [he]
        exact XM_e a13 (fun j h1 h2 => if e : j = 51 then by rw [e]; exact hx else hf j (by unfold kf; omega) e (by omega)) (i 346 (by decide)) (i 347 (by decide)) (i 348 (by decide)) (i 343 (by decide))
  · rw [hf 59 (by decide) (by decide) (by decide)]; exact a14
end
