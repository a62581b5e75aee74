/-! ===== bits of ints; the JDK's counting of an int's bits ===== -/
section
theorem i_tb (n : Nat) : (nI n).toBitVec = BitVec.ofNat 32 n := rfl
theorem i_inj {a b : Int32} (h : a.toBitVec = b.toBitVec) : a = b := Int32.toBitVec_inj.mp h
theorem i_xorN (a b : Nat) : nI a ^^^ nI b = nI (a ^^^ b) := by
  apply i_inj
  rw [Int32.toBitVec_xor, i_tb, i_tb, i_tb]
  apply BitVec.eq_of_getLsbD_eq
  intro i hi
  simp [BitVec.getLsbD_ofNat, Nat.testBit_xor, hi]
theorem i_andN (a b : Nat) : nI a &&& nI b = nI (a &&& b) := by
  apply i_inj
  rw [Int32.toBitVec_and, i_tb, i_tb, i_tb]
  apply BitVec.eq_of_getLsbD_eq
  intro i hi
  simp [BitVec.getLsbD_ofNat, Nat.testBit_and, hi]
theorem i_orN (a b : Nat) : nI a ||| nI b = nI (a ||| b) := by
  apply i_inj
  rw [Int32.toBitVec_or, i_tb, i_tb, i_tb]
  apply BitVec.eq_of_getLsbD_eq
  intro i hi
  simp [BitVec.getLsbD_ofNat, Nat.testBit_or, hi]
theorem i_c31 : ∀ k, k < 31 → ((nI k &&& 31).toBitVec.smod 32).toNat = k := by decide +kernel
theorem i_shr {a k : Nat} (ha : a < 2147483648) (hk : k < 31) : jShr (nI a) (nI k) = nI (a / 2 ^ k) := pk_shrN ha _ k (i_c31 k hk)
theorem i_ushr {a : Nat} (ha : a < 2 ^ 32) (s : Int32) (k : Nat) (hs : ((s.toUInt32 &&& Int32.toUInt32 31).toBitVec % 32).toNat = k) : jUshr (nI a) s = nI (a / 2 ^ k) := pk_ushrN ha s k hs
/-- four eighths, folded together -/
theorem fold4 {r0 r1 r2 r3 R1 R2 R3 w : Nat} (h0 : r0 ≤ 8) (h1 : r1 ≤ 8) (h2 : r2 ≤ 8) (h3 : r3 ≤ 8) (e3 : R3 = r3) (e2 : R2 = r2 + 256 * R3) (e1 : R1 = r1 + 256 * R2) (hw : w = r0 + 256 * R1) :
    w / 256 = R1 ∧ (w + R1) / 65536 = R2 + R3 ∧ (w + R1 + (R2 + R3)) % 64 = r0 + r1 + r2 + r3 ∧ w + R1 + (R2 + R3) < 4294967296 := by
  refine ⟨?_, ?_, ?_, ?_⟩ <;> omega
variable {S : xS} {I : xI} {J : xJ} {D : xDb} {R : xR} {b : Nat × Nat} {Q : xQ}
theorem pop32 (x : Nat) : pop 32 x = pe x 0 + pe x 1 + pe x 2 + pe x 3 := by
  have h0 := pop_8 x 0
  have h1 := pop_8 x 1
  have h2 := pop_8 x 2
  have h3 := pop_8 x 3
  simp only [Nat.mul_zero, Nat.zero_add, Nat.mul_one, Nat.reduceMul, Nat.reduceAdd] at h0 h1 h2 h3
  rw [h3, h2, h1, h0, show pop 0 x = 0 from rfl, Nat.zero_add]
theorem Y4 {x : Nat} (hx : x < 2 ^ 32) : xRun xT 4 0 [(0, .int (nI x))] [] (S, I, J, D, R) b Q = Q (.ok (some (.int (nI (pop 32 x))))) (S, I, J, D, R) b := by
  obtain ⟨y, z, ey, ez, ew, by1, by2, bz, bzz⟩ := swar (K := 3) (x := x) (M5 := 1431655765) (M3 := 858993459) (MF := 252645135) hx (by decide +kernel) (by decide +kernel) (by decide +kernel)
  obtain ⟨w, hw⟩ : ∃ w, w = val 256 4 (pe x) := ⟨_, rfl⟩
  have hv : w = pe x 0 + 256 * (pe x 1 + 256 * (pe x 2 + 256 * (pe x 3))) := hw
  obtain ⟨d1, d2, f0, f4⟩ := fold4 (pe_le x 0) (pe_le x 1) (pe_le x 2) (pe_le x 3) rfl rfl rfl hv
  rw [← d2, ← d1] at f0 f4
  rw [← pop32 x] at f0
  have hq : x < 4294967296 := hx
  have b1 : y < 2 ^ 32 := by omega
  have b2 : z < 2 ^ 32 := bz
  have b3 : w < 2 ^ 32 := by omega
  have b4 : w + w / 256 < 2 ^ 32 := by omega
  have k1 : nI x - (jUshr (nI x) 1 &&& 1431655765) = nI y := by
    rw [i_ushr hx 1 1 (by decide), show (1431655765 : Int32) = nI 1431655765 from rfl, i_andN, nI_subn (by rw [Nat.pow_one]; exact by2), ey]
  have k2 : (nI y &&& 858993459) + (jUshr (nI y) 2 &&& 858993459) = nI z := by
    rw [i_ushr b1 2 2 (by decide), show (858993459 : Int32) = nI 858993459 from rfl, i_andN, i_andN, nI_add, ez]
  have k3 : (nI z + jUshr (nI z) 4) &&& 252645135 = nI w := by
    rw [i_ushr b2 4 4 (by decide), show (252645135 : Int32) = nI 252645135 from rfl, nI_add, i_andN, hw, ← ew]
  have k4 : nI w + jUshr (nI w) 8 = nI (w + w / 256) := by
    rw [i_ushr b3 8 8 (by decide), nI_add]
  have k5 : nI (w + w / 256) + jUshr (nI (w + w / 256)) 16 = nI (w + w / 256 + (w + w / 256) / 65536) := by
    rw [i_ushr b4 16 16 (by decide), nI_add]
  have k6 : nI (w + w / 256 + (w + w / 256) / 65536) &&& 63 = nI (pop 32 x) := by
    rw [pk_andN (by omega) 6 (by decide)]
    rw [show (2 : Nat) ^ 6 = 64 from rfl, f0]
  rw [e4_0]
  simp only [B4_0, xSeq, i_push, i_load, i_iload, i_lload, i_dload, i_aload, i_istore, i_astore, i_lstore, i_dstore, i_iinc, i_ii, i_iiz, i_ll, i_llz, i_lli, i_li, i_i, i_l, i_i2l, i_l2i, i_dup, i_dup2, i_dup2w, i_dupx1, i_pop, i_pop2, i_goto, i_ifc, i_icmp, i_getI, i_getL, i_getR, i_putI, i_putZ, i_putL, i_putR, i_aldI, i_aldB, i_aldL, i_aldD, i_astI, i_astL, i_astD, i_alen, i_ret, i_iret, i_zret, i_lret, i_fret, i_dret, i_aret, i_invS0, i_invV0, i_m2, i_m1, i_ml, i_obj, lk, lkp, stf1, stf2, Value.category, rV, xTo, lv_args, xCk, xCat, xRc, xAk, hg_S, hg_I, hg_J, hg_D, hg_R, hs_I, hs_J, hs_D, hs_R, uI_at, uJ_at, uD_at, uR_at, List.take_succ_cons, List.take_zero, List.drop_succ_cons, List.drop_zero, List.reverse_cons, List.reverse_nil, List.nil_append, List.cons_append, List.map_cons, List.map_nil, List.sum_cons, List.sum_nil, List.length_cons, List.length_nil, Option.toList_some, Option.toList_none, true_and, and_true, false_and, and_false, true_implies, false_implies, implies_true, not_true_eq_false, not_false_eq_true, ne_eq, if_true, if_false, Bool.and_true, Bool.true_and, decide_true, decide_false, reduceIte, reduceCtorEq, Bool.and_self, Bool.and_eq_true, decide_eq_true_eq, and_self, true_or, or_true, false_or, or_false, Nat.zero_add, Nat.add_zero, eq_self, Nat.reduceEqDiff, Nat.reduceLeDiff, Nat.reduceLT, Nat.reduceAdd, Nat.reduceSub, Nat.reduceMul, k1, k2, k3, k4, k5, k6]
end
