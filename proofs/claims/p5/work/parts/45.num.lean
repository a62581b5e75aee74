/-! ===== numbers: configurations as natural numbers, small ints ===== -/
section
theorem q_tb (n : Nat) : (lN n).toBitVec = BitVec.ofNat 64 n := rfl
theorem q_inj {a b : Int64} (h : a.toBitVec = b.toBitVec) : a = b := Int64.toBitVec_inj.mp h
theorem q_tn {n : Nat} (h : n < 2 ^ 64) : (lN n).toBitVec.toNat = n := by rw [q_tb, BitVec.toNat_ofNat, Nat.mod_eq_of_lt h]
theorem q_of (x : Int64) : ∃ n, n < 2 ^ 64 ∧ x = lN n := ⟨x.toBitVec.toNat, x.toBitVec.isLt, q_inj (by rw [q_tb]; simp)⟩
theorem q_c : ∀ k, k < 64 → ((nI k).toInt64 &&& 63) = lN k := by decide +kernel
theorem q_cu : ∀ k, k < 64 → ((nI k).toInt64.toUInt64 &&& Int64.toUInt64 63) = UInt64.ofNat k := by decide +kernel
theorem q_sm : ∀ k, k < 64 → (BitVec.ofNat 64 k).smod 64 = BitVec.ofNat 64 k := by decide +kernel
theorem q_ushr {n k : Nat} (hn : n < 2 ^ 64) (hk : k < 64) : jLushr (lN n) (nI k) = lN (n / 2 ^ k) := by
  unfold jLushr
  rw [q_cu k hk]
  apply q_inj
  apply BitVec.eq_of_toNat_eq
  show ((lN n).toUInt64 >>> UInt64.ofNat k).toNat = (BitVec.ofNat 64 _).toNat
  have h1 : (UInt64.ofNat k).toNat = k := by
    show (BitVec.ofNat 64 k).toNat = k
    rw [BitVec.toNat_ofNat, Nat.mod_eq_of_lt (by omega)]
  have h2 : (lN n).toUInt64.toNat = n := q_tn hn
  rw [UInt64.toNat_shiftRight, h1, h2, Nat.mod_eq_of_lt hk, Nat.shiftRight_eq_div_pow, BitVec.toNat_ofNat, Nat.mod_eq_of_lt (Nat.lt_of_le_of_lt (Nat.div_le_self _ _) hn)]
theorem q_shl (n : Nat) {k : Nat} (hk : k < 64) : jLshl (lN n) (nI k) = lN (n * 2 ^ k) := by
  unfold jLshl
  rw [q_c k hk]
  apply q_inj
  rw [Int64.toBitVec_shiftLeft, q_tb, q_tb, q_tb, q_sm k hk]
  apply BitVec.eq_of_toNat_eq
  rw [BitVec.shiftLeft_eq', BitVec.toNat_shiftLeft, BitVec.toNat_ofNat, BitVec.toNat_ofNat, BitVec.toNat_ofNat, Nat.mod_eq_of_lt (show k < 2 ^ 64 by omega), Nat.shiftLeft_eq, Nat.mul_mod, Nat.mod_mod, ← Nat.mul_mod]
theorem q_and {a b : Nat} (ha : a < 2 ^ 64) (hb : b < 2 ^ 64) : lN a &&& lN b = lN (a &&& b) := by
  apply q_inj
  rw [Int64.toBitVec_and, q_tb, q_tb, q_tb]
  apply BitVec.eq_of_toNat_eq
  rw [BitVec.toNat_and, BitVec.toNat_ofNat, BitVec.toNat_ofNat, BitVec.toNat_ofNat, Nat.mod_eq_of_lt ha, Nat.mod_eq_of_lt hb, Nat.mod_eq_of_lt (Nat.and_lt_two_pow _ hb)]
theorem q_or {a b : Nat} (ha : a < 2 ^ 64) (hb : b < 2 ^ 64) : lN a ||| lN b = lN (a ||| b) := by
  apply q_inj
  rw [Int64.toBitVec_or, q_tb, q_tb, q_tb]
  apply BitVec.eq_of_toNat_eq
  rw [BitVec.toNat_or, BitVec.toNat_ofNat, BitVec.toNat_ofNat, BitVec.toNat_ofNat, Nat.mod_eq_of_lt ha, Nat.mod_eq_of_lt hb, Nat.mod_eq_of_lt (Nat.or_lt_two_pow ha hb)]
theorem q_xor (a b : Nat) : lN a ^^^ lN b = lN (a ^^^ b) := by
  apply q_inj
  rw [Int64.toBitVec_xor, q_tb, q_tb, q_tb]
  apply BitVec.eq_of_getLsbD_eq
  intro i hi
  simp [BitVec.getLsbD_ofNat, Nat.testBit_xor, hi]
theorem q_a1 {n : Nat} (hn : n < 2 ^ 64) : lN n &&& 1 = lN (n % 2) := by
  rw [show (1 : Int64) = lN 1 from rfl, q_and hn (by decide)]
  rw [Nat.and_one_is_mod]
/-- a bit, as a long -/
def bL (p : Prop) [Decidable p] : Int64 := if p then 1 else 0
theorem q_bit {n k : Nat} (hn : n < 2 ^ 64) (hk : k < 64) : jLushr (lN n) (nI k) &&& 1 = bL (n.testBit k = true) := by
  rw [q_ushr hn hk, q_a1 (Nat.lt_of_le_of_lt (Nat.div_le_self _ _) hn)]
  unfold bL
  rw [Nat.testBit_eq_decide_div_mod_eq]
  rcases Nat.mod_two_eq_zero_or_one (n / 2 ^ k) with e | e <;> rw [e] <;> simp <;> rfl
theorem q_bitx {n i j : Nat} (hn : n < 2 ^ 64) (hi : i < 64) (hj : j < 64) : (jLushr (lN n) (nI i) ^^^ jLushr (lN n) (nI j)) &&& 1 = bL (¬ n.testBit i = n.testBit j) := by
  rw [q_ushr hn hi, q_ushr hn hj, q_xor, q_a1 (Nat.xor_lt_two_pow (Nat.lt_of_le_of_lt (Nat.div_le_self _ _) hn) (Nat.lt_of_le_of_lt (Nat.div_le_self _ _) hn))]
  unfold bL
  have e : (n / 2 ^ i ^^^ n / 2 ^ j) % 2 = (n / 2 ^ i % 2) ^^^ (n / 2 ^ j % 2) := by
    have := Nat.xor_mod_two_pow (a := n / 2 ^ i) (b := n / 2 ^ j) (n := 1)
    simpa using this
  rw [Nat.testBit_eq_decide_div_mod_eq, Nat.testBit_eq_decide_div_mod_eq, e]
  rcases Nat.mod_two_eq_zero_or_one (n / 2 ^ i) with e1 | e1 <;> rcases Nat.mod_two_eq_zero_or_one (n / 2 ^ j) with e2 | e2 <;> rw [e1, e2] <;> simp <;> rfl
theorem q_bits {n k : Nat} (hn : n < 2 ^ 64) (hk : k < 64) : jLshr (lN n) (nI k) &&& 1 = bL (n.testBit k = true) := by
  unfold jLshr bL
  rw [q_c k hk]
  apply q_inj
  rw [Int64.toBitVec_and, Int64.toBitVec_shiftRight, q_tb, q_tb, q_sm k hk]
  apply BitVec.eq_of_getLsbD_eq
  intro i hi
  rw [BitVec.getLsbD_and, BitVec.sshiftRight_eq', BitVec.getLsbD_sshiftRight, BitVec.toNat_ofNat, Nat.mod_eq_of_lt (show k < 2 ^ 64 by omega)]
  by_cases h0 : i = 0
  · subst h0
    have e : (BitVec.ofNat 64 n).getLsbD (k + 0) = n.testBit k := by
      rw [Nat.add_zero, BitVec.getLsbD_ofNat, decide_eq_true hk, Bool.true_and]
    rw [if_pos (show k + 0 < 64 by omega), e, decide_eq_false (show ¬ 64 ≤ 0 by decide)]
    cases n.testBit k <;> rfl
  · have : (Int64.toBitVec 1).getLsbD i = false := by
      show (1#64).getLsbD i = false
      simp [BitVec.getLsbD_one, h0]
    rw [this, Bool.and_false]
    split
    · exact this.symm
    · show false = (0#64).getLsbD i
      simp
theorem q_cmp1 {p : Prop} [Decidable p] : (lg_cmp (bL p) 1 = 0) = p := by
  unfold bL
  by_cases h : p <;> simp [h] <;> decide
theorem q_cmp0 {p : Prop} [Decidable p] : (lg_cmp (bL p) 0 = 0) = ¬ p := by
  unfold bL
  by_cases h : p <;> simp [h] <;> decide
/-- a spin -/
def sg (b : Bool) : Int32 := if b = true then 1 else -1
/-- strength times both spins -/
def pr (st : Int32) (a b : Bool) : Int32 := if a = b then st else -st
theorem pr_sg (st : Int32) (a b : Bool) : st * sg a * sg b = pr st a b := by
  cases a <;> cases b <;> simp [sg, pr, Int32.mul_neg, Int32.neg_mul, Int32.mul_one, Int32.neg_neg]
def sm (f : Nat → Int32) : Nat → Int32
  | 0 => 0
  | n + 1 => sm f n + f n
theorem sm_congr {f g : Nat → Int32} : ∀ {n : Nat}, (∀ k, k < n → f k = g k) → sm f n = sm g n
  | 0, _ => rfl
  | n + 1, h => by rw [sm, sm, sm_congr (fun k hk => h k (Nat.lt_succ_of_lt hk)), h n (Nat.lt_succ_self n)]
theorem sm_neg (f : Nat → Int32) : ∀ n, sm (fun k => - f k) n = - sm f n
  | 0 => by simp [sm]
  | n + 1 => by
    rw [sm, sm, sm_neg f n]
    grind
/-- the generator -/
def nx (g : Nat) : Nat := (g * 1103515245 + 12345) % 2147483648
theorem nx_lt (g : Nat) : nx g < 2147483648 := Nat.mod_lt _ (by decide)
theorem q_nx (g : Nat) (h : g < 2147483648) : (lN g * 1103515245 + 12345) &&& 2147483647 = lN (nx g) := by
  rw [show (1103515245 : Int64) = lN 1103515245 from rfl, show (12345 : Int64) = lN 12345 from rfl, show (2147483647 : Int64) = lN 2147483647 from rfl, lN_mul, lN_add, q_and (by omega) (by decide)]
  rw [show (2147483647 : Nat) = 2 ^ 31 - 1 from rfl, Nat.and_two_pow_sub_one_eq_mod]
  rfl
theorem q_nxr (g : Nat) (h : g < 2147483648) : jLrem (lN g * 1103515245 + 12345) 2147483648 = lN (nx g) := by
  unfold jLrem
  rw [show (1103515245 : Int64) = lN 1103515245 from rfl, show (12345 : Int64) = lN 12345 from rfl, show (2147483648 : Int64) = lN 2147483648 from rfl, lN_mul, lN_add]
  exact pk_lRem (by omega) (by decide) (by decide)
theorem q_s16 {g : Nat} (h : g < 2147483648) : (jLushr (lN g) 16).toInt32 = nI (g / 65536) := by
  rw [show (16 : Int32) = nI 16 from rfl, q_ushr (by omega) (by decide), lN_i]
theorem q_d16 {g : Nat} (h : g < 2147483648) : lN g / 65536 = lN (g / 65536) := by
  rw [show (65536 : Int64) = lN 65536 from rfl]
  exact pk_lDiv (by omega) (by decide) (by decide)
theorem q_rem {a n : Nat} (ha : a < 2 ^ 31) (h0 : 0 < n) (hn : n < 2 ^ 31) : jRem (nI a) (nI n) = nI (a % n) := pk_rem ha h0 hn
theorem q_remL {a n : Nat} (ha : a < 2 ^ 31) (h0 : 0 < n) (hn : n < 2 ^ 31) : (jLrem (lN a) (nI n).toInt64).toInt32 = nI (a % n) := by
  unfold jLrem
  rw [nI_l hn, pk_lRem (by omega) h0 (by omega), lN_i]
/-- a number drawn below n -/
def dw (g n : Nat) : Nat := nx g / 65536 % n
theorem dw_lt (g : Nat) {n : Nat} (h : 0 < n) : dw g n < n := Nat.mod_lt _ h
/-- draws to be passed: did they, the generator then -/
def pd (a b : Nat) : Nat → Nat → Bool × Nat
  | 0, g => (true, g)
  | k + 1, g => if dw g b < a then pd a b k (nx g) else (false, nx g)
theorem pd_lt (a b : Nat) : ∀ k g, g < 2147483648 → (pd a b k g).2 < 2147483648
  | 0, _, h => h
  | k + 1, g, _ => by
    unfold pd
    split
    · exact pd_lt a b k _ (nx_lt g)
    · exact nx_lt g
theorem nI_iff {a b : Nat} (ha : a < 2147483648) (hb : b < 2147483648) : (nI a = nI b) = (a = b) := propext (nI_eq ha hb)
theorem nI_leP {a b : Nat} (ha : a < 2147483648) (hb : b < 2147483648) : (nI a ≤ nI b) = (a ≤ b) := propext (nI_leI ha hb)
theorem nI_ltP {a b : Nat} (ha : a < 2147483648) (hb : b < 2147483648) : (nI a < nI b) = (a < b) := propext (nI_ltI ha hb)
theorem nI_inP {k n : Nat} (h : k < n) (hn : n < 2147483648) : xIn (nI k) n = True := eq_true (vp_in_nI h hn)
theorem nI_ix {k : Nat} (h : k < 2147483648) : ix (nI k) = k := nI_clamp h
theorem nI_0P {k : Nat} (h : k < 2147483648) : (nI k < 0) = False := eq_false (nI_pos h)
end
