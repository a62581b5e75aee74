/-! ===== numbers: configurations as natural numbers, small ints ===== -/
section
theorem q_tb (n : Nat) : (lN n).toBitVec = BitVec.ofNat 64 n := rfl
theorem q_inj {a b : Int64} (h : a.toBitVec = b.toBitVec) : a = b := Int64.toBitVec_inj.mp h
theorem q_tn {n : Nat} (h : n < 2 ^ 64) : (lN n).toBitVec.toNat = n := by rw [q_tb, BitVec.toNat_ofNat, Nat.mod_eq_of_lt h]
theorem q_of (x : Int64) : ∃ n, n < 2 ^ 64 ∧ x = lN n := ⟨x.toBitVec.toNat, x.toBitVec.isLt, q_inj (by rw [q_tb]; simp)⟩
theorem q_c : ∀ k, k < 64 → ((nI k).toInt64 &&& 63) = lN k := by decide +kernel
theorem q_cu : ∀ k, k < 64 → ((nI k).toInt64.toUInt64 &&& Int64.toUInt64 63) = UInt64.ofNat k := by decide +kernel
theorem q_sm : ∀ k, k < 64 → (BitVec.ofNat 64 k).smod 64 = BitVec.ofNat 64 k := by decide +kernel
theorem q_ushr {n k : Nat} (hn : n < 2 ^ 64) (hk : k < 64) : jLushr (lN n) (nI k) = lN (n / 2 ^ k) := by
  unfold jLushr
  rw [q_cu k hk]
  apply q_inj
  apply BitVec.eq_of_toNat_eq
  show ((lN n).toUInt64 >>> UInt64.ofNat k).toNat = (BitVec.ofNat 64 _).toNat
  have h1 : (UInt64.ofNat k).toNat = k := by
    show (BitVec.ofNat 64 k).toNat = k
    rw [BitVec.toNat_ofNat, Nat.mod_eq_of_lt (by omega)]
  have h2 : (lN n).toUInt64.toNat = n := q_tn hn
  rw [UInt64.toNat_shiftRight, h1, h2, Nat.mod_eq_of_lt hk, Nat.shiftRight_eq_div_pow, BitVec.toNat_ofNat, Nat.mod_eq_of_lt (Nat.lt_of_le_of_lt (Nat.div_le_self _ _) hn)]
theorem q_shl (n : Nat) {k : Nat} (hk : k < 64) : jLshl (lN n) (nI k) = lN (n * 2 ^ k) := by
  unfold jLshl
  rw [q_c k hk]
  apply q_inj
  rw [Int64.toBitVec_shiftLeft, q_tb, q_tb, q_tb, q_sm k hk]
  apply BitVec.eq_of_toNat_eq
  rw [BitVec.shiftLeft_eq', BitVec.toNat_shiftLeft, BitVec.toNat_ofNat, BitVec.toNat_ofNat, BitVec.toNat_ofNat, Nat.mod_eq_of_lt (show k < 2 ^ 64 by omega), Nat.shiftLeft_eq, Nat.mul_mod, Nat.mod_mod, ← Nat.mul_mod]
theorem q_and {a b : Nat} (ha : a < 2 ^ 64) (hb : b < 2 ^ 64) : lN a &&& lN b = lN (a &&& b) := by
  apply q_inj
  rw [Int64.toBitVec_and, q_tb, q_tb, q_tb]
  apply BitVec.eq_of_toNat_eq
  rw [BitVec.toNat_and, BitVec.toNat_ofNat, BitVec.toNat_ofNat, BitVec.toNat_ofNat, Nat.mod_eq_of_lt ha, Nat.mod_eq_of_lt hb, Nat.mod_eq_of_lt (Nat.and_lt_two_pow _ hb)]
theorem q_or {a b : Nat} (ha : a < 2 ^ 64) (hb : b < 2 ^ 64) : lN a ||| lN b = lN (a ||| b) := by
  apply q_inj
  rw [Int64.toBitVec_or, q_tb, q_tb, q_tb]
  apply BitVec.eq_of_toNat_eq
  rw [BitVec.toNat_or, BitVec.toNat_ofNat, BitVec.toNat_ofNat, BitVec.toNat_ofNat, Nat.mod_eq_of_lt ha, Nat.mod_eq_of_lt hb, Nat.mod_eq_of_lt (Nat.or_lt_two_pow ha hb)]
theorem q_xor (a b : Nat) : lN a ^^^ lN b = lN (a ^^^ b) := by
  apply q_inj
  rw [Int64.toBitVec_xor, q_tb, q_tb, q_tb]
  apply BitVec.eq_of_getLsbD_eq
  intro i hi
  simp [BitVec.getLsbD_ofNat, Nat.testBit_xor, hi]
theorem q_a1 {n : Nat} (hn : n < 2 ^ 64) : lN n &&& 1 = lN (n % 2) := by
  rw [show (1 : Int64) = lN 1 from rfl, q_and hn (by decide)]
  rw [Nat.and_one_is_mod]
/-- a bit, as a long -/
def bL (p : Prop) [Decidable p] : Int64 := if p then 1 else 0
theorem q_bit {n k : Nat} (hn : n < 2 ^ 64) (hk : k < 64) : jLushr (lN n) (nI k) &&& 1 = bL (n.testBit k = true) := by
  rw [q_ushr hn hk, q_a1 (Nat.lt_of_le_of_lt (Nat.div_le_self _ _) hn)]
  unfold bL
  rw [Nat.testBit_eq_decide_div_mod_eq]
  rcases Nat.mod_two_eq_zero_or_one (n / 2 ^ k) with e | e <;> rw [e] <;> simp <;> rfl
theorem q_bitx {n i j : Nat} (hn : n < 2 ^ 64) (hi : i < 64) (hj : j < 64) : (jLushr (lN n) (nI i) ^^^ jLushr (lN n) (nI j)) &&& 1 = bL (¬ n.testBit i = n.testBit j) := by
  rw [q_ushr hn hi, q_ushr hn hj, q_xor, q_a1 (Nat.xor_lt_two_pow (Nat.lt_of_le_of_lt (Nat.div_le_self _ _) hn) (Nat.lt_of_le_of_lt (Nat.div_le_self _ _) hn))]
  unfold bL
  have e : (n / 2 ^ i ^^^ n / 2 ^ j) % 2 = (n / 2 ^ i % 2) ^^^ (n / 2 ^ j % 2) := by
    have := Nat.xor_mod_two_pow (a := n / 2 ^ i) (b := n / 2 ^ j) (n := 1)
    simpa using this
  rw [Nat.testBit_eq_decide_div_mod_eq, Nat.testBit_eq_decide_div_mod_eq, e]
  rcases Nat.mod_two_eq_zero_or_one (n / 2 ^ i) with e1 | e1 <;> rcases Nat.mod_two_eq_zero_or_one (n / 2 ^ j) with e2 | e2 <;> rw [e1, e2] <;> simp <;> rfl
theorem q_bits {n k : Nat} (hn : n < 2 ^ 64) (hk : k < 64) : jLshr (lN n) (nI k) &&& 1 = bL (n.testBit k = true) := by
  unfold jLshr bL
  rw [q_c k hk]
  apply q_inj
  rw [Int64.toBitVec_and, Int64.toBitVec_shiftRight, q_tb, q_tb, q_sm k hk]
  apply BitVec.eq_of_getLsbD_eq
  intro i hi
  rw [BitVec.getLsbD_and, BitVec.sshiftRight_eq', BitVec.getLsbD_sshiftRight, BitVec.toNat_ofNat, Nat.mod_eq_of_lt (show k < 2 ^ 64 by omega)]
  by_cases h0 : i = 0
  · subst h0
    have e : (BitVec.ofNat 64 n).getLsbD (k + 0) = n.testBit k := by
      rw [Nat.add_zero, BitVec.getLsbD_ofNat, decide_eq_true hk, Bool.true_and]
    rw [if_pos (show k + 0 < 64 by omega), e, decide_eq_false (show ¬ 64 ≤ 0 by decide)]
    cases n.testBit k <;> rfl
  · have : (Int64.toBitVec 1).getLsbD i = false := by
      show (1#64).getLsbD i = false
      simp [BitVec.getLsbD_one, h0]
    rw [this, Bool.and_false]
    split
    · exact this.symm
    · show false = (0#64).getLsbD i
      simp
theorem q_cmp1 {p : Prop} [Decidable p] : (lg_cmp (bL p) 1 = 0) = p := by
  unfold bL
  by_cases h : p <;> simp [h] <;> decide
theorem q_cmp0 {p : Prop} [Decidable p] : (lg_cmp (bL p) 0 = 0) = ¬ p := by
  unfold bL
  by_cases h : p <;> simp [h] <;> decide
/-- a spin -/
def sg (b : Bool) : Int32 := if b = true then 1 else -1
/-- strength times both spins -/
def pr (st : Int32) (a b : Bool) : Int32 := if a = b then st else -st
theorem pr_sg (st : Int32) (a b : Bool) : st * sg a * sg b = pr st a b := by
  cases a <;> cases b <;> simp [sg, pr, Int32.mul_neg, Int32.neg_mul, Int32.mul_one, Int32.neg_neg]
def sm (f : Nat → Int32) : Nat → Int32
  | 0 => 0
  | n + 1 => sm f n + f n
theorem sm_congr {f g : Nat → Int32} : ∀ {n : Nat}, (∀ k, k < n → f k = g k) → sm f n = sm g n
  | 0, _ => rfl
  | n + 1, h => by rw [sm, sm, sm_congr (fun k hk => h k (Nat.lt_succ_of_lt hk)), h n (Nat.lt_succ_self n)]
theorem sm_neg (f : Nat → Int32) : ∀ n, sm (fun k => - f k) n = - sm f n
  | 0 => by simp [sm]
  | n + 1 => by
    rw [sm, sm, sm_neg f n]
    grind
/-- the generator -/
def nx (g : Nat) : Nat := (g * 1103515245 + 12345) % 2147483648
theorem nx_lt (g : Nat) : nx g < 2147483648 := Nat.mod_lt _ (by decide)
theorem q_nx (g : Nat) (h : g < 2147483648) : (lN g * 1103515245 + 12345) &&& 2147483647 = lN (nx g) := by
  rw [show (1103515245 : Int64) = lN 1103515245 from rfl, show (12345 : Int64) = lN 12345 from rfl, show (2147483647 : Int64) = lN 2147483647 from rfl, lN_mul, lN_add, q_and (by omega) (by decide)]
  rw [show (2147483647 : Nat) = 2 ^ 31 - 1 from rfl, Nat.and_two_pow_sub_one_eq_mod]
  rfl
theorem q_nxr (g : Nat) (h : g < 2147483648) : jLrem (lN g * 1103515245 + 12345) 2147483648 = lN (nx g) := by
  unfold jLrem
  rw [show (1103515245 : Int64) = lN 1103515245 from rfl, show (12345 : Int64) = lN 12345 from rfl, show (2147483648 : Int64) = lN 2147483648 from rfl, lN_mul, lN_add]
  exact pk_lRem (by omega) (by decide) (by decide)
theorem q_s16 {g : Nat} (h : g < 2147483648) : (jLushr (lN g) 16).toInt32 = nI (g / 65536) := by
  rw [show (16 : Int32) = nI 16 from rfl, q_ushr (by omega) (by decide), lN_i]
theorem q_d16 {g : Nat} (h : g < 2147483648) : lN g / 65536 = lN (g / 65536) := by
  rw [show (65536 : Int64) = lN 65536 from rfl]
  exact pk_lDiv (by omega) (by decide) (by decide)
theorem q_rem {a n : Nat} (ha : a < 2 ^ 31) (h0 : 0 < n) (hn : n < 2 ^ 31) : jRem (nI a) (nI n) = nI (a % n) := pk_rem ha h0 hn
theorem q_remL {a n : Nat} (ha : a < 2 ^ 31) (h0 : 0 < n) (hn : n < 2 ^ 31) : (jLrem (lN a) (nI n).toInt64).toInt32 = nI (a % n) := by
  unfold jLrem
  rw [nI_l hn, pk_lRem (by omega) h0 (by omega), lN_i]
/-- a number drawn below n -/
def dw (g n : Nat) : Nat := nx g / 65536 % n
theorem dw_lt (g : Nat) {n : Nat} (h : 0 < n) : dw g n < n := Nat.mod_lt _ h
/-- draws to be passed: did they, the generator then -/
def pd (a b : Nat) : Nat → Nat → Bool × Nat
  | 0, g => (true, g)
  | k + 1, g => if dw g b < a then pd a b k (nx g) else (false, nx g)
theorem pd_lt (a b : Nat) : ∀ k g, g < 2147483648 → (pd a b k g).2 < 2147483648
  | 0, _, h => h
  | k + 1, g, _ => by
    unfold pd
    split
    · exact pd_lt a b k _ (nx_lt g)
    · exact nx_lt g
theorem nI_iff {a b : Nat} (ha : a < 2147483648) (hb : b < 2147483648) : (nI a = nI b) = (a = b) := propext (nI_eq ha hb)
theorem nI_leP {a b : Nat} (ha : a < 2147483648) (hb : b < 2147483648) : (nI a ≤ nI b) = (a ≤ b) := propext (nI_leI ha hb)
theorem nI_ltP {a b : Nat} (ha : a < 2147483648) (hb : b < 2147483648) : (nI a < nI b) = (a < b) := propext (nI_ltI ha hb)
theorem nI_inP {k n : Nat} (h : k < n) (hn : n < 2147483648) : xIn (nI k) n = True := eq_true (vp_in_nI h hn)
theorem nI_ix {k : Nat} (h : k < 2147483648) : ix (nI k) = k := nI_clamp h
theorem nI_0P {k : Nat} (h : k < 2147483648) : (nI k < 0) = False := eq_false (nI_pos h)
end
/-! ===== heaps as five functions; runs by rewriting ===== -/
abbrev xI : Type := Nat → Nat → Int32
abbrev xJ : Type := Nat → Nat → Int64
abbrev xDb : Type := Nat → Nat → UInt64
abbrev xS : Type := Nat → Nat × Nat
abbrev xR : Type := Nat → Nat → Option Nat
def uI (I : xI) (o k : Nat) (v : Int32) : xI := fun a b => if a = o ∧ b = k then v else I a b
def uJ (J : xJ) (o k : Nat) (v : Int64) : xJ := fun a b => if a = o ∧ b = k then v else J a b
def uD (D : xDb) (o k : Nat) (v : UInt64) : xDb := fun a b => if a = o ∧ b = k then v else D a b
def uR (R : xR) (o k : Nat) (v : Option Nat) : xR := fun a b => if a = o ∧ b = k then v else R a b
theorem hg_S (S : xS) (I : xI) (J : xJ) (D : xDb) (R : xR) (o : Nat) : gS (S, I, J, D, R) o = S o := rfl
theorem hg_I (S : xS) (I : xI) (J : xJ) (D : xDb) (R : xR) (o k : Nat) : gI (S, I, J, D, R) o k = I o k := rfl
theorem hg_J (S : xS) (I : xI) (J : xJ) (D : xDb) (R : xR) (o k : Nat) : gL (S, I, J, D, R) o k = J o k := rfl
theorem hg_D (S : xS) (I : xI) (J : xJ) (D : xDb) (R : xR) (o k : Nat) : gD (S, I, J, D, R) o k = D o k := rfl
theorem hg_R (S : xS) (I : xI) (J : xJ) (D : xDb) (R : xR) (o k : Nat) : gR (S, I, J, D, R) o k = R o k := rfl
theorem hs_I (S : xS) (I : xI) (J : xJ) (D : xDb) (R : xR) (o k : Nat) (v : Int32) : sI (S, I, J, D, R) o k v = (S, uI I o k v, J, D, R) := rfl
theorem hs_J (S : xS) (I : xI) (J : xJ) (D : xDb) (R : xR) (o k : Nat) (v : Int64) : sL (S, I, J, D, R) o k v = (S, I, uJ J o k v, D, R) := rfl
theorem hs_D (S : xS) (I : xI) (J : xJ) (D : xDb) (R : xR) (o k : Nat) (v : UInt64) : sD (S, I, J, D, R) o k v = (S, I, J, uD D o k v, R) := rfl
theorem hs_R (S : xS) (I : xI) (J : xJ) (D : xDb) (R : xR) (o k : Nat) (v : Option Nat) : sR (S, I, J, D, R) o k v = (S, I, J, D, uR R o k v) := rfl
theorem uI_at (I : xI) (o k : Nat) (v : Int32) (a b : Nat) : uI I o k v a b = if a = o ∧ b = k then v else I a b := rfl
theorem uJ_at (I : xJ) (o k : Nat) (v : Int64) (a b : Nat) : uJ I o k v a b = if a = o ∧ b = k then v else I a b := rfl
theorem uD_at (I : xDb) (o k : Nat) (v : UInt64) (a b : Nat) : uD I o k v a b = if a = o ∧ b = k then v else I a b := rfl
theorem uR_at (I : xR) (o k : Nat) (v : Option Nat) (a b : Nat) : uR I o k v a b = if a = o ∧ b = k then v else I a b := rfl
theorem uI_uI (I : xI) (o k : Nat) (v w : Int32) : uI (uI I o k v) o k w = uI I o k w := by
  funext a b
  simp only [uI_at]
  split <;> rfl
theorem uJ_uJ (I : xJ) (o k : Nat) (v w : Int64) : uJ (uJ I o k v) o k w = uJ I o k w := by
  funext a b
  simp only [uJ_at]
  split <;> rfl
theorem uI_same {I : xI} {o k : Nat} {v : Int32} (h : I o k = v) : uI I o k v = I := by
  funext a b
  simp only [uI_at]
  split
  · rename_i h1
    rw [h1.1, h1.2, h]
  · rfl
theorem uJ_same {I : xJ} {o k : Nat} {v : Int64} (h : I o k = v) : uJ I o k v = I := by
  funext a b
  simp only [uJ_at]
  split
  · rename_i h1
    rw [h1.1, h1.2, h]
  · rfl
/-- the class's own things, at their places -/
def LC (S : xS) (R : xR) : Prop := S 100 = (1, 0) ∧ R 100 0 = some 101 ∧ R 100 4 = some 102 ∧ R 100 5 = some 110 ∧ R 100 6 = some 120 ∧ R 100 8 = some 130 ∧ R 100 9 = some 140 ∧
  S 101 = (103, 600) ∧ S 102 = (3, 0) ∧ R 102 5 = some 103 ∧ R 102 6 = some 104 ∧ R 102 7 = some 105 ∧ R 102 8 = some 106 ∧ R 102 9 = some 107 ∧ R 102 10 = some 108 ∧
  S 103 = (100, 128) ∧ S 104 = (100, 128) ∧ S 105 = (100, 64) ∧ S 106 = (100, 64) ∧ S 107 = (100, 64) ∧ S 108 = (100, 256) ∧
  S 110 = (7, 0) ∧ R 110 0 = some 102 ∧ R 110 1 = some 111 ∧ R 110 2 = some 112 ∧ R 110 3 = some 116 ∧ S 111 = (100, 128) ∧ S 112 = (4, 0) ∧ S 116 = (100, 64) ∧
  S 120 = (7, 0) ∧ R 120 0 = some 102 ∧ R 120 1 = some 121 ∧ R 120 2 = some 122 ∧ R 120 3 = some 126 ∧ S 121 = (100, 128) ∧ S 122 = (4, 0) ∧ S 126 = (100, 64) ∧
  S 130 = (2, 0) ∧ R 130 0 = some 110 ∧ R 130 12 = some 137 ∧ R 130 13 = some 138 ∧ R 130 14 = some 139 ∧ S 137 = (100, 289) ∧ S 138 = (100, 289) ∧ S 139 = (102, 289) ∧
  S 140 = (9, 0)
theorem LC_out {S : xS} {R : xR} (h : LC S R) : S 100 = (1, 0) ∧ R 100 0 = some 101 ∧ R 100 4 = some 102 ∧ R 100 5 = some 110 ∧ R 100 6 = some 120 ∧ R 100 8 = some 130 ∧ R 100 9 = some 140 ∧
  S 101 = (103, 600) ∧ S 102 = (3, 0) ∧ R 102 5 = some 103 ∧ R 102 6 = some 104 ∧ R 102 7 = some 105 ∧ R 102 8 = some 106 ∧ R 102 9 = some 107 ∧ R 102 10 = some 108 ∧
  S 103 = (100, 128) ∧ S 104 = (100, 128) ∧ S 105 = (100, 64) ∧ S 106 = (100, 64) ∧ S 107 = (100, 64) ∧ S 108 = (100, 256) ∧
  S 110 = (7, 0) ∧ R 110 0 = some 102 ∧ R 110 1 = some 111 ∧ R 110 2 = some 112 ∧ R 110 3 = some 116 ∧ S 111 = (100, 128) ∧ S 112 = (4, 0) ∧ S 116 = (100, 64) ∧
  S 120 = (7, 0) ∧ R 120 0 = some 102 ∧ R 120 1 = some 121 ∧ R 120 2 = some 122 ∧ R 120 3 = some 126 ∧ S 121 = (100, 128) ∧ S 122 = (4, 0) ∧ S 126 = (100, 64) ∧
  S 130 = (2, 0) ∧ R 130 0 = some 110 ∧ R 130 12 = some 137 ∧ R 130 13 = some 138 ∧ R 130 14 = some 139 ∧ S 137 = (100, 289) ∧ S 138 = (100, 289) ∧ S 139 = (102, 289) ∧
  S 140 = (9, 0) := h
/-- the model's own things: the row of field f lies at 300 + f -/
def LM (S : xS) (R : xR) : Prop := S 200 = (8, 0) ∧ R 200 0 = some 300 ∧ S 300 = (100, 144) ∧ R 200 1 = some 301 ∧ S 301 = (100, 144) ∧ R 200 2 = some 302 ∧ S 302 = (100, 144) ∧ R 200 8 = some 308 ∧ S 308 = (100, 10000) ∧ R 200 9 = some 309 ∧ S 309 = (100, 10000) ∧ R 200 10 = some 310 ∧ S 310 = (101, 10000) ∧ R 200 11 = some 311 ∧ S 311 = (100, 10000) ∧ R 200 12 = some 312 ∧ S 312 = (100, 10000) ∧ R 200 13 = some 313 ∧ S 313 = (101, 10000) ∧ R 200 14 = some 314 ∧ S 314 = (100, 128) ∧ R 200 15 = some 315 ∧ S 315 = (100, 128) ∧ R 200 16 = some 316 ∧ S 316 = (100, 256) ∧ R 200 17 = some 317 ∧ S 317 = (100, 64) ∧ R 200 20 = some 320 ∧ S 320 = (100, 600) ∧ R 200 34 = some 334 ∧ S 334 = (100, 12) ∧ R 200 35 = some 335 ∧ S 335 = (100, 12) ∧ R 200 40 = some 340 ∧ S 340 = (100, 64) ∧ R 200 41 = some 341 ∧ S 341 = (100, 64) ∧ R 200 42 = some 342 ∧ S 342 = (100, 32768) ∧ R 200 43 = some 343 ∧ S 343 = (100, 65536) ∧ R 200 44 = some 344 ∧ S 344 = (100, 65536) ∧ R 200 45 = some 345 ∧ S 345 = (100, 13233) ∧ R 200 46 = some 346 ∧ S 346 = (100, 6000) ∧ R 200 47 = some 347 ∧ S 347 = (100, 6000) ∧ R 200 48 = some 348 ∧ S 348 = (100, 6000) ∧ R 200 52 = some 352 ∧ S 352 = (102, 401) ∧ R 200 53 = some 353 ∧ S 353 = (100, 401) ∧ R 200 54 = some 354 ∧ S 354 = (100, 401) ∧ R 200 55 = some 355 ∧ S 355 = (100, 65536) ∧ R 200 56 = some 356 ∧ S 356 = (100, 65536) ∧ R 200 57 = some 357 ∧ S 357 = (100, 402) ∧ R 200 58 = some 358 ∧ S 358 = (100, 800)
theorem LM_out {S : xS} {R : xR} (h : LM S R) : S 200 = (8, 0) ∧ R 200 0 = some 300 ∧ S 300 = (100, 144) ∧ R 200 1 = some 301 ∧ S 301 = (100, 144) ∧ R 200 2 = some 302 ∧ S 302 = (100, 144) ∧ R 200 8 = some 308 ∧ S 308 = (100, 10000) ∧ R 200 9 = some 309 ∧ S 309 = (100, 10000) ∧ R 200 10 = some 310 ∧ S 310 = (101, 10000) ∧ R 200 11 = some 311 ∧ S 311 = (100, 10000) ∧ R 200 12 = some 312 ∧ S 312 = (100, 10000) ∧ R 200 13 = some 313 ∧ S 313 = (101, 10000) ∧ R 200 14 = some 314 ∧ S 314 = (100, 128) ∧ R 200 15 = some 315 ∧ S 315 = (100, 128) ∧ R 200 16 = some 316 ∧ S 316 = (100, 256) ∧ R 200 17 = some 317 ∧ S 317 = (100, 64) ∧ R 200 20 = some 320 ∧ S 320 = (100, 600) ∧ R 200 34 = some 334 ∧ S 334 = (100, 12) ∧ R 200 35 = some 335 ∧ S 335 = (100, 12) ∧ R 200 40 = some 340 ∧ S 340 = (100, 64) ∧ R 200 41 = some 341 ∧ S 341 = (100, 64) ∧ R 200 42 = some 342 ∧ S 342 = (100, 32768) ∧ R 200 43 = some 343 ∧ S 343 = (100, 65536) ∧ R 200 44 = some 344 ∧ S 344 = (100, 65536) ∧ R 200 45 = some 345 ∧ S 345 = (100, 13233) ∧ R 200 46 = some 346 ∧ S 346 = (100, 6000) ∧ R 200 47 = some 347 ∧ S 347 = (100, 6000) ∧ R 200 48 = some 348 ∧ S 348 = (100, 6000) ∧ R 200 52 = some 352 ∧ S 352 = (102, 401) ∧ R 200 53 = some 353 ∧ S 353 = (100, 401) ∧ R 200 54 = some 354 ∧ S 354 = (100, 401) ∧ R 200 55 = some 355 ∧ S 355 = (100, 65536) ∧ R 200 56 = some 356 ∧ S 356 = (100, 65536) ∧ R 200 57 = some 357 ∧ S 357 = (100, 402) ∧ R 200 58 = some 358 ∧ S 358 = (100, 800) := h
theorem xi144_0 : xIn 0 144 = True := eq_true (show ¬ ((0 : Int32) < 0 ∨ 144 ≤ (0 : Int32).toNatClampNeg) by decide)
theorem ix_0 : ix 0 = 0 := by decide
theorem xi144_1 : xIn 1 144 = True := eq_true (show ¬ ((1 : Int32) < 0 ∨ 144 ≤ (1 : Int32).toNatClampNeg) by decide)
theorem ix_1 : ix 1 = 1 := by decide
theorem xi144_2 : xIn 2 144 = True := eq_true (show ¬ ((2 : Int32) < 0 ∨ 144 ≤ (2 : Int32).toNatClampNeg) by decide)
theorem ix_2 : ix 2 = 2 := by decide
theorem xi144_3 : xIn 3 144 = True := eq_true (show ¬ ((3 : Int32) < 0 ∨ 144 ≤ (3 : Int32).toNatClampNeg) by decide)
theorem ix_3 : ix 3 = 3 := by decide
theorem xi144_4 : xIn 4 144 = True := eq_true (show ¬ ((4 : Int32) < 0 ∨ 144 ≤ (4 : Int32).toNatClampNeg) by decide)
theorem ix_4 : ix 4 = 4 := by decide
theorem xi144_5 : xIn 5 144 = True := eq_true (show ¬ ((5 : Int32) < 0 ∨ 144 ≤ (5 : Int32).toNatClampNeg) by decide)
theorem ix_5 : ix 5 = 5 := by decide
theorem xi144_6 : xIn 6 144 = True := eq_true (show ¬ ((6 : Int32) < 0 ∨ 144 ≤ (6 : Int32).toNatClampNeg) by decide)
theorem ix_6 : ix 6 = 6 := by decide
theorem xi144_7 : xIn 7 144 = True := eq_true (show ¬ ((7 : Int32) < 0 ∨ 144 ≤ (7 : Int32).toNatClampNeg) by decide)
theorem ix_7 : ix 7 = 7 := by decide
theorem xi144_8 : xIn 8 144 = True := eq_true (show ¬ ((8 : Int32) < 0 ∨ 144 ≤ (8 : Int32).toNatClampNeg) by decide)
theorem ix_8 : ix 8 = 8 := by decide
theorem xi144_9 : xIn 9 144 = True := eq_true (show ¬ ((9 : Int32) < 0 ∨ 144 ≤ (9 : Int32).toNatClampNeg) by decide)
theorem ix_9 : ix 9 = 9 := by decide
theorem xi144_10 : xIn 10 144 = True := eq_true (show ¬ ((10 : Int32) < 0 ∨ 144 ≤ (10 : Int32).toNatClampNeg) by decide)
theorem ix_10 : ix 10 = 10 := by decide
theorem nI_c16 (k : Nat) : (16 : Int32) + nI k = nI (16 + k) := by rw [show (16 : Int32) = nI 16 from rfl, nI_add]
theorem nI_m4 (k : Nat) : nI k * 4 = nI (k * 4) := by rw [show (4 : Int32) = nI 4 from rfl, pk_mul]
theorem nI_4m (k : Nat) : 4 * nI k = nI (k * 4) := by rw [show (4 : Int32) = nI 4 from rfl, pk_mul, Nat.mul_comm]
theorem i1_0 : ((1 : Int32) = 0) = False := eq_false (by decide)
theorem i0_1 : ((0 : Int32) = 1) = False := eq_false (by decide)
/-! ===== counting bits ===== -/
section
/-- digits to the base B, the lowest first -/
def val (B : Nat) : Nat → (Nat → Nat) → Nat
  | 0, _ => 0
  | k + 1, d => d 0 + B * val B k (fun j => d (j + 1))
theorem val_congr {B : Nat} : ∀ {k : Nat} {d e : Nat → Nat}, (∀ j, j < k → d j = e j) → val B k d = val B k e
  | 0, _, _, _ => rfl
  | k + 1, d, e, h => by rw [val, val, h 0 (Nat.succ_pos k), val_congr (fun j hj => h (j + 1) (Nat.succ_lt_succ hj))]
theorem val_add {B : Nat} : ∀ (k : Nat) (d e : Nat → Nat), val B k d + val B k e = val B k (fun j => d j + e j)
  | 0, _, _ => rfl
  | k + 1, d, e => by
    rw [val, val, val, ← val_add k, Nat.mul_add]
    omega
theorem val_div {B : Nat} {k : Nat} {d : Nat → Nat} (h : d 0 < B) : val B (k + 1) d / B = val B k (fun j => d (j + 1)) := by
  rw [val, Nat.add_mul_div_left _ _ (by omega), Nat.div_eq_of_lt h, Nat.zero_add]
theorem val_lt {B : Nat} : ∀ {k : Nat} {d : Nat → Nat}, (∀ j, j < k → d j < B) → val B k d < B ^ k
  | 0, _, _ => by simp [val]
  | k + 1, d, h => by
    have h1 := val_lt (B := B) (k := k) (d := fun j => d (j + 1)) (fun j hj => h (j + 1) (Nat.succ_lt_succ hj))
    have h0 := h 0 (Nat.succ_pos k)
    rw [val, Nat.pow_succ, Nat.mul_comm (B ^ k) B]
    have h2 : B * (val B k (fun j => d (j + 1)) + 1) ≤ B * B ^ k := Nat.mul_le_mul_left B h1
    rw [Nat.mul_add, Nat.mul_one] at h2
    omega
theorem land_cat {w a c u v : Nat} (ha : a < 2 ^ w) (hc : c < 2 ^ w) : (a + 2 ^ w * u) &&& (c + 2 ^ w * v) = (a &&& c) + 2 ^ w * (u &&& v) := by
  apply Nat.eq_of_testBit_eq
  intro i
  have hac : a &&& c < 2 ^ w := Nat.and_lt_two_pow _ hc
  rw [Nat.testBit_and, Nat.add_comm a, Nat.add_comm c, Nat.add_comm (a &&& c), Nat.testBit_two_pow_mul_add _ ha, Nat.testBit_two_pow_mul_add _ hc, Nat.testBit_two_pow_mul_add _ hac]
  split <;> rw [Nat.testBit_and]
theorem val_land {w : Nat} : ∀ {k : Nat} {d e : Nat → Nat}, (∀ j, j < k → d j < 2 ^ w) → (∀ j, j < k → e j < 2 ^ w) → val (2 ^ w) k d &&& val (2 ^ w) k e = val (2 ^ w) k (fun j => d j &&& e j)
  | 0, _, _, _, _ => by simp [val]
  | k + 1, d, e, h1, h2 => by
    rw [val, val, val, land_cat (h1 0 (Nat.succ_pos k)) (h2 0 (Nat.succ_pos k)), val_land (fun j hj => h1 (j + 1) (Nat.succ_lt_succ hj)) (fun j hj => h2 (j + 1) (Nat.succ_lt_succ hj))]
theorem val_pair {B : Nat} : ∀ (k : Nat) (d : Nat → Nat), val B (2 * k) d = val (B * B) k (fun j => d (2 * j) + B * d (2 * j + 1))
  | 0, _ => rfl
  | k + 1, d => by
    rw [show 2 * (k + 1) = 2 * k + 1 + 1 by omega, val, val, val, val_pair k]
    rw [Nat.mul_add, ← Nat.add_assoc, ← Nat.mul_assoc]
    rfl
/-- a number's bits -/
def bt (x j : Nat) : Nat := x / 2 ^ j % 2
theorem val_bits : ∀ (k x : Nat), val 2 k (bt x) = x % 2 ^ k
  | 0, x => by simp [val, Nat.mod_one]
  | k + 1, x => by
    have h : (fun j => bt x (j + 1)) = bt (x / 2) := by
      funext j
      unfold bt
      rw [Nat.pow_succ, Nat.mul_comm, ← Nat.div_div_eq_div_mul]
    rw [val, h, val_bits k, Nat.pow_succ, Nat.mul_comm (2 ^ k) 2, Nat.mod_mul]
    unfold bt
    rw [Nat.pow_zero, Nat.div_one]
theorem bt_le (x j : Nat) : bt x j ≤ 1 := by
  unfold bt
  omega
/-- how many bits are set below k -/
def pop : Nat → Nat → Nat
  | 0, _ => 0
  | k + 1, x => pop k x + bt x k
theorem pop_le : ∀ k x, pop k x ≤ k
  | 0, _ => Nat.le_refl _
  | k + 1, x => by
    have h1 := pop_le k x
    have h2 := bt_le x k
    rw [pop]
    omega
/-- pairs, fours, eights: from the bits to sums -/
theorem sw1 {K x : Nat} (hx : x < 2 ^ (2 * K)) {M5 : Nat} (h5 : M5 = val 4 K (fun _ => 1)) : x - ((x / 2) &&& M5) = val 4 K (fun j => bt x (2 * j) + bt x (2 * j + 1)) := by
  have e1 : x = val 4 K (fun j => bt x (2 * j) + 2 * bt x (2 * j + 1)) := by
    rw [← val_pair (B := 2) K, val_bits, Nat.mod_eq_of_lt hx]
  have e2 : x / 2 = val 4 K (fun j => bt (x / 2) (2 * j) + 2 * bt (x / 2) (2 * j + 1)) := by
    rw [← val_pair (B := 2) K, val_bits, Nat.mod_eq_of_lt (Nat.lt_of_le_of_lt (Nat.div_le_self _ _) hx)]
  have e3 : (x / 2) &&& M5 = val 4 K (fun j => bt x (2 * j + 1)) := by
    rw [h5, e2]
    rw [show (4 : Nat) = 2 ^ 2 from rfl, val_land (fun j _ => by have := bt_le (x / 2) (2 * j); have := bt_le (x / 2) (2 * j + 1); omega) (fun j _ => by decide)]
    refine val_congr (fun j _ => ?_)
    have h1 : bt (x / 2) (2 * j) = bt x (2 * j + 1) := by
      unfold bt
      rw [Nat.div_div_eq_div_mul, ← Nat.pow_succ']
    have h2 := bt_le (x / 2) (2 * j)
    have h3 := bt_le (x / 2) (2 * j + 1)
    rw [← h1]
    rcases (show bt (x / 2) (2 * j) = 0 ∨ bt (x / 2) (2 * j) = 1 by omega) with e | e <;> rcases (show bt (x / 2) (2 * j + 1) = 0 ∨ bt (x / 2) (2 * j + 1) = 1 by omega) with f | f <;> rw [e, f] <;> rfl
  have e4 := val_add (B := 4) K (fun j => bt x (2 * j) + bt x (2 * j + 1)) (fun j => bt x (2 * j + 1))
  have e5 : x = val 4 K (fun j => bt x (2 * j) + bt x (2 * j + 1) + bt x (2 * j + 1)) := by
    rw [show (fun j => bt x (2 * j) + bt x (2 * j + 1) + bt x (2 * j + 1)) = (fun j => bt x (2 * j) + 2 * bt x (2 * j + 1)) from funext fun j => by omega]
    exact e1
  rw [e3]
  omega
/-- one folding step: digits p below B, the sums of neighbours below B too -/
theorem sw2 {w K : Nat} {p : Nat → Nat} (hp : ∀ j, j < 2 * K → p j < 2 ^ w) {M : Nat} (hM : M = val (2 ^ w * 2 ^ w) K (fun _ => 2 ^ w - 1)) : val (2 ^ w) (2 * K) p &&& M = val (2 ^ w * 2 ^ w) K (fun j => p (2 * j)) := by
  rw [hM, val_pair, ← Nat.pow_add, val_land (fun j hj => ?_) (fun j hj => ?_)]
  · refine val_congr (fun j hj => ?_)
    have h := land_cat (w := w) (a := p (2 * j)) (c := 2 ^ w - 1) (u := p (2 * j + 1)) (v := 0) (hp _ (by omega)) (by have := Nat.two_pow_pos w; omega)
    rw [Nat.mul_zero, Nat.add_zero, Nat.and_zero, Nat.mul_zero, Nat.add_zero, Nat.and_two_pow_sub_one_eq_mod, Nat.mod_eq_of_lt (hp _ (by omega))] at h
    exact h
  · have h1 := hp (2 * j) (by omega)
    have h2 := hp (2 * j + 1) (by omega)
    rw [Nat.pow_add]
    have h3 : 2 ^ w * (p (2 * j + 1) + 1) ≤ 2 ^ w * 2 ^ w := Nat.mul_le_mul_left _ h2
    rw [Nat.mul_add, Nat.mul_one] at h3
    omega
  · have h1 := Nat.two_pow_pos w
    have h2 : 2 ^ w * 1 ≤ 2 ^ w * 2 ^ w := Nat.mul_le_mul_left _ h1
    rw [Nat.pow_add]
    omega
end
/-! ===== rising lists, counts ===== -/
section
theorem srt_eq : ∀ {a b : List Nat}, a.Pairwise (· < ·) → b.Pairwise (· < ·) → (∀ x, x ∈ a ↔ x ∈ b) → a = b
  | [], [], _, _, _ => rfl
  | [], y :: b, _, _, h => absurd ((h y).mpr List.mem_cons_self) List.not_mem_nil
  | x :: a, [], _, _, h => absurd ((h x).mp List.mem_cons_self) List.not_mem_nil
  | x :: a, y :: b, h1, h2, h => by
    rw [List.pairwise_cons] at h1 h2
    have hx := (h x).mp List.mem_cons_self
    have hy := (h y).mpr List.mem_cons_self
    have e : x = y := by
      rcases List.mem_cons.mp hx with e | e
      · exact e
      · rcases List.mem_cons.mp hy with f | f
        · exact f.symm
        · exact absurd (h1.1 y f) (Nat.not_lt.mpr (Nat.le_of_lt (h2.1 x e)))
    subst e
    rw [srt_eq h1.2 h2.2 (fun z => ⟨fun hz => ?_, fun hz => ?_⟩)]
    · rcases List.mem_cons.mp ((h z).mp (List.mem_cons_of_mem _ hz)) with e | e
      · subst e
        exact absurd (h1.1 z hz) (Nat.lt_irrefl z)
      · exact e
    · rcases List.mem_cons.mp ((h z).mpr (List.mem_cons_of_mem _ hz)) with e | e
      · subst e
        exact absurd (h2.1 z hz) (Nat.lt_irrefl z)
      · exact e
/-- those below k that pass -/
def fl (p : Nat → Bool) : Nat → List Nat
  | 0 => []
  | k + 1 => if p k = true then fl p k ++ [k] else fl p k
theorem fl_mem (p : Nat → Bool) : ∀ (k x : Nat), x ∈ fl p k ↔ x < k ∧ p x = true
  | 0, x => by simp [fl]
  | k + 1, x => by
    rw [fl]
    split
    · rename_i h
      rw [List.mem_append, fl_mem p k, List.mem_singleton]
      constructor
      · rintro (⟨h1, h2⟩ | rfl)
        · exact ⟨by omega, h2⟩
        · exact ⟨by omega, h⟩
      · rintro ⟨h1, h2⟩
        by_cases e : x = k
        · exact Or.inr e
        · exact Or.inl ⟨by omega, h2⟩
    · rename_i h
      rw [fl_mem p k]
      constructor
      · rintro ⟨h1, h2⟩
        exact ⟨by omega, h2⟩
      · rintro ⟨h1, h2⟩
        by_cases e : x = k
        · subst e
          exact absurd h2 h
        · exact ⟨by omega, h2⟩
theorem fl_srt (p : Nat → Bool) : ∀ k, (fl p k).Pairwise (· < ·)
  | 0 => List.Pairwise.nil
  | k + 1 => by
    rw [fl]
    split
    · rw [List.pairwise_append]
      refine ⟨fl_srt p k, List.pairwise_singleton _ _, fun a ha c hc => ?_⟩
      rw [List.mem_singleton.mp hc]
      exact ((fl_mem p k a).mp ha).1
    · exact fl_srt p k
theorem fl_len (p : Nat → Bool) : ∀ k, (fl p k).length ≤ k
  | 0 => Nat.le_refl _
  | k + 1 => by
    have := fl_len p k
    rw [fl]
    split
    · rw [List.length_append, List.length_singleton]
      omega
    · omega
theorem srt_map {f : Nat → Nat} : ∀ {l : List Nat}, l.Pairwise (· < ·) → (∀ a, a ∈ l → ∀ c, c ∈ l → a < c → f a < f c) → (l.map f).Pairwise (· < ·)
  | [], _, _ => List.Pairwise.nil
  | a :: l, h, hf => by
    rw [List.map_cons]
    rw [List.pairwise_cons] at h ⊢
    refine ⟨fun y hy => ?_, srt_map h.2 (fun a ha c hc => hf a (List.mem_cons_of_mem _ ha) c (List.mem_cons_of_mem _ hc))⟩
    obtain ⟨c, hc, rfl⟩ := List.mem_map.mp hy
    exact hf a List.mem_cons_self c (List.mem_cons_of_mem _ hc) (h.1 c hc)
/-- the same levels, counted by other numbers -/
theorem fl_map {p q : Nat → Bool} {f : Nat → Nat} {M M' : Nat} (h1 : ∀ i, i < M → p i = true → f i < M' ∧ q (f i) = true) (h2 : ∀ k, k < M' → q k = true → ∃ i, i < M ∧ p i = true ∧ f i = k) (h3 : ∀ i j, i < M → j < M → p i = true → p j = true → i < j → f i < f j) : fl q M' = (fl p M).map f := by
  refine srt_eq (fl_srt q M') (srt_map (fl_srt p M) (fun a ha c hc h => ?_)) (fun x => ⟨fun hx => ?_, fun hx => ?_⟩)
  · have ha := (fl_mem p M a).mp ha
    have hc := (fl_mem p M c).mp hc
    exact h3 a c ha.1 hc.1 ha.2 hc.2 h
  · have hx := (fl_mem q M' x).mp hx
    obtain ⟨i, i1, i2, rfl⟩ := h2 x hx.1 hx.2
    exact List.mem_map.mpr ⟨i, (fl_mem p M i).mpr ⟨i1, i2⟩, rfl⟩
  · obtain ⟨i, hi, rfl⟩ := List.mem_map.mp hx
    have hi := (fl_mem p M i).mp hi
    exact (fl_mem q M' _).mpr (h1 i hi.1 hi.2)
/-- how many below n -/
def ct (p : Nat → Bool) : Nat → Nat
  | 0 => 0
  | n + 1 => ct p n + (if p n = true then 1 else 0)
theorem ct_le (p : Nat → Bool) : ∀ n, ct p n ≤ n
  | 0 => Nat.le_refl _
  | n + 1 => by
    have := ct_le p n
    rw [ct]
    split <;> omega
theorem ct_congr {p q : Nat → Bool} : ∀ {n : Nat}, (∀ k, k < n → p k = q k) → ct p n = ct q n
  | 0, _ => rfl
  | n + 1, h => by rw [ct, ct, ct_congr (fun k hk => h k (Nat.lt_succ_of_lt hk)), h n (Nat.lt_succ_self n)]
theorem ct_pos {p : Nat → Bool} : ∀ {n : Nat}, 0 < ct p n ↔ ∃ k, k < n ∧ p k = true
  | 0 => ⟨fun h => absurd h (Nat.lt_irrefl 0), fun ⟨k, h, _⟩ => absurd h (Nat.not_lt_zero k)⟩
  | n + 1 => by
    rw [ct]
    constructor
    · intro h
      by_cases hp : p n = true
      · exact ⟨n, Nat.lt_succ_self n, hp⟩
      · rw [if_neg hp, Nat.add_zero] at h
        obtain ⟨k, h1, h2⟩ := ct_pos.mp h
        exact ⟨k, by omega, h2⟩
    · rintro ⟨k, h1, h2⟩
      by_cases e : k = n
      · subst e
        rw [if_pos h2]
        omega
      · have := ct_pos.mpr ⟨k, (by omega : k < n), h2⟩
        omega
end
/-! ===== the JDK's counting of bits ===== -/
section
theorem val_ext {B k : Nat} {d : Nat → Nat} (h : d k = 0) : val B (k + 1) d = val B k d := by
  induction k generalizing d with
  | zero => rw [val, val, h]; rfl
  | succ k ih =>
    rw [val, ih (d := fun j => d (j + 1)) h]
    rfl
/-- one digit to the right, as many digits as before -/
theorem val_shr {B k : Nat} {d : Nat → Nat} (h : d 0 < B) : val B (k + 1) d / B = val B (k + 1) (fun j => if j < k then d (j + 1) else 0) := by
  rw [val_div h, val_ext (by simp)]
  exact val_congr (fun j hj => by rw [if_pos hj])
/-- the eighths of the count -/
def pe (x j : Nat) : Nat := (bt x (8 * j) + bt x (8 * j + 1)) + (bt x (8 * j + 2) + bt x (8 * j + 3)) + ((bt x (8 * j + 4) + bt x (8 * j + 5)) + (bt x (8 * j + 6) + bt x (8 * j + 7)))
theorem pe_le (x j : Nat) : pe x j ≤ 8 := by
  have := bt_le x (8 * j)
  have := bt_le x (8 * j + 1)
  have := bt_le x (8 * j + 2)
  have := bt_le x (8 * j + 3)
  have := bt_le x (8 * j + 4)
  have := bt_le x (8 * j + 5)
  have := bt_le x (8 * j + 6)
  have := bt_le x (8 * j + 7)
  unfold pe
  omega
theorem pop_8 (x j : Nat) : pop (8 * j + 8) x = pop (8 * j) x + pe x j := by
  unfold pe
  show pop (8 * j) x + bt x (8 * j) + bt x (8 * j + 1) + bt x (8 * j + 2) + bt x (8 * j + 3) + bt x (8 * j + 4) + bt x (8 * j + 5) + bt x (8 * j + 6) + bt x (8 * j + 7) = _
  omega
theorem pop64 (x : Nat) : pop 64 x = pe x 0 + pe x 1 + pe x 2 + pe x 3 + pe x 4 + pe x 5 + pe x 6 + pe x 7 := by
  have h0 := pop_8 x 0
  have h1 := pop_8 x 1
  have h2 := pop_8 x 2
  have h3 := pop_8 x 3
  have h4 := pop_8 x 4
  have h5 := pop_8 x 5
  have h6 := pop_8 x 6
  have h7 := pop_8 x 7
  simp only [Nat.mul_zero, Nat.zero_add, Nat.mul_one, Nat.reduceMul, Nat.reduceAdd] at h0 h1 h2 h3 h4 h5 h6 h7
  rw [h7, h6, h5, h4, h3, h2, h1, h0, show pop 0 x = 0 from rfl, Nat.zero_add]
theorem swar {K x : Nat} {M5 M3 MF : Nat} (hx : x < 2 ^ (8 * (K + 1))) (h5 : M5 = val 4 (4 * (K + 1)) (fun _ => 1)) (h3 : M3 = val 16 (2 * (K + 1)) (fun _ => 3)) (hF : MF = val 256 (K + 1) (fun _ => 15)) :
    ∃ y z : Nat, y = x - ((x / 2) &&& M5) ∧ z = (y &&& M3) + ((y / 4) &&& M3) ∧ (z + z / 16) &&& MF = val 256 (K + 1) (pe x) ∧ y ≤ x ∧ (x / 2) &&& M5 ≤ x ∧ z < 2 ^ (8 * (K + 1)) ∧ z + z / 16 < 2 ^ (8 * (K + 1)) := by
  have ey := sw1 (K := 4 * (K + 1)) (x := x) (by rw [show 2 * (4 * (K + 1)) = 8 * (K + 1) by omega]; exact hx) h5
  have hle : (x / 2) &&& M5 ≤ x := Nat.le_trans Nat.and_le_left (Nat.div_le_self _ _)
  have b2 : ∀ j, bt x (2 * j) + bt x (2 * j + 1) ≤ 2 := fun j => by have := bt_le x (2 * j); have := bt_le x (2 * j + 1); omega
  have e3 : (4 : Nat) * (K + 1) = 2 * (2 * (K + 1)) := by omega
  have f1 : val 4 (4 * (K + 1)) (fun j => bt x (2 * j) + bt x (2 * j + 1)) &&& M3 = val 16 (2 * (K + 1)) (fun j => bt x (4 * j) + bt x (4 * j + 1)) := by
    rw [e3]
    have h := sw2 (w := 2) (K := 2 * (K + 1)) (p := fun j => bt x (2 * j) + bt x (2 * j + 1)) (fun j _ => by have := b2 j; omega) h3
    rw [show (2 : Nat) ^ 2 = 4 from rfl] at h
    rw [h]
    exact val_congr (fun j _ => by rw [show 2 * (2 * j) = 4 * j by omega])
  have f2 : val 4 (4 * (K + 1)) (fun j => bt x (2 * j) + bt x (2 * j + 1)) / 4 &&& M3 = val 16 (2 * (K + 1)) (fun j => bt x (4 * j + 2) + bt x (4 * j + 3)) := by
    rw [show 4 * (K + 1) = 4 * K + 3 + 1 by omega, val_shr (by have := b2 0; omega), show 4 * K + 3 + 1 = 2 * (2 * (K + 1)) by omega]
    have h := sw2 (w := 2) (K := 2 * (K + 1)) (p := fun j => if j < 4 * K + 3 then bt x (2 * (j + 1)) + bt x (2 * (j + 1) + 1) else 0) (fun j _ => by
      have := b2 (j + 1)
      show (if j < 4 * K + 3 then bt x (2 * (j + 1)) + bt x (2 * (j + 1) + 1) else 0) < 4
      split <;> omega) h3
    rw [show (2 : Nat) ^ 2 = 4 from rfl] at h
    rw [h]
    exact val_congr (fun j hj => by rw [if_pos (show 2 * j < 4 * K + 3 by omega), show 2 * (2 * j + 1) = 4 * j + 2 by omega])
  have b4 : ∀ j, bt x (4 * j) + bt x (4 * j + 1) + (bt x (4 * j + 2) + bt x (4 * j + 3)) ≤ 4 := fun j => by
    have := bt_le x (4 * j)
    have := bt_le x (4 * j + 1)
    have := bt_le x (4 * j + 2)
    have := bt_le x (4 * j + 3)
    omega
  have f3 : val 16 (2 * (K + 1)) (fun j => bt x (4 * j) + bt x (4 * j + 1) + (bt x (4 * j + 2) + bt x (4 * j + 3))) + val 16 (2 * (K + 1)) (fun j => bt x (4 * j) + bt x (4 * j + 1) + (bt x (4 * j + 2) + bt x (4 * j + 3))) / 16 = val 16 (2 * (K + 1)) (fun j => bt x (4 * j) + bt x (4 * j + 1) + (bt x (4 * j + 2) + bt x (4 * j + 3)) + (if j < 2 * K + 1 then bt x (4 * (j + 1)) + bt x (4 * (j + 1) + 1) + (bt x (4 * (j + 1) + 2) + bt x (4 * (j + 1) + 3)) else 0)) := by
    rw [show 2 * (K + 1) = 2 * K + 1 + 1 by omega, val_shr (by have := b4 0; omega), val_add]
  refine ⟨_, _, rfl, rfl, ?_, Nat.sub_le _ _, hle, ?_⟩
  all_goals rw [ey, f1, f2, val_add]
  · rw [f3]
    have h := sw2 (w := 4) (K := K + 1) (p := fun j => bt x (4 * j) + bt x (4 * j + 1) + (bt x (4 * j + 2) + bt x (4 * j + 3)) + (if j < 2 * K + 1 then bt x (4 * (j + 1)) + bt x (4 * (j + 1) + 1) + (bt x (4 * (j + 1) + 2) + bt x (4 * (j + 1) + 3)) else 0)) (fun j _ => by
      have := b4 j
      have := b4 (j + 1)
      show bt x (4 * j) + bt x (4 * j + 1) + (bt x (4 * j + 2) + bt x (4 * j + 3)) + (if j < 2 * K + 1 then bt x (4 * (j + 1)) + bt x (4 * (j + 1) + 1) + (bt x (4 * (j + 1) + 2) + bt x (4 * (j + 1) + 3)) else 0) < 16
      split <;> omega) hF
    rw [show (2 : Nat) ^ 4 = 16 from rfl] at h
    rw [h]
    refine val_congr (fun j hj => ?_)
    rw [if_pos (show 2 * j < 2 * K + 1 by omega)]
    unfold pe
    rw [show 4 * (2 * j) = 8 * j by omega, show 4 * (2 * j + 1) = 8 * j + 4 by omega]
  · have hz : val 16 (2 * (K + 1)) (fun j => bt x (4 * j) + bt x (4 * j + 1) + (bt x (4 * j + 2) + bt x (4 * j + 3))) < 16 ^ (2 * (K + 1)) := val_lt (fun j _ => by have := b4 j; omega)
    have hs : val 16 (2 * (K + 1)) (fun j => bt x (4 * j) + bt x (4 * j + 1) + (bt x (4 * j + 2) + bt x (4 * j + 3)) + (if j < 2 * K + 1 then bt x (4 * (j + 1)) + bt x (4 * (j + 1) + 1) + (bt x (4 * (j + 1) + 2) + bt x (4 * (j + 1) + 3)) else 0)) < 16 ^ (2 * (K + 1)) := val_lt (fun j _ => by
      have := b4 j
      have := b4 (j + 1)
      split <;> omega)
    rw [show (16 : Nat) = 2 ^ 4 from rfl, ← Nat.pow_mul, show 4 * (2 * (K + 1)) = 8 * (K + 1) by omega] at hz hs
    exact ⟨hz, by rw [f3]; exact hs⟩
/-- the eight eighths, folded together -/
theorem fold8 {r0 r1 r2 r3 r4 r5 r6 r7 R1 R2 R3 R4 R5 R6 R7 w : Nat} (h0 : r0 ≤ 8) (h1 : r1 ≤ 8) (h2 : r2 ≤ 8) (h3 : r3 ≤ 8) (h4 : r4 ≤ 8) (h5 : r5 ≤ 8) (h6 : r6 ≤ 8) (h7 : r7 ≤ 8)
    (e7 : R7 = r7) (e6 : R6 = r6 + 256 * R7) (e5 : R5 = r5 + 256 * R6) (e4 : R4 = r4 + 256 * R5) (e3 : R3 = r3 + 256 * R4) (e2 : R2 = r2 + 256 * R3) (e1 : R1 = r1 + 256 * R2) (hw : w = r0 + 256 * R1) :
    w / 256 = R1 ∧ (w + R1) / 65536 = R2 + R3 ∧ (w + R1 + (R2 + R3)) / 4294967296 = R4 + R5 + R6 + R7 ∧ (w + R1 + (R2 + R3) + (R4 + R5 + R6 + R7)) % 128 = r0 + r1 + r2 + r3 + r4 + r5 + r6 + r7 ∧ w + R1 + (R2 + R3) + (R4 + R5 + R6 + R7) < 18446744073709551616 := by
  have b7 : R7 ≤ 8 := by omega
  have b6 : R6 ≤ 2056 := by omega
  have b5 : R5 ≤ 526344 := by omega
  have b4 : R4 ≤ 134744072 := by omega
  have b3 : R3 ≤ 34494482440 := by omega
  have b2 : R2 ≤ 8830587504648 := by omega
  have b1 : R1 ≤ 2260630401189896 := by omega
  have b0 : w ≤ 578721382704613384 := by omega
  have d1 : w / 256 = R1 := by
    clear e1 e2 e3 e4 e5 e6 e7
    omega
  have c1 : w + R1 = (r0 + r1) + 256 * (r1 + r2) + 65536 * (R2 + R3) := by
    clear e3 e4 e5 e6 e7
    omega
  have c2 : R2 + R3 = (r2 + r3) + 256 * (r3 + r4) + 65536 * (R4 + R5) := by
    clear e1 e5 e6 e7 hw c1
    omega
  have c3 : R4 + R5 = (r4 + r5) + 256 * (r5 + r6) + 65536 * (R6 + R7) := by
    clear e1 e2 e3 e7 hw c1 c2
    omega
  have c4 : R4 + R5 + R6 + R7 = (r4 + r5 + r6 + r7) + 256 * (R5 + R6 + R7) := by
    clear e1 e2 e3 hw c1 c2 c3
    omega
  clear e1 e2 e3 e4 e5 e6 e7 hw
  have d2 : (w + R1) / 65536 = R2 + R3 := by
    clear c2 c3 c4
    omega
  obtain ⟨V, hV⟩ : ∃ V, V = R2 + R3 + (R4 + R5) := ⟨_, rfl⟩
  have c5 : w + R1 + (R2 + R3) = (r0 + r1 + r2 + r3) + 256 * (r1 + r2 + r3 + r4) + 65536 * V := by
    clear c3 c4
    omega
  have c6 : V = (r2 + r3 + r4 + r5) + 256 * (r3 + r4 + r5 + r6) + 65536 * (R4 + R5 + R6 + R7) := by
    clear c1 c5 c4
    omega
  obtain ⟨Y, hY⟩ : ∃ Y, Y = R4 + R5 + R6 + R7 := ⟨_, rfl⟩
  rw [← hY] at c6 c4 ⊢
  have d3 : (w + R1 + (R2 + R3)) / 4294967296 = Y := by
    rw [c5]
    clear c1 c2 c3 c4 c5 hV hY d1 d2
    omega
  refine ⟨d1, d2, d3, ?_, ?_⟩
  · rw [c5]
    clear c1 c2 c3 c5 c6 hV hY d1 d2 d3
    omega
  · clear c1 c2 c3 c4 c5 c6 hV d1 d2 d3
    omega
end
section
variable {S : xS} {I : xI} {J : xJ} {D : xDb} {R : xR} {b : Nat × Nat} {Q : xQ}
theorem lN_subP {a c : Nat} (h : c ≤ a) : lN a - lN c = lN (a - c) := lN_sub h
theorem q_mod32 {a : Nat} : (lN a).toInt32 = nI a := lN_i a
theorem q_and127 {a : Nat} : nI a &&& 127 = nI (a % 128) := by
  apply Int32.toBitVec_inj.mp
  apply BitVec.eq_of_toNat_eq
  show (nI a).toBitVec.toNat &&& 127 = (nI (a % 128)).toBitVec.toNat
  show a % 2 ^ 32 &&& 127 = (a % 128) % 2 ^ 32
  rw [show (127 : Nat) = 2 ^ 7 - 1 from rfl, Nat.and_two_pow_sub_one_eq_mod]
  omega
theorem Y2 {x : Nat} (hx : x < 2 ^ 64) : xRun xT 2 0 [(0, .long (lN x))] [] (S, I, J, D, R) b Q = Q (.ok (some (.int (nI (pop 64 x))))) (S, I, J, D, R) b := by
  obtain ⟨y, z, ey, ez, ew, by1, by2, bz, bzz⟩ := swar (K := 7) (x := x) (M5 := 6148914691236517205) (M3 := 3689348814741910323) (MF := 1085102592571150095) hx (by decide +kernel) (by decide +kernel) (by decide +kernel)
  obtain ⟨w, hw⟩ : ∃ w, w = val 256 8 (pe x) := ⟨_, rfl⟩
  have hv : w = pe x 0 + 256 * (pe x 1 + 256 * (pe x 2 + 256 * (pe x 3 + 256 * (pe x 4 + 256 * (pe x 5 + 256 * (pe x 6 + 256 * (pe x 7))))))) := hw
  obtain ⟨d1, d2, d3, f0, f4⟩ := fold8 (pe_le x 0) (pe_le x 1) (pe_le x 2) (pe_le x 3) (pe_le x 4) (pe_le x 5) (pe_le x 6) (pe_le x 7) rfl rfl rfl rfl rfl rfl rfl hv
  rw [← d3, ← d2, ← d1] at f0 f4
  have hp : pop 64 x = pe x 0 + pe x 1 + pe x 2 + pe x 3 + pe x 4 + pe x 5 + pe x 6 + pe x 7 := pop64 x
  rw [← hp] at f0
  have hq : x < 18446744073709551616 := hx
  have k1 : lN x - (jLushr (lN x) 1 &&& 6148914691236517205) = lN y := by
    rw [show (1 : Int32) = nI 1 from rfl, q_ushr hx (by decide), show (6148914691236517205 : Int64) = lN 6148914691236517205 from rfl, q_and (by omega) (by decide), lN_sub (by rw [Nat.pow_one]; exact by2), ey]
  have k2 : (lN y &&& 3689348814741910323) + (jLushr (lN y) 2 &&& 3689348814741910323) = lN z := by
    rw [show (2 : Int32) = nI 2 from rfl, q_ushr (by omega) (by decide), show (3689348814741910323 : Int64) = lN 3689348814741910323 from rfl, q_and (by omega) (by decide), q_and (by omega) (by decide), lN_add, ez]
  have k3 : (lN z + jLushr (lN z) 4) &&& 1085102592571150095 = lN w := by
    rw [show (4 : Int32) = nI 4 from rfl, q_ushr (by omega) (by decide), show (1085102592571150095 : Int64) = lN 1085102592571150095 from rfl, lN_add, q_and (by exact bzz) (by decide), hw, ← ew]
  have k4 : lN w + jLushr (lN w) 8 = lN (w + w / 256) := by
    rw [show (8 : Int32) = nI 8 from rfl, q_ushr (by omega) (by decide), lN_add]
  have k5 : lN (w + w / 256) + jLushr (lN (w + w / 256)) 16 = lN (w + w / 256 + (w + w / 256) / 65536) := by
    rw [show (16 : Int32) = nI 16 from rfl, q_ushr (by omega) (by decide), lN_add]
  have k6 : lN (w + w / 256 + (w + w / 256) / 65536) + jLushr (lN (w + w / 256 + (w + w / 256) / 65536)) 32 = lN (w + w / 256 + (w + w / 256) / 65536 + (w + w / 256 + (w + w / 256) / 65536) / 4294967296) := by
    rw [show (32 : Int32) = nI 32 from rfl, q_ushr (by omega) (by decide), lN_add]
  rw [e2_0]
  simp only [B2_0, xSeq, i_push, i_load, i_iload, i_lload, i_dload, i_aload, i_istore, i_astore, i_lstore, i_dstore, i_iinc, i_ii, i_iiz, i_ll, i_llz, i_lli, i_li, i_i, i_l, i_i2l, i_l2i, i_dup, i_dup2, i_dup2w, i_dupx1, i_pop, i_pop2, i_goto, i_ifc, i_icmp, i_getI, i_getL, i_getR, i_putI, i_putZ, i_putL, i_putR, i_aldI, i_aldB, i_aldL, i_aldD, i_astI, i_astL, i_astD, i_alen, i_ret, i_iret, i_zret, i_lret, i_fret, i_dret, i_aret, i_invS0, i_invV0, i_m2, i_m1, i_ml, i_obj, lk, lkp, stf1, stf2, Value.category, rV, xTo, lv_args, xCk, xCat, xRc, xAk, hg_S, hg_I, hg_J, hg_D, hg_R, hs_I, hs_J, hs_D, hs_R, uI_at, uJ_at, uD_at, uR_at, List.take_succ_cons, List.take_zero, List.drop_succ_cons, List.drop_zero, List.reverse_cons, List.reverse_nil, List.nil_append, List.cons_append, List.map_cons, List.map_nil, List.sum_cons, List.sum_nil, List.length_cons, List.length_nil, Option.toList_some, Option.toList_none, true_and, and_true, false_and, and_false, true_implies, false_implies, implies_true, not_true_eq_false, not_false_eq_true, ne_eq, if_true, if_false, Bool.and_true, Bool.true_and, decide_true, decide_false, reduceIte, reduceCtorEq, Bool.and_self, Bool.and_eq_true, decide_eq_true_eq, and_self, true_or, or_true, false_or, or_false, Nat.zero_add, Nat.add_zero, eq_self, Nat.reduceEqDiff, Nat.reduceLeDiff, Nat.reduceLT, Nat.reduceAdd, Nat.reduceSub, Nat.reduceMul, k1, k2, k3, k4, k5, k6, q_mod32, q_and127, f0]
end
/-! ===== the class: spins, bonds, energies, draws ===== -/
/-- a grid: sites, bonds, both ends of each, the bonds of each site -/
def GR (n m : Nat) (fi se dg : Nat → Nat) (sb : Nat → Nat → Nat) : Prop := 0 < n ∧ n ≤ 64 ∧ m ≤ 128 ∧ (∀ k, k < m → fi k < n) ∧ (∀ k, k < m → se k < n) ∧ (∀ s, s < n → dg s ≤ 4) ∧ (∀ s i, s < n → i < dg s → sb s i < m)
/-- the class's lattice holds it -/
def CL (I : xI) (n m : Nat) (fi se dg : Nat → Nat) (sb : Nat → Nat → Nat) : Prop := I 102 2 = nI n ∧ I 102 3 = nI m ∧ (∀ k, k < m → I 103 k = nI (fi k)) ∧ (∀ k, k < m → I 104 k = nI (se k)) ∧ (∀ s, s < n → I 107 s = nI (dg s)) ∧ (∀ s i, s < n → i < dg s → I 108 (s * 4 + i) = nI (sb s i))
section
variable {S : xS} {I : xI} {J : xJ} {D : xDb} {R : xR} {b : Nat × Nat} {Q : xQ} {n m : Nat} {fi se dg : Nat → Nat} {sb : Nat → Nat → Nat}
theorem R77 {o s i : Nat} (hs : s < 2 ^ 64) (hi : i < 64) : xRun xT 77 0 [(0, .ref o), (1, .long (lN s)), (3, .int (nI i))] [] (S, I, J, D, R) b Q = Q (.ok (some (.int (sg (s.testBit i))))) (S, I, J, D, R) b := by
  rw [e77_0]
  simp only [B77_0, xSeq, i_push, i_load, i_iload, i_lload, i_dload, i_aload, i_istore, i_astore, i_lstore, i_dstore, i_iinc, i_ii, i_iiz, i_ll, i_llz, i_lli, i_li, i_i, i_l, i_i2l, i_l2i, i_dup, i_dup2, i_dup2w, i_dupx1, i_pop, i_pop2, i_goto, i_ifc, i_icmp, i_getI, i_getL, i_getR, i_putI, i_putZ, i_putL, i_putR, i_aldI, i_aldB, i_aldL, i_aldD, i_astI, i_astL, i_astD, i_alen, i_ret, i_iret, i_zret, i_lret, i_fret, i_dret, i_aret, i_invS0, i_invV0, i_m2, i_m1, i_ml, i_obj, lk, lkp, stf1, stf2, Value.category, rV, xTo, lv_args, xCk, xCat, xRc, xAk, hg_S, hg_I, hg_J, hg_D, hg_R, hs_I, hs_J, hs_D, hs_R, uI_at, uJ_at, uD_at, uR_at, List.take_succ_cons, List.take_zero, List.drop_succ_cons, List.drop_zero, List.reverse_cons, List.reverse_nil, List.nil_append, List.cons_append, List.map_cons, List.map_nil, List.sum_cons, List.sum_nil, List.length_cons, List.length_nil, Option.toList_some, Option.toList_none, true_and, and_true, false_and, and_false, true_implies, false_implies, implies_true, not_true_eq_false, not_false_eq_true, ne_eq, if_true, if_false, Bool.and_true, Bool.true_and, decide_true, decide_false, reduceIte, reduceCtorEq, Bool.and_self, Bool.and_eq_true, decide_eq_true_eq, and_self, true_or, or_true, false_or, or_false, Nat.zero_add, Nat.add_zero, eq_self, Nat.reduceEqDiff, Nat.reduceLeDiff, Nat.reduceLT, Nat.reduceAdd, Nat.reduceSub, Nat.reduceMul, q_bit hs hi, q_cmp1, e77_14, B77_14, e77_15, B77_15]
  cases hb : s.testBit i <;> simp [sg]
theorem R75 (hL : LC S R) (hG : GR n m fi se dg sb) (hC : CL I n m fi se dg sb) {s k : Nat} (hs : s < 2 ^ 64) (hk : k < m) : xRun xT 75 0 [(0, .ref 110), (1, .long (lN s)), (3, .int (nI k))] [] (S, I, J, D, R) b Q = Q (.ok (some (.int (pr (I 111 k) (s.testBit (fi k)) (s.testBit (se k)))))) (S, I, J, D, R) b := by
  obtain ⟨g0, g1, g2, g3, g4, g5, g6⟩ := hG
  obtain ⟨c1, c2, c3, c4, c5, c6⟩ := hC
  have h3 := g3 k hk
  have h4 := g4 k hk
  rw [e75_0]
  simp only [B75_0, xSeq, i_push, i_load, i_iload, i_lload, i_dload, i_aload, i_istore, i_astore, i_lstore, i_dstore, i_iinc, i_ii, i_iiz, i_ll, i_llz, i_lli, i_li, i_i, i_l, i_i2l, i_l2i, i_dup, i_dup2, i_dup2w, i_dupx1, i_pop, i_pop2, i_goto, i_ifc, i_icmp, i_getI, i_getL, i_getR, i_putI, i_putZ, i_putL, i_putR, i_aldI, i_aldB, i_aldL, i_aldD, i_astI, i_astL, i_astD, i_alen, i_ret, i_iret, i_zret, i_lret, i_fret, i_dret, i_aret, i_invS0, i_invV0, i_m2, i_m1, i_ml, i_obj, lk, lkp, stf1, stf2, Value.category, rV, xTo, lv_args, xCk, xCat, xRc, xAk, hg_S, hg_I, hg_J, hg_D, hg_R, hs_I, hs_J, hs_D, hs_R, uI_at, uJ_at, uD_at, uR_at, List.take_succ_cons, List.take_zero, List.drop_succ_cons, List.drop_zero, List.reverse_cons, List.reverse_nil, List.nil_append, List.cons_append, List.map_cons, List.map_nil, List.sum_cons, List.sum_nil, List.length_cons, List.length_nil, Option.toList_some, Option.toList_none, true_and, and_true, false_and, and_false, true_implies, false_implies, implies_true, not_true_eq_false, not_false_eq_true, ne_eq, if_true, if_false, Bool.and_true, Bool.true_and, decide_true, decide_false, reduceIte, reduceCtorEq, Bool.and_self, Bool.and_eq_true, decide_eq_true_eq, and_self, true_or, or_true, false_or, or_false, Nat.zero_add, Nat.add_zero, eq_self, Nat.reduceEqDiff, Nat.reduceLeDiff, Nat.reduceLT, Nat.reduceAdd, Nat.reduceSub, Nat.reduceMul, LC_out hL, nI_inP (show k < 128 by omega) (by decide), nI_ix (show k < 2147483648 by omega), c3 k hk, c4 k hk, q_bitx hs (show fi k < 64 by omega) (show se k < 64 by omega), q_cmp0, e75_43, B75_43, e75_50, B75_50]
  by_cases hb : s.testBit (fi k) = s.testBit (se k) <;> simp [pr, hb]
theorem R52 (hL : LC S R) (hG : GR n m fi se dg sb) (hC : CL I n m fi se dg sb) {s i : Nat} (hs : s < n) (hi : i < dg s) : xRun xT 52 0 [(0, .ref 102), (1, .int (nI s)), (2, .int (nI i))] [] (S, I, J, D, R) b Q = Q (.ok (some (.int (nI (sb s i))))) (S, I, J, D, R) b := by
  obtain ⟨g0, g1, g2, g3, g4, g5, g6⟩ := hG
  obtain ⟨c1, c2, c3, c4, c5, c6⟩ := hC
  have h5 := g5 s hs
  rw [e52_0]
  simp only [B52_0, xSeq, i_push, i_load, i_iload, i_lload, i_dload, i_aload, i_istore, i_astore, i_lstore, i_dstore, i_iinc, i_ii, i_iiz, i_ll, i_llz, i_lli, i_li, i_i, i_l, i_i2l, i_l2i, i_dup, i_dup2, i_dup2w, i_dupx1, i_pop, i_pop2, i_goto, i_ifc, i_icmp, i_getI, i_getL, i_getR, i_putI, i_putZ, i_putL, i_putR, i_aldI, i_aldB, i_aldL, i_aldD, i_astI, i_astL, i_astD, i_alen, i_ret, i_iret, i_zret, i_lret, i_fret, i_dret, i_aret, i_invS0, i_invV0, i_m2, i_m1, i_ml, i_obj, lk, lkp, stf1, stf2, Value.category, rV, xTo, lv_args, xCk, xCat, xRc, xAk, hg_S, hg_I, hg_J, hg_D, hg_R, hs_I, hs_J, hs_D, hs_R, uI_at, uJ_at, uD_at, uR_at, List.take_succ_cons, List.take_zero, List.drop_succ_cons, List.drop_zero, List.reverse_cons, List.reverse_nil, List.nil_append, List.cons_append, List.map_cons, List.map_nil, List.sum_cons, List.sum_nil, List.length_cons, List.length_nil, Option.toList_some, Option.toList_none, true_and, and_true, false_and, and_false, true_implies, false_implies, implies_true, not_true_eq_false, not_false_eq_true, ne_eq, if_true, if_false, Bool.and_true, Bool.true_and, decide_true, decide_false, reduceIte, reduceCtorEq, Bool.and_self, Bool.and_eq_true, decide_eq_true_eq, and_self, true_or, or_true, false_or, or_false, Nat.zero_add, Nat.add_zero, eq_self, Nat.reduceEqDiff, Nat.reduceLeDiff, Nat.reduceLT, Nat.reduceAdd, Nat.reduceSub, Nat.reduceMul, LC_out hL]
  rw [show nI s * 4 + nI i = nI (s * 4 + i) by rw [show (4 : Int32) = nI 4 from rfl, pk_mul, nI_add]]
  simp only [nI_inP (show s * 4 + i < 256 by omega) (by decide), nI_ix (show s * 4 + i < 2147483648 by omega), c6 s i hs hi, true_and, and_true, false_and, and_false, true_implies, false_implies, implies_true, not_true_eq_false, not_false_eq_true, ne_eq, if_true, if_false, Bool.and_true, Bool.true_and, decide_true, decide_false, reduceIte, reduceCtorEq, Bool.and_self, Bool.and_eq_true, decide_eq_true_eq, and_self, true_or, or_true, false_or, or_false, Nat.zero_add, Nat.add_zero, eq_self, Nat.reduceEqDiff, Nat.reduceLeDiff, Nat.reduceLT, Nat.reduceAdd, Nat.reduceSub, Nat.reduceMul]
theorem R53 (hL : LC S R) (hG : GR n m fi se dg sb) (hC : CL I n m fi se dg sb) {s k : Nat} (hs : s < 2 ^ 64) (hk : k < m) : xRun xT 53 0 [(0, .ref 102), (1, .long (lN s)), (3, .int (nI k))] [] (S, I, J, D, R) b Q = Q (.ok (some (.int (if s.testBit (fi k) = s.testBit (se k) then 1 else 0)))) (S, I, J, D, R) b := by
  obtain ⟨g0, g1, g2, g3, g4, g5, g6⟩ := hG
  obtain ⟨c1, c2, c3, c4, c5, c6⟩ := hC
  have h3 := g3 k hk
  have h4 := g4 k hk
  rw [e53_0]
  simp only [B53_0, xSeq, i_push, i_load, i_iload, i_lload, i_dload, i_aload, i_istore, i_astore, i_lstore, i_dstore, i_iinc, i_ii, i_iiz, i_ll, i_llz, i_lli, i_li, i_i, i_l, i_i2l, i_l2i, i_dup, i_dup2, i_dup2w, i_dupx1, i_pop, i_pop2, i_goto, i_ifc, i_icmp, i_getI, i_getL, i_getR, i_putI, i_putZ, i_putL, i_putR, i_aldI, i_aldB, i_aldL, i_aldD, i_astI, i_astL, i_astD, i_alen, i_ret, i_iret, i_zret, i_lret, i_fret, i_dret, i_aret, i_invS0, i_invV0, i_m2, i_m1, i_ml, i_obj, lk, lkp, stf1, stf2, Value.category, rV, xTo, lv_args, xCk, xCat, xRc, xAk, hg_S, hg_I, hg_J, hg_D, hg_R, hs_I, hs_J, hs_D, hs_R, uI_at, uJ_at, uD_at, uR_at, List.take_succ_cons, List.take_zero, List.drop_succ_cons, List.drop_zero, List.reverse_cons, List.reverse_nil, List.nil_append, List.cons_append, List.map_cons, List.map_nil, List.sum_cons, List.sum_nil, List.length_cons, List.length_nil, Option.toList_some, Option.toList_none, true_and, and_true, false_and, and_false, true_implies, false_implies, implies_true, not_true_eq_false, not_false_eq_true, ne_eq, if_true, if_false, Bool.and_true, Bool.true_and, decide_true, decide_false, reduceIte, reduceCtorEq, Bool.and_self, Bool.and_eq_true, decide_eq_true_eq, and_self, true_or, or_true, false_or, or_false, Nat.zero_add, Nat.add_zero, eq_self, Nat.reduceEqDiff, Nat.reduceLeDiff, Nat.reduceLT, Nat.reduceAdd, Nat.reduceSub, Nat.reduceMul, LC_out hL, nI_inP (show k < 128 by omega) (by decide), nI_ix (show k < 2147483648 by omega), c3 k hk, c4 k hk, q_bitx hs (show fi k < 64 by omega) (show se k < 64 by omega), q_cmp0, e53_28, B53_28, e53_29, B53_29]
  by_cases hb : s.testBit (fi k) = s.testBit (se k) <;> simp [hb]
theorem R54 (hL : LC S R) (hG : GR n m fi se dg sb) (hC : CL I n m fi se dg sb) {s k : Nat} (hs : s < n) (hk : k < m) : xRun xT 54 0 [(0, .ref 102), (1, .int (nI k)), (2, .int (nI s))] [] (S, I, J, D, R) b Q = Q (.ok (some (.int (nI (if fi k = s then se k else fi k))))) (S, I, J, D, R) b := by
  obtain ⟨g0, g1, g2, g3, g4, g5, g6⟩ := hG
  obtain ⟨c1, c2, c3, c4, c5, c6⟩ := hC
  have h3 := g3 k hk
  have h4 := g4 k hk
  rw [e54_0]
  simp only [B54_0, xSeq, i_push, i_load, i_iload, i_lload, i_dload, i_aload, i_istore, i_astore, i_lstore, i_dstore, i_iinc, i_ii, i_iiz, i_ll, i_llz, i_lli, i_li, i_i, i_l, i_i2l, i_l2i, i_dup, i_dup2, i_dup2w, i_dupx1, i_pop, i_pop2, i_goto, i_ifc, i_icmp, i_getI, i_getL, i_getR, i_putI, i_putZ, i_putL, i_putR, i_aldI, i_aldB, i_aldL, i_aldD, i_astI, i_astL, i_astD, i_alen, i_ret, i_iret, i_zret, i_lret, i_fret, i_dret, i_aret, i_invS0, i_invV0, i_m2, i_m1, i_ml, i_obj, lk, lkp, stf1, stf2, Value.category, rV, xTo, lv_args, xCk, xCat, xRc, xAk, hg_S, hg_I, hg_J, hg_D, hg_R, hs_I, hs_J, hs_D, hs_R, uI_at, uJ_at, uD_at, uR_at, List.take_succ_cons, List.take_zero, List.drop_succ_cons, List.drop_zero, List.reverse_cons, List.reverse_nil, List.nil_append, List.cons_append, List.map_cons, List.map_nil, List.sum_cons, List.sum_nil, List.length_cons, List.length_nil, Option.toList_some, Option.toList_none, true_and, and_true, false_and, and_false, true_implies, false_implies, implies_true, not_true_eq_false, not_false_eq_true, ne_eq, if_true, if_false, Bool.and_true, Bool.true_and, decide_true, decide_false, reduceIte, reduceCtorEq, Bool.and_self, Bool.and_eq_true, decide_eq_true_eq, and_self, true_or, or_true, false_or, or_false, Nat.zero_add, Nat.add_zero, eq_self, Nat.reduceEqDiff, Nat.reduceLeDiff, Nat.reduceLT, Nat.reduceAdd, Nat.reduceSub, Nat.reduceMul, LC_out hL, nI_inP (show k < 128 by omega) (by decide), nI_ix (show k < 2147483648 by omega), c3 k hk, c4 k hk, nI_iff (show fi k < 2147483648 by omega) (show s < 2147483648 by omega), e54_19, B54_19, e54_25, B54_25]
  by_cases hb : fi k = s <;> simp [hb]
/-- the sum of the spins -/
def mg (n s : Nat) : Int32 := sm (fun i => sg (s.testBit i)) n
/-- strength times both spins, all bonds -/
def ps (m : Nat) (st : Nat → Int32) (fi se : Nat → Nat) (s : Nat) : Int32 := sm (fun k => pr (st k) (s.testBit (fi k)) (s.testBit (se k))) m
theorem R74_17 (hL : LC S R) (hG : GR n m fi se dg sb) (hC : CL I n m fi se dg sb) {s : Nat} (hs : s < 2 ^ 64) : ∀ (j i : Nat) (acc : Int32), i + j = m → xRun xT 74 17 [(0, .ref 110), (1, .long (lN s)), (3, .int (acc + ps i (I 111) fi se s)), (4, .int (nI i))] [] (S, I, J, D, R) b Q = Q (.ok (some (.int (-(acc + ps m (I 111) fi se s))))) (S, I, J, D, R) b
  | 0, i, acc, hi => by
    obtain ⟨g0, g1, g2, g3, g4, g5, g6⟩ := hG
    obtain ⟨c1, c2, c3, c4, c5, c6⟩ := hC
    have e : i = m := by omega
    subst e
    rw [e74_17]
    simp only [B74_17, xSeq, i_push, i_load, i_iload, i_lload, i_dload, i_aload, i_istore, i_astore, i_lstore, i_dstore, i_iinc, i_ii, i_iiz, i_ll, i_llz, i_lli, i_li, i_i, i_l, i_i2l, i_l2i, i_dup, i_dup2, i_dup2w, i_dupx1, i_pop, i_pop2, i_goto, i_ifc, i_icmp, i_getI, i_getL, i_getR, i_putI, i_putZ, i_putL, i_putR, i_aldI, i_aldB, i_aldL, i_aldD, i_astI, i_astL, i_astD, i_alen, i_ret, i_iret, i_zret, i_lret, i_fret, i_dret, i_aret, i_invS0, i_invV0, i_m2, i_m1, i_ml, i_obj, lk, lkp, stf1, stf2, Value.category, rV, xTo, lv_args, xCk, xCat, xRc, xAk, hg_S, hg_I, hg_J, hg_D, hg_R, hs_I, hs_J, hs_D, hs_R, uI_at, uJ_at, uD_at, uR_at, List.take_succ_cons, List.take_zero, List.drop_succ_cons, List.drop_zero, List.reverse_cons, List.reverse_nil, List.nil_append, List.cons_append, List.map_cons, List.map_nil, List.sum_cons, List.sum_nil, List.length_cons, List.length_nil, Option.toList_some, Option.toList_none, true_and, and_true, false_and, and_false, true_implies, false_implies, implies_true, not_true_eq_false, not_false_eq_true, ne_eq, if_true, if_false, Bool.and_true, Bool.true_and, decide_true, decide_false, reduceIte, reduceCtorEq, Bool.and_self, Bool.and_eq_true, decide_eq_true_eq, and_self, true_or, or_true, false_or, or_false, Nat.zero_add, Nat.add_zero, eq_self, Nat.reduceEqDiff, Nat.reduceLeDiff, Nat.reduceLT, Nat.reduceAdd, Nat.reduceSub, Nat.reduceMul, LC_out hL, c2, nI_leP (show i < 2147483648 by omega) (show i < 2147483648 by omega), Nat.le_refl, e74_45, B74_45]
  | j + 1, i, acc, hi => by
    have hG' := hG
    have hC' := hC
    obtain ⟨g0, g1, g2, g3, g4, g5, g6⟩ := hG'
    obtain ⟨c1, c2, c3, c4, c5, c6⟩ := hC'
    rw [e74_17]
    simp only [B74_17, xSeq, i_push, i_load, i_iload, i_lload, i_dload, i_aload, i_istore, i_astore, i_lstore, i_dstore, i_iinc, i_ii, i_iiz, i_ll, i_llz, i_lli, i_li, i_i, i_l, i_i2l, i_l2i, i_dup, i_dup2, i_dup2w, i_dupx1, i_pop, i_pop2, i_goto, i_ifc, i_icmp, i_getI, i_getL, i_getR, i_putI, i_putZ, i_putL, i_putR, i_aldI, i_aldB, i_aldL, i_aldD, i_astI, i_astL, i_astD, i_alen, i_ret, i_iret, i_zret, i_lret, i_fret, i_dret, i_aret, i_invS0, i_invV0, i_m2, i_m1, i_ml, i_obj, lk, lkp, stf1, stf2, Value.category, rV, xTo, lv_args, xCk, xCat, xRc, xAk, hg_S, hg_I, hg_J, hg_D, hg_R, hs_I, hs_J, hs_D, hs_R, uI_at, uJ_at, uD_at, uR_at, List.take_succ_cons, List.take_zero, List.drop_succ_cons, List.drop_zero, List.reverse_cons, List.reverse_nil, List.nil_append, List.cons_append, List.map_cons, List.map_nil, List.sum_cons, List.sum_nil, List.length_cons, List.length_nil, Option.toList_some, Option.toList_none, true_and, and_true, false_and, and_false, true_implies, false_implies, implies_true, not_true_eq_false, not_false_eq_true, ne_eq, if_true, if_false, Bool.and_true, Bool.true_and, decide_true, decide_false, reduceIte, reduceCtorEq, Bool.and_self, Bool.and_eq_true, decide_eq_true_eq, and_self, true_or, or_true, false_or, or_false, Nat.zero_add, Nat.add_zero, eq_self, Nat.reduceEqDiff, Nat.reduceLeDiff, Nat.reduceLT, Nat.reduceAdd, Nat.reduceSub, Nat.reduceMul, LC_out hL, c2, nI_leP (show m < 2147483648 by omega) (show i < 2147483648 by omega), show (m ≤ i) = False from eq_false (by omega), R75 hL hG hC hs (show i < m by omega), nI_1]
    have := R74_17 hL hG hC hs j (i + 1) acc (by omega)
    rw [ps, sm, ← Int32.add_assoc] at this
    exact this
end
section
variable {S : xS} {I : xI} {J : xJ} {D : xDb} {R : xR} {b : Nat × Nat} {Q : xQ} {n m : Nat} {fi se dg : Nat → Nat} {sb : Nat → Nat → Nat}
/-- what a flip of one spin changes -/
def dl (F : Int32) (st : Nat → Int32) (fi se dg : Nat → Nat) (sb : Nat → Nat → Nat) (s t : Nat) : Int32 := 2 * (F * sg (s.testBit t) + sm (fun i => pr (st (sb t i)) (s.testBit (fi (sb t i))) (s.testBit (se (sb t i)))) (dg t))
theorem R76_16 (hL : LC S R) (hG : GR n m fi se dg sb) (hC : CL I n m fi se dg sb) {s t : Nat} (hs : s < 2 ^ 64) (ht : t < n) : ∀ (j i : Nat) (acc : Int32), i + j = dg t → xRun xT 76 16 [(0, .ref 110), (1, .long (lN s)), (3, .int (nI t)), (4, .int (acc + sm (fun i => pr (I 111 (sb t i)) (s.testBit (fi (sb t i))) (s.testBit (se (sb t i)))) i)), (5, .int (nI i))] [] (S, I, J, D, R) b Q = Q (.ok (some (.int (2 * (acc + sm (fun i => pr (I 111 (sb t i)) (s.testBit (fi (sb t i))) (s.testBit (se (sb t i)))) (dg t)))))) (S, I, J, D, R) b
  | 0, i, acc, hi => by
    obtain ⟨g0, g1, g2, g3, g4, g5, g6⟩ := hG
    obtain ⟨c1, c2, c3, c4, c5, c6⟩ := hC
    have h5 := g5 t ht
    have e : i = dg t := by omega
    subst e
    rw [e76_16]
    simp only [B76_16, xSeq, i_push, i_load, i_iload, i_lload, i_dload, i_aload, i_istore, i_astore, i_lstore, i_dstore, i_iinc, i_ii, i_iiz, i_ll, i_llz, i_lli, i_li, i_i, i_l, i_i2l, i_l2i, i_dup, i_dup2, i_dup2w, i_dupx1, i_pop, i_pop2, i_goto, i_ifc, i_icmp, i_getI, i_getL, i_getR, i_putI, i_putZ, i_putL, i_putR, i_aldI, i_aldB, i_aldL, i_aldD, i_astI, i_astL, i_astD, i_alen, i_ret, i_iret, i_zret, i_lret, i_fret, i_dret, i_aret, i_invS0, i_invV0, i_m2, i_m1, i_ml, i_obj, lk, lkp, stf1, stf2, Value.category, rV, xTo, lv_args, xCk, xCat, xRc, xAk, hg_S, hg_I, hg_J, hg_D, hg_R, hs_I, hs_J, hs_D, hs_R, uI_at, uJ_at, uD_at, uR_at, List.take_succ_cons, List.take_zero, List.drop_succ_cons, List.drop_zero, List.reverse_cons, List.reverse_nil, List.nil_append, List.cons_append, List.map_cons, List.map_nil, List.sum_cons, List.sum_nil, List.length_cons, List.length_nil, Option.toList_some, Option.toList_none, true_and, and_true, false_and, and_false, true_implies, false_implies, implies_true, not_true_eq_false, not_false_eq_true, ne_eq, if_true, if_false, Bool.and_true, Bool.true_and, decide_true, decide_false, reduceIte, reduceCtorEq, Bool.and_self, Bool.and_eq_true, decide_eq_true_eq, and_self, true_or, or_true, false_or, or_false, Nat.zero_add, Nat.add_zero, eq_self, Nat.reduceEqDiff, Nat.reduceLeDiff, Nat.reduceLT, Nat.reduceAdd, Nat.reduceSub, Nat.reduceMul, LC_out hL, nI_inP (show t < 64 by omega) (by decide), nI_ix (show t < 2147483648 by omega), c5 t ht, nI_leP (show dg t < 2147483648 by omega) (show dg t < 2147483648 by omega), Nat.le_refl, e76_56, B76_56]
  | j + 1, i, acc, hi => by
    have hG' := hG
    have hC' := hC
    obtain ⟨g0, g1, g2, g3, g4, g5, g6⟩ := hG'
    obtain ⟨c1, c2, c3, c4, c5, c6⟩ := hC'
    have h5 := g5 t ht
    rw [e76_16]
    simp only [B76_16, xSeq, i_push, i_load, i_iload, i_lload, i_dload, i_aload, i_istore, i_astore, i_lstore, i_dstore, i_iinc, i_ii, i_iiz, i_ll, i_llz, i_lli, i_li, i_i, i_l, i_i2l, i_l2i, i_dup, i_dup2, i_dup2w, i_dupx1, i_pop, i_pop2, i_goto, i_ifc, i_icmp, i_getI, i_getL, i_getR, i_putI, i_putZ, i_putL, i_putR, i_aldI, i_aldB, i_aldL, i_aldD, i_astI, i_astL, i_astD, i_alen, i_ret, i_iret, i_zret, i_lret, i_fret, i_dret, i_aret, i_invS0, i_invV0, i_m2, i_m1, i_ml, i_obj, lk, lkp, stf1, stf2, Value.category, rV, xTo, lv_args, xCk, xCat, xRc, xAk, hg_S, hg_I, hg_J, hg_D, hg_R, hs_I, hs_J, hs_D, hs_R, uI_at, uJ_at, uD_at, uR_at, List.take_succ_cons, List.take_zero, List.drop_succ_cons, List.drop_zero, List.reverse_cons, List.reverse_nil, List.nil_append, List.cons_append, List.map_cons, List.map_nil, List.sum_cons, List.sum_nil, List.length_cons, List.length_nil, Option.toList_some, Option.toList_none, true_and, and_true, false_and, and_false, true_implies, false_implies, implies_true, not_true_eq_false, not_false_eq_true, ne_eq, if_true, if_false, Bool.and_true, Bool.true_and, decide_true, decide_false, reduceIte, reduceCtorEq, Bool.and_self, Bool.and_eq_true, decide_eq_true_eq, and_self, true_or, or_true, false_or, or_false, Nat.zero_add, Nat.add_zero, eq_self, Nat.reduceEqDiff, Nat.reduceLeDiff, Nat.reduceLT, Nat.reduceAdd, Nat.reduceSub, Nat.reduceMul, LC_out hL, nI_inP (show t < 64 by omega) (by decide), nI_ix (show t < 2147483648 by omega), c5 t ht, nI_leP (show dg t < 2147483648 by omega) (show i < 2147483648 by omega), show (dg t ≤ i) = False from eq_false (by omega), R52 hL hG hC ht (show i < dg t by omega), R75 hL hG hC hs (g6 t i ht (by omega)), nI_1]
    have := R76_16 hL hG hC hs ht j (i + 1) acc (by omega)
    rw [sm, ← Int32.add_assoc] at this
    exact this
theorem R76 (hL : LC S R) (hG : GR n m fi se dg sb) (hC : CL I n m fi se dg sb) {s t : Nat} (hs : s < 2 ^ 64) (ht : t < n) : xRun xT 76 0 [(0, .ref 110), (1, .long (lN s)), (3, .int (nI t))] [] (S, I, J, D, R) b Q = Q (.ok (some (.int (dl (I 110 6) (I 111) fi se dg sb s t)))) (S, I, J, D, R) b := by
  have g1 := hG.2.1
  rw [e76_0]
  simp only [B76_0, xSeq, i_push, i_load, i_iload, i_lload, i_dload, i_aload, i_istore, i_astore, i_lstore, i_dstore, i_iinc, i_ii, i_iiz, i_ll, i_llz, i_lli, i_li, i_i, i_l, i_i2l, i_l2i, i_dup, i_dup2, i_dup2w, i_dupx1, i_pop, i_pop2, i_goto, i_ifc, i_icmp, i_getI, i_getL, i_getR, i_putI, i_putZ, i_putL, i_putR, i_aldI, i_aldB, i_aldL, i_aldD, i_astI, i_astL, i_astD, i_alen, i_ret, i_iret, i_zret, i_lret, i_fret, i_dret, i_aret, i_invS0, i_invV0, i_m2, i_m1, i_ml, i_obj, lk, lkp, stf1, stf2, Value.category, rV, xTo, lv_args, xCk, xCat, xRc, xAk, hg_S, hg_I, hg_J, hg_D, hg_R, hs_I, hs_J, hs_D, hs_R, uI_at, uJ_at, uD_at, uR_at, List.take_succ_cons, List.take_zero, List.drop_succ_cons, List.drop_zero, List.reverse_cons, List.reverse_nil, List.nil_append, List.cons_append, List.map_cons, List.map_nil, List.sum_cons, List.sum_nil, List.length_cons, List.length_nil, Option.toList_some, Option.toList_none, true_and, and_true, false_and, and_false, true_implies, false_implies, implies_true, not_true_eq_false, not_false_eq_true, ne_eq, if_true, if_false, Bool.and_true, Bool.true_and, decide_true, decide_false, reduceIte, reduceCtorEq, Bool.and_self, Bool.and_eq_true, decide_eq_true_eq, and_self, true_or, or_true, false_or, or_false, Nat.zero_add, Nat.add_zero, eq_self, Nat.reduceEqDiff, Nat.reduceLeDiff, Nat.reduceLT, Nat.reduceAdd, Nat.reduceSub, Nat.reduceMul, LC_out hL, R77 (S := S) (R := R) hs (show t < 64 by omega)]
  have := R76_16 (J := J) (D := D) (b := b) (Q := Q) hL hG hC hs ht (dg t) 0 (I 110 6 * sg (s.testBit t)) (by omega)
  rw [sm, Int32.add_zero] at this
  exact this
theorem R84 (hL : LC S R) {g k : Nat} (hg : g < 2147483648) (hJ : J 110 5 = lN g) (h0 : 0 < k) (hk : k < 2147483648) : xRun xT 84 0 [(0, .ref 110), (1, .int (nI k))] [] (S, I, J, D, R) b Q = Q (.ok (some (.int (nI (dw g k))))) (S, I, uJ J 110 5 (lN (nx g)), D, R) b := by
  have h1 := nx_lt g
  rw [e84_0]
  simp only [B84_0, xSeq, i_push, i_load, i_iload, i_lload, i_dload, i_aload, i_istore, i_astore, i_lstore, i_dstore, i_iinc, i_ii, i_iiz, i_ll, i_llz, i_lli, i_li, i_i, i_l, i_i2l, i_l2i, i_dup, i_dup2, i_dup2w, i_dupx1, i_pop, i_pop2, i_goto, i_ifc, i_icmp, i_getI, i_getL, i_getR, i_putI, i_putZ, i_putL, i_putR, i_aldI, i_aldB, i_aldL, i_aldD, i_astI, i_astL, i_astD, i_alen, i_ret, i_iret, i_zret, i_lret, i_fret, i_dret, i_aret, i_invS0, i_invV0, i_m2, i_m1, i_ml, i_obj, lk, lkp, stf1, stf2, Value.category, rV, xTo, lv_args, xCk, xCat, xRc, xAk, hg_S, hg_I, hg_J, hg_D, hg_R, hs_I, hs_J, hs_D, hs_R, uI_at, uJ_at, uD_at, uR_at, List.take_succ_cons, List.take_zero, List.drop_succ_cons, List.drop_zero, List.reverse_cons, List.reverse_nil, List.nil_append, List.cons_append, List.map_cons, List.map_nil, List.sum_cons, List.sum_nil, List.length_cons, List.length_nil, Option.toList_some, Option.toList_none, true_and, and_true, false_and, and_false, true_implies, false_implies, implies_true, not_true_eq_false, not_false_eq_true, ne_eq, if_true, if_false, Bool.and_true, Bool.true_and, decide_true, decide_false, reduceIte, reduceCtorEq, Bool.and_self, Bool.and_eq_true, decide_eq_true_eq, and_self, true_or, or_true, false_or, or_false, Nat.zero_add, Nat.add_zero, eq_self, Nat.reduceEqDiff, Nat.reduceLeDiff, Nat.reduceLT, Nat.reduceAdd, Nat.reduceSub, Nat.reduceMul, LC_out hL, hJ, q_nx g hg, show (nI k ≤ 0) = False from eq_false (nI_nle h0 hk), q_s16 h1, q_rem (show nx g / 65536 < 2 ^ 31 by omega) h0 hk, show (nI k = 0) = False from eq_false (nI_ne0 h0 hk), e84_38, B84_38, dw]
theorem R83_2 (hL : LC S R) {a bb : Nat} (hA : I 110 7 = nI a) (hB : I 110 8 = nI bb) (ha : a < 2147483648) (h0 : 0 < bb) (hb : bb < 2147483648) {d : Nat} (hd : d < 2147483648) : ∀ (j i g : Nat) (J : xJ), i + j = d → g < 2147483648 → J 110 5 = lN g →
    xRun xT 83 2 [(0, .ref 110), (1, .int (nI d)), (2, .int (nI i))] [] (S, I, J, D, R) b Q = Q (.ok (some (.int (if (pd a bb j g).1 = true then 1 else 0)))) (S, I, uJ J 110 5 (lN (pd a bb j g).2), D, R) b
  | 0, i, g, J, hi, hg, hJ => by
    have e : i = d := by omega
    subst e
    rw [e83_2]
    simp only [B83_2, xSeq, i_push, i_load, i_iload, i_lload, i_dload, i_aload, i_istore, i_astore, i_lstore, i_dstore, i_iinc, i_ii, i_iiz, i_ll, i_llz, i_lli, i_li, i_i, i_l, i_i2l, i_l2i, i_dup, i_dup2, i_dup2w, i_dupx1, i_pop, i_pop2, i_goto, i_ifc, i_icmp, i_getI, i_getL, i_getR, i_putI, i_putZ, i_putL, i_putR, i_aldI, i_aldB, i_aldL, i_aldD, i_astI, i_astL, i_astD, i_alen, i_ret, i_iret, i_zret, i_lret, i_fret, i_dret, i_aret, i_invS0, i_invV0, i_m2, i_m1, i_ml, i_obj, lk, lkp, stf1, stf2, Value.category, rV, xTo, lv_args, xCk, xCat, xRc, xAk, hg_S, hg_I, hg_J, hg_D, hg_R, hs_I, hs_J, hs_D, hs_R, uI_at, uJ_at, uD_at, uR_at, List.take_succ_cons, List.take_zero, List.drop_succ_cons, List.drop_zero, List.reverse_cons, List.reverse_nil, List.nil_append, List.cons_append, List.map_cons, List.map_nil, List.sum_cons, List.sum_nil, List.length_cons, List.length_nil, Option.toList_some, Option.toList_none, true_and, and_true, false_and, and_false, true_implies, false_implies, implies_true, not_true_eq_false, not_false_eq_true, ne_eq, if_true, if_false, Bool.and_true, Bool.true_and, decide_true, decide_false, reduceIte, reduceCtorEq, Bool.and_self, Bool.and_eq_true, decide_eq_true_eq, and_self, true_or, or_true, false_or, or_false, Nat.zero_add, Nat.add_zero, eq_self, Nat.reduceEqDiff, Nat.reduceLeDiff, Nat.reduceLT, Nat.reduceAdd, Nat.reduceSub, Nat.reduceMul, nI_leP hd hd, Nat.le_refl, e83_30, B83_30, pd, uJ_same hJ]
  | j + 1, i, g, J, hi, hg, hJ => by
    have h1 := dw_lt g h0
    rw [e83_2]
    simp only [B83_2, xSeq, i_push, i_load, i_iload, i_lload, i_dload, i_aload, i_istore, i_astore, i_lstore, i_dstore, i_iinc, i_ii, i_iiz, i_ll, i_llz, i_lli, i_li, i_i, i_l, i_i2l, i_l2i, i_dup, i_dup2, i_dup2w, i_dupx1, i_pop, i_pop2, i_goto, i_ifc, i_icmp, i_getI, i_getL, i_getR, i_putI, i_putZ, i_putL, i_putR, i_aldI, i_aldB, i_aldL, i_aldD, i_astI, i_astL, i_astD, i_alen, i_ret, i_iret, i_zret, i_lret, i_fret, i_dret, i_aret, i_invS0, i_invV0, i_m2, i_m1, i_ml, i_obj, lk, lkp, stf1, stf2, Value.category, rV, xTo, lv_args, xCk, xCat, xRc, xAk, hg_S, hg_I, hg_J, hg_D, hg_R, hs_I, hs_J, hs_D, hs_R, uI_at, uJ_at, uD_at, uR_at, List.take_succ_cons, List.take_zero, List.drop_succ_cons, List.drop_zero, List.reverse_cons, List.reverse_nil, List.nil_append, List.cons_append, List.map_cons, List.map_nil, List.sum_cons, List.sum_nil, List.length_cons, List.length_nil, Option.toList_some, Option.toList_none, true_and, and_true, false_and, and_false, true_implies, false_implies, implies_true, not_true_eq_false, not_false_eq_true, ne_eq, if_true, if_false, Bool.and_true, Bool.true_and, decide_true, decide_false, reduceIte, reduceCtorEq, Bool.and_self, Bool.and_eq_true, decide_eq_true_eq, and_self, true_or, or_true, false_or, or_false, Nat.zero_add, Nat.add_zero, eq_self, Nat.reduceEqDiff, Nat.reduceLeDiff, Nat.reduceLT, Nat.reduceAdd, Nat.reduceSub, Nat.reduceMul, nI_leP hd (show i < 2147483648 by omega), show (d ≤ i) = False from eq_false (by omega), LC_out hL, hA, hB, R84 hL hg hJ h0 hb, nI_ltP (show dw g bb < 2147483648 by omega) ha]
    by_cases h : dw g bb < a
    · simp only [h, true_and, and_true, false_and, and_false, true_implies, false_implies, implies_true, not_true_eq_false, not_false_eq_true, ne_eq, if_true, if_false, Bool.and_true, Bool.true_and, decide_true, decide_false, reduceIte, reduceCtorEq, Bool.and_self, Bool.and_eq_true, decide_eq_true_eq, and_self, true_or, or_true, false_or, or_false, Nat.zero_add, Nat.add_zero, eq_self, Nat.reduceEqDiff, Nat.reduceLeDiff, Nat.reduceLT, Nat.reduceAdd, Nat.reduceSub, Nat.reduceMul, e83_24, B83_24, xSeq, i_push, i_load, i_iload, i_lload, i_dload, i_aload, i_istore, i_astore, i_lstore, i_dstore, i_iinc, i_ii, i_iiz, i_ll, i_llz, i_lli, i_li, i_i, i_l, i_i2l, i_l2i, i_dup, i_dup2, i_dup2w, i_dupx1, i_pop, i_pop2, i_goto, i_ifc, i_icmp, i_getI, i_getL, i_getR, i_putI, i_putZ, i_putL, i_putR, i_aldI, i_aldB, i_aldL, i_aldD, i_astI, i_astL, i_astD, i_alen, i_ret, i_iret, i_zret, i_lret, i_fret, i_dret, i_aret, i_invS0, i_invV0, i_m2, i_m1, i_ml, i_obj, lk, lkp, stf1, stf2, Value.category, rV, xTo, lv_args, xCk, xCat, xRc, xAk, hg_S, hg_I, hg_J, hg_D, hg_R, hs_I, hs_J, hs_D, hs_R, uI_at, uJ_at, uD_at, uR_at, List.take_succ_cons, List.take_zero, List.drop_succ_cons, List.drop_zero, List.reverse_cons, List.reverse_nil, List.nil_append, List.cons_append, List.map_cons, List.map_nil, List.sum_cons, List.sum_nil, List.length_cons, List.length_nil, Option.toList_some, Option.toList_none, nI_1, R83_2 hL hA hB ha h0 hb hd j (i + 1) (nx g) (uJ J 110 5 (lN (nx g))) (by omega) (nx_lt g) (by simp [uJ_at]), pd, uJ_uJ]
    · simp only [h, true_and, and_true, false_and, and_false, true_implies, false_implies, implies_true, not_true_eq_false, not_false_eq_true, ne_eq, if_true, if_false, Bool.and_true, Bool.true_and, decide_true, decide_false, reduceIte, reduceCtorEq, Bool.and_self, Bool.and_eq_true, decide_eq_true_eq, and_self, true_or, or_true, false_or, or_false, Nat.zero_add, Nat.add_zero, eq_self, Nat.reduceEqDiff, Nat.reduceLeDiff, Nat.reduceLT, Nat.reduceAdd, Nat.reduceSub, Nat.reduceMul, pd]
theorem R83 (hL : LC S R) {a bb : Nat} (hA : I 110 7 = nI a) (hB : I 110 8 = nI bb) (ha : a < 2147483648) (h0 : 0 < bb) (hb : bb < 2147483648) {d : Nat} (hd : d < 2147483648) {g : Nat} (hg : g < 2147483648) (hJ : J 110 5 = lN g) :
    xRun xT 83 0 [(0, .ref 110), (1, .int (nI d))] [] (S, I, J, D, R) b Q = Q (.ok (some (.int (if (pd a bb d g).1 = true then 1 else 0)))) (S, I, uJ J 110 5 (lN (pd a bb d g).2), D, R) b := by
  rw [e83_0]
  simp only [B83_0, xSeq, i_push, i_load, i_iload, i_lload, i_dload, i_aload, i_istore, i_astore, i_lstore, i_dstore, i_iinc, i_ii, i_iiz, i_ll, i_llz, i_lli, i_li, i_i, i_l, i_i2l, i_l2i, i_dup, i_dup2, i_dup2w, i_dupx1, i_pop, i_pop2, i_goto, i_ifc, i_icmp, i_getI, i_getL, i_getR, i_putI, i_putZ, i_putL, i_putR, i_aldI, i_aldB, i_aldL, i_aldD, i_astI, i_astL, i_astD, i_alen, i_ret, i_iret, i_zret, i_lret, i_fret, i_dret, i_aret, i_invS0, i_invV0, i_m2, i_m1, i_ml, i_obj, lk, lkp, stf1, stf2, Value.category, rV, xTo, lv_args, xCk, xCat, xRc, xAk, hg_S, hg_I, hg_J, hg_D, hg_R, hs_I, hs_J, hs_D, hs_R, uI_at, uJ_at, uD_at, uR_at, List.take_succ_cons, List.take_zero, List.drop_succ_cons, List.drop_zero, List.reverse_cons, List.reverse_nil, List.nil_append, List.cons_append, List.map_cons, List.map_nil, List.sum_cons, List.sum_nil, List.length_cons, List.length_nil, Option.toList_some, Option.toList_none, true_and, and_true, false_and, and_false, true_implies, false_implies, implies_true, not_true_eq_false, not_false_eq_true, ne_eq, if_true, if_false, Bool.and_true, Bool.true_and, decide_true, decide_false, reduceIte, reduceCtorEq, Bool.and_self, Bool.and_eq_true, decide_eq_true_eq, and_self, true_or, or_true, false_or, or_false, Nat.zero_add, Nat.add_zero, eq_self, Nat.reduceEqDiff, Nat.reduceLeDiff, Nat.reduceLT, Nat.reduceAdd, Nat.reduceSub, Nat.reduceMul]
  exact R83_2 hL hA hB ha h0 hb hd d 0 g J (by omega) hg hJ
end
/-! ===== the model: spins, bonds, energies, draws ===== -/
/-- the model's lattice holds the grid -/
def CM (I : xI) (n m : Nat) (fi se dg : Nat → Nat) (sb : Nat → Nat → Nat) : Prop := I 300 10 = nI n ∧ I 300 8 = nI m ∧ (∀ k, k < m → I 314 k = nI (fi k)) ∧ (∀ k, k < m → I 315 k = nI (se k)) ∧ (∀ s, s < n → I 317 s = nI (dg s)) ∧ (∀ s i, s < n → i < dg s → I 316 (s * 4 + i) = nI (sb s i))
theorem i32_sub3 (a x y : Int32) : a - (x + y) = a - x - y := by grind
section
variable {S : xS} {I : xI} {J : xJ} {D : xDb} {R : xR} {b : Nat × Nat} {Q : xQ} {n m : Nat} {fi se dg : Nat → Nat} {sb : Nat → Nat → Nat}
theorem R238 {s i : Nat} (hs : s < 2 ^ 64) (hi : i < 64) : xRun xT 238 0 [(0, .long (lN s)), (2, .int (nI i))] [] (S, I, J, D, R) b Q = Q (.ok (some (.int (sg (s.testBit i))))) (S, I, J, D, R) b := by
  rw [e238_0]
  simp only [B238_0, xSeq, i_push, i_load, i_iload, i_lload, i_dload, i_aload, i_istore, i_astore, i_lstore, i_dstore, i_iinc, i_ii, i_iiz, i_ll, i_llz, i_lli, i_li, i_i, i_l, i_i2l, i_l2i, i_dup, i_dup2, i_dup2w, i_dupx1, i_pop, i_pop2, i_goto, i_ifc, i_icmp, i_getI, i_getL, i_getR, i_putI, i_putZ, i_putL, i_putR, i_aldI, i_aldB, i_aldL, i_aldD, i_astI, i_astL, i_astD, i_alen, i_ret, i_iret, i_zret, i_lret, i_fret, i_dret, i_aret, i_invS0, i_invV0, i_m2, i_m1, i_ml, i_obj, lk, lkp, stf1, stf2, Value.category, rV, xTo, lv_args, xCk, xCat, xRc, xAk, hg_S, hg_I, hg_J, hg_D, hg_R, hs_I, hs_J, hs_D, hs_R, uI_at, uJ_at, uD_at, uR_at, List.take_succ_cons, List.take_zero, List.drop_succ_cons, List.drop_zero, List.reverse_cons, List.reverse_nil, List.nil_append, List.cons_append, List.map_cons, List.map_nil, List.sum_cons, List.sum_nil, List.length_cons, List.length_nil, Option.toList_some, Option.toList_none, true_and, and_true, false_and, and_false, true_implies, false_implies, implies_true, not_true_eq_false, not_false_eq_true, ne_eq, if_true, if_false, Bool.and_true, Bool.true_and, decide_true, decide_false, reduceIte, reduceCtorEq, Bool.and_self, Bool.and_eq_true, decide_eq_true_eq, and_self, true_or, or_true, false_or, or_false, Nat.zero_add, Nat.add_zero, eq_self, Nat.reduceEqDiff, Nat.reduceLeDiff, Nat.reduceLT, Nat.reduceAdd, Nat.reduceSub, Nat.reduceMul, q_bits hs hi, q_cmp1, e238_14, B238_14, e238_15, B238_15]
  cases hb : s.testBit i <;> simp [sg]
theorem R237 (hL : LM S R) (hG : GR n m fi se dg sb) (hC : CM I n m fi se dg sb) {s k : Nat} (hs : s < 2 ^ 64) (hk : k < m) : xRun xT 237 0 [(0, .ref 200), (1, .long (lN s)), (3, .int (nI k))] [] (S, I, J, D, R) b Q = Q (.ok (some (.int (pr (I 300 (16 + k)) (s.testBit (fi k)) (s.testBit (se k)))))) (S, I, J, D, R) b := by
  obtain ⟨g0, g1, g2, g3, g4, g5, g6⟩ := hG
  obtain ⟨c1, c2, c3, c4, c5, c6⟩ := hC
  have h3 := g3 k hk
  have h4 := g4 k hk
  rw [e237_0]
  simp only [B237_0, xSeq, i_push, i_load, i_iload, i_lload, i_dload, i_aload, i_istore, i_astore, i_lstore, i_dstore, i_iinc, i_ii, i_iiz, i_ll, i_llz, i_lli, i_li, i_i, i_l, i_i2l, i_l2i, i_dup, i_dup2, i_dup2w, i_dupx1, i_pop, i_pop2, i_goto, i_ifc, i_icmp, i_getI, i_getL, i_getR, i_putI, i_putZ, i_putL, i_putR, i_aldI, i_aldB, i_aldL, i_aldD, i_astI, i_astL, i_astD, i_alen, i_ret, i_iret, i_zret, i_lret, i_fret, i_dret, i_aret, i_invS0, i_invV0, i_m2, i_m1, i_ml, i_obj, lk, lkp, stf1, stf2, Value.category, rV, xTo, lv_args, xCk, xCat, xRc, xAk, hg_S, hg_I, hg_J, hg_D, hg_R, hs_I, hs_J, hs_D, hs_R, uI_at, uJ_at, uD_at, uR_at, List.take_succ_cons, List.take_zero, List.drop_succ_cons, List.drop_zero, List.reverse_cons, List.reverse_nil, List.nil_append, List.cons_append, List.map_cons, List.map_nil, List.sum_cons, List.sum_nil, List.length_cons, List.length_nil, Option.toList_some, Option.toList_none, true_and, and_true, false_and, and_false, true_implies, false_implies, implies_true, not_true_eq_false, not_false_eq_true, ne_eq, if_true, if_false, Bool.and_true, Bool.true_and, decide_true, decide_false, reduceIte, reduceCtorEq, Bool.and_self, Bool.and_eq_true, decide_eq_true_eq, and_self, true_or, or_true, false_or, or_false, Nat.zero_add, Nat.add_zero, eq_self, Nat.reduceEqDiff, Nat.reduceLeDiff, Nat.reduceLT, Nat.reduceAdd, Nat.reduceSub, Nat.reduceMul, LM_out hL, nI_c16, nI_inP (show 16 + k < 144 by omega) (by decide), nI_ix (show 16 + k < 2147483648 by omega), nI_inP (show k < 128 by omega) (by decide), nI_ix (show k < 2147483648 by omega), c3 k hk, c4 k hk, R238 (S := S) (R := R) hs (show fi k < 64 by omega), R238 (S := S) (R := R) hs (show se k < 64 by omega), pr_sg]
theorem R251_5 (hL : LM S R) (hC : I 300 10 = nI n) (hn : n ≤ 64) {s : Nat} (hs : s < 2 ^ 64) : ∀ (j i : Nat), i + j = n → xRun xT 251 5 [(0, .ref 200), (1, .long (lN s)), (3, .int (mg i s)), (4, .int (nI i))] [] (S, I, J, D, R) b Q = Q (.ok (some (.int (mg n s)))) (S, I, J, D, R) b
  | 0, i, hi => by
    have e : i = n := by omega
    subst e
    rw [e251_5]
    simp only [B251_5, xSeq, i_push, i_load, i_iload, i_lload, i_dload, i_aload, i_istore, i_astore, i_lstore, i_dstore, i_iinc, i_ii, i_iiz, i_ll, i_llz, i_lli, i_li, i_i, i_l, i_i2l, i_l2i, i_dup, i_dup2, i_dup2w, i_dupx1, i_pop, i_pop2, i_goto, i_ifc, i_icmp, i_getI, i_getL, i_getR, i_putI, i_putZ, i_putL, i_putR, i_aldI, i_aldB, i_aldL, i_aldD, i_astI, i_astL, i_astD, i_alen, i_ret, i_iret, i_zret, i_lret, i_fret, i_dret, i_aret, i_invS0, i_invV0, i_m2, i_m1, i_ml, i_obj, lk, lkp, stf1, stf2, Value.category, rV, xTo, lv_args, xCk, xCat, xRc, xAk, hg_S, hg_I, hg_J, hg_D, hg_R, hs_I, hs_J, hs_D, hs_R, uI_at, uJ_at, uD_at, uR_at, List.take_succ_cons, List.take_zero, List.drop_succ_cons, List.drop_zero, List.reverse_cons, List.reverse_nil, List.nil_append, List.cons_append, List.map_cons, List.map_nil, List.sum_cons, List.sum_nil, List.length_cons, List.length_nil, Option.toList_some, Option.toList_none, true_and, and_true, false_and, and_false, true_implies, false_implies, implies_true, not_true_eq_false, not_false_eq_true, ne_eq, if_true, if_false, Bool.and_true, Bool.true_and, decide_true, decide_false, reduceIte, reduceCtorEq, Bool.and_self, Bool.and_eq_true, decide_eq_true_eq, and_self, true_or, or_true, false_or, or_false, Nat.zero_add, Nat.add_zero, eq_self, Nat.reduceEqDiff, Nat.reduceLeDiff, Nat.reduceLT, Nat.reduceAdd, Nat.reduceSub, Nat.reduceMul, LM_out hL, xi144_0, ix_0, xi144_1, ix_1, xi144_2, ix_2, xi144_3, ix_3, xi144_4, ix_4, xi144_5, ix_5, xi144_6, ix_6, xi144_7, ix_7, xi144_8, ix_8, xi144_9, ix_9, xi144_10, ix_10, hC, nI_leP (show i < 2147483648 by omega) (show i < 2147483648 by omega), Nat.le_refl, e251_32, B251_32]
  | j + 1, i, hi => by
    rw [e251_5]
    simp only [B251_5, xSeq, i_push, i_load, i_iload, i_lload, i_dload, i_aload, i_istore, i_astore, i_lstore, i_dstore, i_iinc, i_ii, i_iiz, i_ll, i_llz, i_lli, i_li, i_i, i_l, i_i2l, i_l2i, i_dup, i_dup2, i_dup2w, i_dupx1, i_pop, i_pop2, i_goto, i_ifc, i_icmp, i_getI, i_getL, i_getR, i_putI, i_putZ, i_putL, i_putR, i_aldI, i_aldB, i_aldL, i_aldD, i_astI, i_astL, i_astD, i_alen, i_ret, i_iret, i_zret, i_lret, i_fret, i_dret, i_aret, i_invS0, i_invV0, i_m2, i_m1, i_ml, i_obj, lk, lkp, stf1, stf2, Value.category, rV, xTo, lv_args, xCk, xCat, xRc, xAk, hg_S, hg_I, hg_J, hg_D, hg_R, hs_I, hs_J, hs_D, hs_R, uI_at, uJ_at, uD_at, uR_at, List.take_succ_cons, List.take_zero, List.drop_succ_cons, List.drop_zero, List.reverse_cons, List.reverse_nil, List.nil_append, List.cons_append, List.map_cons, List.map_nil, List.sum_cons, List.sum_nil, List.length_cons, List.length_nil, Option.toList_some, Option.toList_none, true_and, and_true, false_and, and_false, true_implies, false_implies, implies_true, not_true_eq_false, not_false_eq_true, ne_eq, if_true, if_false, Bool.and_true, Bool.true_and, decide_true, decide_false, reduceIte, reduceCtorEq, Bool.and_self, Bool.and_eq_true, decide_eq_true_eq, and_self, true_or, or_true, false_or, or_false, Nat.zero_add, Nat.add_zero, eq_self, Nat.reduceEqDiff, Nat.reduceLeDiff, Nat.reduceLT, Nat.reduceAdd, Nat.reduceSub, Nat.reduceMul, LM_out hL, xi144_0, ix_0, xi144_1, ix_1, xi144_2, ix_2, xi144_3, ix_3, xi144_4, ix_4, xi144_5, ix_5, xi144_6, ix_6, xi144_7, ix_7, xi144_8, ix_8, xi144_9, ix_9, xi144_10, ix_10, hC, nI_leP (show n < 2147483648 by omega) (show i < 2147483648 by omega), show (n ≤ i) = False from eq_false (by omega), R238 (S := S) (R := R) hs (show i < 64 by omega), nI_1]
    exact R251_5 hL hC hn hs j (i + 1) (by omega)
theorem R251 (hL : LM S R) (hC : I 300 10 = nI n) (hn : n ≤ 64) {s : Nat} (hs : s < 2 ^ 64) : xRun xT 251 0 [(0, .ref 200), (1, .long (lN s))] [] (S, I, J, D, R) b Q = Q (.ok (some (.int (mg n s)))) (S, I, J, D, R) b := by
  rw [e251_0]
  simp only [B251_0, xSeq, i_push, i_load, i_iload, i_lload, i_dload, i_aload, i_istore, i_astore, i_lstore, i_dstore, i_iinc, i_ii, i_iiz, i_ll, i_llz, i_lli, i_li, i_i, i_l, i_i2l, i_l2i, i_dup, i_dup2, i_dup2w, i_dupx1, i_pop, i_pop2, i_goto, i_ifc, i_icmp, i_getI, i_getL, i_getR, i_putI, i_putZ, i_putL, i_putR, i_aldI, i_aldB, i_aldL, i_aldD, i_astI, i_astL, i_astD, i_alen, i_ret, i_iret, i_zret, i_lret, i_fret, i_dret, i_aret, i_invS0, i_invV0, i_m2, i_m1, i_ml, i_obj, lk, lkp, stf1, stf2, Value.category, rV, xTo, lv_args, xCk, xCat, xRc, xAk, hg_S, hg_I, hg_J, hg_D, hg_R, hs_I, hs_J, hs_D, hs_R, uI_at, uJ_at, uD_at, uR_at, List.take_succ_cons, List.take_zero, List.drop_succ_cons, List.drop_zero, List.reverse_cons, List.reverse_nil, List.nil_append, List.cons_append, List.map_cons, List.map_nil, List.sum_cons, List.sum_nil, List.length_cons, List.length_nil, Option.toList_some, Option.toList_none, true_and, and_true, false_and, and_false, true_implies, false_implies, implies_true, not_true_eq_false, not_false_eq_true, ne_eq, if_true, if_false, Bool.and_true, Bool.true_and, decide_true, decide_false, reduceIte, reduceCtorEq, Bool.and_self, Bool.and_eq_true, decide_eq_true_eq, and_self, true_or, or_true, false_or, or_false, Nat.zero_add, Nat.add_zero, eq_self, Nat.reduceEqDiff, Nat.reduceLeDiff, Nat.reduceLT, Nat.reduceAdd, Nat.reduceSub, Nat.reduceMul]
  exact R251_5 hL hC hn hs n 0 (by omega)
theorem R250_17 (hL : LM S R) (hG : GR n m fi se dg sb) (hC : CM I n m fi se dg sb) {s : Nat} (hs : s < 2 ^ 64) : ∀ (j i : Nat) (acc : Int32), i + j = m → xRun xT 250 17 [(0, .ref 200), (1, .long (lN s)), (3, .int (acc - ps i (fun k => I 300 (16 + k)) fi se s)), (4, .int (nI i))] [] (S, I, J, D, R) b Q = Q (.ok (some (.int (acc - ps m (fun k => I 300 (16 + k)) fi se s)))) (S, I, J, D, R) b
  | 0, i, acc, hi => by
    obtain ⟨g0, g1, g2, g3, g4, g5, g6⟩ := hG
    obtain ⟨c1, c2, c3, c4, c5, c6⟩ := hC
    have e : i = m := by omega
    subst e
    rw [e250_17]
    simp only [B250_17, xSeq, i_push, i_load, i_iload, i_lload, i_dload, i_aload, i_istore, i_astore, i_lstore, i_dstore, i_iinc, i_ii, i_iiz, i_ll, i_llz, i_lli, i_li, i_i, i_l, i_i2l, i_l2i, i_dup, i_dup2, i_dup2w, i_dupx1, i_pop, i_pop2, i_goto, i_ifc, i_icmp, i_getI, i_getL, i_getR, i_putI, i_putZ, i_putL, i_putR, i_aldI, i_aldB, i_aldL, i_aldD, i_astI, i_astL, i_astD, i_alen, i_ret, i_iret, i_zret, i_lret, i_fret, i_dret, i_aret, i_invS0, i_invV0, i_m2, i_m1, i_ml, i_obj, lk, lkp, stf1, stf2, Value.category, rV, xTo, lv_args, xCk, xCat, xRc, xAk, hg_S, hg_I, hg_J, hg_D, hg_R, hs_I, hs_J, hs_D, hs_R, uI_at, uJ_at, uD_at, uR_at, List.take_succ_cons, List.take_zero, List.drop_succ_cons, List.drop_zero, List.reverse_cons, List.reverse_nil, List.nil_append, List.cons_append, List.map_cons, List.map_nil, List.sum_cons, List.sum_nil, List.length_cons, List.length_nil, Option.toList_some, Option.toList_none, true_and, and_true, false_and, and_false, true_implies, false_implies, implies_true, not_true_eq_false, not_false_eq_true, ne_eq, if_true, if_false, Bool.and_true, Bool.true_and, decide_true, decide_false, reduceIte, reduceCtorEq, Bool.and_self, Bool.and_eq_true, decide_eq_true_eq, and_self, true_or, or_true, false_or, or_false, Nat.zero_add, Nat.add_zero, eq_self, Nat.reduceEqDiff, Nat.reduceLeDiff, Nat.reduceLT, Nat.reduceAdd, Nat.reduceSub, Nat.reduceMul, LM_out hL, xi144_0, ix_0, xi144_1, ix_1, xi144_2, ix_2, xi144_3, ix_3, xi144_4, ix_4, xi144_5, ix_5, xi144_6, ix_6, xi144_7, ix_7, xi144_8, ix_8, xi144_9, ix_9, xi144_10, ix_10, c2, nI_leP (show i < 2147483648 by omega) (show i < 2147483648 by omega), Nat.le_refl, e250_45, B250_45]
  | j + 1, i, acc, hi => by
    have hG' := hG
    have hC' := hC
    obtain ⟨g0, g1, g2, g3, g4, g5, g6⟩ := hG'
    obtain ⟨c1, c2, c3, c4, c5, c6⟩ := hC'
    rw [e250_17]
    simp only [B250_17, xSeq, i_push, i_load, i_iload, i_lload, i_dload, i_aload, i_istore, i_astore, i_lstore, i_dstore, i_iinc, i_ii, i_iiz, i_ll, i_llz, i_lli, i_li, i_i, i_l, i_i2l, i_l2i, i_dup, i_dup2, i_dup2w, i_dupx1, i_pop, i_pop2, i_goto, i_ifc, i_icmp, i_getI, i_getL, i_getR, i_putI, i_putZ, i_putL, i_putR, i_aldI, i_aldB, i_aldL, i_aldD, i_astI, i_astL, i_astD, i_alen, i_ret, i_iret, i_zret, i_lret, i_fret, i_dret, i_aret, i_invS0, i_invV0, i_m2, i_m1, i_ml, i_obj, lk, lkp, stf1, stf2, Value.category, rV, xTo, lv_args, xCk, xCat, xRc, xAk, hg_S, hg_I, hg_J, hg_D, hg_R, hs_I, hs_J, hs_D, hs_R, uI_at, uJ_at, uD_at, uR_at, List.take_succ_cons, List.take_zero, List.drop_succ_cons, List.drop_zero, List.reverse_cons, List.reverse_nil, List.nil_append, List.cons_append, List.map_cons, List.map_nil, List.sum_cons, List.sum_nil, List.length_cons, List.length_nil, Option.toList_some, Option.toList_none, true_and, and_true, false_and, and_false, true_implies, false_implies, implies_true, not_true_eq_false, not_false_eq_true, ne_eq, if_true, if_false, Bool.and_true, Bool.true_and, decide_true, decide_false, reduceIte, reduceCtorEq, Bool.and_self, Bool.and_eq_true, decide_eq_true_eq, and_self, true_or, or_true, false_or, or_false, Nat.zero_add, Nat.add_zero, eq_self, Nat.reduceEqDiff, Nat.reduceLeDiff, Nat.reduceLT, Nat.reduceAdd, Nat.reduceSub, Nat.reduceMul, LM_out hL, xi144_0, ix_0, xi144_1, ix_1, xi144_2, ix_2, xi144_3, ix_3, xi144_4, ix_4, xi144_5, ix_5, xi144_6, ix_6, xi144_7, ix_7, xi144_8, ix_8, xi144_9, ix_9, xi144_10, ix_10, c2, nI_leP (show m < 2147483648 by omega) (show i < 2147483648 by omega), show (m ≤ i) = False from eq_false (by omega), R237 hL hG hC hs (show i < m by omega), nI_1]
    have := R250_17 hL hG hC hs j (i + 1) acc (by omega)
    rw [ps, sm, i32_sub3] at this
    exact this
end
/-! ===== the energy and the flip of one spin ===== -/
section
variable {n m : Nat} {fi se dg : Nat → Nat} {sb : Nat → Nat → Nat}
theorem sm_add (f g : Nat → Int32) : ∀ n, sm (fun k => f k + g k) n = sm f n + sm g n
  | 0 => rfl
  | n + 1 => by
    rw [sm, sm, sm, sm_add f g n]
    grind
theorem sm_mul (c : Int32) (f : Nat → Int32) : ∀ n, sm (fun k => c * f k) n = c * sm f n
  | 0 => by simp [sm]
  | n + 1 => by
    rw [sm, sm, sm_mul c f n]
    grind
theorem sm_zero : ∀ n, sm (fun _ => 0) n = 0
  | 0 => rfl
  | n + 1 => by rw [sm, sm_zero n]; rfl
theorem sm_one (c : Int32) (t : Nat) : ∀ n, sm (fun k => if k = t then c else 0) n = if t < n then c else 0
  | 0 => by simp [sm]
  | n + 1 => by
    rw [sm, sm_one c t n]
    by_cases h : t < n
    · rw [if_pos h, if_neg (by omega), if_pos (by omega), Int32.add_zero]
    · by_cases h2 : n = t
      · rw [if_neg h, if_pos h2, if_pos (by omega), Int32.zero_add]
      · rw [if_neg h, if_neg h2, if_neg (by omega), Int32.add_zero]
/-- the bonds of each site are the incident ones -/
def GN (n m : Nat) (fi se dg : Nat → Nat) (sb : Nat → Nat → Nat) : Prop := (∀ k, k < m → fi k ≠ se k) ∧ ∀ t, t < n → ∀ f : Nat → Int32, sm (fun i => f (sb t i)) (dg t) = sm (fun k => if fi k = t ∨ se k = t then f k else 0) m
/-- the energy -/
def en (F : Int32) (st : Nat → Int32) (n m : Nat) (fi se : Nat → Nat) (s : Nat) : Int32 := -(F * mg n s + ps m st fi se s)
theorem bit_x (s t i : Nat) : (s ^^^ 2 ^ t).testBit i = (s.testBit i ^^ decide (t = i)) := by
  rw [Nat.testBit_xor, Nat.testBit_two_pow]
theorem sg_not (b : Bool) : sg (!b) = - sg b := by cases b <;> rfl
theorem mg_x (n s t : Nat) (ht : t < n) : mg n (s ^^^ 2 ^ t) = mg n s + -2 * sg (s.testBit t) := by
  unfold mg
  have h1 : sm (fun i => sg ((s ^^^ 2 ^ t).testBit i)) n = sm (fun i => sg (s.testBit i) + (if i = t then -2 * sg (s.testBit t) else 0)) n := sm_congr (fun i hi => by
    rw [bit_x]
    by_cases h : i = t
    · subst h
      simp only [decide_true, Bool.xor_true, if_true, sg_not]
      grind
    · rw [if_neg h, decide_eq_false (fun e => h e.symm), Bool.xor_false, Int32.add_zero])
  rw [h1, sm_add, sm_one, if_pos ht]
theorem pr_n1 (st : Int32) (a b : Bool) : pr st (!a) b = - pr st a b := by
  cases a <;> cases b <;> simp [pr]
theorem pr_n2 (st : Int32) (a b : Bool) : pr st a (!b) = - pr st a b := by
  cases a <;> cases b <;> simp [pr]
theorem ps_x (hN : GN n m fi se dg sb) (st : Nat → Int32) (s t : Nat) (ht : t < n) : ps m st fi se (s ^^^ 2 ^ t) = ps m st fi se s + -2 * sm (fun i => pr (st (sb t i)) (s.testBit (fi (sb t i))) (s.testBit (se (sb t i)))) (dg t) := by
  rw [hN.2 t ht (fun k => pr (st k) (s.testBit (fi k)) (s.testBit (se k)))]
  rw [← sm_mul]
  unfold ps
  rw [← sm_add]
  refine sm_congr (fun k hk => ?_)
  rw [bit_x, bit_x]
  have hne := hN.1 k hk
  by_cases h1 : fi k = t
  · have h2 : ¬ se k = t := fun e => hne (h1.trans e.symm)
    rw [if_pos (Or.inl h1), decide_eq_true h1.symm, decide_eq_false (fun e => h2 e.symm), Bool.xor_true, Bool.xor_false, pr_n1]
    grind
  · by_cases h2 : se k = t
    · rw [if_pos (Or.inr h2), decide_eq_false (fun e => h1 e.symm), decide_eq_true h2.symm, Bool.xor_true, Bool.xor_false, pr_n2]
      grind
    · rw [if_neg (fun e => e.elim h1 h2), decide_eq_false (fun e => h1 e.symm), decide_eq_false (fun e => h2 e.symm), Bool.xor_false, Bool.xor_false]
      grind
theorem en_x (hN : GN n m fi se dg sb) (F : Int32) (st : Nat → Int32) (s t : Nat) (ht : t < n) : en F st n m fi se (s ^^^ 2 ^ t) = en F st n m fi se s + dl F st fi se dg sb s t := by
  unfold en dl
  rw [mg_x n s t ht, ps_x hN st s t ht]
  grind
end
section
variable {S : xS} {I : xI} {J : xJ} {D : xDb} {R : xR} {b : Nat × Nat} {Q : xQ} {n m : Nat} {fi se dg : Nat → Nat} {sb : Nat → Nat → Nat}
theorem pop_up {s n : Nat} (hs : s < 2 ^ n) : ∀ k, pop (n + k) s = pop n s
  | 0 => rfl
  | k + 1 => by
    rw [show n + (k + 1) = n + k + 1 by omega, pop, pop_up hs k]
    have h : bt s (n + k) = 0 := by
      unfold bt
      rw [Nat.div_eq_of_lt (Nat.lt_of_lt_of_le hs (Nat.pow_le_pow_right (by decide) (by omega)))]
    rw [h, Nat.add_zero]
theorem sg_bt (s i : Nat) : sg (s.testBit i) = 2 * nI (bt s i) - 1 := by
  unfold bt sg
  rw [Nat.testBit_eq_decide_div_mod_eq]
  rcases Nat.mod_two_eq_zero_or_one (s / 2 ^ i) with e | e <;> rw [e] <;> decide
theorem mg_pop (s : Nat) : ∀ n, mg n s = 2 * nI (pop n s) - nI n
  | 0 => by simp [mg, sm, pop, nI_0]
  | n + 1 => by
    have h := mg_pop s n
    unfold mg at h ⊢
    rw [sm, h, pop, sg_bt, ← nI_add, ← nI_1]
    grind
theorem R51 (hL : LC S R) (hC : I 102 2 = nI n) (hn : n ≤ 64) {s : Nat} (hs : s < 2 ^ n) : xRun xT 51 0 [(0, .ref 102), (1, .long (lN s))] [] (S, I, J, D, R) b Q = Q (.ok (some (.int (mg n s)))) (S, I, J, D, R) b := by
  have h64 : s < 2 ^ 64 := Nat.lt_of_lt_of_le hs (Nat.pow_le_pow_right (by decide) hn)
  have hp : pop 64 s = pop n s := by
    have := pop_up hs (64 - n)
    rw [show n + (64 - n) = 64 by omega] at this
    exact this
  rw [e51_0]
  simp only [B51_0, xSeq, i_push, i_load, i_iload, i_lload, i_dload, i_aload, i_istore, i_astore, i_lstore, i_dstore, i_iinc, i_ii, i_iiz, i_ll, i_llz, i_lli, i_li, i_i, i_l, i_i2l, i_l2i, i_dup, i_dup2, i_dup2w, i_dupx1, i_pop, i_pop2, i_goto, i_ifc, i_icmp, i_getI, i_getL, i_getR, i_putI, i_putZ, i_putL, i_putR, i_aldI, i_aldB, i_aldL, i_aldD, i_astI, i_astL, i_astD, i_alen, i_ret, i_iret, i_zret, i_lret, i_fret, i_dret, i_aret, i_invS0, i_invV0, i_m2, i_m1, i_ml, i_obj, lk, lkp, stf1, stf2, Value.category, rV, xTo, lv_args, xCk, xCat, xRc, xAk, hg_S, hg_I, hg_J, hg_D, hg_R, hs_I, hs_J, hs_D, hs_R, uI_at, uJ_at, uD_at, uR_at, List.take_succ_cons, List.take_zero, List.drop_succ_cons, List.drop_zero, List.reverse_cons, List.reverse_nil, List.nil_append, List.cons_append, List.map_cons, List.map_nil, List.sum_cons, List.sum_nil, List.length_cons, List.length_nil, Option.toList_some, Option.toList_none, true_and, and_true, false_and, and_false, true_implies, false_implies, implies_true, not_true_eq_false, not_false_eq_true, ne_eq, if_true, if_false, Bool.and_true, Bool.true_and, decide_true, decide_false, reduceIte, reduceCtorEq, Bool.and_self, Bool.and_eq_true, decide_eq_true_eq, and_self, true_or, or_true, false_or, or_false, Nat.zero_add, Nat.add_zero, eq_self, Nat.reduceEqDiff, Nat.reduceLeDiff, Nat.reduceLT, Nat.reduceAdd, Nat.reduceSub, Nat.reduceMul, LC_out hL, Y2 (S := S) (R := R) h64, hC, hp, mg_pop]
theorem R74 (hL : LC S R) (hG : GR n m fi se dg sb) (hC : CL I n m fi se dg sb) {s : Nat} (hs : s < 2 ^ 64) (hs2 : s < 2 ^ n) : xRun xT 74 0 [(0, .ref 110), (1, .long (lN s))] [] (S, I, J, D, R) b Q = Q (.ok (some (.int (en (I 110 6) (I 111) n m fi se s)))) (S, I, J, D, R) b := by
  have h := R74_17 (J := J) (D := D) (b := b) (Q := Q) hL hG hC hs m 0 (I 110 6 * mg n s) (by omega)
  rw [ps, sm, Int32.add_zero] at h
  rw [e74_0]
  simp only [B74_0, xSeq, i_push, i_load, i_iload, i_lload, i_dload, i_aload, i_istore, i_astore, i_lstore, i_dstore, i_iinc, i_ii, i_iiz, i_ll, i_llz, i_lli, i_li, i_i, i_l, i_i2l, i_l2i, i_dup, i_dup2, i_dup2w, i_dupx1, i_pop, i_pop2, i_goto, i_ifc, i_icmp, i_getI, i_getL, i_getR, i_putI, i_putZ, i_putL, i_putR, i_aldI, i_aldB, i_aldL, i_aldD, i_astI, i_astL, i_astD, i_alen, i_ret, i_iret, i_zret, i_lret, i_fret, i_dret, i_aret, i_invS0, i_invV0, i_m2, i_m1, i_ml, i_obj, lk, lkp, stf1, stf2, Value.category, rV, xTo, lv_args, xCk, xCat, xRc, xAk, hg_S, hg_I, hg_J, hg_D, hg_R, hs_I, hs_J, hs_D, hs_R, uI_at, uJ_at, uD_at, uR_at, List.take_succ_cons, List.take_zero, List.drop_succ_cons, List.drop_zero, List.reverse_cons, List.reverse_nil, List.nil_append, List.cons_append, List.map_cons, List.map_nil, List.sum_cons, List.sum_nil, List.length_cons, List.length_nil, Option.toList_some, Option.toList_none, true_and, and_true, false_and, and_false, true_implies, false_implies, implies_true, not_true_eq_false, not_false_eq_true, ne_eq, if_true, if_false, Bool.and_true, Bool.true_and, decide_true, decide_false, reduceIte, reduceCtorEq, Bool.and_self, Bool.and_eq_true, decide_eq_true_eq, and_self, true_or, or_true, false_or, or_false, Nat.zero_add, Nat.add_zero, eq_self, Nat.reduceEqDiff, Nat.reduceLeDiff, Nat.reduceLT, Nat.reduceAdd, Nat.reduceSub, Nat.reduceMul, LC_out hL, R51 (S := S) (R := R) hL hC.1 hG.2.1 hs2]
  simp only [nI_0] at h
  exact h
end
/-! ===== the class: attempts, sweeps ===== -/
section
variable {S : xS} {I : xI} {J : xJ} {D : xDb} {R : xR} {b : Nat × Nat} {Q : xQ} {n m : Nat} {fi se dg : Nat → Nat} {sb : Nat → Nat → Nat}
theorem R82 (hL : LC S R) {d : Int32} : xRun xT 82 0 [(0, .ref 110), (1, .int d)] [] (S, I, J, D, R) b Q = Q (.ok (some (.int (if I 110 9 = 2 ∨ d ≤ 0 then 0 else if I 110 9 = 1 then -1 else d)))) (S, I, J, D, R) b := by
  rw [e82_0]
  simp only [B82_0, xSeq, i_push, i_load, i_iload, i_lload, i_dload, i_aload, i_istore, i_astore, i_lstore, i_dstore, i_iinc, i_ii, i_iiz, i_ll, i_llz, i_lli, i_li, i_i, i_l, i_i2l, i_l2i, i_dup, i_dup2, i_dup2w, i_dupx1, i_pop, i_pop2, i_goto, i_ifc, i_icmp, i_getI, i_getL, i_getR, i_putI, i_putZ, i_putL, i_putR, i_aldI, i_aldB, i_aldL, i_aldD, i_astI, i_astL, i_astD, i_alen, i_ret, i_iret, i_zret, i_lret, i_fret, i_dret, i_aret, i_invS0, i_invV0, i_m2, i_m1, i_ml, i_obj, lk, lkp, stf1, stf2, Value.category, rV, xTo, lv_args, xCk, xCat, xRc, xAk, hg_S, hg_I, hg_J, hg_D, hg_R, hs_I, hs_J, hs_D, hs_R, uI_at, uJ_at, uD_at, uR_at, List.take_succ_cons, List.take_zero, List.drop_succ_cons, List.drop_zero, List.reverse_cons, List.reverse_nil, List.nil_append, List.cons_append, List.map_cons, List.map_nil, List.sum_cons, List.sum_nil, List.length_cons, List.length_nil, Option.toList_some, Option.toList_none, true_and, and_true, false_and, and_false, true_implies, false_implies, implies_true, not_true_eq_false, not_false_eq_true, ne_eq, if_true, if_false, Bool.and_true, Bool.true_and, decide_true, decide_false, reduceIte, reduceCtorEq, Bool.and_self, Bool.and_eq_true, decide_eq_true_eq, and_self, true_or, or_true, false_or, or_false, Nat.zero_add, Nat.add_zero, eq_self, Nat.reduceEqDiff, Nat.reduceLeDiff, Nat.reduceLT, Nat.reduceAdd, Nat.reduceSub, Nat.reduceMul, LC_out hL, e82_12, B82_12, e82_14, B82_14, e82_26, B82_26, e82_27, B82_27]
  by_cases h1 : I 110 9 = 2
  · simp [h1]
  · by_cases h2 : d ≤ 0
    · have h3 : ¬ 0 < d := fun h => absurd h (Int32.not_lt.mpr h2)
      simp [h1, h2, h3]
    · have h3 : 0 < d := Int32.not_le.mp h2
      by_cases h4 : I 110 9 = 1 <;> simp [h2, h3, h4]
      simp [h1]
/-- the fate of an attempt: is the spin flipped, the generator then -/
def tR (rule d : Int32) (a bb g : Nat) : Bool × Nat := if rule = 2 ∨ d ≤ 0 then (true, g) else if rule = 1 then (false, g) else pd a bb d.toNatClampNeg g
/-- what attempts change: spins, generator, attempts, flips -/
abbrev xG : Type := Nat × Nat × Int32 × Int32
def cI (I : xI) (z : xG) : xI := uI (uI I 110 10 z.2.2.1) 110 11 z.2.2.2
def cJ (J : xJ) (z : xG) : xJ := uJ (uJ J 110 4 (lN z.1)) 110 5 (lN z.2.1)
theorem cI_at (I : xI) (z : xG) (o k : Nat) : cI I z o k = if o = 110 ∧ k = 11 then z.2.2.2 else if o = 110 ∧ k = 10 then z.2.2.1 else I o k := rfl
theorem cJ_at (J : xJ) (z : xG) (o k : Nat) : cJ J z o k = if o = 110 ∧ k = 5 then lN z.2.1 else if o = 110 ∧ k = 4 then lN z.1 else J o k := rfl
theorem cJ_s (J : xJ) (z : xG) : cJ J z 110 4 = lN z.1 := rfl
theorem cJ_g (J : xJ) (z : xG) : cJ J z 110 5 = lN z.2.1 := rfl
theorem cI_10 (I : xI) (z : xG) (v : Int32) : uI (cI I z) 110 10 v = cI I (z.1, z.2.1, v, z.2.2.2) := by
  funext o k
  simp only [uI_at, cI_at]
  by_cases h : o = 110 ∧ k = 10
  · rw [if_pos h, if_neg (by omega), if_pos h]
  · rw [if_neg h, if_neg h, if_neg h]
theorem cI_11 (I : xI) (z : xG) (v : Int32) : uI (cI I z) 110 11 v = cI I (z.1, z.2.1, z.2.2.1, v) := by
  funext o k
  simp only [uI_at, cI_at]
  by_cases h : o = 110 ∧ k = 11
  · rw [if_pos h, if_pos h]
  · rw [if_neg h, if_neg h, if_neg h]
theorem cJ_5 (J : xJ) (z : xG) (g : Nat) : uJ (cJ J z) 110 5 (lN g) = cJ J (z.1, g, z.2.2.1, z.2.2.2) := by
  funext o k
  simp only [uJ_at, cJ_at]
  by_cases h : o = 110 ∧ k = 5
  · rw [if_pos h, if_pos h]
  · rw [if_neg h, if_neg h, if_neg h]
theorem cJ_4 (J : xJ) (z : xG) (s : Nat) : uJ (cJ J z) 110 4 (lN s) = cJ J (s, z.2.1, z.2.2.1, z.2.2.2) := by
  funext o k
  simp only [uJ_at, cJ_at]
  by_cases h : o = 110 ∧ k = 4
  · rw [if_pos h, if_neg (by omega), if_pos h]
  · rw [if_neg h, if_neg h, if_neg h]
theorem cI_CL {I : xI} {z : xG} (h : CL I n m fi se dg sb) : CL (cI I z) n m fi se dg sb := by
  obtain ⟨c1, c2, c3, c4, c5, c6⟩ := h
  exact ⟨c1, c2, c3, c4, c5, c6⟩
/-- one attempt -/
def tS (F : Int32) (st : Nat → Int32) (fi se dg : Nat → Nat) (sb : Nat → Nat → Nat) (rule : Int32) (a bb t : Nat) (z : xG) : xG :=
  (if (tR rule (dl F st fi se dg sb z.1 t) a bb z.2.1).1 = true then z.1 ^^^ 2 ^ t else z.1, (tR rule (dl F st fi se dg sb z.1 t) a bb z.2.1).2, z.2.2.1 + 1, if (tR rule (dl F st fi se dg sb z.1 t) a bb z.2.1).1 = true then z.2.2.2 + 1 else z.2.2.2)
theorem i32_nI (d : Int32) (h : 0 < d) : d = nI d.toNatClampNeg ∧ d.toNatClampNeg < 2147483648 := by
  obtain ⟨j, hj, rfl⟩ := nI_of (x := d) (fun e => absurd (Int32.lt_trans h e) (Int32.lt_irrefl))
  rw [nI_clamp hj]
  exact ⟨rfl, hj⟩
theorem R81 (hL : LC S R) (hG : GR n m fi se dg sb) (hC : CL I n m fi se dg sb) {a bb : Nat} (hA : I 110 7 = nI a) (hB : I 110 8 = nI bb) (ha : a < 2147483648) (h0 : 0 < bb) (hb : bb < 2147483648) {z : xG} (hs : z.1 < 2 ^ 64) (hg : z.2.1 < 2147483648) {t : Nat} (ht : t < n) :
    xRun xT 81 0 [(0, .ref 110), (1, .int (nI t))] [] (S, cI I z, cJ J z, D, R) b Q = Q (.ok (some (.int (if (tR (I 110 9) (dl (I 110 6) (I 111) fi se dg sb z.1 t) a bb z.2.1).1 = true then 1 else 0)))) (S, cI I (tS (I 110 6) (I 111) fi se dg sb (I 110 9) a bb t z), cJ J (tS (I 110 6) (I 111) fi se dg sb (I 110 9) a bb t z), D, R) b := by
  have g1 := hG.2.1
  have eF : cI I z 110 6 = I 110 6 := rfl
  have eR : cI I z 110 9 = I 110 9 := rfl
  have eS : cI I z 111 = I 111 := rfl
  have eJ : cJ J z 110 4 = lN z.1 := rfl
  have e1 : (1 : Int64) = lN 1 := rfl
  rw [e81_0]
  simp only [B81_0, xSeq, i_push, i_load, i_iload, i_lload, i_dload, i_aload, i_istore, i_astore, i_lstore, i_dstore, i_iinc, i_ii, i_iiz, i_ll, i_llz, i_lli, i_li, i_i, i_l, i_i2l, i_l2i, i_dup, i_dup2, i_dup2w, i_dupx1, i_pop, i_pop2, i_goto, i_ifc, i_icmp, i_getI, i_getL, i_getR, i_putI, i_putZ, i_putL, i_putR, i_aldI, i_aldB, i_aldL, i_aldD, i_astI, i_astL, i_astD, i_alen, i_ret, i_iret, i_zret, i_lret, i_fret, i_dret, i_aret, i_invS0, i_invV0, i_m2, i_m1, i_ml, i_obj, lk, lkp, stf1, stf2, Value.category, rV, xTo, lv_args, xCk, xCat, xRc, xAk, hg_S, hg_I, hg_J, hg_D, hg_R, hs_I, hs_J, hs_D, hs_R, uI_at, uJ_at, uD_at, uR_at, List.take_succ_cons, List.take_zero, List.drop_succ_cons, List.drop_zero, List.reverse_cons, List.reverse_nil, List.nil_append, List.cons_append, List.map_cons, List.map_nil, List.sum_cons, List.sum_nil, List.length_cons, List.length_nil, Option.toList_some, Option.toList_none, true_and, and_true, false_and, and_false, true_implies, false_implies, implies_true, not_true_eq_false, not_false_eq_true, ne_eq, if_true, if_false, Bool.and_true, Bool.true_and, decide_true, decide_false, reduceIte, reduceCtorEq, Bool.and_self, Bool.and_eq_true, decide_eq_true_eq, and_self, true_or, or_true, false_or, or_false, Nat.zero_add, Nat.add_zero, eq_self, Nat.reduceEqDiff, Nat.reduceLeDiff, Nat.reduceLT, Nat.reduceAdd, Nat.reduceSub, Nat.reduceMul, LC_out hL, eJ, R76 (I := cI I z) (J := cJ J z) hL hG (cI_CL hC) hs ht, R82 (I := cI I z) hL, eF, eR, eS, cI_10]
  have hAz : cI I (z.1, z.2.1, cI I z 110 10 + 1, z.2.2.2) 110 7 = nI a := hA
  have hBz : cI I (z.1, z.2.1, cI I z 110 10 + 1, z.2.2.2) 110 8 = nI bb := hB
  have h83 := fun (d : Nat) (hd : d < 2147483648) (Q : xQ) => R83 (S := S) (R := R) (J := cJ J z) (D := D) (b := (0, 0)) (Q := Q) (I := cI I (z.1, z.2.1, cI I z 110 10 + 1, z.2.2.2)) hL hAz hBz ha h0 hb hd (g := z.2.1) hg rfl
  generalize hd : dl (I 110 6) (I 111) fi se dg sb z.1 t = d at *
  unfold tS tR
  rw [hd]
  by_cases h1 : I 110 9 = 2 ∨ d ≤ 0
  · have h2 := h83 0 (by decide)
    rw [nI_0] at h2
    simp only [h1, true_and, and_true, false_and, and_false, true_implies, false_implies, implies_true, not_true_eq_false, not_false_eq_true, ne_eq, if_true, if_false, Bool.and_true, Bool.true_and, decide_true, decide_false, reduceIte, reduceCtorEq, Bool.and_self, Bool.and_eq_true, decide_eq_true_eq, and_self, true_or, or_true, false_or, or_false, Nat.zero_add, Nat.add_zero, eq_self, Nat.reduceEqDiff, Nat.reduceLeDiff, Nat.reduceLT, Nat.reduceAdd, Nat.reduceSub, Nat.reduceMul, show ((0 : Int32) = -1) = False from eq_false (by decide), h2, pd, e81_39, B81_39, xSeq, i_push, i_load, i_iload, i_lload, i_dload, i_aload, i_istore, i_astore, i_lstore, i_dstore, i_iinc, i_ii, i_iiz, i_ll, i_llz, i_lli, i_li, i_i, i_l, i_i2l, i_l2i, i_dup, i_dup2, i_dup2w, i_dupx1, i_pop, i_pop2, i_goto, i_ifc, i_icmp, i_getI, i_getL, i_getR, i_putI, i_putZ, i_putL, i_putR, i_aldI, i_aldB, i_aldL, i_aldD, i_astI, i_astL, i_astD, i_alen, i_ret, i_iret, i_zret, i_lret, i_fret, i_dret, i_aret, i_invS0, i_invV0, i_m2, i_m1, i_ml, i_obj, lk, lkp, stf1, stf2, Value.category, rV, xTo, lv_args, xCk, xCat, xRc, xAk, hg_S, hg_I, hg_J, hg_D, hg_R, hs_I, hs_J, hs_D, hs_R, uI_at, uJ_at, uD_at, uR_at, List.take_succ_cons, List.take_zero, List.drop_succ_cons, List.drop_zero, List.reverse_cons, List.reverse_nil, List.nil_append, List.cons_append, List.map_cons, List.map_nil, List.sum_cons, List.sum_nil, List.length_cons, List.length_nil, Option.toList_some, Option.toList_none, LC_out hL, cJ_5, cJ_4, cI_11, cJ_s, i1_0, e1, q_shl 1 (show t < 64 by omega), q_xor, Nat.one_mul]
    rfl
  · by_cases h3 : I 110 9 = 1
    · have h4 : ¬ d ≤ 0 := fun e => h1 (Or.inr e)
      simp only [h1, h3, h4, show ((1 : Int32) = 2) = False from eq_false (by decide), xSeq, i_push, i_load, i_iload, i_lload, i_dload, i_aload, i_istore, i_astore, i_lstore, i_dstore, i_iinc, i_ii, i_iiz, i_ll, i_llz, i_lli, i_li, i_i, i_l, i_i2l, i_l2i, i_dup, i_dup2, i_dup2w, i_dupx1, i_pop, i_pop2, i_goto, i_ifc, i_icmp, i_getI, i_getL, i_getR, i_putI, i_putZ, i_putL, i_putR, i_aldI, i_aldB, i_aldL, i_aldD, i_astI, i_astL, i_astD, i_alen, i_ret, i_iret, i_zret, i_lret, i_fret, i_dret, i_aret, i_invS0, i_invV0, i_m2, i_m1, i_ml, i_obj, lk, lkp, stf1, stf2, Value.category, rV, xTo, lv_args, xCk, xCat, xRc, xAk, hg_S, hg_I, hg_J, hg_D, hg_R, hs_I, hs_J, hs_D, hs_R, uI_at, uJ_at, uD_at, uR_at, List.take_succ_cons, List.take_zero, List.drop_succ_cons, List.drop_zero, List.reverse_cons, List.reverse_nil, List.nil_append, List.cons_append, List.map_cons, List.map_nil, List.sum_cons, List.sum_nil, List.length_cons, List.length_nil, Option.toList_some, Option.toList_none, true_and, and_true, false_and, and_false, true_implies, false_implies, implies_true, not_true_eq_false, not_false_eq_true, ne_eq, if_true, if_false, Bool.and_true, Bool.true_and, decide_true, decide_false, reduceIte, reduceCtorEq, Bool.and_self, Bool.and_eq_true, decide_eq_true_eq, and_self, true_or, or_true, false_or, or_false, Nat.zero_add, Nat.add_zero, eq_self, Nat.reduceEqDiff, Nat.reduceLeDiff, Nat.reduceLT, Nat.reduceAdd, Nat.reduceSub, Nat.reduceMul, e81_37, B81_37, cI_at]
      simp
      rfl
    · have h4 : 0 < d := Int32.not_le.mp (fun h => h1 (Or.inr h))
      obtain ⟨h5, h6⟩ := i32_nI d h4
      have h2 := h83 d.toNatClampNeg h6
      rw [← h5] at h2
      have h7 : (d = -1) = False := eq_false (fun e => by rw [e] at h4; exact absurd h4 (by decide))
      simp only [h1, h3, h7, true_and, and_true, false_and, and_false, true_implies, false_implies, implies_true, not_true_eq_false, not_false_eq_true, ne_eq, if_true, if_false, Bool.and_true, Bool.true_and, decide_true, decide_false, reduceIte, reduceCtorEq, Bool.and_self, Bool.and_eq_true, decide_eq_true_eq, and_self, true_or, or_true, false_or, or_false, Nat.zero_add, Nat.add_zero, eq_self, Nat.reduceEqDiff, Nat.reduceLeDiff, Nat.reduceLT, Nat.reduceAdd, Nat.reduceSub, Nat.reduceMul, h2]
      cases hp : (pd a bb d.toNatClampNeg z.2.1).1
      · simp only [xSeq, i_push, i_load, i_iload, i_lload, i_dload, i_aload, i_istore, i_astore, i_lstore, i_dstore, i_iinc, i_ii, i_iiz, i_ll, i_llz, i_lli, i_li, i_i, i_l, i_i2l, i_l2i, i_dup, i_dup2, i_dup2w, i_dupx1, i_pop, i_pop2, i_goto, i_ifc, i_icmp, i_getI, i_getL, i_getR, i_putI, i_putZ, i_putL, i_putR, i_aldI, i_aldB, i_aldL, i_aldD, i_astI, i_astL, i_astD, i_alen, i_ret, i_iret, i_zret, i_lret, i_fret, i_dret, i_aret, i_invS0, i_invV0, i_m2, i_m1, i_ml, i_obj, lk, lkp, stf1, stf2, Value.category, rV, xTo, lv_args, xCk, xCat, xRc, xAk, hg_S, hg_I, hg_J, hg_D, hg_R, hs_I, hs_J, hs_D, hs_R, uI_at, uJ_at, uD_at, uR_at, List.take_succ_cons, List.take_zero, List.drop_succ_cons, List.drop_zero, List.reverse_cons, List.reverse_nil, List.nil_append, List.cons_append, List.map_cons, List.map_nil, List.sum_cons, List.sum_nil, List.length_cons, List.length_nil, Option.toList_some, Option.toList_none, true_and, and_true, false_and, and_false, true_implies, false_implies, implies_true, not_true_eq_false, not_false_eq_true, ne_eq, if_true, if_false, Bool.and_true, Bool.true_and, decide_true, decide_false, reduceIte, reduceCtorEq, Bool.and_self, Bool.and_eq_true, decide_eq_true_eq, and_self, true_or, or_true, false_or, or_false, Nat.zero_add, Nat.add_zero, eq_self, Nat.reduceEqDiff, Nat.reduceLeDiff, Nat.reduceLT, Nat.reduceAdd, Nat.reduceSub, Nat.reduceMul, e81_37, B81_37, cJ_5, Bool.false_eq_true, eq_self]
        simp
        rfl
      · simp only [xSeq, i_push, i_load, i_iload, i_lload, i_dload, i_aload, i_istore, i_astore, i_lstore, i_dstore, i_iinc, i_ii, i_iiz, i_ll, i_llz, i_lli, i_li, i_i, i_l, i_i2l, i_l2i, i_dup, i_dup2, i_dup2w, i_dupx1, i_pop, i_pop2, i_goto, i_ifc, i_icmp, i_getI, i_getL, i_getR, i_putI, i_putZ, i_putL, i_putR, i_aldI, i_aldB, i_aldL, i_aldD, i_astI, i_astL, i_astD, i_alen, i_ret, i_iret, i_zret, i_lret, i_fret, i_dret, i_aret, i_invS0, i_invV0, i_m2, i_m1, i_ml, i_obj, lk, lkp, stf1, stf2, Value.category, rV, xTo, lv_args, xCk, xCat, xRc, xAk, hg_S, hg_I, hg_J, hg_D, hg_R, hs_I, hs_J, hs_D, hs_R, uI_at, uJ_at, uD_at, uR_at, List.take_succ_cons, List.take_zero, List.drop_succ_cons, List.drop_zero, List.reverse_cons, List.reverse_nil, List.nil_append, List.cons_append, List.map_cons, List.map_nil, List.sum_cons, List.sum_nil, List.length_cons, List.length_nil, Option.toList_some, Option.toList_none, true_and, and_true, false_and, and_false, true_implies, false_implies, implies_true, not_true_eq_false, not_false_eq_true, ne_eq, if_true, if_false, Bool.and_true, Bool.true_and, decide_true, decide_false, reduceIte, reduceCtorEq, Bool.and_self, Bool.and_eq_true, decide_eq_true_eq, and_self, true_or, or_true, false_or, or_false, Nat.zero_add, Nat.add_zero, eq_self, Nat.reduceEqDiff, Nat.reduceLeDiff, Nat.reduceLT, Nat.reduceAdd, Nat.reduceSub, Nat.reduceMul, LC_out hL, e81_39, B81_39, cJ_5, cJ_4, cI_11, cJ_s, i1_0, e1, q_shl 1 (show t < 64 by omega), q_xor, Nat.one_mul]
        rfl
end
/-! ===== the model: attempts ===== -/
section
variable {S : xS} {I : xI} {J : xJ} {D : xDb} {R : xR} {b : Nat × Nat} {Q : xQ} {n m : Nat} {fi se dg : Nat → Nat} {sb : Nat → Nat → Nat}
theorem in144 : ∀ k : Nat, k < 144 → xIn (nI k) 144 = True ∧ ix (nI k) = k := fun k h => ⟨nI_inP h (by decide), nI_ix (by omega)⟩
theorem R250 (hL : LM S R) (hG : GR n m fi se dg sb) (hC : CM I n m fi se dg sb) {s : Nat} (hs : s < 2 ^ 64) : xRun xT 250 0 [(0, .ref 200), (1, .long (lN s))] [] (S, I, J, D, R) b Q = Q (.ok (some (.int (en (I 300 4) (fun k => I 300 (16 + k)) n m fi se s)))) (S, I, J, D, R) b := by
  have g1 := hG.2.1
  rw [e250_0]
  simp only [B250_0, xSeq, i_push, i_load, i_iload, i_lload, i_dload, i_aload, i_istore, i_astore, i_lstore, i_dstore, i_iinc, i_ii, i_iiz, i_ll, i_llz, i_lli, i_li, i_i, i_l, i_i2l, i_l2i, i_dup, i_dup2, i_dup2w, i_dupx1, i_pop, i_pop2, i_goto, i_ifc, i_icmp, i_getI, i_getL, i_getR, i_putI, i_putZ, i_putL, i_putR, i_aldI, i_aldB, i_aldL, i_aldD, i_astI, i_astL, i_astD, i_alen, i_ret, i_iret, i_zret, i_lret, i_fret, i_dret, i_aret, i_invS0, i_invV0, i_m2, i_m1, i_ml, i_obj, lk, lkp, stf1, stf2, Value.category, rV, xTo, lv_args, xCk, xCat, xRc, xAk, hg_S, hg_I, hg_J, hg_D, hg_R, hs_I, hs_J, hs_D, hs_R, uI_at, uJ_at, uD_at, uR_at, List.take_succ_cons, List.take_zero, List.drop_succ_cons, List.drop_zero, List.reverse_cons, List.reverse_nil, List.nil_append, List.cons_append, List.map_cons, List.map_nil, List.sum_cons, List.sum_nil, List.length_cons, List.length_nil, Option.toList_some, Option.toList_none, true_and, and_true, false_and, and_false, true_implies, false_implies, implies_true, not_true_eq_false, not_false_eq_true, ne_eq, if_true, if_false, Bool.and_true, Bool.true_and, decide_true, decide_false, reduceIte, reduceCtorEq, Bool.and_self, Bool.and_eq_true, decide_eq_true_eq, and_self, true_or, or_true, false_or, or_false, Nat.zero_add, Nat.add_zero, eq_self, Nat.reduceEqDiff, Nat.reduceLeDiff, Nat.reduceLT, Nat.reduceAdd, Nat.reduceSub, Nat.reduceMul, LM_out hL, xi144_0, ix_0, xi144_1, ix_1, xi144_2, ix_2, xi144_3, ix_3, xi144_4, ix_4, xi144_5, ix_5, xi144_6, ix_6, xi144_7, ix_7, xi144_8, ix_8, xi144_9, ix_9, xi144_10, ix_10, R251 (S := S) (R := R) hL hC.1 g1 hs]
  have := R250_17 (J := J) (D := D) (b := b) (Q := Q) hL hG hC hs m 0 (-I 300 4 * mg n s) (by omega)
  rw [ps, sm, Int32.sub_zero, nI_0] at this
  rw [this]
  unfold en
  rw [show -I 300 4 * mg n s - ps m (fun k => I 300 (16 + k)) fi se s = -(I 300 4 * mg n s + ps m (fun k => I 300 (16 + k)) fi se s) by grind]
theorem R257_17 (hL : LM S R) (hG : GR n m fi se dg sb) (hC : CM I n m fi se dg sb) {s t : Nat} (hs : s < 2 ^ 64) (ht : t < n) : ∀ (j i : Nat) (acc : Int32), i + j = dg t → xRun xT 257 17 [(0, .ref 200), (1, .long (lN s)), (3, .int (nI t)), (4, .int (acc + sm (fun i => pr (I 300 (16 + sb t i)) (s.testBit (fi (sb t i))) (s.testBit (se (sb t i)))) i)), (5, .int (nI i))] [] (S, I, J, D, R) b Q = Q (.ok (some (.int (2 * (acc + sm (fun i => pr (I 300 (16 + sb t i)) (s.testBit (fi (sb t i))) (s.testBit (se (sb t i)))) (dg t)))))) (S, I, J, D, R) b
  | 0, i, acc, hi => by
    obtain ⟨g0, g1, g2, g3, g4, g5, g6⟩ := hG
    obtain ⟨c1, c2, c3, c4, c5, c6⟩ := hC
    have h5 := g5 t ht
    have e : i = dg t := by omega
    subst e
    rw [e257_17]
    simp only [B257_17, xSeq, i_push, i_load, i_iload, i_lload, i_dload, i_aload, i_istore, i_astore, i_lstore, i_dstore, i_iinc, i_ii, i_iiz, i_ll, i_llz, i_lli, i_li, i_i, i_l, i_i2l, i_l2i, i_dup, i_dup2, i_dup2w, i_dupx1, i_pop, i_pop2, i_goto, i_ifc, i_icmp, i_getI, i_getL, i_getR, i_putI, i_putZ, i_putL, i_putR, i_aldI, i_aldB, i_aldL, i_aldD, i_astI, i_astL, i_astD, i_alen, i_ret, i_iret, i_zret, i_lret, i_fret, i_dret, i_aret, i_invS0, i_invV0, i_m2, i_m1, i_ml, i_obj, lk, lkp, stf1, stf2, Value.category, rV, xTo, lv_args, xCk, xCat, xRc, xAk, hg_S, hg_I, hg_J, hg_D, hg_R, hs_I, hs_J, hs_D, hs_R, uI_at, uJ_at, uD_at, uR_at, List.take_succ_cons, List.take_zero, List.drop_succ_cons, List.drop_zero, List.reverse_cons, List.reverse_nil, List.nil_append, List.cons_append, List.map_cons, List.map_nil, List.sum_cons, List.sum_nil, List.length_cons, List.length_nil, Option.toList_some, Option.toList_none, true_and, and_true, false_and, and_false, true_implies, false_implies, implies_true, not_true_eq_false, not_false_eq_true, ne_eq, if_true, if_false, Bool.and_true, Bool.true_and, decide_true, decide_false, reduceIte, reduceCtorEq, Bool.and_self, Bool.and_eq_true, decide_eq_true_eq, and_self, true_or, or_true, false_or, or_false, Nat.zero_add, Nat.add_zero, eq_self, Nat.reduceEqDiff, Nat.reduceLeDiff, Nat.reduceLT, Nat.reduceAdd, Nat.reduceSub, Nat.reduceMul, LM_out hL, nI_inP (show t < 64 by omega) (by decide), nI_ix (show t < 2147483648 by omega), c5 t ht, nI_leP (show dg t < 2147483648 by omega) (show dg t < 2147483648 by omega), Nat.le_refl, e257_55, B257_55]
  | j + 1, i, acc, hi => by
    have hG' := hG
    have hC' := hC
    obtain ⟨g0, g1, g2, g3, g4, g5, g6⟩ := hG'
    obtain ⟨c1, c2, c3, c4, c5, c6⟩ := hC'
    have h5 := g5 t ht
    have e4 : (4 : Int32) * nI t + nI i = nI (t * 4 + i) := by rw [show (4 : Int32) = nI 4 from rfl, pk_mul, nI_add, Nat.mul_comm]
    rw [e257_17]
    simp only [B257_17, xSeq, i_push, i_load, i_iload, i_lload, i_dload, i_aload, i_istore, i_astore, i_lstore, i_dstore, i_iinc, i_ii, i_iiz, i_ll, i_llz, i_lli, i_li, i_i, i_l, i_i2l, i_l2i, i_dup, i_dup2, i_dup2w, i_dupx1, i_pop, i_pop2, i_goto, i_ifc, i_icmp, i_getI, i_getL, i_getR, i_putI, i_putZ, i_putL, i_putR, i_aldI, i_aldB, i_aldL, i_aldD, i_astI, i_astL, i_astD, i_alen, i_ret, i_iret, i_zret, i_lret, i_fret, i_dret, i_aret, i_invS0, i_invV0, i_m2, i_m1, i_ml, i_obj, lk, lkp, stf1, stf2, Value.category, rV, xTo, lv_args, xCk, xCat, xRc, xAk, hg_S, hg_I, hg_J, hg_D, hg_R, hs_I, hs_J, hs_D, hs_R, uI_at, uJ_at, uD_at, uR_at, List.take_succ_cons, List.take_zero, List.drop_succ_cons, List.drop_zero, List.reverse_cons, List.reverse_nil, List.nil_append, List.cons_append, List.map_cons, List.map_nil, List.sum_cons, List.sum_nil, List.length_cons, List.length_nil, Option.toList_some, Option.toList_none, true_and, and_true, false_and, and_false, true_implies, false_implies, implies_true, not_true_eq_false, not_false_eq_true, ne_eq, if_true, if_false, Bool.and_true, Bool.true_and, decide_true, decide_false, reduceIte, reduceCtorEq, Bool.and_self, Bool.and_eq_true, decide_eq_true_eq, and_self, true_or, or_true, false_or, or_false, Nat.zero_add, Nat.add_zero, eq_self, Nat.reduceEqDiff, Nat.reduceLeDiff, Nat.reduceLT, Nat.reduceAdd, Nat.reduceSub, Nat.reduceMul, LM_out hL, nI_inP (show t < 64 by omega) (by decide), nI_ix (show t < 2147483648 by omega), c5 t ht, nI_leP (show dg t < 2147483648 by omega) (show i < 2147483648 by omega), show (dg t ≤ i) = False from eq_false (by omega), e4, nI_inP (show t * 4 + i < 256 by omega) (by decide), nI_ix (show t * 4 + i < 2147483648 by omega), c6 t i ht (show i < dg t by omega), R237 hL hG hC hs (g6 t i ht (by omega)), nI_1]
    have := R257_17 hL hG hC hs ht j (i + 1) acc (by omega)
    rw [sm, ← Int32.add_assoc] at this
    exact this
theorem R257 (hL : LM S R) (hG : GR n m fi se dg sb) (hC : CM I n m fi se dg sb) {s t : Nat} (hs : s < 2 ^ 64) (ht : t < n) : xRun xT 257 0 [(0, .ref 200), (1, .long (lN s)), (3, .int (nI t))] [] (S, I, J, D, R) b Q = Q (.ok (some (.int (dl (I 300 4) (fun k => I 300 (16 + k)) fi se dg sb s t)))) (S, I, J, D, R) b := by
  have g1 := hG.2.1
  rw [e257_0]
  simp only [B257_0, xSeq, i_push, i_load, i_iload, i_lload, i_dload, i_aload, i_istore, i_astore, i_lstore, i_dstore, i_iinc, i_ii, i_iiz, i_ll, i_llz, i_lli, i_li, i_i, i_l, i_i2l, i_l2i, i_dup, i_dup2, i_dup2w, i_dupx1, i_pop, i_pop2, i_goto, i_ifc, i_icmp, i_getI, i_getL, i_getR, i_putI, i_putZ, i_putL, i_putR, i_aldI, i_aldB, i_aldL, i_aldD, i_astI, i_astL, i_astD, i_alen, i_ret, i_iret, i_zret, i_lret, i_fret, i_dret, i_aret, i_invS0, i_invV0, i_m2, i_m1, i_ml, i_obj, lk, lkp, stf1, stf2, Value.category, rV, xTo, lv_args, xCk, xCat, xRc, xAk, hg_S, hg_I, hg_J, hg_D, hg_R, hs_I, hs_J, hs_D, hs_R, uI_at, uJ_at, uD_at, uR_at, List.take_succ_cons, List.take_zero, List.drop_succ_cons, List.drop_zero, List.reverse_cons, List.reverse_nil, List.nil_append, List.cons_append, List.map_cons, List.map_nil, List.sum_cons, List.sum_nil, List.length_cons, List.length_nil, Option.toList_some, Option.toList_none, true_and, and_true, false_and, and_false, true_implies, false_implies, implies_true, not_true_eq_false, not_false_eq_true, ne_eq, if_true, if_false, Bool.and_true, Bool.true_and, decide_true, decide_false, reduceIte, reduceCtorEq, Bool.and_self, Bool.and_eq_true, decide_eq_true_eq, and_self, true_or, or_true, false_or, or_false, Nat.zero_add, Nat.add_zero, eq_self, Nat.reduceEqDiff, Nat.reduceLeDiff, Nat.reduceLT, Nat.reduceAdd, Nat.reduceSub, Nat.reduceMul, LM_out hL, xi144_0, ix_0, xi144_1, ix_1, xi144_2, ix_2, xi144_3, ix_3, xi144_4, ix_4, xi144_5, ix_5, xi144_6, ix_6, xi144_7, ix_7, xi144_8, ix_8, xi144_9, ix_9, xi144_10, ix_10, R238 (S := S) (R := R) hs (show t < 64 by omega)]
  have := R257_17 (J := J) (D := D) (b := b) (Q := Q) hL hG hC hs ht (dg t) 0 (I 300 4 * sg (s.testBit t)) (by omega)
  rw [sm, Int32.add_zero] at this
  exact this
theorem R273 (hL : LM S R) {g k : Nat} (hg : g < 2147483648) (hJ : J 200 4 = lN g) (h0 : 0 < k) (hk : k < 2147483648) : xRun xT 273 0 [(0, .ref 200), (1, .int (nI k))] [] (S, I, J, D, R) b Q = Q (.ok (some (.int (nI (dw g k))))) (S, I, uJ J 200 4 (lN (nx g)), D, R) b := by
  have h1 := nx_lt g
  have h2 : ((nI k).toInt64 = 0) = False := eq_false (by
    rw [nI_l hk, show (0 : Int64) = lN 0 from rfl, pk_lEQ (by omega) (by omega)]
    omega)
  rw [e273_0]
  simp only [B273_0, xSeq, i_push, i_load, i_iload, i_lload, i_dload, i_aload, i_istore, i_astore, i_lstore, i_dstore, i_iinc, i_ii, i_iiz, i_ll, i_llz, i_lli, i_li, i_i, i_l, i_i2l, i_l2i, i_dup, i_dup2, i_dup2w, i_dupx1, i_pop, i_pop2, i_goto, i_ifc, i_icmp, i_getI, i_getL, i_getR, i_putI, i_putZ, i_putL, i_putR, i_aldI, i_aldB, i_aldL, i_aldD, i_astI, i_astL, i_astD, i_alen, i_ret, i_iret, i_zret, i_lret, i_fret, i_dret, i_aret, i_invS0, i_invV0, i_m2, i_m1, i_ml, i_obj, lk, lkp, stf1, stf2, Value.category, rV, xTo, lv_args, xCk, xCat, xRc, xAk, hg_S, hg_I, hg_J, hg_D, hg_R, hs_I, hs_J, hs_D, hs_R, uI_at, uJ_at, uD_at, uR_at, List.take_succ_cons, List.take_zero, List.drop_succ_cons, List.drop_zero, List.reverse_cons, List.reverse_nil, List.nil_append, List.cons_append, List.map_cons, List.map_nil, List.sum_cons, List.sum_nil, List.length_cons, List.length_nil, Option.toList_some, Option.toList_none, true_and, and_true, false_and, and_false, true_implies, false_implies, implies_true, not_true_eq_false, not_false_eq_true, ne_eq, if_true, if_false, Bool.and_true, Bool.true_and, decide_true, decide_false, reduceIte, reduceCtorEq, Bool.and_self, Bool.and_eq_true, decide_eq_true_eq, and_self, true_or, or_true, false_or, or_false, Nat.zero_add, Nat.add_zero, eq_self, Nat.reduceEqDiff, Nat.reduceLeDiff, Nat.reduceLT, Nat.reduceAdd, Nat.reduceSub, Nat.reduceMul, LM_out hL, hJ, show ((2147483648 : Int64) = 0) = False from eq_false (by decide), show ((65536 : Int64) = 0) = False from eq_false (by decide), q_nxr g hg, h2, q_d16 h1, q_remL (show nx g / 65536 < 2 ^ 31 by omega) h0 hk, dw]
theorem R272_2 (hL : LM S R) {a bb : Nat} (hA : I 300 2 = nI a) (hB : I 300 3 = nI bb) (ha : a < 2147483648) (h0 : 0 < bb) (hb : bb < 2147483648) {d : Nat} (hd : d < 2147483648) : ∀ (j i g : Nat) (J : xJ), i + j = d → g < 2147483648 → J 200 4 = lN g →
    xRun xT 272 2 [(0, .ref 200), (1, .int (nI d)), (2, .int (nI i))] [] (S, I, J, D, R) b Q = Q (.ok (some (.int (if (pd a bb j g).1 = true then 1 else 0)))) (S, I, uJ J 200 4 (lN (pd a bb j g).2), D, R) b
  | 0, i, g, J, hi, hg, hJ => by
    have e : i = d := by omega
    subst e
    rw [e272_2]
    simp only [B272_2, xSeq, i_push, i_load, i_iload, i_lload, i_dload, i_aload, i_istore, i_astore, i_lstore, i_dstore, i_iinc, i_ii, i_iiz, i_ll, i_llz, i_lli, i_li, i_i, i_l, i_i2l, i_l2i, i_dup, i_dup2, i_dup2w, i_dupx1, i_pop, i_pop2, i_goto, i_ifc, i_icmp, i_getI, i_getL, i_getR, i_putI, i_putZ, i_putL, i_putR, i_aldI, i_aldB, i_aldL, i_aldD, i_astI, i_astL, i_astD, i_alen, i_ret, i_iret, i_zret, i_lret, i_fret, i_dret, i_aret, i_invS0, i_invV0, i_m2, i_m1, i_ml, i_obj, lk, lkp, stf1, stf2, Value.category, rV, xTo, lv_args, xCk, xCat, xRc, xAk, hg_S, hg_I, hg_J, hg_D, hg_R, hs_I, hs_J, hs_D, hs_R, uI_at, uJ_at, uD_at, uR_at, List.take_succ_cons, List.take_zero, List.drop_succ_cons, List.drop_zero, List.reverse_cons, List.reverse_nil, List.nil_append, List.cons_append, List.map_cons, List.map_nil, List.sum_cons, List.sum_nil, List.length_cons, List.length_nil, Option.toList_some, Option.toList_none, true_and, and_true, false_and, and_false, true_implies, false_implies, implies_true, not_true_eq_false, not_false_eq_true, ne_eq, if_true, if_false, Bool.and_true, Bool.true_and, decide_true, decide_false, reduceIte, reduceCtorEq, Bool.and_self, Bool.and_eq_true, decide_eq_true_eq, and_self, true_or, or_true, false_or, or_false, Nat.zero_add, Nat.add_zero, eq_self, Nat.reduceEqDiff, Nat.reduceLeDiff, Nat.reduceLT, Nat.reduceAdd, Nat.reduceSub, Nat.reduceMul, nI_leP hd hd, Nat.le_refl, e272_34, B272_34, pd, uJ_same hJ]
  | j + 1, i, g, J, hi, hg, hJ => by
    have h1 := dw_lt g h0
    rw [e272_2]
    simp only [B272_2, xSeq, i_push, i_load, i_iload, i_lload, i_dload, i_aload, i_istore, i_astore, i_lstore, i_dstore, i_iinc, i_ii, i_iiz, i_ll, i_llz, i_lli, i_li, i_i, i_l, i_i2l, i_l2i, i_dup, i_dup2, i_dup2w, i_dupx1, i_pop, i_pop2, i_goto, i_ifc, i_icmp, i_getI, i_getL, i_getR, i_putI, i_putZ, i_putL, i_putR, i_aldI, i_aldB, i_aldL, i_aldD, i_astI, i_astL, i_astD, i_alen, i_ret, i_iret, i_zret, i_lret, i_fret, i_dret, i_aret, i_invS0, i_invV0, i_m2, i_m1, i_ml, i_obj, lk, lkp, stf1, stf2, Value.category, rV, xTo, lv_args, xCk, xCat, xRc, xAk, hg_S, hg_I, hg_J, hg_D, hg_R, hs_I, hs_J, hs_D, hs_R, uI_at, uJ_at, uD_at, uR_at, List.take_succ_cons, List.take_zero, List.drop_succ_cons, List.drop_zero, List.reverse_cons, List.reverse_nil, List.nil_append, List.cons_append, List.map_cons, List.map_nil, List.sum_cons, List.sum_nil, List.length_cons, List.length_nil, Option.toList_some, Option.toList_none, true_and, and_true, false_and, and_false, true_implies, false_implies, implies_true, not_true_eq_false, not_false_eq_true, ne_eq, if_true, if_false, Bool.and_true, Bool.true_and, decide_true, decide_false, reduceIte, reduceCtorEq, Bool.and_self, Bool.and_eq_true, decide_eq_true_eq, and_self, true_or, or_true, false_or, or_false, Nat.zero_add, Nat.add_zero, eq_self, Nat.reduceEqDiff, Nat.reduceLeDiff, Nat.reduceLT, Nat.reduceAdd, Nat.reduceSub, Nat.reduceMul, nI_leP hd (show i < 2147483648 by omega), show (d ≤ i) = False from eq_false (by omega), LM_out hL, xi144_0, ix_0, xi144_1, ix_1, xi144_2, ix_2, xi144_3, ix_3, xi144_4, ix_4, xi144_5, ix_5, xi144_6, ix_6, xi144_7, ix_7, xi144_8, ix_8, xi144_9, ix_9, xi144_10, ix_10, xi144_0, ix_0, xi144_1, ix_1, xi144_2, ix_2, xi144_3, ix_3, xi144_4, ix_4, xi144_5, ix_5, xi144_6, ix_6, xi144_7, ix_7, xi144_8, ix_8, xi144_9, ix_9, xi144_10, ix_10, hA, hB, R273 hL hg hJ h0 hb, nI_ltP (show dw g bb < 2147483648 by omega) ha]
    by_cases h : dw g bb < a
    · simp only [h, true_and, and_true, false_and, and_false, true_implies, false_implies, implies_true, not_true_eq_false, not_false_eq_true, ne_eq, if_true, if_false, Bool.and_true, Bool.true_and, decide_true, decide_false, reduceIte, reduceCtorEq, Bool.and_self, Bool.and_eq_true, decide_eq_true_eq, and_self, true_or, or_true, false_or, or_false, Nat.zero_add, Nat.add_zero, eq_self, Nat.reduceEqDiff, Nat.reduceLeDiff, Nat.reduceLT, Nat.reduceAdd, Nat.reduceSub, Nat.reduceMul, e272_28, B272_28, xSeq, i_push, i_load, i_iload, i_lload, i_dload, i_aload, i_istore, i_astore, i_lstore, i_dstore, i_iinc, i_ii, i_iiz, i_ll, i_llz, i_lli, i_li, i_i, i_l, i_i2l, i_l2i, i_dup, i_dup2, i_dup2w, i_dupx1, i_pop, i_pop2, i_goto, i_ifc, i_icmp, i_getI, i_getL, i_getR, i_putI, i_putZ, i_putL, i_putR, i_aldI, i_aldB, i_aldL, i_aldD, i_astI, i_astL, i_astD, i_alen, i_ret, i_iret, i_zret, i_lret, i_fret, i_dret, i_aret, i_invS0, i_invV0, i_m2, i_m1, i_ml, i_obj, lk, lkp, stf1, stf2, Value.category, rV, xTo, lv_args, xCk, xCat, xRc, xAk, hg_S, hg_I, hg_J, hg_D, hg_R, hs_I, hs_J, hs_D, hs_R, uI_at, uJ_at, uD_at, uR_at, List.take_succ_cons, List.take_zero, List.drop_succ_cons, List.drop_zero, List.reverse_cons, List.reverse_nil, List.nil_append, List.cons_append, List.map_cons, List.map_nil, List.sum_cons, List.sum_nil, List.length_cons, List.length_nil, Option.toList_some, Option.toList_none, nI_1, R272_2 hL hA hB ha h0 hb hd j (i + 1) (nx g) (uJ J 200 4 (lN (nx g))) (by omega) (nx_lt g) (by simp [uJ_at]), pd, uJ_uJ]
    · simp only [h, true_and, and_true, false_and, and_false, true_implies, false_implies, implies_true, not_true_eq_false, not_false_eq_true, ne_eq, if_true, if_false, Bool.and_true, Bool.true_and, decide_true, decide_false, reduceIte, reduceCtorEq, Bool.and_self, Bool.and_eq_true, decide_eq_true_eq, and_self, true_or, or_true, false_or, or_false, Nat.zero_add, Nat.add_zero, eq_self, Nat.reduceEqDiff, Nat.reduceLeDiff, Nat.reduceLT, Nat.reduceAdd, Nat.reduceSub, Nat.reduceMul, pd]
theorem R272 (hL : LM S R) {a bb : Nat} (hA : I 300 2 = nI a) (hB : I 300 3 = nI bb) (ha : a < 2147483648) (h0 : 0 < bb) (hb : bb < 2147483648) {d : Nat} (hd : d < 2147483648) {g : Nat} (hg : g < 2147483648) (hJ : J 200 4 = lN g) :
    xRun xT 272 0 [(0, .ref 200), (1, .int (nI d))] [] (S, I, J, D, R) b Q = Q (.ok (some (.int (if (pd a bb d g).1 = true then 1 else 0)))) (S, I, uJ J 200 4 (lN (pd a bb d g).2), D, R) b := by
  rw [e272_0]
  simp only [B272_0, xSeq, i_push, i_load, i_iload, i_lload, i_dload, i_aload, i_istore, i_astore, i_lstore, i_dstore, i_iinc, i_ii, i_iiz, i_ll, i_llz, i_lli, i_li, i_i, i_l, i_i2l, i_l2i, i_dup, i_dup2, i_dup2w, i_dupx1, i_pop, i_pop2, i_goto, i_ifc, i_icmp, i_getI, i_getL, i_getR, i_putI, i_putZ, i_putL, i_putR, i_aldI, i_aldB, i_aldL, i_aldD, i_astI, i_astL, i_astD, i_alen, i_ret, i_iret, i_zret, i_lret, i_fret, i_dret, i_aret, i_invS0, i_invV0, i_m2, i_m1, i_ml, i_obj, lk, lkp, stf1, stf2, Value.category, rV, xTo, lv_args, xCk, xCat, xRc, xAk, hg_S, hg_I, hg_J, hg_D, hg_R, hs_I, hs_J, hs_D, hs_R, uI_at, uJ_at, uD_at, uR_at, List.take_succ_cons, List.take_zero, List.drop_succ_cons, List.drop_zero, List.reverse_cons, List.reverse_nil, List.nil_append, List.cons_append, List.map_cons, List.map_nil, List.sum_cons, List.sum_nil, List.length_cons, List.length_nil, Option.toList_some, Option.toList_none, true_and, and_true, false_and, and_false, true_implies, false_implies, implies_true, not_true_eq_false, not_false_eq_true, ne_eq, if_true, if_false, Bool.and_true, Bool.true_and, decide_true, decide_false, reduceIte, reduceCtorEq, Bool.and_self, Bool.and_eq_true, decide_eq_true_eq, and_self, true_or, or_true, false_or, or_false, Nat.zero_add, Nat.add_zero, eq_self, Nat.reduceEqDiff, Nat.reduceLeDiff, Nat.reduceLT, Nat.reduceAdd, Nat.reduceSub, Nat.reduceMul]
  exact R272_2 hL hA hB ha h0 hb hd d 0 g J (by omega) hg hJ
end
/-! ===== questions: printed by 55.pub.py ===== -/
section
variable {S : xS} {I : xI} {J : xJ} {D : xDb} {R : xR} {b : Nat × Nat} {Q : xQ} {n m : Nat} {fi se dg : Nat → Nat} {sb : Nat → Nat → Nat}
theorem i32_nl (x y : Int32) : (x ≤ y) = ¬ (y < x) := propext Int32.not_lt.symm
theorem CM_u {o k : Nat} {v : Int32} (h : CM I n m fi se dg sb) (ho : (o ≠ 300 ∨ (k ≠ 8 ∧ k ≠ 10)) ∧ o ≠ 314 ∧ o ≠ 315 ∧ o ≠ 316 ∧ o ≠ 317) : CM (uI I o k v) n m fi se dg sb := by
  obtain ⟨h1, h2, h3, h4, h5⟩ := ho
  obtain ⟨c1, c2, c3, c4, c5, c6⟩ := h
  refine ⟨?_, ?_, fun i hi => ?_, fun i hi => ?_, fun i hi => ?_, fun i j hi hj => ?_⟩
  · rw [uI_at, if_neg (fun e => h1.elim (fun e2 => e2 e.1.symm) (fun e2 => e2.2 e.2.symm))]; exact c1
  · rw [uI_at, if_neg (fun e => h1.elim (fun e2 => e2 e.1.symm) (fun e2 => e2.1 e.2.symm))]; exact c2
  · rw [uI_at, if_neg (fun e => h2 e.1.symm)]; exact c3 i hi
  · rw [uI_at, if_neg (fun e => h3 e.1.symm)]; exact c4 i hi
  · rw [uI_at, if_neg (fun e => h5 e.1.symm)]; exact c5 i hi
  · rw [uI_at, if_neg (fun e => h4 e.1.symm)]; exact c6 i j hi hj
theorem CL_u {o k : Nat} {v : Int32} (h : CL I n m fi se dg sb) (ho : (o ≠ 102 ∨ (k ≠ 2 ∧ k ≠ 3)) ∧ o ≠ 103 ∧ o ≠ 104 ∧ o ≠ 107 ∧ o ≠ 108) : CL (uI I o k v) n m fi se dg sb := by
  obtain ⟨h1, h2, h3, h4, h5⟩ := ho
  obtain ⟨c1, c2, c3, c4, c5, c6⟩ := h
  refine ⟨?_, ?_, fun i hi => ?_, fun i hi => ?_, fun i hi => ?_, fun i j hi hj => ?_⟩
  · rw [uI_at, if_neg (fun e => h1.elim (fun e2 => e2 e.1.symm) (fun e2 => e2.1 e.2.symm))]; exact c1
  · rw [uI_at, if_neg (fun e => h1.elim (fun e2 => e2 e.1.symm) (fun e2 => e2.2 e.2.symm))]; exact c2
  · rw [uI_at, if_neg (fun e => h2 e.1.symm)]; exact c3 i hi
  · rw [uI_at, if_neg (fun e => h3 e.1.symm)]; exact c4 i hi
  · rw [uI_at, if_neg (fun e => h4 e.1.symm)]; exact c5 i hi
  · rw [uI_at, if_neg (fun e => h5 e.1.symm)]; exact c6 i j hi hj
theorem R128_4 (hL : LC S R) (hG : GR n m fi se dg sb) (hC : CL I n m fi se dg sb) {s : Nat} (hs : s < 2 ^ 64) (hJ : J 110 4 = lN s) : ∀ (j i : Nat), i + j = m → xRun xT 128 4 [(0, .ref 100), (1, .int (nI (ct (fun k => decide ((pr (I 111 k) (s.testBit (fi k)) (s.testBit (se k))) < 0)) i))), (2, .int (nI i))] [] (S, I, J, D, R) b Q = Q (.ok (some (.int (nI (ct (fun k => decide ((pr (I 111 k) (s.testBit (fi k)) (s.testBit (se k))) < 0)) m))))) (S, I, J, D, R) b
  | 0, i, hi => by
    obtain ⟨g0, g1, g2, g3, g4, g5, g6⟩ := hG
    obtain ⟨c1, c2, c3, c4, c5, c6⟩ := hC
    have e : i = m := by omega
    subst e
    rw [e128_4]
    simp only [B128_4, xSeq, i_push, i_load, i_iload, i_lload, i_dload, i_aload, i_istore, i_astore, i_lstore, i_dstore, i_iinc, i_ii, i_iiz, i_ll, i_llz, i_lli, i_li, i_i, i_l, i_i2l, i_l2i, i_dup, i_dup2, i_dup2w, i_dupx1, i_pop, i_pop2, i_goto, i_ifc, i_icmp, i_getI, i_getL, i_getR, i_putI, i_putZ, i_putL, i_putR, i_aldI, i_aldB, i_aldL, i_aldD, i_astI, i_astL, i_astD, i_alen, i_ret, i_iret, i_zret, i_lret, i_fret, i_dret, i_aret, i_invS0, i_invV0, i_m2, i_m1, i_ml, i_obj, lk, lkp, stf1, stf2, Value.category, rV, xTo, lv_args, xCk, xCat, xRc, xAk, hg_S, hg_I, hg_J, hg_D, hg_R, hs_I, hs_J, hs_D, hs_R, uI_at, uJ_at, uD_at, uR_at, List.take_succ_cons, List.take_zero, List.drop_succ_cons, List.drop_zero, List.reverse_cons, List.reverse_nil, List.nil_append, List.cons_append, List.map_cons, List.map_nil, List.sum_cons, List.sum_nil, List.length_cons, List.length_nil, Option.toList_some, Option.toList_none, true_and, and_true, false_and, and_false, true_implies, false_implies, implies_true, not_true_eq_false, not_false_eq_true, ne_eq, if_true, if_false, Bool.and_true, Bool.true_and, decide_true, decide_false, reduceIte, reduceCtorEq, Bool.and_self, Bool.and_eq_true, decide_eq_true_eq, and_self, true_or, or_true, false_or, or_false, Nat.zero_add, Nat.add_zero, eq_self, Nat.reduceEqDiff, Nat.reduceLeDiff, Nat.reduceLT, Nat.reduceAdd, Nat.reduceSub, Nat.reduceMul, LC_out hL, c2, nI_leP (show i < 2147483648 by omega) (show i < 2147483648 by omega), Nat.le_refl, e128_42, B128_42]
  | j + 1, i, hi => by
    have hG' := hG
    have hC' := hC
    obtain ⟨g0, g1, g2, g3, g4, g5, g6⟩ := hG'
    obtain ⟨c1, c2, c3, c4, c5, c6⟩ := hC'
    have ih := R128_4 hL hG hC hs hJ j (i + 1) (by omega)
    rw [ct] at ih
    rw [e128_4]
    simp only [B128_4, xSeq, i_push, i_load, i_iload, i_lload, i_dload, i_aload, i_istore, i_astore, i_lstore, i_dstore, i_iinc, i_ii, i_iiz, i_ll, i_llz, i_lli, i_li, i_i, i_l, i_i2l, i_l2i, i_dup, i_dup2, i_dup2w, i_dupx1, i_pop, i_pop2, i_goto, i_ifc, i_icmp, i_getI, i_getL, i_getR, i_putI, i_putZ, i_putL, i_putR, i_aldI, i_aldB, i_aldL, i_aldD, i_astI, i_astL, i_astD, i_alen, i_ret, i_iret, i_zret, i_lret, i_fret, i_dret, i_aret, i_invS0, i_invV0, i_m2, i_m1, i_ml, i_obj, lk, lkp, stf1, stf2, Value.category, rV, xTo, lv_args, xCk, xCat, xRc, xAk, hg_S, hg_I, hg_J, hg_D, hg_R, hs_I, hs_J, hs_D, hs_R, uI_at, uJ_at, uD_at, uR_at, List.take_succ_cons, List.take_zero, List.drop_succ_cons, List.drop_zero, List.reverse_cons, List.reverse_nil, List.nil_append, List.cons_append, List.map_cons, List.map_nil, List.sum_cons, List.sum_nil, List.length_cons, List.length_nil, Option.toList_some, Option.toList_none, true_and, and_true, false_and, and_false, true_implies, false_implies, implies_true, not_true_eq_false, not_false_eq_true, ne_eq, if_true, if_false, Bool.and_true, Bool.true_and, decide_true, decide_false, reduceIte, reduceCtorEq, Bool.and_self, Bool.and_eq_true, decide_eq_true_eq, and_self, true_or, or_true, false_or, or_false, Nat.zero_add, Nat.add_zero, eq_self, Nat.reduceEqDiff, Nat.reduceLeDiff, Nat.reduceLT, Nat.reduceAdd, Nat.reduceSub, Nat.reduceMul, LC_out hL, c2, hJ, nI_leP (show m < 2147483648 by omega) (show i < 2147483648 by omega), show (m ≤ i) = False from eq_false (by omega), R75 hL hG hC hs (show i < m by omega), e128_36, B128_36, nI_1]
    by_cases h : (pr (I 111 i) (s.testBit (fi i)) (s.testBit (se i))) < 0
    · rw [if_pos (decide_eq_true h)] at ih
      simp only [h, i32_nl, true_and, and_true, false_and, and_false, true_implies, false_implies, implies_true, not_true_eq_false, not_false_eq_true, ne_eq, if_true, if_false, Bool.and_true, Bool.true_and, decide_true, decide_false, reduceIte, reduceCtorEq, Bool.and_self, Bool.and_eq_true, decide_eq_true_eq, and_self, true_or, or_true, false_or, or_false, Nat.zero_add, Nat.add_zero, eq_self, Nat.reduceEqDiff, Nat.reduceLeDiff, Nat.reduceLT, Nat.reduceAdd, Nat.reduceSub, Nat.reduceMul]
      exact ih
    · rw [if_neg (fun e => h (of_decide_eq_true e)), Nat.add_zero] at ih
      simp only [h, i32_nl, true_and, and_true, false_and, and_false, true_implies, false_implies, implies_true, not_true_eq_false, not_false_eq_true, ne_eq, if_true, if_false, Bool.and_true, Bool.true_and, decide_true, decide_false, reduceIte, reduceCtorEq, Bool.and_self, Bool.and_eq_true, decide_eq_true_eq, and_self, true_or, or_true, false_or, or_false, Nat.zero_add, Nat.add_zero, eq_self, Nat.reduceEqDiff, Nat.reduceLeDiff, Nat.reduceLT, Nat.reduceAdd, Nat.reduceSub, Nat.reduceMul]
      exact ih
theorem R128 (hL : LC S R) (hG : GR n m fi se dg sb) (hC : CL I n m fi se dg sb) {s : Nat} (hs : s < 2 ^ 64) (hJ : J 110 4 = lN s) : xRun xT 128 0 [(0, .ref 100)] [] (S, I, J, D, R) b Q = Q (.ok (some (.int (nI (ct (fun k => decide ((pr (I 111 k) (s.testBit (fi k)) (s.testBit (se k))) < 0)) m))))) (S, I, J, D, R) b := by
  rw [e128_0]
  simp only [B128_0, xSeq, i_push, i_load, i_iload, i_lload, i_dload, i_aload, i_istore, i_astore, i_lstore, i_dstore, i_iinc, i_ii, i_iiz, i_ll, i_llz, i_lli, i_li, i_i, i_l, i_i2l, i_l2i, i_dup, i_dup2, i_dup2w, i_dupx1, i_pop, i_pop2, i_goto, i_ifc, i_icmp, i_getI, i_getL, i_getR, i_putI, i_putZ, i_putL, i_putR, i_aldI, i_aldB, i_aldL, i_aldD, i_astI, i_astL, i_astD, i_alen, i_ret, i_iret, i_zret, i_lret, i_fret, i_dret, i_aret, i_invS0, i_invV0, i_m2, i_m1, i_ml, i_obj, lk, lkp, stf1, stf2, Value.category, rV, xTo, lv_args, xCk, xCat, xRc, xAk, hg_S, hg_I, hg_J, hg_D, hg_R, hs_I, hs_J, hs_D, hs_R, uI_at, uJ_at, uD_at, uR_at, List.take_succ_cons, List.take_zero, List.drop_succ_cons, List.drop_zero, List.reverse_cons, List.reverse_nil, List.nil_append, List.cons_append, List.map_cons, List.map_nil, List.sum_cons, List.sum_nil, List.length_cons, List.length_nil, Option.toList_some, Option.toList_none, true_and, and_true, false_and, and_false, true_implies, false_implies, implies_true, not_true_eq_false, not_false_eq_true, ne_eq, if_true, if_false, Bool.and_true, Bool.true_and, decide_true, decide_false, reduceIte, reduceCtorEq, Bool.and_self, Bool.and_eq_true, decide_eq_true_eq, and_self, true_or, or_true, false_or, or_false, Nat.zero_add, Nat.add_zero, eq_self, Nat.reduceEqDiff, Nat.reduceLeDiff, Nat.reduceLT, Nat.reduceAdd, Nat.reduceSub, Nat.reduceMul]
  exact R128_4 hL hG hC hs hJ m 0 (by omega)
theorem R129_4 (hL : LC S R) (hG : GR n m fi se dg sb) (hC : CL I n m fi se dg sb) {s : Nat} (hs : s < 2 ^ 64) (hJ : J 110 4 = lN s) : ∀ (j i : Nat), i + j = n → xRun xT 129 4 [(0, .ref 100), (1, .int (nI (ct (fun k => decide (0 < (dl (I 110 6) (I 111) fi se dg sb s k))) i))), (2, .int (nI i))] [] (S, I, J, D, R) b Q = Q (.ok (some (.int (nI (ct (fun k => decide (0 < (dl (I 110 6) (I 111) fi se dg sb s k))) n))))) (S, I, J, D, R) b
  | 0, i, hi => by
    obtain ⟨g0, g1, g2, g3, g4, g5, g6⟩ := hG
    obtain ⟨c1, c2, c3, c4, c5, c6⟩ := hC
    have e : i = n := by omega
    subst e
    rw [e129_4]
    simp only [B129_4, xSeq, i_push, i_load, i_iload, i_lload, i_dload, i_aload, i_istore, i_astore, i_lstore, i_dstore, i_iinc, i_ii, i_iiz, i_ll, i_llz, i_lli, i_li, i_i, i_l, i_i2l, i_l2i, i_dup, i_dup2, i_dup2w, i_dupx1, i_pop, i_pop2, i_goto, i_ifc, i_icmp, i_getI, i_getL, i_getR, i_putI, i_putZ, i_putL, i_putR, i_aldI, i_aldB, i_aldL, i_aldD, i_astI, i_astL, i_astD, i_alen, i_ret, i_iret, i_zret, i_lret, i_fret, i_dret, i_aret, i_invS0, i_invV0, i_m2, i_m1, i_ml, i_obj, lk, lkp, stf1, stf2, Value.category, rV, xTo, lv_args, xCk, xCat, xRc, xAk, hg_S, hg_I, hg_J, hg_D, hg_R, hs_I, hs_J, hs_D, hs_R, uI_at, uJ_at, uD_at, uR_at, List.take_succ_cons, List.take_zero, List.drop_succ_cons, List.drop_zero, List.reverse_cons, List.reverse_nil, List.nil_append, List.cons_append, List.map_cons, List.map_nil, List.sum_cons, List.sum_nil, List.length_cons, List.length_nil, Option.toList_some, Option.toList_none, true_and, and_true, false_and, and_false, true_implies, false_implies, implies_true, not_true_eq_false, not_false_eq_true, ne_eq, if_true, if_false, Bool.and_true, Bool.true_and, decide_true, decide_false, reduceIte, reduceCtorEq, Bool.and_self, Bool.and_eq_true, decide_eq_true_eq, and_self, true_or, or_true, false_or, or_false, Nat.zero_add, Nat.add_zero, eq_self, Nat.reduceEqDiff, Nat.reduceLeDiff, Nat.reduceLT, Nat.reduceAdd, Nat.reduceSub, Nat.reduceMul, LC_out hL, c1, nI_leP (show i < 2147483648 by omega) (show i < 2147483648 by omega), Nat.le_refl, e129_42, B129_42]
  | j + 1, i, hi => by
    have hG' := hG
    have hC' := hC
    obtain ⟨g0, g1, g2, g3, g4, g5, g6⟩ := hG'
    obtain ⟨c1, c2, c3, c4, c5, c6⟩ := hC'
    have ih := R129_4 hL hG hC hs hJ j (i + 1) (by omega)
    rw [ct] at ih
    rw [e129_4]
    simp only [B129_4, xSeq, i_push, i_load, i_iload, i_lload, i_dload, i_aload, i_istore, i_astore, i_lstore, i_dstore, i_iinc, i_ii, i_iiz, i_ll, i_llz, i_lli, i_li, i_i, i_l, i_i2l, i_l2i, i_dup, i_dup2, i_dup2w, i_dupx1, i_pop, i_pop2, i_goto, i_ifc, i_icmp, i_getI, i_getL, i_getR, i_putI, i_putZ, i_putL, i_putR, i_aldI, i_aldB, i_aldL, i_aldD, i_astI, i_astL, i_astD, i_alen, i_ret, i_iret, i_zret, i_lret, i_fret, i_dret, i_aret, i_invS0, i_invV0, i_m2, i_m1, i_ml, i_obj, lk, lkp, stf1, stf2, Value.category, rV, xTo, lv_args, xCk, xCat, xRc, xAk, hg_S, hg_I, hg_J, hg_D, hg_R, hs_I, hs_J, hs_D, hs_R, uI_at, uJ_at, uD_at, uR_at, List.take_succ_cons, List.take_zero, List.drop_succ_cons, List.drop_zero, List.reverse_cons, List.reverse_nil, List.nil_append, List.cons_append, List.map_cons, List.map_nil, List.sum_cons, List.sum_nil, List.length_cons, List.length_nil, Option.toList_some, Option.toList_none, true_and, and_true, false_and, and_false, true_implies, false_implies, implies_true, not_true_eq_false, not_false_eq_true, ne_eq, if_true, if_false, Bool.and_true, Bool.true_and, decide_true, decide_false, reduceIte, reduceCtorEq, Bool.and_self, Bool.and_eq_true, decide_eq_true_eq, and_self, true_or, or_true, false_or, or_false, Nat.zero_add, Nat.add_zero, eq_self, Nat.reduceEqDiff, Nat.reduceLeDiff, Nat.reduceLT, Nat.reduceAdd, Nat.reduceSub, Nat.reduceMul, LC_out hL, c1, hJ, nI_leP (show n < 2147483648 by omega) (show i < 2147483648 by omega), show (n ≤ i) = False from eq_false (by omega), R76 hL hG hC hs (show i < n by omega), e129_36, B129_36, nI_1]
    by_cases h : 0 < (dl (I 110 6) (I 111) fi se dg sb s i)
    · rw [if_pos (decide_eq_true h)] at ih
      simp only [h, i32_nl, true_and, and_true, false_and, and_false, true_implies, false_implies, implies_true, not_true_eq_false, not_false_eq_true, ne_eq, if_true, if_false, Bool.and_true, Bool.true_and, decide_true, decide_false, reduceIte, reduceCtorEq, Bool.and_self, Bool.and_eq_true, decide_eq_true_eq, and_self, true_or, or_true, false_or, or_false, Nat.zero_add, Nat.add_zero, eq_self, Nat.reduceEqDiff, Nat.reduceLeDiff, Nat.reduceLT, Nat.reduceAdd, Nat.reduceSub, Nat.reduceMul]
      exact ih
    · rw [if_neg (fun e => h (of_decide_eq_true e)), Nat.add_zero] at ih
      simp only [h, i32_nl, true_and, and_true, false_and, and_false, true_implies, false_implies, implies_true, not_true_eq_false, not_false_eq_true, ne_eq, if_true, if_false, Bool.and_true, Bool.true_and, decide_true, decide_false, reduceIte, reduceCtorEq, Bool.and_self, Bool.and_eq_true, decide_eq_true_eq, and_self, true_or, or_true, false_or, or_false, Nat.zero_add, Nat.add_zero, eq_self, Nat.reduceEqDiff, Nat.reduceLeDiff, Nat.reduceLT, Nat.reduceAdd, Nat.reduceSub, Nat.reduceMul]
      exact ih
theorem R129 (hL : LC S R) (hG : GR n m fi se dg sb) (hC : CL I n m fi se dg sb) {s : Nat} (hs : s < 2 ^ 64) (hJ : J 110 4 = lN s) : xRun xT 129 0 [(0, .ref 100)] [] (S, I, J, D, R) b Q = Q (.ok (some (.int (nI (ct (fun k => decide (0 < (dl (I 110 6) (I 111) fi se dg sb s k))) n))))) (S, I, J, D, R) b := by
  rw [e129_0]
  simp only [B129_0, xSeq, i_push, i_load, i_iload, i_lload, i_dload, i_aload, i_istore, i_astore, i_lstore, i_dstore, i_iinc, i_ii, i_iiz, i_ll, i_llz, i_lli, i_li, i_i, i_l, i_i2l, i_l2i, i_dup, i_dup2, i_dup2w, i_dupx1, i_pop, i_pop2, i_goto, i_ifc, i_icmp, i_getI, i_getL, i_getR, i_putI, i_putZ, i_putL, i_putR, i_aldI, i_aldB, i_aldL, i_aldD, i_astI, i_astL, i_astD, i_alen, i_ret, i_iret, i_zret, i_lret, i_fret, i_dret, i_aret, i_invS0, i_invV0, i_m2, i_m1, i_ml, i_obj, lk, lkp, stf1, stf2, Value.category, rV, xTo, lv_args, xCk, xCat, xRc, xAk, hg_S, hg_I, hg_J, hg_D, hg_R, hs_I, hs_J, hs_D, hs_R, uI_at, uJ_at, uD_at, uR_at, List.take_succ_cons, List.take_zero, List.drop_succ_cons, List.drop_zero, List.reverse_cons, List.reverse_nil, List.nil_append, List.cons_append, List.map_cons, List.map_nil, List.sum_cons, List.sum_nil, List.length_cons, List.length_nil, Option.toList_some, Option.toList_none, true_and, and_true, false_and, and_false, true_implies, false_implies, implies_true, not_true_eq_false, not_false_eq_true, ne_eq, if_true, if_false, Bool.and_true, Bool.true_and, decide_true, decide_false, reduceIte, reduceCtorEq, Bool.and_self, Bool.and_eq_true, decide_eq_true_eq, and_self, true_or, or_true, false_or, or_false, Nat.zero_add, Nat.add_zero, eq_self, Nat.reduceEqDiff, Nat.reduceLeDiff, Nat.reduceLT, Nat.reduceAdd, Nat.reduceSub, Nat.reduceMul]
  exact R129_4 hL hG hC hs hJ n 0 (by omega)
theorem R130_4 (hL : LC S R) (hG : GR n m fi se dg sb) (hC : CL I n m fi se dg sb) {s : Nat} (hs : s < 2 ^ 64) (hJ : J 110 4 = lN s) : ∀ (j i : Nat), i + j = n → xRun xT 130 4 [(0, .ref 100), (1, .int (nI (ct (fun k => decide ((dl (I 110 6) (I 111) fi se dg sb s k) = 0)) i))), (2, .int (nI i))] [] (S, I, J, D, R) b Q = Q (.ok (some (.int (nI (ct (fun k => decide ((dl (I 110 6) (I 111) fi se dg sb s k) = 0)) n))))) (S, I, J, D, R) b
  | 0, i, hi => by
    obtain ⟨g0, g1, g2, g3, g4, g5, g6⟩ := hG
    obtain ⟨c1, c2, c3, c4, c5, c6⟩ := hC
    have e : i = n := by omega
    subst e
    rw [e130_4]
    simp only [B130_4, xSeq, i_push, i_load, i_iload, i_lload, i_dload, i_aload, i_istore, i_astore, i_lstore, i_dstore, i_iinc, i_ii, i_iiz, i_ll, i_llz, i_lli, i_li, i_i, i_l, i_i2l, i_l2i, i_dup, i_dup2, i_dup2w, i_dupx1, i_pop, i_pop2, i_goto, i_ifc, i_icmp, i_getI, i_getL, i_getR, i_putI, i_putZ, i_putL, i_putR, i_aldI, i_aldB, i_aldL, i_aldD, i_astI, i_astL, i_astD, i_alen, i_ret, i_iret, i_zret, i_lret, i_fret, i_dret, i_aret, i_invS0, i_invV0, i_m2, i_m1, i_ml, i_obj, lk, lkp, stf1, stf2, Value.category, rV, xTo, lv_args, xCk, xCat, xRc, xAk, hg_S, hg_I, hg_J, hg_D, hg_R, hs_I, hs_J, hs_D, hs_R, uI_at, uJ_at, uD_at, uR_at, List.take_succ_cons, List.take_zero, List.drop_succ_cons, List.drop_zero, List.reverse_cons, List.reverse_nil, List.nil_append, List.cons_append, List.map_cons, List.map_nil, List.sum_cons, List.sum_nil, List.length_cons, List.length_nil, Option.toList_some, Option.toList_none, true_and, and_true, false_and, and_false, true_implies, false_implies, implies_true, not_true_eq_false, not_false_eq_true, ne_eq, if_true, if_false, Bool.and_true, Bool.true_and, decide_true, decide_false, reduceIte, reduceCtorEq, Bool.and_self, Bool.and_eq_true, decide_eq_true_eq, and_self, true_or, or_true, false_or, or_false, Nat.zero_add, Nat.add_zero, eq_self, Nat.reduceEqDiff, Nat.reduceLeDiff, Nat.reduceLT, Nat.reduceAdd, Nat.reduceSub, Nat.reduceMul, LC_out hL, c1, nI_leP (show i < 2147483648 by omega) (show i < 2147483648 by omega), Nat.le_refl, e130_42, B130_42]
  | j + 1, i, hi => by
    have hG' := hG
    have hC' := hC
    obtain ⟨g0, g1, g2, g3, g4, g5, g6⟩ := hG'
    obtain ⟨c1, c2, c3, c4, c5, c6⟩ := hC'
    have ih := R130_4 hL hG hC hs hJ j (i + 1) (by omega)
    rw [ct] at ih
    rw [e130_4]
    simp only [B130_4, xSeq, i_push, i_load, i_iload, i_lload, i_dload, i_aload, i_istore, i_astore, i_lstore, i_dstore, i_iinc, i_ii, i_iiz, i_ll, i_llz, i_lli, i_li, i_i, i_l, i_i2l, i_l2i, i_dup, i_dup2, i_dup2w, i_dupx1, i_pop, i_pop2, i_goto, i_ifc, i_icmp, i_getI, i_getL, i_getR, i_putI, i_putZ, i_putL, i_putR, i_aldI, i_aldB, i_aldL, i_aldD, i_astI, i_astL, i_astD, i_alen, i_ret, i_iret, i_zret, i_lret, i_fret, i_dret, i_aret, i_invS0, i_invV0, i_m2, i_m1, i_ml, i_obj, lk, lkp, stf1, stf2, Value.category, rV, xTo, lv_args, xCk, xCat, xRc, xAk, hg_S, hg_I, hg_J, hg_D, hg_R, hs_I, hs_J, hs_D, hs_R, uI_at, uJ_at, uD_at, uR_at, List.take_succ_cons, List.take_zero, List.drop_succ_cons, List.drop_zero, List.reverse_cons, List.reverse_nil, List.nil_append, List.cons_append, List.map_cons, List.map_nil, List.sum_cons, List.sum_nil, List.length_cons, List.length_nil, Option.toList_some, Option.toList_none, true_and, and_true, false_and, and_false, true_implies, false_implies, implies_true, not_true_eq_false, not_false_eq_true, ne_eq, if_true, if_false, Bool.and_true, Bool.true_and, decide_true, decide_false, reduceIte, reduceCtorEq, Bool.and_self, Bool.and_eq_true, decide_eq_true_eq, and_self, true_or, or_true, false_or, or_false, Nat.zero_add, Nat.add_zero, eq_self, Nat.reduceEqDiff, Nat.reduceLeDiff, Nat.reduceLT, Nat.reduceAdd, Nat.reduceSub, Nat.reduceMul, LC_out hL, c1, hJ, nI_leP (show n < 2147483648 by omega) (show i < 2147483648 by omega), show (n ≤ i) = False from eq_false (by omega), R76 hL hG hC hs (show i < n by omega), e130_36, B130_36, nI_1]
    by_cases h : (dl (I 110 6) (I 111) fi se dg sb s i) = 0
    · rw [if_pos (decide_eq_true h)] at ih
      simp only [h, i32_nl, true_and, and_true, false_and, and_false, true_implies, false_implies, implies_true, not_true_eq_false, not_false_eq_true, ne_eq, if_true, if_false, Bool.and_true, Bool.true_and, decide_true, decide_false, reduceIte, reduceCtorEq, Bool.and_self, Bool.and_eq_true, decide_eq_true_eq, and_self, true_or, or_true, false_or, or_false, Nat.zero_add, Nat.add_zero, eq_self, Nat.reduceEqDiff, Nat.reduceLeDiff, Nat.reduceLT, Nat.reduceAdd, Nat.reduceSub, Nat.reduceMul]
      exact ih
    · rw [if_neg (fun e => h (of_decide_eq_true e)), Nat.add_zero] at ih
      simp only [h, i32_nl, true_and, and_true, false_and, and_false, true_implies, false_implies, implies_true, not_true_eq_false, not_false_eq_true, ne_eq, if_true, if_false, Bool.and_true, Bool.true_and, decide_true, decide_false, reduceIte, reduceCtorEq, Bool.and_self, Bool.and_eq_true, decide_eq_true_eq, and_self, true_or, or_true, false_or, or_false, Nat.zero_add, Nat.add_zero, eq_self, Nat.reduceEqDiff, Nat.reduceLeDiff, Nat.reduceLT, Nat.reduceAdd, Nat.reduceSub, Nat.reduceMul]
      exact ih
theorem R130 (hL : LC S R) (hG : GR n m fi se dg sb) (hC : CL I n m fi se dg sb) {s : Nat} (hs : s < 2 ^ 64) (hJ : J 110 4 = lN s) : xRun xT 130 0 [(0, .ref 100)] [] (S, I, J, D, R) b Q = Q (.ok (some (.int (nI (ct (fun k => decide ((dl (I 110 6) (I 111) fi se dg sb s k) = 0)) n))))) (S, I, J, D, R) b := by
  rw [e130_0]
  simp only [B130_0, xSeq, i_push, i_load, i_iload, i_lload, i_dload, i_aload, i_istore, i_astore, i_lstore, i_dstore, i_iinc, i_ii, i_iiz, i_ll, i_llz, i_lli, i_li, i_i, i_l, i_i2l, i_l2i, i_dup, i_dup2, i_dup2w, i_dupx1, i_pop, i_pop2, i_goto, i_ifc, i_icmp, i_getI, i_getL, i_getR, i_putI, i_putZ, i_putL, i_putR, i_aldI, i_aldB, i_aldL, i_aldD, i_astI, i_astL, i_astD, i_alen, i_ret, i_iret, i_zret, i_lret, i_fret, i_dret, i_aret, i_invS0, i_invV0, i_m2, i_m1, i_ml, i_obj, lk, lkp, stf1, stf2, Value.category, rV, xTo, lv_args, xCk, xCat, xRc, xAk, hg_S, hg_I, hg_J, hg_D, hg_R, hs_I, hs_J, hs_D, hs_R, uI_at, uJ_at, uD_at, uR_at, List.take_succ_cons, List.take_zero, List.drop_succ_cons, List.drop_zero, List.reverse_cons, List.reverse_nil, List.nil_append, List.cons_append, List.map_cons, List.map_nil, List.sum_cons, List.sum_nil, List.length_cons, List.length_nil, Option.toList_some, Option.toList_none, true_and, and_true, false_and, and_false, true_implies, false_implies, implies_true, not_true_eq_false, not_false_eq_true, ne_eq, if_true, if_false, Bool.and_true, Bool.true_and, decide_true, decide_false, reduceIte, reduceCtorEq, Bool.and_self, Bool.and_eq_true, decide_eq_true_eq, and_self, true_or, or_true, false_or, or_false, Nat.zero_add, Nat.add_zero, eq_self, Nat.reduceEqDiff, Nat.reduceLeDiff, Nat.reduceLT, Nat.reduceAdd, Nat.reduceSub, Nat.reduceMul]
  exact R130_4 hL hG hC hs hJ n 0 (by omega)
theorem R258_9 (hL : LM S R) (hG : GR n m fi se dg sb) (hC : CM I n m fi se dg sb) {s : Nat} (hs : s < 2 ^ 64) (hJ : J 200 3 = lN s) : ∀ (j i : Nat), i + j = m → xRun xT 258 9 [(0, .ref 200), (1, .int (nI (ct (fun k => decide ((pr (I 300 (16 + k)) (s.testBit (fi k)) (s.testBit (se k))) < 0)) i))), (2, .int (nI i))] [] (S, I, J, D, R) b Q = Q (.ok (some (.int (nI (ct (fun k => decide ((pr (I 300 (16 + k)) (s.testBit (fi k)) (s.testBit (se k))) < 0)) m))))) (S, I, J, D, R) b
  | 0, i, hi => by
    obtain ⟨g0, g1, g2, g3, g4, g5, g6⟩ := hG
    obtain ⟨c1, c2, c3, c4, c5, c6⟩ := hC
    have e : i = m := by omega
    subst e
    rw [e258_9]
    simp only [B258_9, xSeq, i_push, i_load, i_iload, i_lload, i_dload, i_aload, i_istore, i_astore, i_lstore, i_dstore, i_iinc, i_ii, i_iiz, i_ll, i_llz, i_lli, i_li, i_i, i_l, i_i2l, i_l2i, i_dup, i_dup2, i_dup2w, i_dupx1, i_pop, i_pop2, i_goto, i_ifc, i_icmp, i_getI, i_getL, i_getR, i_putI, i_putZ, i_putL, i_putR, i_aldI, i_aldB, i_aldL, i_aldD, i_astI, i_astL, i_astD, i_alen, i_ret, i_iret, i_zret, i_lret, i_fret, i_dret, i_aret, i_invS0, i_invV0, i_m2, i_m1, i_ml, i_obj, lk, lkp, stf1, stf2, Value.category, rV, xTo, lv_args, xCk, xCat, xRc, xAk, hg_S, hg_I, hg_J, hg_D, hg_R, hs_I, hs_J, hs_D, hs_R, uI_at, uJ_at, uD_at, uR_at, List.take_succ_cons, List.take_zero, List.drop_succ_cons, List.drop_zero, List.reverse_cons, List.reverse_nil, List.nil_append, List.cons_append, List.map_cons, List.map_nil, List.sum_cons, List.sum_nil, List.length_cons, List.length_nil, Option.toList_some, Option.toList_none, true_and, and_true, false_and, and_false, true_implies, false_implies, implies_true, not_true_eq_false, not_false_eq_true, ne_eq, if_true, if_false, Bool.and_true, Bool.true_and, decide_true, decide_false, reduceIte, reduceCtorEq, Bool.and_self, Bool.and_eq_true, decide_eq_true_eq, and_self, true_or, or_true, false_or, or_false, Nat.zero_add, Nat.add_zero, eq_self, Nat.reduceEqDiff, Nat.reduceLeDiff, Nat.reduceLT, Nat.reduceAdd, Nat.reduceSub, Nat.reduceMul, LM_out hL, xi144_0, ix_0, xi144_1, ix_1, xi144_2, ix_2, xi144_3, ix_3, xi144_4, ix_4, xi144_5, ix_5, xi144_6, ix_6, xi144_7, ix_7, xi144_8, ix_8, xi144_9, ix_9, xi144_10, ix_10, c2, nI_leP (show i < 2147483648 by omega) (show i < 2147483648 by omega), Nat.le_refl, e258_46, B258_46]
  | j + 1, i, hi => by
    have hG' := hG
    have hC' := hC
    obtain ⟨g0, g1, g2, g3, g4, g5, g6⟩ := hG'
    obtain ⟨c1, c2, c3, c4, c5, c6⟩ := hC'
    have ih := R258_9 hL hG hC hs hJ j (i + 1) (by omega)
    rw [ct] at ih
    rw [e258_9]
    simp only [B258_9, xSeq, i_push, i_load, i_iload, i_lload, i_dload, i_aload, i_istore, i_astore, i_lstore, i_dstore, i_iinc, i_ii, i_iiz, i_ll, i_llz, i_lli, i_li, i_i, i_l, i_i2l, i_l2i, i_dup, i_dup2, i_dup2w, i_dupx1, i_pop, i_pop2, i_goto, i_ifc, i_icmp, i_getI, i_getL, i_getR, i_putI, i_putZ, i_putL, i_putR, i_aldI, i_aldB, i_aldL, i_aldD, i_astI, i_astL, i_astD, i_alen, i_ret, i_iret, i_zret, i_lret, i_fret, i_dret, i_aret, i_invS0, i_invV0, i_m2, i_m1, i_ml, i_obj, lk, lkp, stf1, stf2, Value.category, rV, xTo, lv_args, xCk, xCat, xRc, xAk, hg_S, hg_I, hg_J, hg_D, hg_R, hs_I, hs_J, hs_D, hs_R, uI_at, uJ_at, uD_at, uR_at, List.take_succ_cons, List.take_zero, List.drop_succ_cons, List.drop_zero, List.reverse_cons, List.reverse_nil, List.nil_append, List.cons_append, List.map_cons, List.map_nil, List.sum_cons, List.sum_nil, List.length_cons, List.length_nil, Option.toList_some, Option.toList_none, true_and, and_true, false_and, and_false, true_implies, false_implies, implies_true, not_true_eq_false, not_false_eq_true, ne_eq, if_true, if_false, Bool.and_true, Bool.true_and, decide_true, decide_false, reduceIte, reduceCtorEq, Bool.and_self, Bool.and_eq_true, decide_eq_true_eq, and_self, true_or, or_true, false_or, or_false, Nat.zero_add, Nat.add_zero, eq_self, Nat.reduceEqDiff, Nat.reduceLeDiff, Nat.reduceLT, Nat.reduceAdd, Nat.reduceSub, Nat.reduceMul, LM_out hL, xi144_0, ix_0, xi144_1, ix_1, xi144_2, ix_2, xi144_3, ix_3, xi144_4, ix_4, xi144_5, ix_5, xi144_6, ix_6, xi144_7, ix_7, xi144_8, ix_8, xi144_9, ix_9, xi144_10, ix_10, c2, hJ, nI_leP (show m < 2147483648 by omega) (show i < 2147483648 by omega), show (m ≤ i) = False from eq_false (by omega), R237 hL hG hC hs (show i < m by omega)]
    by_cases h : (pr (I 300 (16 + i)) (s.testBit (fi i)) (s.testBit (se i))) < 0
    · rw [if_pos (decide_eq_true h)] at ih
      simp only [h, i32_nl, xSeq, i_push, i_load, i_iload, i_lload, i_dload, i_aload, i_istore, i_astore, i_lstore, i_dstore, i_iinc, i_ii, i_iiz, i_ll, i_llz, i_lli, i_li, i_i, i_l, i_i2l, i_l2i, i_dup, i_dup2, i_dup2w, i_dupx1, i_pop, i_pop2, i_goto, i_ifc, i_icmp, i_getI, i_getL, i_getR, i_putI, i_putZ, i_putL, i_putR, i_aldI, i_aldB, i_aldL, i_aldD, i_astI, i_astL, i_astD, i_alen, i_ret, i_iret, i_zret, i_lret, i_fret, i_dret, i_aret, i_invS0, i_invV0, i_m2, i_m1, i_ml, i_obj, lk, lkp, stf1, stf2, Value.category, rV, xTo, lv_args, xCk, xCat, xRc, xAk, hg_S, hg_I, hg_J, hg_D, hg_R, hs_I, hs_J, hs_D, hs_R, uI_at, uJ_at, uD_at, uR_at, List.take_succ_cons, List.take_zero, List.drop_succ_cons, List.drop_zero, List.reverse_cons, List.reverse_nil, List.nil_append, List.cons_append, List.map_cons, List.map_nil, List.sum_cons, List.sum_nil, List.length_cons, List.length_nil, Option.toList_some, Option.toList_none, true_and, and_true, false_and, and_false, true_implies, false_implies, implies_true, not_true_eq_false, not_false_eq_true, ne_eq, if_true, if_false, Bool.and_true, Bool.true_and, decide_true, decide_false, reduceIte, reduceCtorEq, Bool.and_self, Bool.and_eq_true, decide_eq_true_eq, and_self, true_or, or_true, false_or, or_false, Nat.zero_add, Nat.add_zero, eq_self, Nat.reduceEqDiff, Nat.reduceLeDiff, Nat.reduceLT, Nat.reduceAdd, Nat.reduceSub, Nat.reduceMul, e258_38, B258_38, nI_1]
      exact ih
    · rw [if_neg (fun e => h (of_decide_eq_true e)), Nat.add_zero] at ih
      simp only [h, i32_nl, xSeq, i_push, i_load, i_iload, i_lload, i_dload, i_aload, i_istore, i_astore, i_lstore, i_dstore, i_iinc, i_ii, i_iiz, i_ll, i_llz, i_lli, i_li, i_i, i_l, i_i2l, i_l2i, i_dup, i_dup2, i_dup2w, i_dupx1, i_pop, i_pop2, i_goto, i_ifc, i_icmp, i_getI, i_getL, i_getR, i_putI, i_putZ, i_putL, i_putR, i_aldI, i_aldB, i_aldL, i_aldD, i_astI, i_astL, i_astD, i_alen, i_ret, i_iret, i_zret, i_lret, i_fret, i_dret, i_aret, i_invS0, i_invV0, i_m2, i_m1, i_ml, i_obj, lk, lkp, stf1, stf2, Value.category, rV, xTo, lv_args, xCk, xCat, xRc, xAk, hg_S, hg_I, hg_J, hg_D, hg_R, hs_I, hs_J, hs_D, hs_R, uI_at, uJ_at, uD_at, uR_at, List.take_succ_cons, List.take_zero, List.drop_succ_cons, List.drop_zero, List.reverse_cons, List.reverse_nil, List.nil_append, List.cons_append, List.map_cons, List.map_nil, List.sum_cons, List.sum_nil, List.length_cons, List.length_nil, Option.toList_some, Option.toList_none, true_and, and_true, false_and, and_false, true_implies, false_implies, implies_true, not_true_eq_false, not_false_eq_true, ne_eq, if_true, if_false, Bool.and_true, Bool.true_and, decide_true, decide_false, reduceIte, reduceCtorEq, Bool.and_self, Bool.and_eq_true, decide_eq_true_eq, and_self, true_or, or_true, false_or, or_false, Nat.zero_add, Nat.add_zero, eq_self, Nat.reduceEqDiff, Nat.reduceLeDiff, Nat.reduceLT, Nat.reduceAdd, Nat.reduceSub, Nat.reduceMul, e258_37, B258_37, e258_38, B258_38, nI_1, Int32.add_zero]
      exact ih
theorem R258 (hL : LM S R) (hG : GR n m fi se dg sb) (hC : CM I n m fi se dg sb) {s : Nat} (hs : s < 2 ^ 64) (hJ : J 200 3 = lN s) : xRun xT 258 0 [(0, .ref 200)] [] (S, I, J, D, R) b Q = Q (.ok (some (.int (nI (ct (fun k => decide ((pr (I 300 (16 + k)) (s.testBit (fi k)) (s.testBit (se k))) < 0)) m))))) (S, uI I 200 19 0, J, D, R) b := by
  rw [e258_0]
  simp only [B258_0, xSeq, i_push, i_load, i_iload, i_lload, i_dload, i_aload, i_istore, i_astore, i_lstore, i_dstore, i_iinc, i_ii, i_iiz, i_ll, i_llz, i_lli, i_li, i_i, i_l, i_i2l, i_l2i, i_dup, i_dup2, i_dup2w, i_dupx1, i_pop, i_pop2, i_goto, i_ifc, i_icmp, i_getI, i_getL, i_getR, i_putI, i_putZ, i_putL, i_putR, i_aldI, i_aldB, i_aldL, i_aldD, i_astI, i_astL, i_astD, i_alen, i_ret, i_iret, i_zret, i_lret, i_fret, i_dret, i_aret, i_invS0, i_invV0, i_m2, i_m1, i_ml, i_obj, lk, lkp, stf1, stf2, Value.category, rV, xTo, lv_args, xCk, xCat, xRc, xAk, hg_S, hg_I, hg_J, hg_D, hg_R, hs_I, hs_J, hs_D, hs_R, uI_at, uJ_at, uD_at, uR_at, List.take_succ_cons, List.take_zero, List.drop_succ_cons, List.drop_zero, List.reverse_cons, List.reverse_nil, List.nil_append, List.cons_append, List.map_cons, List.map_nil, List.sum_cons, List.sum_nil, List.length_cons, List.length_nil, Option.toList_some, Option.toList_none, true_and, and_true, false_and, and_false, true_implies, false_implies, implies_true, not_true_eq_false, not_false_eq_true, ne_eq, if_true, if_false, Bool.and_true, Bool.true_and, decide_true, decide_false, reduceIte, reduceCtorEq, Bool.and_self, Bool.and_eq_true, decide_eq_true_eq, and_self, true_or, or_true, false_or, or_false, Nat.zero_add, Nat.add_zero, eq_self, Nat.reduceEqDiff, Nat.reduceLeDiff, Nat.reduceLT, Nat.reduceAdd, Nat.reduceSub, Nat.reduceMul, LM_out hL]
  exact R258_9 (I := uI I 200 19 0) hL hG (CM_u hC (by decide)) hs hJ m 0 (by omega)
theorem R259_9 (hL : LM S R) (hG : GR n m fi se dg sb) (hC : CM I n m fi se dg sb) {s : Nat} (hs : s < 2 ^ 64) (hJ : J 200 3 = lN s) : ∀ (j i : Nat), i + j = n → xRun xT 259 9 [(0, .ref 200), (1, .int (nI (ct (fun k => decide (0 < (dl (I 300 4) (fun k => I 300 (16 + k)) fi se dg sb s k))) i))), (2, .int (nI i))] [] (S, I, J, D, R) b Q = Q (.ok (some (.int (nI (ct (fun k => decide (0 < (dl (I 300 4) (fun k => I 300 (16 + k)) fi se dg sb s k))) n))))) (S, I, J, D, R) b
  | 0, i, hi => by
    obtain ⟨g0, g1, g2, g3, g4, g5, g6⟩ := hG
    obtain ⟨c1, c2, c3, c4, c5, c6⟩ := hC
    have e : i = n := by omega
    subst e
    rw [e259_9]
    simp only [B259_9, xSeq, i_push, i_load, i_iload, i_lload, i_dload, i_aload, i_istore, i_astore, i_lstore, i_dstore, i_iinc, i_ii, i_iiz, i_ll, i_llz, i_lli, i_li, i_i, i_l, i_i2l, i_l2i, i_dup, i_dup2, i_dup2w, i_dupx1, i_pop, i_pop2, i_goto, i_ifc, i_icmp, i_getI, i_getL, i_getR, i_putI, i_putZ, i_putL, i_putR, i_aldI, i_aldB, i_aldL, i_aldD, i_astI, i_astL, i_astD, i_alen, i_ret, i_iret, i_zret, i_lret, i_fret, i_dret, i_aret, i_invS0, i_invV0, i_m2, i_m1, i_ml, i_obj, lk, lkp, stf1, stf2, Value.category, rV, xTo, lv_args, xCk, xCat, xRc, xAk, hg_S, hg_I, hg_J, hg_D, hg_R, hs_I, hs_J, hs_D, hs_R, uI_at, uJ_at, uD_at, uR_at, List.take_succ_cons, List.take_zero, List.drop_succ_cons, List.drop_zero, List.reverse_cons, List.reverse_nil, List.nil_append, List.cons_append, List.map_cons, List.map_nil, List.sum_cons, List.sum_nil, List.length_cons, List.length_nil, Option.toList_some, Option.toList_none, true_and, and_true, false_and, and_false, true_implies, false_implies, implies_true, not_true_eq_false, not_false_eq_true, ne_eq, if_true, if_false, Bool.and_true, Bool.true_and, decide_true, decide_false, reduceIte, reduceCtorEq, Bool.and_self, Bool.and_eq_true, decide_eq_true_eq, and_self, true_or, or_true, false_or, or_false, Nat.zero_add, Nat.add_zero, eq_self, Nat.reduceEqDiff, Nat.reduceLeDiff, Nat.reduceLT, Nat.reduceAdd, Nat.reduceSub, Nat.reduceMul, LM_out hL, xi144_0, ix_0, xi144_1, ix_1, xi144_2, ix_2, xi144_3, ix_3, xi144_4, ix_4, xi144_5, ix_5, xi144_6, ix_6, xi144_7, ix_7, xi144_8, ix_8, xi144_9, ix_9, xi144_10, ix_10, c1, nI_leP (show i < 2147483648 by omega) (show i < 2147483648 by omega), Nat.le_refl, e259_46, B259_46]
  | j + 1, i, hi => by
    have hG' := hG
    have hC' := hC
    obtain ⟨g0, g1, g2, g3, g4, g5, g6⟩ := hG'
    obtain ⟨c1, c2, c3, c4, c5, c6⟩ := hC'
    have ih := R259_9 hL hG hC hs hJ j (i + 1) (by omega)
    rw [ct] at ih
    rw [e259_9]
    simp only [B259_9, xSeq, i_push, i_load, i_iload, i_lload, i_dload, i_aload, i_istore, i_astore, i_lstore, i_dstore, i_iinc, i_ii, i_iiz, i_ll, i_llz, i_lli, i_li, i_i, i_l, i_i2l, i_l2i, i_dup, i_dup2, i_dup2w, i_dupx1, i_pop, i_pop2, i_goto, i_ifc, i_icmp, i_getI, i_getL, i_getR, i_putI, i_putZ, i_putL, i_putR, i_aldI, i_aldB, i_aldL, i_aldD, i_astI, i_astL, i_astD, i_alen, i_ret, i_iret, i_zret, i_lret, i_fret, i_dret, i_aret, i_invS0, i_invV0, i_m2, i_m1, i_ml, i_obj, lk, lkp, stf1, stf2, Value.category, rV, xTo, lv_args, xCk, xCat, xRc, xAk, hg_S, hg_I, hg_J, hg_D, hg_R, hs_I, hs_J, hs_D, hs_R, uI_at, uJ_at, uD_at, uR_at, List.take_succ_cons, List.take_zero, List.drop_succ_cons, List.drop_zero, List.reverse_cons, List.reverse_nil, List.nil_append, List.cons_append, List.map_cons, List.map_nil, List.sum_cons, List.sum_nil, List.length_cons, List.length_nil, Option.toList_some, Option.toList_none, true_and, and_true, false_and, and_false, true_implies, false_implies, implies_true, not_true_eq_false, not_false_eq_true, ne_eq, if_true, if_false, Bool.and_true, Bool.true_and, decide_true, decide_false, reduceIte, reduceCtorEq, Bool.and_self, Bool.and_eq_true, decide_eq_true_eq, and_self, true_or, or_true, false_or, or_false, Nat.zero_add, Nat.add_zero, eq_self, Nat.reduceEqDiff, Nat.reduceLeDiff, Nat.reduceLT, Nat.reduceAdd, Nat.reduceSub, Nat.reduceMul, LM_out hL, xi144_0, ix_0, xi144_1, ix_1, xi144_2, ix_2, xi144_3, ix_3, xi144_4, ix_4, xi144_5, ix_5, xi144_6, ix_6, xi144_7, ix_7, xi144_8, ix_8, xi144_9, ix_9, xi144_10, ix_10, c1, hJ, nI_leP (show n < 2147483648 by omega) (show i < 2147483648 by omega), show (n ≤ i) = False from eq_false (by omega), R257 hL hG hC hs (show i < n by omega)]
    by_cases h : 0 < (dl (I 300 4) (fun k => I 300 (16 + k)) fi se dg sb s i)
    · rw [if_pos (decide_eq_true h)] at ih
      simp only [h, i32_nl, xSeq, i_push, i_load, i_iload, i_lload, i_dload, i_aload, i_istore, i_astore, i_lstore, i_dstore, i_iinc, i_ii, i_iiz, i_ll, i_llz, i_lli, i_li, i_i, i_l, i_i2l, i_l2i, i_dup, i_dup2, i_dup2w, i_dupx1, i_pop, i_pop2, i_goto, i_ifc, i_icmp, i_getI, i_getL, i_getR, i_putI, i_putZ, i_putL, i_putR, i_aldI, i_aldB, i_aldL, i_aldD, i_astI, i_astL, i_astD, i_alen, i_ret, i_iret, i_zret, i_lret, i_fret, i_dret, i_aret, i_invS0, i_invV0, i_m2, i_m1, i_ml, i_obj, lk, lkp, stf1, stf2, Value.category, rV, xTo, lv_args, xCk, xCat, xRc, xAk, hg_S, hg_I, hg_J, hg_D, hg_R, hs_I, hs_J, hs_D, hs_R, uI_at, uJ_at, uD_at, uR_at, List.take_succ_cons, List.take_zero, List.drop_succ_cons, List.drop_zero, List.reverse_cons, List.reverse_nil, List.nil_append, List.cons_append, List.map_cons, List.map_nil, List.sum_cons, List.sum_nil, List.length_cons, List.length_nil, Option.toList_some, Option.toList_none, true_and, and_true, false_and, and_false, true_implies, false_implies, implies_true, not_true_eq_false, not_false_eq_true, ne_eq, if_true, if_false, Bool.and_true, Bool.true_and, decide_true, decide_false, reduceIte, reduceCtorEq, Bool.and_self, Bool.and_eq_true, decide_eq_true_eq, and_self, true_or, or_true, false_or, or_false, Nat.zero_add, Nat.add_zero, eq_self, Nat.reduceEqDiff, Nat.reduceLeDiff, Nat.reduceLT, Nat.reduceAdd, Nat.reduceSub, Nat.reduceMul, e259_38, B259_38, nI_1]
      exact ih
    · rw [if_neg (fun e => h (of_decide_eq_true e)), Nat.add_zero] at ih
      simp only [h, i32_nl, xSeq, i_push, i_load, i_iload, i_lload, i_dload, i_aload, i_istore, i_astore, i_lstore, i_dstore, i_iinc, i_ii, i_iiz, i_ll, i_llz, i_lli, i_li, i_i, i_l, i_i2l, i_l2i, i_dup, i_dup2, i_dup2w, i_dupx1, i_pop, i_pop2, i_goto, i_ifc, i_icmp, i_getI, i_getL, i_getR, i_putI, i_putZ, i_putL, i_putR, i_aldI, i_aldB, i_aldL, i_aldD, i_astI, i_astL, i_astD, i_alen, i_ret, i_iret, i_zret, i_lret, i_fret, i_dret, i_aret, i_invS0, i_invV0, i_m2, i_m1, i_ml, i_obj, lk, lkp, stf1, stf2, Value.category, rV, xTo, lv_args, xCk, xCat, xRc, xAk, hg_S, hg_I, hg_J, hg_D, hg_R, hs_I, hs_J, hs_D, hs_R, uI_at, uJ_at, uD_at, uR_at, List.take_succ_cons, List.take_zero, List.drop_succ_cons, List.drop_zero, List.reverse_cons, List.reverse_nil, List.nil_append, List.cons_append, List.map_cons, List.map_nil, List.sum_cons, List.sum_nil, List.length_cons, List.length_nil, Option.toList_some, Option.toList_none, true_and, and_true, false_and, and_false, true_implies, false_implies, implies_true, not_true_eq_false, not_false_eq_true, ne_eq, if_true, if_false, Bool.and_true, Bool.true_and, decide_true, decide_false, reduceIte, reduceCtorEq, Bool.and_self, Bool.and_eq_true, decide_eq_true_eq, and_self, true_or, or_true, false_or, or_false, Nat.zero_add, Nat.add_zero, eq_self, Nat.reduceEqDiff, Nat.reduceLeDiff, Nat.reduceLT, Nat.reduceAdd, Nat.reduceSub, Nat.reduceMul, e259_37, B259_37, e259_38, B259_38, nI_1, Int32.add_zero]
      exact ih
theorem R259 (hL : LM S R) (hG : GR n m fi se dg sb) (hC : CM I n m fi se dg sb) {s : Nat} (hs : s < 2 ^ 64) (hJ : J 200 3 = lN s) : xRun xT 259 0 [(0, .ref 200)] [] (S, I, J, D, R) b Q = Q (.ok (some (.int (nI (ct (fun k => decide (0 < (dl (I 300 4) (fun k => I 300 (16 + k)) fi se dg sb s k))) n))))) (S, uI I 200 19 0, J, D, R) b := by
  rw [e259_0]
  simp only [B259_0, xSeq, i_push, i_load, i_iload, i_lload, i_dload, i_aload, i_istore, i_astore, i_lstore, i_dstore, i_iinc, i_ii, i_iiz, i_ll, i_llz, i_lli, i_li, i_i, i_l, i_i2l, i_l2i, i_dup, i_dup2, i_dup2w, i_dupx1, i_pop, i_pop2, i_goto, i_ifc, i_icmp, i_getI, i_getL, i_getR, i_putI, i_putZ, i_putL, i_putR, i_aldI, i_aldB, i_aldL, i_aldD, i_astI, i_astL, i_astD, i_alen, i_ret, i_iret, i_zret, i_lret, i_fret, i_dret, i_aret, i_invS0, i_invV0, i_m2, i_m1, i_ml, i_obj, lk, lkp, stf1, stf2, Value.category, rV, xTo, lv_args, xCk, xCat, xRc, xAk, hg_S, hg_I, hg_J, hg_D, hg_R, hs_I, hs_J, hs_D, hs_R, uI_at, uJ_at, uD_at, uR_at, List.take_succ_cons, List.take_zero, List.drop_succ_cons, List.drop_zero, List.reverse_cons, List.reverse_nil, List.nil_append, List.cons_append, List.map_cons, List.map_nil, List.sum_cons, List.sum_nil, List.length_cons, List.length_nil, Option.toList_some, Option.toList_none, true_and, and_true, false_and, and_false, true_implies, false_implies, implies_true, not_true_eq_false, not_false_eq_true, ne_eq, if_true, if_false, Bool.and_true, Bool.true_and, decide_true, decide_false, reduceIte, reduceCtorEq, Bool.and_self, Bool.and_eq_true, decide_eq_true_eq, and_self, true_or, or_true, false_or, or_false, Nat.zero_add, Nat.add_zero, eq_self, Nat.reduceEqDiff, Nat.reduceLeDiff, Nat.reduceLT, Nat.reduceAdd, Nat.reduceSub, Nat.reduceMul, LM_out hL]
  exact R259_9 (I := uI I 200 19 0) hL hG (CM_u hC (by decide)) hs hJ n 0 (by omega)
theorem R260_9 (hL : LM S R) (hG : GR n m fi se dg sb) (hC : CM I n m fi se dg sb) {s : Nat} (hs : s < 2 ^ 64) (hJ : J 200 3 = lN s) : ∀ (j i : Nat), i + j = n → xRun xT 260 9 [(0, .ref 200), (1, .int (nI (ct (fun k => decide ((dl (I 300 4) (fun k => I 300 (16 + k)) fi se dg sb s k) = 0)) i))), (2, .int (nI i))] [] (S, I, J, D, R) b Q = Q (.ok (some (.int (nI (ct (fun k => decide ((dl (I 300 4) (fun k => I 300 (16 + k)) fi se dg sb s k) = 0)) n))))) (S, I, J, D, R) b
  | 0, i, hi => by
    obtain ⟨g0, g1, g2, g3, g4, g5, g6⟩ := hG
    obtain ⟨c1, c2, c3, c4, c5, c6⟩ := hC
    have e : i = n := by omega
    subst e
    rw [e260_9]
    simp only [B260_9, xSeq, i_push, i_load, i_iload, i_lload, i_dload, i_aload, i_istore, i_astore, i_lstore, i_dstore, i_iinc, i_ii, i_iiz, i_ll, i_llz, i_lli, i_li, i_i, i_l, i_i2l, i_l2i, i_dup, i_dup2, i_dup2w, i_dupx1, i_pop, i_pop2, i_goto, i_ifc, i_icmp, i_getI, i_getL, i_getR, i_putI, i_putZ, i_putL, i_putR, i_aldI, i_aldB, i_aldL, i_aldD, i_astI, i_astL, i_astD, i_alen, i_ret, i_iret, i_zret, i_lret, i_fret, i_dret, i_aret, i_invS0, i_invV0, i_m2, i_m1, i_ml, i_obj, lk, lkp, stf1, stf2, Value.category, rV, xTo, lv_args, xCk, xCat, xRc, xAk, hg_S, hg_I, hg_J, hg_D, hg_R, hs_I, hs_J, hs_D, hs_R, uI_at, uJ_at, uD_at, uR_at, List.take_succ_cons, List.take_zero, List.drop_succ_cons, List.drop_zero, List.reverse_cons, List.reverse_nil, List.nil_append, List.cons_append, List.map_cons, List.map_nil, List.sum_cons, List.sum_nil, List.length_cons, List.length_nil, Option.toList_some, Option.toList_none, true_and, and_true, false_and, and_false, true_implies, false_implies, implies_true, not_true_eq_false, not_false_eq_true, ne_eq, if_true, if_false, Bool.and_true, Bool.true_and, decide_true, decide_false, reduceIte, reduceCtorEq, Bool.and_self, Bool.and_eq_true, decide_eq_true_eq, and_self, true_or, or_true, false_or, or_false, Nat.zero_add, Nat.add_zero, eq_self, Nat.reduceEqDiff, Nat.reduceLeDiff, Nat.reduceLT, Nat.reduceAdd, Nat.reduceSub, Nat.reduceMul, LM_out hL, xi144_0, ix_0, xi144_1, ix_1, xi144_2, ix_2, xi144_3, ix_3, xi144_4, ix_4, xi144_5, ix_5, xi144_6, ix_6, xi144_7, ix_7, xi144_8, ix_8, xi144_9, ix_9, xi144_10, ix_10, c1, nI_leP (show i < 2147483648 by omega) (show i < 2147483648 by omega), Nat.le_refl, e260_46, B260_46]
  | j + 1, i, hi => by
    have hG' := hG
    have hC' := hC
    obtain ⟨g0, g1, g2, g3, g4, g5, g6⟩ := hG'
    obtain ⟨c1, c2, c3, c4, c5, c6⟩ := hC'
    have ih := R260_9 hL hG hC hs hJ j (i + 1) (by omega)
    rw [ct] at ih
    rw [e260_9]
    simp only [B260_9, xSeq, i_push, i_load, i_iload, i_lload, i_dload, i_aload, i_istore, i_astore, i_lstore, i_dstore, i_iinc, i_ii, i_iiz, i_ll, i_llz, i_lli, i_li, i_i, i_l, i_i2l, i_l2i, i_dup, i_dup2, i_dup2w, i_dupx1, i_pop, i_pop2, i_goto, i_ifc, i_icmp, i_getI, i_getL, i_getR, i_putI, i_putZ, i_putL, i_putR, i_aldI, i_aldB, i_aldL, i_aldD, i_astI, i_astL, i_astD, i_alen, i_ret, i_iret, i_zret, i_lret, i_fret, i_dret, i_aret, i_invS0, i_invV0, i_m2, i_m1, i_ml, i_obj, lk, lkp, stf1, stf2, Value.category, rV, xTo, lv_args, xCk, xCat, xRc, xAk, hg_S, hg_I, hg_J, hg_D, hg_R, hs_I, hs_J, hs_D, hs_R, uI_at, uJ_at, uD_at, uR_at, List.take_succ_cons, List.take_zero, List.drop_succ_cons, List.drop_zero, List.reverse_cons, List.reverse_nil, List.nil_append, List.cons_append, List.map_cons, List.map_nil, List.sum_cons, List.sum_nil, List.length_cons, List.length_nil, Option.toList_some, Option.toList_none, true_and, and_true, false_and, and_false, true_implies, false_implies, implies_true, not_true_eq_false, not_false_eq_true, ne_eq, if_true, if_false, Bool.and_true, Bool.true_and, decide_true, decide_false, reduceIte, reduceCtorEq, Bool.and_self, Bool.and_eq_true, decide_eq_true_eq, and_self, true_or, or_true, false_or, or_false, Nat.zero_add, Nat.add_zero, eq_self, Nat.reduceEqDiff, Nat.reduceLeDiff, Nat.reduceLT, Nat.reduceAdd, Nat.reduceSub, Nat.reduceMul, LM_out hL, xi144_0, ix_0, xi144_1, ix_1, xi144_2, ix_2, xi144_3, ix_3, xi144_4, ix_4, xi144_5, ix_5, xi144_6, ix_6, xi144_7, ix_7, xi144_8, ix_8, xi144_9, ix_9, xi144_10, ix_10, c1, hJ, nI_leP (show n < 2147483648 by omega) (show i < 2147483648 by omega), show (n ≤ i) = False from eq_false (by omega), R257 hL hG hC hs (show i < n by omega)]
    by_cases h : (dl (I 300 4) (fun k => I 300 (16 + k)) fi se dg sb s i) = 0
    · rw [if_pos (decide_eq_true h)] at ih
      simp only [h, i32_nl, xSeq, i_push, i_load, i_iload, i_lload, i_dload, i_aload, i_istore, i_astore, i_lstore, i_dstore, i_iinc, i_ii, i_iiz, i_ll, i_llz, i_lli, i_li, i_i, i_l, i_i2l, i_l2i, i_dup, i_dup2, i_dup2w, i_dupx1, i_pop, i_pop2, i_goto, i_ifc, i_icmp, i_getI, i_getL, i_getR, i_putI, i_putZ, i_putL, i_putR, i_aldI, i_aldB, i_aldL, i_aldD, i_astI, i_astL, i_astD, i_alen, i_ret, i_iret, i_zret, i_lret, i_fret, i_dret, i_aret, i_invS0, i_invV0, i_m2, i_m1, i_ml, i_obj, lk, lkp, stf1, stf2, Value.category, rV, xTo, lv_args, xCk, xCat, xRc, xAk, hg_S, hg_I, hg_J, hg_D, hg_R, hs_I, hs_J, hs_D, hs_R, uI_at, uJ_at, uD_at, uR_at, List.take_succ_cons, List.take_zero, List.drop_succ_cons, List.drop_zero, List.reverse_cons, List.reverse_nil, List.nil_append, List.cons_append, List.map_cons, List.map_nil, List.sum_cons, List.sum_nil, List.length_cons, List.length_nil, Option.toList_some, Option.toList_none, true_and, and_true, false_and, and_false, true_implies, false_implies, implies_true, not_true_eq_false, not_false_eq_true, ne_eq, if_true, if_false, Bool.and_true, Bool.true_and, decide_true, decide_false, reduceIte, reduceCtorEq, Bool.and_self, Bool.and_eq_true, decide_eq_true_eq, and_self, true_or, or_true, false_or, or_false, Nat.zero_add, Nat.add_zero, eq_self, Nat.reduceEqDiff, Nat.reduceLeDiff, Nat.reduceLT, Nat.reduceAdd, Nat.reduceSub, Nat.reduceMul, e260_38, B260_38, nI_1]
      exact ih
    · rw [if_neg (fun e => h (of_decide_eq_true e)), Nat.add_zero] at ih
      simp only [h, i32_nl, xSeq, i_push, i_load, i_iload, i_lload, i_dload, i_aload, i_istore, i_astore, i_lstore, i_dstore, i_iinc, i_ii, i_iiz, i_ll, i_llz, i_lli, i_li, i_i, i_l, i_i2l, i_l2i, i_dup, i_dup2, i_dup2w, i_dupx1, i_pop, i_pop2, i_goto, i_ifc, i_icmp, i_getI, i_getL, i_getR, i_putI, i_putZ, i_putL, i_putR, i_aldI, i_aldB, i_aldL, i_aldD, i_astI, i_astL, i_astD, i_alen, i_ret, i_iret, i_zret, i_lret, i_fret, i_dret, i_aret, i_invS0, i_invV0, i_m2, i_m1, i_ml, i_obj, lk, lkp, stf1, stf2, Value.category, rV, xTo, lv_args, xCk, xCat, xRc, xAk, hg_S, hg_I, hg_J, hg_D, hg_R, hs_I, hs_J, hs_D, hs_R, uI_at, uJ_at, uD_at, uR_at, List.take_succ_cons, List.take_zero, List.drop_succ_cons, List.drop_zero, List.reverse_cons, List.reverse_nil, List.nil_append, List.cons_append, List.map_cons, List.map_nil, List.sum_cons, List.sum_nil, List.length_cons, List.length_nil, Option.toList_some, Option.toList_none, true_and, and_true, false_and, and_false, true_implies, false_implies, implies_true, not_true_eq_false, not_false_eq_true, ne_eq, if_true, if_false, Bool.and_true, Bool.true_and, decide_true, decide_false, reduceIte, reduceCtorEq, Bool.and_self, Bool.and_eq_true, decide_eq_true_eq, and_self, true_or, or_true, false_or, or_false, Nat.zero_add, Nat.add_zero, eq_self, Nat.reduceEqDiff, Nat.reduceLeDiff, Nat.reduceLT, Nat.reduceAdd, Nat.reduceSub, Nat.reduceMul, e260_37, B260_37, e260_38, B260_38, nI_1, Int32.add_zero]
      exact ih
theorem R260 (hL : LM S R) (hG : GR n m fi se dg sb) (hC : CM I n m fi se dg sb) {s : Nat} (hs : s < 2 ^ 64) (hJ : J 200 3 = lN s) : xRun xT 260 0 [(0, .ref 200)] [] (S, I, J, D, R) b Q = Q (.ok (some (.int (nI (ct (fun k => decide ((dl (I 300 4) (fun k => I 300 (16 + k)) fi se dg sb s k) = 0)) n))))) (S, uI I 200 19 0, J, D, R) b := by
  rw [e260_0]
  simp only [B260_0, xSeq, i_push, i_load, i_iload, i_lload, i_dload, i_aload, i_istore, i_astore, i_lstore, i_dstore, i_iinc, i_ii, i_iiz, i_ll, i_llz, i_lli, i_li, i_i, i_l, i_i2l, i_l2i, i_dup, i_dup2, i_dup2w, i_dupx1, i_pop, i_pop2, i_goto, i_ifc, i_icmp, i_getI, i_getL, i_getR, i_putI, i_putZ, i_putL, i_putR, i_aldI, i_aldB, i_aldL, i_aldD, i_astI, i_astL, i_astD, i_alen, i_ret, i_iret, i_zret, i_lret, i_fret, i_dret, i_aret, i_invS0, i_invV0, i_m2, i_m1, i_ml, i_obj, lk, lkp, stf1, stf2, Value.category, rV, xTo, lv_args, xCk, xCat, xRc, xAk, hg_S, hg_I, hg_J, hg_D, hg_R, hs_I, hs_J, hs_D, hs_R, uI_at, uJ_at, uD_at, uR_at, List.take_succ_cons, List.take_zero, List.drop_succ_cons, List.drop_zero, List.reverse_cons, List.reverse_nil, List.nil_append, List.cons_append, List.map_cons, List.map_nil, List.sum_cons, List.sum_nil, List.length_cons, List.length_nil, Option.toList_some, Option.toList_none, true_and, and_true, false_and, and_false, true_implies, false_implies, implies_true, not_true_eq_false, not_false_eq_true, ne_eq, if_true, if_false, Bool.and_true, Bool.true_and, decide_true, decide_false, reduceIte, reduceCtorEq, Bool.and_self, Bool.and_eq_true, decide_eq_true_eq, and_self, true_or, or_true, false_or, or_false, Nat.zero_add, Nat.add_zero, eq_self, Nat.reduceEqDiff, Nat.reduceLeDiff, Nat.reduceLT, Nat.reduceAdd, Nat.reduceSub, Nat.reduceMul, LM_out hL]
  exact R260_9 (I := uI I 200 19 0) hL hG (CM_u hC (by decide)) hs hJ n 0 (by omega)
end
/-! ===== whole rows ===== -/
section
def rI (I : xI) (o : Nat) (f : Nat → Int32) : xI := fun a b => if a = o then f b else I a b
def up (f : Nat → Int32) (k : Nat) (v : Int32) : Nat → Int32 := fun j => if j = k then v else f j
theorem up_at (f : Nat → Int32) (k : Nat) (v : Int32) (j : Nat) : up f k v j = if j = k then v else f j := rfl
theorem rI_at (I : xI) (o : Nat) (f : Nat → Int32) (a b : Nat) : rI I o f a b = if a = o then f b else I a b := rfl
theorem uI_rI (I : xI) (o : Nat) (f : Nat → Int32) (k : Nat) (v : Int32) : uI (rI I o f) o k v = rI I o (up f k v) := by
  funext a b
  simp only [uI_at, rI_at, up_at]
  by_cases h : a = o
  · simp [h]
  · simp [h]
theorem rI_rI (I : xI) (o : Nat) (f g : Nat → Int32) : rI (rI I o f) o g = rI I o g := by
  funext a b
  simp only [rI_at]
  split <;> rfl
theorem rI_self (I : xI) (o : Nat) : rI I o (I o) = I := by
  funext a b
  simp only [rI_at]
  split
  · rename_i h
    rw [h]
  · rfl
theorem rI_swap (I : xI) {o p : Nat} (h : o ≠ p) (f g : Nat → Int32) : rI (rI I o f) p g = rI (rI I p g) o f := by
  funext a b
  simp only [rI_at]
  by_cases h1 : a = p
  · subst h1
    rw [if_pos rfl, if_neg (fun e => h e.symm), if_pos rfl]
  · rw [if_neg h1, if_neg h1]
theorem uI_swap (I : xI) {o p : Nat} (h : o ≠ p) (k : Nat) (v : Int32) (g : Nat → Int32) : uI (rI I p g) o k v = rI (uI I o k v) p g := by
  funext a b
  simp only [rI_at, uI_at]
  by_cases h1 : a = p
  · subst h1
    rw [if_pos rfl, if_neg (fun e => h e.1.symm), if_pos rfl]
  · rw [if_neg h1, if_neg h1]
theorem CL_r {I : xI} {n m : Nat} {fi se dg : Nat → Nat} {sb : Nat → Nat → Nat} {o : Nat} {f : Nat → Int32} (h : CL I n m fi se dg sb) (ho : o ≠ 102 ∧ o ≠ 103 ∧ o ≠ 104 ∧ o ≠ 107 ∧ o ≠ 108) : CL (rI I o f) n m fi se dg sb := by
  obtain ⟨h1, h2, h3, h4, h5⟩ := ho
  obtain ⟨c1, c2, c3, c4, c5, c6⟩ := h
  refine ⟨?_, ?_, fun i hi => ?_, fun i hi => ?_, fun i hi => ?_, fun i j hi hj => ?_⟩
  · rw [rI_at, if_neg (fun e => h1 e.symm)]; exact c1
  · rw [rI_at, if_neg (fun e => h1 e.symm)]; exact c2
  · rw [rI_at, if_neg (fun e => h2 e.symm)]; exact c3 i hi
  · rw [rI_at, if_neg (fun e => h3 e.symm)]; exact c4 i hi
  · rw [rI_at, if_neg (fun e => h4 e.symm)]; exact c5 i hi
  · rw [rI_at, if_neg (fun e => h5 e.symm)]; exact c6 i j hi hj
theorem CM_r {I : xI} {n m : Nat} {fi se dg : Nat → Nat} {sb : Nat → Nat → Nat} {o : Nat} {f : Nat → Int32} (h : CM I n m fi se dg sb) (ho : o ≠ 300 ∧ o ≠ 314 ∧ o ≠ 315 ∧ o ≠ 316 ∧ o ≠ 317) : CM (rI I o f) n m fi se dg sb := by
  obtain ⟨h1, h2, h3, h4, h5⟩ := ho
  obtain ⟨c1, c2, c3, c4, c5, c6⟩ := h
  refine ⟨?_, ?_, fun i hi => ?_, fun i hi => ?_, fun i hi => ?_, fun i j hi hj => ?_⟩
  · rw [rI_at, if_neg (fun e => h1 e.symm)]; exact c1
  · rw [rI_at, if_neg (fun e => h1 e.symm)]; exact c2
  · rw [rI_at, if_neg (fun e => h2 e.symm)]; exact c3 i hi
  · rw [rI_at, if_neg (fun e => h3 e.symm)]; exact c4 i hi
  · rw [rI_at, if_neg (fun e => h5 e.symm)]; exact c5 i hi
  · rw [rI_at, if_neg (fun e => h4 e.symm)]; exact c6 i j hi hj
/-- the strengths of all bonds of t that lead to o -/
def sp (st : Nat → Int32) (fi se dg : Nat → Nat) (sb : Nat → Nat → Nat) (t o : Nat) : Int32 := sm (fun i => if (if fi (sb t i) = t then se (sb t i) else fi (sb t i)) = o then st (sb t i) else 0) (dg t)
variable {S : xS} {I : xI} {J : xJ} {D : xDb} {R : xR} {b : Nat × Nat} {Q : xQ} {n m : Nat} {fi se dg : Nat → Nat} {sb : Nat → Nat → Nat}
theorem R92_5 (hL : LC S R) (hG : GR n m fi se dg sb) (hC : CL I n m fi se dg sb) {t o : Nat} (ht : t < n) (ho : o < n) : ∀ (j i : Nat), i + j = dg t → xRun xT 92 5 [(0, .ref 110), (1, .int (nI t)), (2, .int (nI o)), (3, .int (sm (fun i => if (if fi (sb t i) = t then se (sb t i) else fi (sb t i)) = o then I 111 (sb t i) else 0) i)), (4, .int (nI i))] [] (S, I, J, D, R) b Q = Q (.ok (some (.int (sp (I 111) fi se dg sb t o)))) (S, I, J, D, R) b
  | 0, i, hi => by
    obtain ⟨g0, g1, g2, g3, g4, g5, g6⟩ := hG
    obtain ⟨c1, c2, c3, c4, c5, c6⟩ := hC
    have h5 := g5 t ht
    have e : i = dg t := by omega
    subst e
    rw [e92_5]
    simp only [B92_5, xSeq, i_push, i_load, i_iload, i_lload, i_dload, i_aload, i_istore, i_astore, i_lstore, i_dstore, i_iinc, i_ii, i_iiz, i_ll, i_llz, i_lli, i_li, i_i, i_l, i_i2l, i_l2i, i_dup, i_dup2, i_dup2w, i_dupx1, i_pop, i_pop2, i_goto, i_ifc, i_icmp, i_getI, i_getL, i_getR, i_putI, i_putZ, i_putL, i_putR, i_aldI, i_aldB, i_aldL, i_aldD, i_astI, i_astL, i_astD, i_alen, i_ret, i_iret, i_zret, i_lret, i_fret, i_dret, i_aret, i_invS0, i_invV0, i_m2, i_m1, i_ml, i_obj, lk, lkp, stf1, stf2, Value.category, rV, xTo, lv_args, xCk, xCat, xRc, xAk, hg_S, hg_I, hg_J, hg_D, hg_R, hs_I, hs_J, hs_D, hs_R, uI_at, uJ_at, uD_at, uR_at, List.take_succ_cons, List.take_zero, List.drop_succ_cons, List.drop_zero, List.reverse_cons, List.reverse_nil, List.nil_append, List.cons_append, List.map_cons, List.map_nil, List.sum_cons, List.sum_nil, List.length_cons, List.length_nil, Option.toList_some, Option.toList_none, true_and, and_true, false_and, and_false, true_implies, false_implies, implies_true, not_true_eq_false, not_false_eq_true, ne_eq, if_true, if_false, Bool.and_true, Bool.true_and, decide_true, decide_false, reduceIte, reduceCtorEq, Bool.and_self, Bool.and_eq_true, decide_eq_true_eq, and_self, true_or, or_true, false_or, or_false, Nat.zero_add, Nat.add_zero, eq_self, Nat.reduceEqDiff, Nat.reduceLeDiff, Nat.reduceLT, Nat.reduceAdd, Nat.reduceSub, Nat.reduceMul, LC_out hL, nI_inP (show t < 64 by omega) (by decide), nI_ix (show t < 2147483648 by omega), c5 t ht, nI_leP (show dg t < 2147483648 by omega) (show dg t < 2147483648 by omega), Nat.le_refl, e92_61, B92_61, sp]
  | j + 1, i, hi => by
    have hG' := hG
    have hC' := hC
    obtain ⟨g0, g1, g2, g3, g4, g5, g6⟩ := hG'
    obtain ⟨c1, c2, c3, c4, c5, c6⟩ := hC'
    have h5 := g5 t ht
    have hk := g6 t i ht (show i < dg t by omega)
    have h3 := g3 _ hk
    have h4 := g4 _ hk
    have ih := R92_5 hL hG hC ht ho j (i + 1) (by omega)
    rw [sm] at ih
    rw [e92_5]
    simp only [B92_5, xSeq, i_push, i_load, i_iload, i_lload, i_dload, i_aload, i_istore, i_astore, i_lstore, i_dstore, i_iinc, i_ii, i_iiz, i_ll, i_llz, i_lli, i_li, i_i, i_l, i_i2l, i_l2i, i_dup, i_dup2, i_dup2w, i_dupx1, i_pop, i_pop2, i_goto, i_ifc, i_icmp, i_getI, i_getL, i_getR, i_putI, i_putZ, i_putL, i_putR, i_aldI, i_aldB, i_aldL, i_aldD, i_astI, i_astL, i_astD, i_alen, i_ret, i_iret, i_zret, i_lret, i_fret, i_dret, i_aret, i_invS0, i_invV0, i_m2, i_m1, i_ml, i_obj, lk, lkp, stf1, stf2, Value.category, rV, xTo, lv_args, xCk, xCat, xRc, xAk, hg_S, hg_I, hg_J, hg_D, hg_R, hs_I, hs_J, hs_D, hs_R, uI_at, uJ_at, uD_at, uR_at, List.take_succ_cons, List.take_zero, List.drop_succ_cons, List.drop_zero, List.reverse_cons, List.reverse_nil, List.nil_append, List.cons_append, List.map_cons, List.map_nil, List.sum_cons, List.sum_nil, List.length_cons, List.length_nil, Option.toList_some, Option.toList_none, true_and, and_true, false_and, and_false, true_implies, false_implies, implies_true, not_true_eq_false, not_false_eq_true, ne_eq, if_true, if_false, Bool.and_true, Bool.true_and, decide_true, decide_false, reduceIte, reduceCtorEq, Bool.and_self, Bool.and_eq_true, decide_eq_true_eq, and_self, true_or, or_true, false_or, or_false, Nat.zero_add, Nat.add_zero, eq_self, Nat.reduceEqDiff, Nat.reduceLeDiff, Nat.reduceLT, Nat.reduceAdd, Nat.reduceSub, Nat.reduceMul, LC_out hL, nI_inP (show t < 64 by omega) (by decide), nI_ix (show t < 2147483648 by omega), c5 t ht, nI_leP (show dg t < 2147483648 by omega) (show i < 2147483648 by omega), show (dg t ≤ i) = False from eq_false (by omega), R52 hL hG hC ht (show i < dg t by omega), R54 hL hG hC ht hk, nI_iff (show (if fi (sb t i) = t then se (sb t i) else fi (sb t i)) < 2147483648 by split <;> omega) (show o < 2147483648 by omega), nI_inP (show sb t i < 128 by omega) (by decide), nI_ix (show sb t i < 2147483648 by omega), e92_55, B92_55, nI_1]
    by_cases h : (if fi (sb t i) = t then se (sb t i) else fi (sb t i)) = o
    · rw [if_pos h] at ih
      simp only [h, true_and, and_true, false_and, and_false, true_implies, false_implies, implies_true, not_true_eq_false, not_false_eq_true, ne_eq, if_true, if_false, Bool.and_true, Bool.true_and, decide_true, decide_false, reduceIte, reduceCtorEq, Bool.and_self, Bool.and_eq_true, decide_eq_true_eq, and_self, true_or, or_true, false_or, or_false, Nat.zero_add, Nat.add_zero, eq_self, Nat.reduceEqDiff, Nat.reduceLeDiff, Nat.reduceLT, Nat.reduceAdd, Nat.reduceSub, Nat.reduceMul]
      exact ih
    · rw [if_neg h, Int32.add_zero] at ih
      simp only [h, true_and, and_true, false_and, and_false, true_implies, false_implies, implies_true, not_true_eq_false, not_false_eq_true, ne_eq, if_true, if_false, Bool.and_true, Bool.true_and, decide_true, decide_false, reduceIte, reduceCtorEq, Bool.and_self, Bool.and_eq_true, decide_eq_true_eq, and_self, true_or, or_true, false_or, or_false, Nat.zero_add, Nat.add_zero, eq_self, Nat.reduceEqDiff, Nat.reduceLeDiff, Nat.reduceLT, Nat.reduceAdd, Nat.reduceSub, Nat.reduceMul]
      exact ih
theorem R92 (hL : LC S R) (hG : GR n m fi se dg sb) (hC : CL I n m fi se dg sb) {t o : Nat} (ht : t < n) (ho : o < n) : xRun xT 92 0 [(0, .ref 110), (1, .int (nI t)), (2, .int (nI o))] [] (S, I, J, D, R) b Q = Q (.ok (some (.int (sp (I 111) fi se dg sb t o)))) (S, I, J, D, R) b := by
  rw [e92_0]
  simp only [B92_0, xSeq, i_push, i_load, i_iload, i_lload, i_dload, i_aload, i_istore, i_astore, i_lstore, i_dstore, i_iinc, i_ii, i_iiz, i_ll, i_llz, i_lli, i_li, i_i, i_l, i_i2l, i_l2i, i_dup, i_dup2, i_dup2w, i_dupx1, i_pop, i_pop2, i_goto, i_ifc, i_icmp, i_getI, i_getL, i_getR, i_putI, i_putZ, i_putL, i_putR, i_aldI, i_aldB, i_aldL, i_aldD, i_astI, i_astL, i_astD, i_alen, i_ret, i_iret, i_zret, i_lret, i_fret, i_dret, i_aret, i_invS0, i_invV0, i_m2, i_m1, i_ml, i_obj, lk, lkp, stf1, stf2, Value.category, rV, xTo, lv_args, xCk, xCat, xRc, xAk, hg_S, hg_I, hg_J, hg_D, hg_R, hs_I, hs_J, hs_D, hs_R, uI_at, uJ_at, uD_at, uR_at, List.take_succ_cons, List.take_zero, List.drop_succ_cons, List.drop_zero, List.reverse_cons, List.reverse_nil, List.nil_append, List.cons_append, List.map_cons, List.map_nil, List.sum_cons, List.sum_nil, List.length_cons, List.length_nil, Option.toList_some, Option.toList_none, true_and, and_true, false_and, and_false, true_implies, false_implies, implies_true, not_true_eq_false, not_false_eq_true, ne_eq, if_true, if_false, Bool.and_true, Bool.true_and, decide_true, decide_false, reduceIte, reduceCtorEq, Bool.and_self, Bool.and_eq_true, decide_eq_true_eq, and_self, true_or, or_true, false_or, or_false, Nat.zero_add, Nat.add_zero, eq_self, Nat.reduceEqDiff, Nat.reduceLeDiff, Nat.reduceLT, Nat.reduceAdd, Nat.reduceSub, Nat.reduceMul]
  exact R92_5 hL hG hC ht ho (dg t) 0 (by omega)
end
/-! ===== the energies of all configurations: the lab's side ===== -/
section
theorem xi0 {k : Nat} (h : 0 < k) (h2 : k < 2147483648) : xIn 0 k = True := by
  have := nI_inP h h2
  rwa [nI_0] at this
def fill (f : Nat → Int32) (v : Int32) (i : Nat) : Nat → Int32 := fun j => if j < i then v else f j
theorem fill_at (f : Nat → Int32) (v : Int32) (i j : Nat) : fill f v i j = if j < i then v else f j := rfl
theorem fill_up (f : Nat → Int32) (v : Int32) (i : Nat) : up (fill f v i) i v = fill f v (i + 1) := by
  funext j
  simp only [up_at, fill_at]
  by_cases h : j = i
  · rw [if_pos h, if_pos (by omega)]
  · rw [if_neg h]
    by_cases h2 : j < i
    · rw [if_pos h2, if_pos (by omega)]
    · rw [if_neg h2, if_neg (by omega)]
theorem fill_0 (f : Nat → Int32) (v : Int32) : fill f v 0 = f := by
  funext j
  rw [fill_at, if_neg (Nat.not_lt_zero j)]
variable {S : xS} {I : xI} {J : xJ} {D : xDb} {R : xR} {b : Nat × Nat} {Q : xQ} {n m : Nat} {fi se dg : Nat → Nat} {sb : Nat → Nat → Nat}
theorem Y6_5 {o L : Nat} {v : Int32} {f : Nat → Int32} (hS : S o = (100, L)) (hL : L < 2147483648) : ∀ (j i : Nat), i + j = L → xRun xT 6 5 [(0, .ref o), (1, .int v), (2, .int (nI i)), (3, .int (nI L))] [] (S, rI I o (fill f v i), J, D, R) b Q = Q (.ok none) (S, rI I o (fill f v L), J, D, R) b
  | 0, i, hi => by
    have e : i = L := by omega
    subst e
    rw [e6_5]
    simp only [B6_5, xSeq, i_push, i_load, i_iload, i_lload, i_dload, i_aload, i_istore, i_astore, i_lstore, i_dstore, i_iinc, i_ii, i_iiz, i_ll, i_llz, i_lli, i_li, i_i, i_l, i_i2l, i_l2i, i_dup, i_dup2, i_dup2w, i_dupx1, i_pop, i_pop2, i_goto, i_ifc, i_icmp, i_getI, i_getL, i_getR, i_putI, i_putZ, i_putL, i_putR, i_aldI, i_aldB, i_aldL, i_aldD, i_astI, i_astL, i_astD, i_alen, i_ret, i_iret, i_zret, i_lret, i_fret, i_dret, i_aret, i_invS0, i_invV0, i_m2, i_m1, i_ml, i_obj, lk, lkp, stf1, stf2, Value.category, rV, xTo, lv_args, xCk, xCat, xRc, xAk, hg_S, hg_I, hg_J, hg_D, hg_R, hs_I, hs_J, hs_D, hs_R, uI_at, uJ_at, uD_at, uR_at, List.take_succ_cons, List.take_zero, List.drop_succ_cons, List.drop_zero, List.reverse_cons, List.reverse_nil, List.nil_append, List.cons_append, List.map_cons, List.map_nil, List.sum_cons, List.sum_nil, List.length_cons, List.length_nil, Option.toList_some, Option.toList_none, true_and, and_true, false_and, and_false, true_implies, false_implies, implies_true, not_true_eq_false, not_false_eq_true, ne_eq, if_true, if_false, Bool.and_true, Bool.true_and, decide_true, decide_false, reduceIte, reduceCtorEq, Bool.and_self, Bool.and_eq_true, decide_eq_true_eq, and_self, true_or, or_true, false_or, or_false, Nat.zero_add, Nat.add_zero, eq_self, Nat.reduceEqDiff, Nat.reduceLeDiff, Nat.reduceLT, Nat.reduceAdd, Nat.reduceSub, Nat.reduceMul, nI_leP hL hL, Nat.le_refl, e6_20, B6_20]
  | j + 1, i, hi => by
    rw [e6_5]
    simp only [B6_5, xSeq, i_push, i_load, i_iload, i_lload, i_dload, i_aload, i_istore, i_astore, i_lstore, i_dstore, i_iinc, i_ii, i_iiz, i_ll, i_llz, i_lli, i_li, i_i, i_l, i_i2l, i_l2i, i_dup, i_dup2, i_dup2w, i_dupx1, i_pop, i_pop2, i_goto, i_ifc, i_icmp, i_getI, i_getL, i_getR, i_putI, i_putZ, i_putL, i_putR, i_aldI, i_aldB, i_aldL, i_aldD, i_astI, i_astL, i_astD, i_alen, i_ret, i_iret, i_zret, i_lret, i_fret, i_dret, i_aret, i_invS0, i_invV0, i_m2, i_m1, i_ml, i_obj, lk, lkp, stf1, stf2, Value.category, rV, xTo, lv_args, xCk, xCat, xRc, xAk, hg_S, hg_I, hg_J, hg_D, hg_R, hs_I, hs_J, hs_D, hs_R, uI_at, uJ_at, uD_at, uR_at, List.take_succ_cons, List.take_zero, List.drop_succ_cons, List.drop_zero, List.reverse_cons, List.reverse_nil, List.nil_append, List.cons_append, List.map_cons, List.map_nil, List.sum_cons, List.sum_nil, List.length_cons, List.length_nil, Option.toList_some, Option.toList_none, true_and, and_true, false_and, and_false, true_implies, false_implies, implies_true, not_true_eq_false, not_false_eq_true, ne_eq, if_true, if_false, Bool.and_true, Bool.true_and, decide_true, decide_false, reduceIte, reduceCtorEq, Bool.and_self, Bool.and_eq_true, decide_eq_true_eq, and_self, true_or, or_true, false_or, or_false, Nat.zero_add, Nat.add_zero, eq_self, Nat.reduceEqDiff, Nat.reduceLeDiff, Nat.reduceLT, Nat.reduceAdd, Nat.reduceSub, Nat.reduceMul, hS, nI_leP hL (show i < 2147483648 by omega), show (L ≤ i) = False from eq_false (by omega), nI_inP (show i < L by omega) hL, nI_ix (show i < 2147483648 by omega), uI_rI, fill_up, nI_1]
    exact Y6_5 hS hL j (i + 1) (by omega)
theorem Y6 {o L : Nat} {v : Int32} (hS : S o = (100, L)) (hL : L < 2147483648) : xRun xT 6 0 [(0, .ref o), (1, .int v)] [] (S, I, J, D, R) b Q = Q (.ok none) (S, rI I o (fill (I o) v L), J, D, R) b := by
  rw [e6_0]
  simp only [B6_0, xSeq, i_push, i_load, i_iload, i_lload, i_dload, i_aload, i_istore, i_astore, i_lstore, i_dstore, i_iinc, i_ii, i_iiz, i_ll, i_llz, i_lli, i_li, i_i, i_l, i_i2l, i_l2i, i_dup, i_dup2, i_dup2w, i_dupx1, i_pop, i_pop2, i_goto, i_ifc, i_icmp, i_getI, i_getL, i_getR, i_putI, i_putZ, i_putL, i_putR, i_aldI, i_aldB, i_aldL, i_aldD, i_astI, i_astL, i_astD, i_alen, i_ret, i_iret, i_zret, i_lret, i_fret, i_dret, i_aret, i_invS0, i_invV0, i_m2, i_m1, i_ml, i_obj, lk, lkp, stf1, stf2, Value.category, rV, xTo, lv_args, xCk, xCat, xRc, xAk, hg_S, hg_I, hg_J, hg_D, hg_R, hs_I, hs_J, hs_D, hs_R, uI_at, uJ_at, uD_at, uR_at, List.take_succ_cons, List.take_zero, List.drop_succ_cons, List.drop_zero, List.reverse_cons, List.reverse_nil, List.nil_append, List.cons_append, List.map_cons, List.map_nil, List.sum_cons, List.sum_nil, List.length_cons, List.length_nil, Option.toList_some, Option.toList_none, true_and, and_true, false_and, and_false, true_implies, false_implies, implies_true, not_true_eq_false, not_false_eq_true, ne_eq, if_true, if_false, Bool.and_true, Bool.true_and, decide_true, decide_false, reduceIte, reduceCtorEq, Bool.and_self, Bool.and_eq_true, decide_eq_true_eq, and_self, true_or, or_true, false_or, or_false, Nat.zero_add, Nat.add_zero, eq_self, Nat.reduceEqDiff, Nat.reduceLeDiff, Nat.reduceLT, Nat.reduceAdd, Nat.reduceSub, Nat.reduceMul, hS]
  have h := Y6_5 (S := S) (I := I) (J := J) (D := D) (R := R) (b := b) (Q := Q) (f := I o) (v := v) hS hL L 0 (by omega)
  rw [fill_0, rI_self] at h
  simp only [nI_0] at h
  simp [xAk, h]
/-- the rows that the enumeration makes -/
def LE (S : xS) (R : xR) : Prop := R 130 6 = some 151 ∧ R 130 7 = some 152 ∧ R 130 8 = some 153 ∧ R 130 9 = some 154 ∧ R 130 10 = some 155 ∧ R 130 11 = some 156 ∧ S 151 = (104, 65536) ∧ S 152 = (100, 65536) ∧ S 153 = (100, 4913) ∧ S 154 = (100, 4913) ∧ S 155 = (100, 4913) ∧ S 156 = (100, 4913)
theorem LE_out {S : xS} {R : xR} (h : LE S R) : R 130 6 = some 151 ∧ R 130 7 = some 152 ∧ R 130 8 = some 153 ∧ R 130 9 = some 154 ∧ R 130 10 = some 155 ∧ R 130 11 = some 156 ∧ S 151 = (104, 65536) ∧ S 152 = (100, 65536) ∧ S 153 = (100, 4913) ∧ S 154 = (100, 4913) ∧ S 155 = (100, 4913) ∧ S 156 = (100, 4913) := h
theorem pw_lt {o t : Nat} (h : o < t) : 2 ^ o * 2 ≤ 2 ^ t := by
  rw [← Nat.pow_succ]
  exact Nat.pow_le_pow_right (by decide) h
theorem xor_hi {j t : Nat} (h : j < 2 ^ t) : j ^^^ 2 ^ t = 2 ^ t + j := by
  apply Nat.eq_of_testBit_eq
  intro i
  rw [bit_x]
  rcases Nat.lt_trichotomy i t with h1 | h1 | h1
  · rw [Nat.testBit_two_pow_add_gt h1, decide_eq_false (by omega), Bool.xor_false]
  · subst h1
    rw [Nat.testBit_two_pow_add_eq]
    simp
  · rw [decide_eq_false (by omega), Bool.xor_false]
    have h2 : j < 2 ^ i := Nat.lt_trans h (Nat.pow_lt_pow_right (by decide) h1)
    have h3 : 2 ^ t + j < 2 ^ i := by
      have := pw_lt h1
      omega
    rw [Nat.testBit_lt_two_pow h2, Nat.testBit_lt_two_pow h3]
theorem q_1shl {t : Nat} (h : t < 31) : jShl 1 (nI t) = nI (2 ^ t) := by
  have : ∀ t, t < 31 → jShl 1 (nI t) = nI (2 ^ t) := by decide +kernel
  exact this t h
/-- what the flip of t upwards changes, when the spin of o comes up beside it -/
theorem dl_up (hG : GR n m fi se dg sb) (hN : GN n m fi se dg sb) (F : Int32) (st : Nat → Int32) {j t o : Nat} (ht : t < n) (ho : o < t) (h1 : j.testBit t = false) (h2 : j.testBit o = false) (hinc : ∀ i, i < dg t → fi (sb t i) = t ∨ se (sb t i) = t) : dl F st fi se dg sb (j ^^^ 2 ^ o) t = dl F st fi se dg sb j t + -4 * sp st fi se dg sb t o := by
  have e : sm (fun i => pr (st (sb t i)) ((j ^^^ 2 ^ o).testBit (fi (sb t i))) ((j ^^^ 2 ^ o).testBit (se (sb t i)))) (dg t) = sm (fun i => pr (st (sb t i)) (j.testBit (fi (sb t i))) (j.testBit (se (sb t i))) + -2 * (if (if fi (sb t i) = t then se (sb t i) else fi (sb t i)) = o then st (sb t i) else 0)) (dg t) := sm_congr (fun i hi => by
    have hb := hG.2.2.2.2.2.2 t i ht hi
    have hne := hN.1 _ hb
    rw [bit_x, bit_x]
    rcases hinc i hi with h | h
    · rw [if_pos h, h, h1, decide_eq_false (show ¬ o = t by omega), Bool.xor_false]
      by_cases hs : se (sb t i) = o
      · rw [if_pos hs, hs, h2]
        simp [pr]
        grind
      · rw [if_neg hs, decide_eq_false (fun e => hs e.symm), Bool.xor_false]
        grind
    · have hf : ¬ fi (sb t i) = t := fun e => hne (e.trans h.symm)
      rw [if_neg hf, h, h1, decide_eq_false (show ¬ o = t by omega), Bool.xor_false]
      by_cases hs : fi (sb t i) = o
      · rw [if_pos hs, hs, h2]
        simp [pr]
        grind
      · rw [if_neg hs, decide_eq_false (fun e => hs e.symm), Bool.xor_false]
        grind)
  unfold dl sp
  rw [e, sm_add, sm_mul, bit_x, h1, decide_eq_false (show ¬ o = t by omega), Bool.xor_false]
  grind
theorem L99_43 {t o : Nat} {g : Nat → Int32} (hL : LC S R) (hE : LE S R) (ho : o < t) (ht : t < 16) {c : Int32} (hg : ∀ j, j < 2 ^ o → g (2 ^ o + j) = g j + c)
    (kk : ∀ f, (∀ j, j < 2 ^ (o + 1) → f j = g j) → xRun xT 99 17 [(0, .ref 130), (1, .int (nI t)), (2, .int (nI (o + 1)))] [] (S, rI I 152 f, J, D, R) b Q) :
    ∀ (jj i : Nat) (f : Nat → Int32), i + jj = 2 ^ o → (∀ j, j < 2 ^ o + i → f j = g j) → xRun xT 99 43 [(0, .ref 130), (1, .int (nI t)), (2, .int (nI o)), (3, .int c), (4, .int (nI (2 ^ o))), (5, .int (nI i))] [] (S, rI I 152 f, J, D, R) b Q
  | 0, i, f, hi, hf => by
    have e : i = 2 ^ o := by omega
    have h16 : 2 ^ o * 2 ≤ 2 ^ 16 := pw_lt (by omega)
    subst e
    rw [e99_43]
    simp only [B99_43, xSeq, i_push, i_load, i_iload, i_lload, i_dload, i_aload, i_istore, i_astore, i_lstore, i_dstore, i_iinc, i_ii, i_iiz, i_ll, i_llz, i_lli, i_li, i_i, i_l, i_i2l, i_l2i, i_dup, i_dup2, i_dup2w, i_dupx1, i_pop, i_pop2, i_goto, i_ifc, i_icmp, i_getI, i_getL, i_getR, i_putI, i_putZ, i_putL, i_putR, i_aldI, i_aldB, i_aldL, i_aldD, i_astI, i_astL, i_astD, i_alen, i_ret, i_iret, i_zret, i_lret, i_fret, i_dret, i_aret, i_invS0, i_invV0, i_m2, i_m1, i_ml, i_obj, lk, lkp, stf1, stf2, Value.category, rV, xTo, lv_args, xCk, xCat, xRc, xAk, hg_S, hg_I, hg_J, hg_D, hg_R, hs_I, hs_J, hs_D, hs_R, uI_at, uJ_at, uD_at, uR_at, List.take_succ_cons, List.take_zero, List.drop_succ_cons, List.drop_zero, List.reverse_cons, List.reverse_nil, List.nil_append, List.cons_append, List.map_cons, List.map_nil, List.sum_cons, List.sum_nil, List.length_cons, List.length_nil, Option.toList_some, Option.toList_none, true_and, and_true, false_and, and_false, true_implies, false_implies, implies_true, not_true_eq_false, not_false_eq_true, ne_eq, if_true, if_false, Bool.and_true, Bool.true_and, decide_true, decide_false, reduceIte, reduceCtorEq, Bool.and_self, Bool.and_eq_true, decide_eq_true_eq, and_self, true_or, or_true, false_or, or_false, Nat.zero_add, Nat.add_zero, eq_self, Nat.reduceEqDiff, Nat.reduceLeDiff, Nat.reduceLT, Nat.reduceAdd, Nat.reduceSub, Nat.reduceMul, nI_leP (show 2 ^ o < 2147483648 by omega) (show 2 ^ o < 2147483648 by omega), Nat.le_refl, e99_75, B99_75, nI_1]
    exact kk f (fun j hj => hf j (by rw [Nat.pow_succ] at hj; omega))
  | jj + 1, i, f, hi, hf => by
    have h16 : 2 ^ o * 2 ≤ 2 ^ 16 := pw_lt (by omega)
    rw [e99_43]
    simp only [B99_43, xSeq, i_push, i_load, i_iload, i_lload, i_dload, i_aload, i_istore, i_astore, i_lstore, i_dstore, i_iinc, i_ii, i_iiz, i_ll, i_llz, i_lli, i_li, i_i, i_l, i_i2l, i_l2i, i_dup, i_dup2, i_dup2w, i_dupx1, i_pop, i_pop2, i_goto, i_ifc, i_icmp, i_getI, i_getL, i_getR, i_putI, i_putZ, i_putL, i_putR, i_aldI, i_aldB, i_aldL, i_aldD, i_astI, i_astL, i_astD, i_alen, i_ret, i_iret, i_zret, i_lret, i_fret, i_dret, i_aret, i_invS0, i_invV0, i_m2, i_m1, i_ml, i_obj, lk, lkp, stf1, stf2, Value.category, rV, xTo, lv_args, xCk, xCat, xRc, xAk, hg_S, hg_I, hg_J, hg_D, hg_R, hs_I, hs_J, hs_D, hs_R, uI_at, uJ_at, uD_at, uR_at, List.take_succ_cons, List.take_zero, List.drop_succ_cons, List.drop_zero, List.reverse_cons, List.reverse_nil, List.nil_append, List.cons_append, List.map_cons, List.map_nil, List.sum_cons, List.sum_nil, List.length_cons, List.length_nil, Option.toList_some, Option.toList_none, true_and, and_true, false_and, and_false, true_implies, false_implies, implies_true, not_true_eq_false, not_false_eq_true, ne_eq, if_true, if_false, Bool.and_true, Bool.true_and, decide_true, decide_false, reduceIte, reduceCtorEq, Bool.and_self, Bool.and_eq_true, decide_eq_true_eq, and_self, true_or, or_true, false_or, or_false, Nat.zero_add, Nat.add_zero, eq_self, Nat.reduceEqDiff, Nat.reduceLeDiff, Nat.reduceLT, Nat.reduceAdd, Nat.reduceSub, Nat.reduceMul, LC_out hL, LE_out hE, nI_leP (show 2 ^ o < 2147483648 by omega) (show i < 2147483648 by omega), show (2 ^ o ≤ i) = False from eq_false (by omega), nI_add, nI_inP (show 2 ^ o + i < 65536 by omega) (by decide), nI_ix (show 2 ^ o + i < 2147483648 by omega), nI_inP (show i < 65536 by omega) (by decide), nI_ix (show i < 2147483648 by omega), rI_at, uI_rI, nI_1]
    refine L99_43 hL hE ho ht hg kk jj (i + 1) _ (by omega) (fun j hj => ?_)
    rw [up_at]
    by_cases e : j = 2 ^ o + i
    · rw [if_pos e, e, hg i (by omega), hf i (by omega)]
    · rw [if_neg e]
      exact hf j (by omega)
/-- each bond of a site is joined to it -/
def GI (n : Nat) (fi se dg : Nat → Nat) (sb : Nat → Nat → Nat) : Prop := ∀ t, t < n → ∀ i, i < dg t → fi (sb t i) = t ∨ se (sb t i) = t
theorem L99_17 {t : Nat} (hL : LC S R) (hE : LE S R) (hG : GR n m fi se dg sb) (hN : GN n m fi se dg sb) (hI : GI n fi se dg sb) (hC : CL I n m fi se dg sb) (ht : t < n) (hn : n ≤ 16)
    (kk : ∀ f, (∀ j, j < 2 ^ t → f j = dl (I 110 6) (I 111) fi se dg sb j t) → Q (.ok none) (S, rI I 152 f, J, D, R) b) :
    ∀ (oo o : Nat) (f : Nat → Int32), o + oo = t → (∀ j, j < 2 ^ o → f j = dl (I 110 6) (I 111) fi se dg sb j t) → xRun xT 99 17 [(0, .ref 130), (1, .int (nI t)), (2, .int (nI o))] [] (S, rI I 152 f, J, D, R) b Q
  | 0, o, f, ho, hf => by
    have e : o = t := by omega
    subst e
    rw [e99_17]
    simp only [B99_17, xSeq, i_push, i_load, i_iload, i_lload, i_dload, i_aload, i_istore, i_astore, i_lstore, i_dstore, i_iinc, i_ii, i_iiz, i_ll, i_llz, i_lli, i_li, i_i, i_l, i_i2l, i_l2i, i_dup, i_dup2, i_dup2w, i_dupx1, i_pop, i_pop2, i_goto, i_ifc, i_icmp, i_getI, i_getL, i_getR, i_putI, i_putZ, i_putL, i_putR, i_aldI, i_aldB, i_aldL, i_aldD, i_astI, i_astL, i_astD, i_alen, i_ret, i_iret, i_zret, i_lret, i_fret, i_dret, i_aret, i_invS0, i_invV0, i_m2, i_m1, i_ml, i_obj, lk, lkp, stf1, stf2, Value.category, rV, xTo, lv_args, xCk, xCat, xRc, xAk, hg_S, hg_I, hg_J, hg_D, hg_R, hs_I, hs_J, hs_D, hs_R, uI_at, uJ_at, uD_at, uR_at, List.take_succ_cons, List.take_zero, List.drop_succ_cons, List.drop_zero, List.reverse_cons, List.reverse_nil, List.nil_append, List.cons_append, List.map_cons, List.map_nil, List.sum_cons, List.sum_nil, List.length_cons, List.length_nil, Option.toList_some, Option.toList_none, true_and, and_true, false_and, and_false, true_implies, false_implies, implies_true, not_true_eq_false, not_false_eq_true, ne_eq, if_true, if_false, Bool.and_true, Bool.true_and, decide_true, decide_false, reduceIte, reduceCtorEq, Bool.and_self, Bool.and_eq_true, decide_eq_true_eq, and_self, true_or, or_true, false_or, or_false, Nat.zero_add, Nat.add_zero, eq_self, Nat.reduceEqDiff, Nat.reduceLeDiff, Nat.reduceLT, Nat.reduceAdd, Nat.reduceSub, Nat.reduceMul, nI_leP (show o < 2147483648 by omega) (show o < 2147483648 by omega), Nat.le_refl, e99_81, B99_81]
    exact kk f hf
  | oo + 1, o, f, ho, hf => by
    have e2 : (rI I 152 f) 111 = I 111 := rfl
    have h92 := fun (Q : xQ) => R92 (J := J) (D := D) (b := (0, 0)) (Q := Q) (I := rI I 152 f) hL hG (CL_r hC (by decide)) ht (show o < n by omega)
    have ih := fun f' hf' => L99_17 hL hE hG hN hI hC ht hn kk oo (o + 1) f' (by omega) hf'
    rw [e99_17]
    simp only [B99_17, xSeq, i_push, i_load, i_iload, i_lload, i_dload, i_aload, i_istore, i_astore, i_lstore, i_dstore, i_iinc, i_ii, i_iiz, i_ll, i_llz, i_lli, i_li, i_i, i_l, i_i2l, i_l2i, i_dup, i_dup2, i_dup2w, i_dupx1, i_pop, i_pop2, i_goto, i_ifc, i_icmp, i_getI, i_getL, i_getR, i_putI, i_putZ, i_putL, i_putR, i_aldI, i_aldB, i_aldL, i_aldD, i_astI, i_astL, i_astD, i_alen, i_ret, i_iret, i_zret, i_lret, i_fret, i_dret, i_aret, i_invS0, i_invV0, i_m2, i_m1, i_ml, i_obj, lk, lkp, stf1, stf2, Value.category, rV, xTo, lv_args, xCk, xCat, xRc, xAk, hg_S, hg_I, hg_J, hg_D, hg_R, hs_I, hs_J, hs_D, hs_R, uI_at, uJ_at, uD_at, uR_at, List.take_succ_cons, List.take_zero, List.drop_succ_cons, List.drop_zero, List.reverse_cons, List.reverse_nil, List.nil_append, List.cons_append, List.map_cons, List.map_nil, List.sum_cons, List.sum_nil, List.length_cons, List.length_nil, Option.toList_some, Option.toList_none, true_and, and_true, false_and, and_false, true_implies, false_implies, implies_true, not_true_eq_false, not_false_eq_true, ne_eq, if_true, if_false, Bool.and_true, Bool.true_and, decide_true, decide_false, reduceIte, reduceCtorEq, Bool.and_self, Bool.and_eq_true, decide_eq_true_eq, and_self, true_or, or_true, false_or, or_false, Nat.zero_add, Nat.add_zero, eq_self, Nat.reduceEqDiff, Nat.reduceLeDiff, Nat.reduceLT, Nat.reduceAdd, Nat.reduceSub, Nat.reduceMul, LC_out hL, nI_leP (show t < 2147483648 by omega) (show o < 2147483648 by omega), show (t ≤ o) = False from eq_false (by omega), h92, e2, q_1shl (show o < 31 by omega)]
    refine L99_43 hL hE (show o < t by omega) (by omega) (g := fun j => dl (I 110 6) (I 111) fi se dg sb j t) (fun j hj => ?_) ih (2 ^ o) 0 f (by omega) (fun j hj => hf j (by omega))
    have e3 := xor_hi hj
    have e4 : j.testBit o = false := Nat.testBit_lt_two_pow hj
    have e5 : j.testBit t = false := Nat.testBit_lt_two_pow (Nat.lt_trans hj (Nat.pow_lt_pow_right (by decide) (by omega)))
    rw [← e3]
    exact dl_up hG hN (I 110 6) (I 111) ht (by omega) e5 e4 (hI t ht)
theorem L99 {t : Nat} (hL : LC S R) (hE : LE S R) (hG : GR n m fi se dg sb) (hN : GN n m fi se dg sb) (hI : GI n fi se dg sb) (hC : CL I n m fi se dg sb) (ht : t < n) (hn : n ≤ 16)
    (kk : ∀ f, (∀ j, j < 2 ^ t → f j = dl (I 110 6) (I 111) fi se dg sb j t) → Q (.ok none) (S, rI I 152 f, J, D, R) b) :
    xRun xT 99 0 [(0, .ref 130), (1, .int (nI t))] [] (S, I, J, D, R) b Q := by
  have h76 : ∀ Q : xQ, xRun xT 76 0 [(0, .ref 110), (1, .long 0), (3, .int (nI t))] [] (S, I, J, D, R) (0, 0) Q = Q (.ok (some (.int (dl (I 110 6) (I 111) fi se dg sb 0 t)))) (S, I, J, D, R) (0, 0) := fun Q => R76 (s := 0) hL hG hC (by decide) ht
  have h := L99_17 (b := b) hL hE hG hN hI hC ht hn kk t 0 (up (I 152) 0 (dl (I 110 6) (I 111) fi se dg sb 0 t)) (by omega) (fun j hj => by
    have e : j = 0 := by omega
    subst e
    rw [up_at, if_pos rfl])
  rw [e99_0]
  simp only [B99_0, xSeq, i_push, i_load, i_iload, i_lload, i_dload, i_aload, i_istore, i_astore, i_lstore, i_dstore, i_iinc, i_ii, i_iiz, i_ll, i_llz, i_lli, i_li, i_i, i_l, i_i2l, i_l2i, i_dup, i_dup2, i_dup2w, i_dupx1, i_pop, i_pop2, i_goto, i_ifc, i_icmp, i_getI, i_getL, i_getR, i_putI, i_putZ, i_putL, i_putR, i_aldI, i_aldB, i_aldL, i_aldD, i_astI, i_astL, i_astD, i_alen, i_ret, i_iret, i_zret, i_lret, i_fret, i_dret, i_aret, i_invS0, i_invV0, i_m2, i_m1, i_ml, i_obj, lk, lkp, stf1, stf2, Value.category, rV, xTo, lv_args, xCk, xCat, xRc, xAk, hg_S, hg_I, hg_J, hg_D, hg_R, hs_I, hs_J, hs_D, hs_R, uI_at, uJ_at, uD_at, uR_at, List.take_succ_cons, List.take_zero, List.drop_succ_cons, List.drop_zero, List.reverse_cons, List.reverse_nil, List.nil_append, List.cons_append, List.map_cons, List.map_nil, List.sum_cons, List.sum_nil, List.length_cons, List.length_nil, Option.toList_some, Option.toList_none, true_and, and_true, false_and, and_false, true_implies, false_implies, implies_true, not_true_eq_false, not_false_eq_true, ne_eq, if_true, if_false, Bool.and_true, Bool.true_and, decide_true, decide_false, reduceIte, reduceCtorEq, Bool.and_self, Bool.and_eq_true, decide_eq_true_eq, and_self, true_or, or_true, false_or, or_false, Nat.zero_add, Nat.add_zero, eq_self, Nat.reduceEqDiff, Nat.reduceLeDiff, Nat.reduceLT, Nat.reduceAdd, Nat.reduceSub, Nat.reduceMul, LC_out hL, LE_out hE, h76, xi0 (show 0 < 65536 by decide) (by decide), ix_0]
  rw [← uI_rI, rI_self] at h
  simp only [nI_0] at h
  exact h
/-- a small number keeps its value as a short -/
theorem q_short {v : Int32} (h1 : -32768 ≤ v.toInt) (h2 : v.toInt ≤ 32767) : jI2s v = v ∧ vp_nar .short v = v := by
  have e : v.toInt16.toInt32 = v := by
    apply Int32.toInt_inj.mp
    rw [Int16.toInt_toInt32, Int32.toInt_toInt16]
    exact Int.bmod_eq_of_le (by omega) (by omega)
  exact ⟨e, by rw [vp_nar_short]; exact e⟩
theorem L98_36 {t : Nat} {E g : Nat → Int32} (hL : LC S R) (hE : LE S R) (ht : t < 16) (hg : ∀ j, j < 2 ^ t → E (2 ^ t + j) = E j + g j) (hb : ∀ j, -32768 ≤ (E j).toInt ∧ (E j).toInt ≤ 32767) {f : Nat → Int32} (hf : ∀ j, j < 2 ^ t → f j = g j)
    (kk : ∀ w, (∀ j, j < 2 ^ (t + 1) → w j = E j) → xRun xT 98 17 [(0, .ref 130), (1, .int (nI (t + 1)))] [] (S, rI (rI I 152 f) 151 w, J, D, R) b Q) :
    ∀ (jj i : Nat) (w : Nat → Int32), i + jj = 2 ^ t → (∀ j, j < 2 ^ t + i → w j = E j) → xRun xT 98 36 [(0, .ref 130), (1, .int (nI t)), (2, .int (nI (2 ^ t))), (3, .int (nI i))] [] (S, rI (rI I 152 f) 151 w, J, D, R) b Q
  | 0, i, w, hi, hw => by
    have e : i = 2 ^ t := by omega
    have h16 : 2 ^ t * 2 ≤ 2 ^ 16 := pw_lt (by omega)
    subst e
    rw [e98_36]
    simp only [B98_36, xSeq, i_push, i_load, i_iload, i_lload, i_dload, i_aload, i_istore, i_astore, i_lstore, i_dstore, i_iinc, i_ii, i_iiz, i_ll, i_llz, i_lli, i_li, i_i, i_l, i_i2l, i_l2i, i_dup, i_dup2, i_dup2w, i_dupx1, i_pop, i_pop2, i_goto, i_ifc, i_icmp, i_getI, i_getL, i_getR, i_putI, i_putZ, i_putL, i_putR, i_aldI, i_aldB, i_aldL, i_aldD, i_astI, i_astL, i_astD, i_alen, i_ret, i_iret, i_zret, i_lret, i_fret, i_dret, i_aret, i_invS0, i_invV0, i_m2, i_m1, i_ml, i_obj, lk, lkp, stf1, stf2, Value.category, rV, xTo, lv_args, xCk, xCat, xRc, xAk, hg_S, hg_I, hg_J, hg_D, hg_R, hs_I, hs_J, hs_D, hs_R, uI_at, uJ_at, uD_at, uR_at, List.take_succ_cons, List.take_zero, List.drop_succ_cons, List.drop_zero, List.reverse_cons, List.reverse_nil, List.nil_append, List.cons_append, List.map_cons, List.map_nil, List.sum_cons, List.sum_nil, List.length_cons, List.length_nil, Option.toList_some, Option.toList_none, true_and, and_true, false_and, and_false, true_implies, false_implies, implies_true, not_true_eq_false, not_false_eq_true, ne_eq, if_true, if_false, Bool.and_true, Bool.true_and, decide_true, decide_false, reduceIte, reduceCtorEq, Bool.and_self, Bool.and_eq_true, decide_eq_true_eq, and_self, true_or, or_true, false_or, or_false, Nat.zero_add, Nat.add_zero, eq_self, Nat.reduceEqDiff, Nat.reduceLeDiff, Nat.reduceLT, Nat.reduceAdd, Nat.reduceSub, Nat.reduceMul, nI_leP (show 2 ^ t < 2147483648 by omega) (show 2 ^ t < 2147483648 by omega), Nat.le_refl, e98_69, B98_69, nI_1]
    exact kk w (fun j hj => hw j (by rw [Nat.pow_succ] at hj; omega))
  | jj + 1, i, w, hi, hw => by
    have h16 : 2 ^ t * 2 ≤ 2 ^ 16 := pw_lt (by omega)
    have e1 := hw i (by omega)
    have e2 := hf i (by omega)
    have e3 := hg i (by omega)
    have e4 := hb (2 ^ t + i)
    rw [e3] at e4
    have e5 := q_short e4.1 e4.2
    rw [e98_36]
    simp only [B98_36, xSeq, i_push, i_load, i_iload, i_lload, i_dload, i_aload, i_istore, i_astore, i_lstore, i_dstore, i_iinc, i_ii, i_iiz, i_ll, i_llz, i_lli, i_li, i_i, i_l, i_i2l, i_l2i, i_dup, i_dup2, i_dup2w, i_dupx1, i_pop, i_pop2, i_goto, i_ifc, i_icmp, i_getI, i_getL, i_getR, i_putI, i_putZ, i_putL, i_putR, i_aldI, i_aldB, i_aldL, i_aldD, i_astI, i_astL, i_astD, i_alen, i_ret, i_iret, i_zret, i_lret, i_fret, i_dret, i_aret, i_invS0, i_invV0, i_m2, i_m1, i_ml, i_obj, lk, lkp, stf1, stf2, Value.category, rV, xTo, lv_args, xCk, xCat, xRc, xAk, hg_S, hg_I, hg_J, hg_D, hg_R, hs_I, hs_J, hs_D, hs_R, uI_at, uJ_at, uD_at, uR_at, List.take_succ_cons, List.take_zero, List.drop_succ_cons, List.drop_zero, List.reverse_cons, List.reverse_nil, List.nil_append, List.cons_append, List.map_cons, List.map_nil, List.sum_cons, List.sum_nil, List.length_cons, List.length_nil, Option.toList_some, Option.toList_none, true_and, and_true, false_and, and_false, true_implies, false_implies, implies_true, not_true_eq_false, not_false_eq_true, ne_eq, if_true, if_false, Bool.and_true, Bool.true_and, decide_true, decide_false, reduceIte, reduceCtorEq, Bool.and_self, Bool.and_eq_true, decide_eq_true_eq, and_self, true_or, or_true, false_or, or_false, Nat.zero_add, Nat.add_zero, eq_self, Nat.reduceEqDiff, Nat.reduceLeDiff, Nat.reduceLT, Nat.reduceAdd, Nat.reduceSub, Nat.reduceMul, LC_out hL, LE_out hE, nI_leP (show 2 ^ t < 2147483648 by omega) (show i < 2147483648 by omega), show (2 ^ t ≤ i) = False from eq_false (by omega), nI_add, nI_inP (show 2 ^ t + i < 65536 by omega) (by decide), nI_ix (show 2 ^ t + i < 2147483648 by omega), nI_inP (show i < 65536 by omega) (by decide), nI_ix (show i < 2147483648 by omega), rI_at, e1, e2, e5.1, e5.2, uI_rI, nI_1]
    refine L98_36 hL hE ht hg hb hf kk jj (i + 1) _ (by omega) (fun j hj => ?_)
    rw [up_at]
    by_cases e : j = 2 ^ t + i
    · rw [if_pos e, e, e3]
    · rw [if_neg e]
      exact hw j (by omega)
theorem L98_17 (hL : LC S R) (hE : LE S R) (hG : GR n m fi se dg sb) (hN : GN n m fi se dg sb) (hI : GI n fi se dg sb) (hC : CL I n m fi se dg sb) (hn : n ≤ 16) (h2 : I 130 2 = nI n) (hb : ∀ j, -32768 ≤ (en (I 110 6) (I 111) n m fi se j).toInt ∧ (en (I 110 6) (I 111) n m fi se j).toInt ≤ 32767)
    (kk : ∀ f w, (∀ j, j < 2 ^ n → w j = en (I 110 6) (I 111) n m fi se j) → Q (.ok none) (S, rI (rI I 152 f) 151 w, J, D, R) b) :
    ∀ (tt t : Nat) (f w : Nat → Int32), t + tt = n → (∀ j, j < 2 ^ t → w j = en (I 110 6) (I 111) n m fi se j) → xRun xT 98 17 [(0, .ref 130), (1, .int (nI t))] [] (S, rI (rI I 152 f) 151 w, J, D, R) b Q
  | 0, t, f, w, ht, hw => by
    have e : t = n := by omega
    subst e
    rw [e98_17]
    simp only [B98_17, xSeq, i_push, i_load, i_iload, i_lload, i_dload, i_aload, i_istore, i_astore, i_lstore, i_dstore, i_iinc, i_ii, i_iiz, i_ll, i_llz, i_lli, i_li, i_i, i_l, i_i2l, i_l2i, i_dup, i_dup2, i_dup2w, i_dupx1, i_pop, i_pop2, i_goto, i_ifc, i_icmp, i_getI, i_getL, i_getR, i_putI, i_putZ, i_putL, i_putR, i_aldI, i_aldB, i_aldL, i_aldD, i_astI, i_astL, i_astD, i_alen, i_ret, i_iret, i_zret, i_lret, i_fret, i_dret, i_aret, i_invS0, i_invV0, i_m2, i_m1, i_ml, i_obj, lk, lkp, stf1, stf2, Value.category, rV, xTo, lv_args, xCk, xCat, xRc, xAk, hg_S, hg_I, hg_J, hg_D, hg_R, hs_I, hs_J, hs_D, hs_R, uI_at, uJ_at, uD_at, uR_at, List.take_succ_cons, List.take_zero, List.drop_succ_cons, List.drop_zero, List.reverse_cons, List.reverse_nil, List.nil_append, List.cons_append, List.map_cons, List.map_nil, List.sum_cons, List.sum_nil, List.length_cons, List.length_nil, Option.toList_some, Option.toList_none, true_and, and_true, false_and, and_false, true_implies, false_implies, implies_true, not_true_eq_false, not_false_eq_true, ne_eq, if_true, if_false, Bool.and_true, Bool.true_and, decide_true, decide_false, reduceIte, reduceCtorEq, Bool.and_self, Bool.and_eq_true, decide_eq_true_eq, and_self, true_or, or_true, false_or, or_false, Nat.zero_add, Nat.add_zero, eq_self, Nat.reduceEqDiff, Nat.reduceLeDiff, Nat.reduceLT, Nat.reduceAdd, Nat.reduceSub, Nat.reduceMul, LC_out hL, rI_at, h2, nI_leP (show t < 2147483648 by omega) (show t < 2147483648 by omega), Nat.le_refl, e98_75, B98_75]
    exact kk f w hw
  | tt + 1, t, f, w, ht, hw => by
    have ih := fun f' w' hw' => L98_17 hL hE hG hN hI hC hn h2 hb kk tt (t + 1) f' w' (by omega) hw'
    rw [e98_17]
    simp only [B98_17, xSeq, i_push, i_load, i_iload, i_lload, i_dload, i_aload, i_istore, i_astore, i_lstore, i_dstore, i_iinc, i_ii, i_iiz, i_ll, i_llz, i_lli, i_li, i_i, i_l, i_i2l, i_l2i, i_dup, i_dup2, i_dup2w, i_dupx1, i_pop, i_pop2, i_goto, i_ifc, i_icmp, i_getI, i_getL, i_getR, i_putI, i_putZ, i_putL, i_putR, i_aldI, i_aldB, i_aldL, i_aldD, i_astI, i_astL, i_astD, i_alen, i_ret, i_iret, i_zret, i_lret, i_fret, i_dret, i_aret, i_invS0, i_invV0, i_m2, i_m1, i_ml, i_obj, lk, lkp, stf1, stf2, Value.category, rV, xTo, lv_args, xCk, xCat, xRc, xAk, hg_S, hg_I, hg_J, hg_D, hg_R, hs_I, hs_J, hs_D, hs_R, uI_at, uJ_at, uD_at, uR_at, List.take_succ_cons, List.take_zero, List.drop_succ_cons, List.drop_zero, List.reverse_cons, List.reverse_nil, List.nil_append, List.cons_append, List.map_cons, List.map_nil, List.sum_cons, List.sum_nil, List.length_cons, List.length_nil, Option.toList_some, Option.toList_none, true_and, and_true, false_and, and_false, true_implies, false_implies, implies_true, not_true_eq_false, not_false_eq_true, ne_eq, if_true, if_false, Bool.and_true, Bool.true_and, decide_true, decide_false, reduceIte, reduceCtorEq, Bool.and_self, Bool.and_eq_true, decide_eq_true_eq, and_self, true_or, or_true, false_or, or_false, Nat.zero_add, Nat.add_zero, eq_self, Nat.reduceEqDiff, Nat.reduceLeDiff, Nat.reduceLT, Nat.reduceAdd, Nat.reduceSub, Nat.reduceMul, LC_out hL, rI_at, h2, nI_leP (show n < 2147483648 by omega) (show t < 2147483648 by omega), show (n ≤ t) = False from eq_false (by omega)]
    refine L99 (I := rI (rI I 152 f) 151 w) hL hE hG hN hI (CL_r (CL_r hC (by decide)) (by decide)) (show t < n by omega) hn (fun f' hf' => ?_)
    simp only [xSeq, i_push, i_load, i_iload, i_lload, i_dload, i_aload, i_istore, i_astore, i_lstore, i_dstore, i_iinc, i_ii, i_iiz, i_ll, i_llz, i_lli, i_li, i_i, i_l, i_i2l, i_l2i, i_dup, i_dup2, i_dup2w, i_dupx1, i_pop, i_pop2, i_goto, i_ifc, i_icmp, i_getI, i_getL, i_getR, i_putI, i_putZ, i_putL, i_putR, i_aldI, i_aldB, i_aldL, i_aldD, i_astI, i_astL, i_astD, i_alen, i_ret, i_iret, i_zret, i_lret, i_fret, i_dret, i_aret, i_invS0, i_invV0, i_m2, i_m1, i_ml, i_obj, lk, lkp, stf1, stf2, Value.category, rV, xTo, lv_args, xCk, xCat, xRc, xAk, hg_S, hg_I, hg_J, hg_D, hg_R, hs_I, hs_J, hs_D, hs_R, uI_at, uJ_at, uD_at, uR_at, List.take_succ_cons, List.take_zero, List.drop_succ_cons, List.drop_zero, List.reverse_cons, List.reverse_nil, List.nil_append, List.cons_append, List.map_cons, List.map_nil, List.sum_cons, List.sum_nil, List.length_cons, List.length_nil, Option.toList_some, Option.toList_none, true_and, and_true, false_and, and_false, true_implies, false_implies, implies_true, not_true_eq_false, not_false_eq_true, ne_eq, if_true, if_false, Bool.and_true, Bool.true_and, decide_true, decide_false, reduceIte, reduceCtorEq, Bool.and_self, Bool.and_eq_true, decide_eq_true_eq, and_self, true_or, or_true, false_or, or_false, Nat.zero_add, Nat.add_zero, eq_self, Nat.reduceEqDiff, Nat.reduceLeDiff, Nat.reduceLT, Nat.reduceAdd, Nat.reduceSub, Nat.reduceMul, q_1shl (show t < 31 by omega)]
    rw [rI_swap _ (by decide), rI_rI]
    have hf2 : ∀ j, j < 2 ^ t → f' j = dl (I 110 6) (I 111) fi se dg sb j t := hf'
    have h := L98_36 (I := I) (b := b) hL hE (show t < 16 by omega) (E := en (I 110 6) (I 111) n m fi se) (g := fun j => dl (I 110 6) (I 111) fi se dg sb j t) (fun j hj => by
      rw [← xor_hi hj]
      exact en_x hN _ _ j t (by omega)) hb hf2 (fun w' hw' => ih f' w' hw') (2 ^ t) 0 w (by omega) (fun j hj => hw j (by omega))
    exact h
theorem L98 (hL : LC S R) (hE : LE S R) (hG : GR n m fi se dg sb) (hN : GN n m fi se dg sb) (hI : GI n fi se dg sb) (hC : CL I n m fi se dg sb) (hn : n ≤ 16) (h2 : I 130 2 = nI n) (hb : ∀ j, -32768 ≤ (en (I 110 6) (I 111) n m fi se j).toInt ∧ (en (I 110 6) (I 111) n m fi se j).toInt ≤ 32767)
    (kk : ∀ f w, (∀ j, j < 2 ^ n → w j = en (I 110 6) (I 111) n m fi se j) → Q (.ok none) (S, rI (rI I 152 f) 151 w, J, D, R) b) :
    xRun xT 98 0 [(0, .ref 130)] [] (S, I, J, D, R) b Q := by
  have h74 : ∀ Q : xQ, xRun xT 74 0 [(0, .ref 110), (1, .long 0)] [] (S, I, J, D, R) (0, 0) Q = Q (.ok (some (.int (en (I 110 6) (I 111) n m fi se 0)))) (S, I, J, D, R) (0, 0) := fun Q => R74 (s := 0) hL hG hC (by decide) (Nat.two_pow_pos n)
  have e5 := q_short (hb 0).1 (hb 0).2
  have h := L98_17 (b := b) hL hE hG hN hI hC hn h2 hb kk n 0 (I 152) (up (I 151) 0 (en (I 110 6) (I 111) n m fi se 0)) (by omega) (fun j hj => by
    have e : j = 0 := by omega
    subst e
    rw [up_at, if_pos rfl])
  rw [e98_0]
  simp only [B98_0, xSeq, i_push, i_load, i_iload, i_lload, i_dload, i_aload, i_istore, i_astore, i_lstore, i_dstore, i_iinc, i_ii, i_iiz, i_ll, i_llz, i_lli, i_li, i_i, i_l, i_i2l, i_l2i, i_dup, i_dup2, i_dup2w, i_dupx1, i_pop, i_pop2, i_goto, i_ifc, i_icmp, i_getI, i_getL, i_getR, i_putI, i_putZ, i_putL, i_putR, i_aldI, i_aldB, i_aldL, i_aldD, i_astI, i_astL, i_astD, i_alen, i_ret, i_iret, i_zret, i_lret, i_fret, i_dret, i_aret, i_invS0, i_invV0, i_m2, i_m1, i_ml, i_obj, lk, lkp, stf1, stf2, Value.category, rV, xTo, lv_args, xCk, xCat, xRc, xAk, hg_S, hg_I, hg_J, hg_D, hg_R, hs_I, hs_J, hs_D, hs_R, uI_at, uJ_at, uD_at, uR_at, List.take_succ_cons, List.take_zero, List.drop_succ_cons, List.drop_zero, List.reverse_cons, List.reverse_nil, List.nil_append, List.cons_append, List.map_cons, List.map_nil, List.sum_cons, List.sum_nil, List.length_cons, List.length_nil, Option.toList_some, Option.toList_none, true_and, and_true, false_and, and_false, true_implies, false_implies, implies_true, not_true_eq_false, not_false_eq_true, ne_eq, if_true, if_false, Bool.and_true, Bool.true_and, decide_true, decide_false, reduceIte, reduceCtorEq, Bool.and_self, Bool.and_eq_true, decide_eq_true_eq, and_self, true_or, or_true, false_or, or_false, Nat.zero_add, Nat.add_zero, eq_self, Nat.reduceEqDiff, Nat.reduceLeDiff, Nat.reduceLT, Nat.reduceAdd, Nat.reduceSub, Nat.reduceMul, LC_out hL, LE_out hE, h74, xi0 (show 0 < 65536 by decide) (by decide), ix_0, e5.1, e5.2]
  rw [← uI_rI, rI_self, rI_self] at h
  simp only [nI_0] at h
  exact h
end
/-! ===== the bonds of a grid ===== -/
section
def bR (c e x : Nat) : Bool := decide (x + 1 < c) || !decide (e = 1)
def bD (r e y : Nat) : Bool := decide (y + 1 < r) || decide (e = 0)
def nR (c x : Nat) : Nat := if x + 1 < c then x + 1 else 0
def oR (c e s : Nat) : List (Nat × Nat) := if bR c e (s % c) = true then [(s, s / c * c + nR c (s % c))] else []
def oD (r c e s : Nat) : List (Nat × Nat) := if bD r e (s / c) = true then [(s, nR r (s / c) * c + s % c)] else []
/-- the bonds whose first sites are below s, by number -/
def bl (r c e : Nat) : Nat → List (Nat × Nat)
  | 0 => []
  | s + 1 => bl r c e s ++ oR c e s ++ oD r c e s
def fE (l : List (Nat × Nat)) (k : Nat) : Nat := (l.getD k (0, 0)).1
def sE (l : List (Nat × Nat)) (k : Nat) : Nat := (l.getD k (0, 0)).2
def iP (l : List (Nat × Nat)) (t k : Nat) : Bool := decide (fE l k = t) || decide (sE l k = t)
/-- the bonds of a site, by number -/
def ic (l : List (Nat × Nat)) (t : Nat) : List Nat := fl (iP l t) l.length
def dE (l : List (Nat × Nat)) (t : Nat) : Nat := (ic l t).length
def bE (l : List (Nat × Nat)) (t i : Nat) : Nat := (ic l t).getD i 0
theorem fl_congr {p q : Nat → Bool} : ∀ {k : Nat}, (∀ j, j < k → p j = q j) → fl p k = fl q k
  | 0, _ => rfl
  | k + 1, h => by rw [fl, fl, h k (Nat.lt_succ_self k), fl_congr (fun j hj => h j (Nat.lt_succ_of_lt hj))]
theorem getD_app1 {α : Type} (l : List α) (q d : α) {k : Nat} (h : k < l.length) : (l ++ [q]).getD k d = l.getD k d := by
  rw [List.getD_eq_getElem?_getD, List.getD_eq_getElem?_getD, List.getElem?_append_left h]
theorem getD_app2 {α : Type} (l : List α) (q d : α) : (l ++ [q]).getD l.length d = q := by
  rw [List.getD_eq_getElem?_getD, List.getElem?_append_right (Nat.le_refl _), Nat.sub_self]
  rfl
theorem ic_app (l : List (Nat × Nat)) (q : Nat × Nat) (t : Nat) : ic (l ++ [q]) t = if q.1 = t ∨ q.2 = t then ic l t ++ [l.length] else ic l t := by
  unfold ic
  rw [List.length_append, List.length_singleton, fl]
  have h1 : fl (iP (l ++ [q]) t) l.length = fl (iP l t) l.length := fl_congr (fun j hj => by
    unfold iP fE sE
    rw [getD_app1 l q _ hj])
  have h2 : iP (l ++ [q]) t l.length = (decide (q.1 = t) || decide (q.2 = t)) := by
    unfold iP fE sE
    rw [getD_app2]
  rw [h1, h2]
  by_cases h : q.1 = t ∨ q.2 = t
  · rw [if_pos h, if_pos (by simpa using h)]
  · rw [if_neg h, if_neg (by simpa using h)]
theorem sm_fl (p : Nat → Bool) (f : Nat → Int32) : ∀ k, sm (fun i => f ((fl p k).getD i 0)) (fl p k).length = sm (fun j => if p j = true then f j else 0) k
  | 0 => rfl
  | k + 1 => by
    rw [sm, ← sm_fl p f k, fl]
    by_cases h : p k = true
    · rw [if_pos h, if_pos h, List.length_append, List.length_singleton, sm, getD_app2]
      congr 1
      exact sm_congr (fun j hj => by rw [getD_app1 _ _ _ hj])
    · rw [if_neg h, if_neg h, Int32.add_zero]
/-- all that is asked of a grid's bonds, by computing -/
def gk (n : Nat) (l : List (Nat × Nat)) : Bool := decide (0 < n) && decide (n ≤ 64) && decide (l.length ≤ 128) && l.all (fun q => decide (q.1 < n) && decide (q.2 < n) && !decide (q.1 = q.2)) && (List.range n).all (fun t => decide ((ic l t).length ≤ 4))
theorem gk_at {l : List (Nat × Nat)} {p : Nat × Nat → Bool} (h : l.all p = true) {k : Nat} (hk : k < l.length) : p (l.getD k (0, 0)) = true := by
  rw [List.getD_eq_getElem?_getD, List.getElem?_eq_getElem hk]
  exact List.all_eq_true.mp h _ (List.getElem_mem hk)
theorem bE_mem {l : List (Nat × Nat)} {t i : Nat} (h : i < dE l t) : bE l t i < l.length ∧ iP l t (bE l t i) = true := by
  unfold bE
  unfold dE at h
  rw [List.getD_eq_getElem?_getD, List.getElem?_eq_getElem h]
  exact (fl_mem _ _ _).mp (List.getElem_mem h)
theorem gk_ok {n : Nat} {l : List (Nat × Nat)} (h : gk n l = true) : GR n l.length (fE l) (sE l) (dE l) (bE l) ∧ GN n l.length (fE l) (sE l) (dE l) (bE l) ∧ GI n (fE l) (sE l) (dE l) (bE l) := by
  unfold gk at h
  simp only [Bool.and_eq_true, decide_eq_true_eq] at h
  obtain ⟨⟨⟨⟨h0, h1⟩, h2⟩, h3⟩, h4⟩ := h
  have hq : ∀ k, k < l.length → fE l k < n ∧ sE l k < n ∧ fE l k ≠ sE l k := fun k hk => by
    have := gk_at h3 hk
    simp only [Bool.and_eq_true, decide_eq_true_eq, Bool.not_eq_true', decide_eq_false_iff_not] at this
    exact ⟨this.1.1, this.1.2, this.2⟩
  refine ⟨⟨h0, h1, h2, fun k hk => (hq k hk).1, fun k hk => (hq k hk).2.1, fun s hs => ?_, fun s i _ hi => (bE_mem hi).1⟩, ⟨fun k hk => (hq k hk).2.2, fun t _ f => ?_⟩, fun t _ i hi => ?_⟩
  · have := List.all_eq_true.mp h4 s (List.mem_range.mpr hs)
    exact of_decide_eq_true this
  · unfold dE bE ic
    rw [sm_fl]
    refine sm_congr (fun k _ => ?_)
    unfold iP
    by_cases h : fE l k = t ∨ sE l k = t
    · rw [if_pos h, if_pos (by simpa using h)]
    · rw [if_neg h, if_neg (by simpa using h)]
  · have := (bE_mem hi).2
    unfold iP at this
    simpa using this
end
/-! ===== the lab's lattice is built ===== -/
section
/-- the lattice holds the bonds l of n sites -/
def HB (I : xI) (n : Nat) (l : List (Nat × Nat)) : Prop := I 102 3 = nI l.length ∧ (∀ k, k < l.length → I 103 k = nI (fE l k)) ∧ (∀ k, k < l.length → I 104 k = nI (sE l k)) ∧ (∀ t, t < n → I 107 t = nI (dE l t)) ∧ ∀ t i, t < n → i < dE l t → I 108 (t * 4 + i) = nI (bE l t i)
/-- what building may change -/
abbrev bO (o k : Nat) : Prop := (o = 102 ∧ k = 3) ∨ o = 103 ∨ o = 104 ∨ o = 105 ∨ o = 106 ∨ o = 107 ∨ o = 108
def aB (I : xI) (f s k df ds : Nat) : xI := uI (uI (uI (uI (uI (uI (uI I 103 k (nI f)) 104 k (nI s)) 102 3 (nI (k + 1))) 108 (f * 4 + df) (nI k)) 107 f (nI (df + 1))) 108 (s * 4 + ds) (nI k)) 107 s (nI (ds + 1))
theorem aB_fr {I : xI} {f s k df ds o j : Nat} (h : ¬ bO o j) : aB I f s k df ds o j = I o j := by
  unfold bO at h
  unfold aB
  simp only [uI_at]
  rw [if_neg (by omega), if_neg (by omega), if_neg (by omega), if_neg (by omega), if_neg (by omega), if_neg (by omega), if_neg (by omega)]
theorem dE_app (l : List (Nat × Nat)) (f s t : Nat) : dE (l ++ [(f, s)]) t = if f = t ∨ s = t then dE l t + 1 else dE l t := by
  unfold dE
  rw [ic_app]
  split
  · rw [List.length_append, List.length_singleton]
  · rfl
theorem bE_app1 (l : List (Nat × Nat)) (f s t : Nat) {i : Nat} (h : i < dE l t) : bE (l ++ [(f, s)]) t i = bE l t i := by
  unfold bE
  rw [ic_app]
  split
  · exact getD_app1 _ _ _ h
  · rfl
theorem bE_app2 (l : List (Nat × Nat)) (f s t : Nat) (h : f = t ∨ s = t) : bE (l ++ [(f, s)]) t (dE l t) = l.length := by
  unfold bE
  rw [ic_app, if_pos h]
  exact getD_app2 _ _ _
theorem HB_add {I : xI} {n : Nat} {l : List (Nat × Nat)} {f s : Nat} (h : HB I n l) (hne : f ≠ s) (hf : f < n) (hs : s < n) (h4 : ∀ t, t < n → dE (l ++ [(f, s)]) t ≤ 4) : HB (aB I f s l.length (dE l f) (dE l s)) n (l ++ [(f, s)]) := by
  obtain ⟨h1, h2, h3, h5, h6⟩ := h
  have hdf := dE_app l f s f
  have hds := dE_app l f s s
  rw [if_pos (Or.inl rfl)] at hdf
  rw [if_pos (Or.inr rfl)] at hds
  have hf4 := h4 f hf
  have hs4 := h4 s hs
  unfold aB
  refine ⟨?_, fun k hk => ?_, fun k hk => ?_, fun t ht => ?_, fun t i ht hi => ?_⟩
  · simp only [uI_at, true_and, and_true, false_and, and_false, true_implies, false_implies, implies_true, not_true_eq_false, not_false_eq_true, ne_eq, if_true, if_false, Bool.and_true, Bool.true_and, decide_true, decide_false, reduceIte, reduceCtorEq, Bool.and_self, Bool.and_eq_true, decide_eq_true_eq, and_self, true_or, or_true, false_or, or_false, Nat.zero_add, Nat.add_zero, eq_self, Nat.reduceEqDiff, Nat.reduceLeDiff, Nat.reduceLT, Nat.reduceAdd, Nat.reduceSub, Nat.reduceMul, List.length_append, List.length_singleton]
  · rw [List.length_append, List.length_singleton] at hk
    simp only [uI_at, true_and, and_true, false_and, and_false, true_implies, false_implies, implies_true, not_true_eq_false, not_false_eq_true, ne_eq, if_true, if_false, Bool.and_true, Bool.true_and, decide_true, decide_false, reduceIte, reduceCtorEq, Bool.and_self, Bool.and_eq_true, decide_eq_true_eq, and_self, true_or, or_true, false_or, or_false, Nat.zero_add, Nat.add_zero, eq_self, Nat.reduceEqDiff, Nat.reduceLeDiff, Nat.reduceLT, Nat.reduceAdd, Nat.reduceSub, Nat.reduceMul]
    unfold fE
    by_cases e : k = l.length
    · rw [if_pos e, e, getD_app2]
    · rw [if_neg e, getD_app1 _ _ _ (by omega)]
      exact h2 k (by omega)
  · rw [List.length_append, List.length_singleton] at hk
    simp only [uI_at, true_and, and_true, false_and, and_false, true_implies, false_implies, implies_true, not_true_eq_false, not_false_eq_true, ne_eq, if_true, if_false, Bool.and_true, Bool.true_and, decide_true, decide_false, reduceIte, reduceCtorEq, Bool.and_self, Bool.and_eq_true, decide_eq_true_eq, and_self, true_or, or_true, false_or, or_false, Nat.zero_add, Nat.add_zero, eq_self, Nat.reduceEqDiff, Nat.reduceLeDiff, Nat.reduceLT, Nat.reduceAdd, Nat.reduceSub, Nat.reduceMul]
    unfold sE
    by_cases e : k = l.length
    · rw [if_pos e, e, getD_app2]
    · rw [if_neg e, getD_app1 _ _ _ (by omega)]
      exact h3 k (by omega)
  · simp only [uI_at, true_and, and_true, false_and, and_false, true_implies, false_implies, implies_true, not_true_eq_false, not_false_eq_true, ne_eq, if_true, if_false, Bool.and_true, Bool.true_and, decide_true, decide_false, reduceIte, reduceCtorEq, Bool.and_self, Bool.and_eq_true, decide_eq_true_eq, and_self, true_or, or_true, false_or, or_false, Nat.zero_add, Nat.add_zero, eq_self, Nat.reduceEqDiff, Nat.reduceLeDiff, Nat.reduceLT, Nat.reduceAdd, Nat.reduceSub, Nat.reduceMul]
    rw [dE_app]
    by_cases e : t = s
    · rw [if_pos e, if_pos (Or.inr e.symm), e]
    · rw [if_neg e]
      by_cases e2 : t = f
      · rw [if_pos e2, if_pos (Or.inl e2.symm), e2]
      · rw [if_neg e2, if_neg (fun h => h.elim (fun h => e2 h.symm) (fun h => e h.symm))]
        exact h5 t ht
  · have ht4 := h4 t ht
    have hd := dE_app l f s t
    simp only [uI_at, true_and, and_true, false_and, and_false, true_implies, false_implies, implies_true, not_true_eq_false, not_false_eq_true, ne_eq, if_true, if_false, Bool.and_true, Bool.true_and, decide_true, decide_false, reduceIte, reduceCtorEq, Bool.and_self, Bool.and_eq_true, decide_eq_true_eq, and_self, true_or, or_true, false_or, or_false, Nat.zero_add, Nat.add_zero, eq_self, Nat.reduceEqDiff, Nat.reduceLeDiff, Nat.reduceLT, Nat.reduceAdd, Nat.reduceSub, Nat.reduceMul]
    by_cases e : t = s
    · subst e
      rw [if_pos (Or.inr rfl)] at hd
      by_cases e2 : i = dE l t
      · subst e2
        rw [if_pos rfl, bE_app2 _ _ _ _ (Or.inr rfl)]
      · rw [if_neg (by omega), if_neg (by omega), bE_app1 _ _ _ _ (by omega)]
        exact h6 t i ht (by omega)
    · by_cases e3 : t = f
      · subst e3
        rw [if_pos (Or.inl rfl)] at hd
        by_cases e2 : i = dE l t
        · subst e2
          rw [if_neg (by omega), if_pos rfl, bE_app2 _ _ _ _ (Or.inl rfl)]
        · rw [if_neg (by omega), if_neg (by omega), bE_app1 _ _ _ _ (by omega)]
          exact h6 t i ht (by omega)
      · rw [if_neg (by omega)] at hd
        rw [if_neg (by omega), if_neg (by omega), bE_app1 _ _ _ _ (by omega)]
        exact h6 t i ht (by omega)
variable {S : xS} {I : xI} {J : xJ} {D : xDb} {R : xR} {b : Nat × Nat} {Q : xQ} {n : Nat}
theorem R50 (hL : LC S R) (h2 : I 102 2 = nI n) (hn : n ≤ 64) {s d : Nat} (hs : s < n) (hd : I 107 s = nI d) (h4 : d < 4) {v : Int32} : xRun xT 50 0 [(0, .ref 102), (1, .int (nI s)), (2, .int v)] [] (S, I, J, D, R) b Q = Q (.ok none) (S, uI (uI I 108 (s * 4 + d) v) 107 s (nI (d + 1)), J, D, R) b := by
  have e4 : (4 : Int32) = nI 4 := rfl
  rw [e50_0]
  simp only [B50_0, xSeq, i_push, i_load, i_iload, i_lload, i_dload, i_aload, i_istore, i_astore, i_lstore, i_dstore, i_iinc, i_ii, i_iiz, i_ll, i_llz, i_lli, i_li, i_i, i_l, i_i2l, i_l2i, i_dup, i_dup2, i_dup2w, i_dupx1, i_pop, i_pop2, i_goto, i_ifc, i_icmp, i_getI, i_getL, i_getR, i_putI, i_putZ, i_putL, i_putR, i_aldI, i_aldB, i_aldL, i_aldD, i_astI, i_astL, i_astD, i_alen, i_ret, i_iret, i_zret, i_lret, i_fret, i_dret, i_aret, i_invS0, i_invV0, i_m2, i_m1, i_ml, i_obj, lk, lkp, stf1, stf2, Value.category, rV, xTo, lv_args, xCk, xCat, xRc, xAk, hg_S, hg_I, hg_J, hg_D, hg_R, hs_I, hs_J, hs_D, hs_R, uI_at, uJ_at, uD_at, uR_at, List.take_succ_cons, List.take_zero, List.drop_succ_cons, List.drop_zero, List.reverse_cons, List.reverse_nil, List.nil_append, List.cons_append, List.map_cons, List.map_nil, List.sum_cons, List.sum_nil, List.length_cons, List.length_nil, Option.toList_some, Option.toList_none, true_and, and_true, false_and, and_false, true_implies, false_implies, implies_true, not_true_eq_false, not_false_eq_true, ne_eq, if_true, if_false, Bool.and_true, Bool.true_and, decide_true, decide_false, reduceIte, reduceCtorEq, Bool.and_self, Bool.and_eq_true, decide_eq_true_eq, and_self, true_or, or_true, false_or, or_false, Nat.zero_add, Nat.add_zero, eq_self, Nat.reduceEqDiff, Nat.reduceLeDiff, Nat.reduceLT, Nat.reduceAdd, Nat.reduceSub, Nat.reduceMul, LC_out hL, nI_0P (show s < 2147483648 by omega), h2, nI_leP (show n < 2147483648 by omega) (show s < 2147483648 by omega), show (n ≤ s) = False from eq_false (by omega), nI_inP (show s < 64 by omega) (by decide), nI_ix (show s < 2147483648 by omega), hd, show ((4 : Int32) ≤ nI d) = False from eq_false (by rw [e4]; exact nI_ge h4 (by decide)), nI_m4, nI_add, nI_inP (show s * 4 + d < 256 by omega) (by decide), nI_ix (show s * 4 + d < 2147483648 by omega), e50_48, B50_48, nI_1]
theorem R49 (hL : LC S R) (h2 : I 102 2 = nI n) (hn : n ≤ 64) {f s k df ds : Nat} (hf : f < n) (hs : s < n) (hne : f ≠ s) (h3 : I 102 3 = nI k) (hk : k < 128) (h7 : I 107 f = nI df) (h8 : I 107 s = nI ds) (h4 : df < 4) (h5 : ds < 4) :
    xRun xT 49 0 [(0, .ref 102), (1, .int (nI f)), (2, .int (nI s))] [] (S, I, J, D, R) b Q = Q (.ok (some (.int (nI k)))) (S, aB I f s k df ds, J, D, R) b := by
  have e128 : (nI k < 128) = True := eq_true (by rw [show (128 : Int32) = nI 128 from rfl]; exact nI_lt hk (by decide))
  rw [e49_0]
  simp only [B49_0, xSeq, i_push, i_load, i_iload, i_lload, i_dload, i_aload, i_istore, i_astore, i_lstore, i_dstore, i_iinc, i_ii, i_iiz, i_ll, i_llz, i_lli, i_li, i_i, i_l, i_i2l, i_l2i, i_dup, i_dup2, i_dup2w, i_dupx1, i_pop, i_pop2, i_goto, i_ifc, i_icmp, i_getI, i_getL, i_getR, i_putI, i_putZ, i_putL, i_putR, i_aldI, i_aldB, i_aldL, i_aldD, i_astI, i_astL, i_astD, i_alen, i_ret, i_iret, i_zret, i_lret, i_fret, i_dret, i_aret, i_invS0, i_invV0, i_m2, i_m1, i_ml, i_obj, lk, lkp, stf1, stf2, Value.category, rV, xTo, lv_args, xCk, xCat, xRc, xAk, hg_S, hg_I, hg_J, hg_D, hg_R, hs_I, hs_J, hs_D, hs_R, uI_at, uJ_at, uD_at, uR_at, List.take_succ_cons, List.take_zero, List.drop_succ_cons, List.drop_zero, List.reverse_cons, List.reverse_nil, List.nil_append, List.cons_append, List.map_cons, List.map_nil, List.sum_cons, List.sum_nil, List.length_cons, List.length_nil, Option.toList_some, Option.toList_none, true_and, and_true, false_and, and_false, true_implies, false_implies, implies_true, not_true_eq_false, not_false_eq_true, ne_eq, if_true, if_false, Bool.and_true, Bool.true_and, decide_true, decide_false, reduceIte, reduceCtorEq, Bool.and_self, Bool.and_eq_true, decide_eq_true_eq, and_self, true_or, or_true, false_or, or_false, Nat.zero_add, Nat.add_zero, eq_self, Nat.reduceEqDiff, Nat.reduceLeDiff, Nat.reduceLT, Nat.reduceAdd, Nat.reduceSub, Nat.reduceMul, LC_out hL, h3, e128, e49_12, B49_12, nI_inP hk (by decide), nI_ix (show k < 2147483648 by omega), nI_1]
  rw [R50 (n := n) (d := df) hL (by simp [uI_at, h2]) hn hf (by simp [uI_at, h7]) h4]
  simp only [xSeq, i_push, i_load, i_iload, i_lload, i_dload, i_aload, i_istore, i_astore, i_lstore, i_dstore, i_iinc, i_ii, i_iiz, i_ll, i_llz, i_lli, i_li, i_i, i_l, i_i2l, i_l2i, i_dup, i_dup2, i_dup2w, i_dupx1, i_pop, i_pop2, i_goto, i_ifc, i_icmp, i_getI, i_getL, i_getR, i_putI, i_putZ, i_putL, i_putR, i_aldI, i_aldB, i_aldL, i_aldD, i_astI, i_astL, i_astD, i_alen, i_ret, i_iret, i_zret, i_lret, i_fret, i_dret, i_aret, i_invS0, i_invV0, i_m2, i_m1, i_ml, i_obj, lk, lkp, stf1, stf2, Value.category, rV, xTo, lv_args, xCk, xCat, xRc, xAk, hg_S, hg_I, hg_J, hg_D, hg_R, hs_I, hs_J, hs_D, hs_R, uI_at, uJ_at, uD_at, uR_at, List.take_succ_cons, List.take_zero, List.drop_succ_cons, List.drop_zero, List.reverse_cons, List.reverse_nil, List.nil_append, List.cons_append, List.map_cons, List.map_nil, List.sum_cons, List.sum_nil, List.length_cons, List.length_nil, Option.toList_some, Option.toList_none, true_and, and_true, false_and, and_false, true_implies, false_implies, implies_true, not_true_eq_false, not_false_eq_true, ne_eq, if_true, if_false, Bool.and_true, Bool.true_and, decide_true, decide_false, reduceIte, reduceCtorEq, Bool.and_self, Bool.and_eq_true, decide_eq_true_eq, and_self, true_or, or_true, false_or, or_false, Nat.zero_add, Nat.add_zero, eq_self, Nat.reduceEqDiff, Nat.reduceLeDiff, Nat.reduceLT, Nat.reduceAdd, Nat.reduceSub, Nat.reduceMul, LC_out hL]
  rw [R50 (n := n) (d := ds) hL (by simp [uI_at, h2]) hn hs (by simp [uI_at, h8, Ne.symm hne]) h5]
  simp only [xSeq, i_push, i_load, i_iload, i_lload, i_dload, i_aload, i_istore, i_astore, i_lstore, i_dstore, i_iinc, i_ii, i_iiz, i_ll, i_llz, i_lli, i_li, i_i, i_l, i_i2l, i_l2i, i_dup, i_dup2, i_dup2w, i_dupx1, i_pop, i_pop2, i_goto, i_ifc, i_icmp, i_getI, i_getL, i_getR, i_putI, i_putZ, i_putL, i_putR, i_aldI, i_aldB, i_aldL, i_aldD, i_astI, i_astL, i_astD, i_alen, i_ret, i_iret, i_zret, i_lret, i_fret, i_dret, i_aret, i_invS0, i_invV0, i_m2, i_m1, i_ml, i_obj, lk, lkp, stf1, stf2, Value.category, rV, xTo, lv_args, xCk, xCat, xRc, xAk, hg_S, hg_I, hg_J, hg_D, hg_R, hs_I, hs_J, hs_D, hs_R, uI_at, uJ_at, uD_at, uR_at, List.take_succ_cons, List.take_zero, List.drop_succ_cons, List.drop_zero, List.reverse_cons, List.reverse_nil, List.nil_append, List.cons_append, List.map_cons, List.map_nil, List.sum_cons, List.sum_nil, List.length_cons, List.length_nil, Option.toList_some, Option.toList_none, true_and, and_true, false_and, and_false, true_implies, false_implies, implies_true, not_true_eq_false, not_false_eq_true, ne_eq, if_true, if_false, Bool.and_true, Bool.true_and, decide_true, decide_false, reduceIte, reduceCtorEq, Bool.and_self, Bool.and_eq_true, decide_eq_true_eq, and_self, true_or, or_true, false_or, or_false, Nat.zero_add, Nat.add_zero, eq_self, Nat.reduceEqDiff, Nat.reduceLeDiff, Nat.reduceLT, Nat.reduceAdd, Nat.reduceSub, Nat.reduceMul, LC_out hL]
  rfl
end
section
variable {S : xS} {I : xI} {J : xJ} {D : xDb} {R : xR} {b : Nat × Nat} {Q : xQ} {n : Nat}
theorem nI_leC {a : Nat} {c : Int32} {d : Nat} (hc : c = nI d) (ha : a < 2147483648) (hd : d < 2147483648) : (nI a ≤ c) = (a ≤ d) := by rw [hc, nI_leP ha hd]
theorem R43 {su c e x : Nat} (hS : S su = (5, 0)) (hc : I su 1 = nI c) (he : I su 2 = nI e) (hx : x < 64) (hc2 : c < 64) (he2 : e < 3) : xRun xT 43 0 [(0, .ref su), (1, .int (nI x))] [] (S, I, J, D, R) b Q = Q (.ok (some (.int (if bR c e x = true then 1 else 0)))) (S, I, J, D, R) b := by
  have e1 : (nI e = 1) = (e = 1) := by rw [show (1 : Int32) = nI 1 from rfl, nI_iff (by omega) (by omega)]
  rw [e43_0]
  simp only [B43_0, xSeq, i_push, i_load, i_iload, i_lload, i_dload, i_aload, i_istore, i_astore, i_lstore, i_dstore, i_iinc, i_ii, i_iiz, i_ll, i_llz, i_lli, i_li, i_i, i_l, i_i2l, i_l2i, i_dup, i_dup2, i_dup2w, i_dupx1, i_pop, i_pop2, i_goto, i_ifc, i_icmp, i_getI, i_getL, i_getR, i_putI, i_putZ, i_putL, i_putR, i_aldI, i_aldB, i_aldL, i_aldD, i_astI, i_astL, i_astD, i_alen, i_ret, i_iret, i_zret, i_lret, i_fret, i_dret, i_aret, i_invS0, i_invV0, i_m2, i_m1, i_ml, i_obj, lk, lkp, stf1, stf2, Value.category, rV, xTo, lv_args, xCk, xCat, xRc, xAk, hg_S, hg_I, hg_J, hg_D, hg_R, hs_I, hs_J, hs_D, hs_R, uI_at, uJ_at, uD_at, uR_at, List.take_succ_cons, List.take_zero, List.drop_succ_cons, List.drop_zero, List.reverse_cons, List.reverse_nil, List.nil_append, List.cons_append, List.map_cons, List.map_nil, List.sum_cons, List.sum_nil, List.length_cons, List.length_nil, Option.toList_some, Option.toList_none, true_and, and_true, false_and, and_false, true_implies, false_implies, implies_true, not_true_eq_false, not_false_eq_true, ne_eq, if_true, if_false, Bool.and_true, Bool.true_and, decide_true, decide_false, reduceIte, reduceCtorEq, Bool.and_self, Bool.and_eq_true, decide_eq_true_eq, and_self, true_or, or_true, false_or, or_false, Nat.zero_add, Nat.add_zero, eq_self, Nat.reduceEqDiff, Nat.reduceLeDiff, Nat.reduceLT, Nat.reduceAdd, Nat.reduceSub, Nat.reduceMul, hS, hc, he, nI_1, nI_ltP (show x + 1 < 2147483648 by omega) (show c < 2147483648 by omega), e1, e43_18, B43_18, e43_22, B43_22, e43_23, B43_23, bR]
  by_cases h1 : x + 1 < c
  · simp [h1]
  · by_cases h2 : e = 1 <;> simp [h1, h2]
theorem R44 {su r e y : Nat} (hS : S su = (5, 0)) (hc : I su 0 = nI r) (he : I su 2 = nI e) (hx : y < 64) (hc2 : r < 64) (he2 : e < 3) : xRun xT 44 0 [(0, .ref su), (1, .int (nI y))] [] (S, I, J, D, R) b Q = Q (.ok (some (.int (if bD r e y = true then 1 else 0)))) (S, I, J, D, R) b := by
  have e1 : (nI e = 0) = (e = 0) := by rw [show (0 : Int32) = nI 0 from rfl, nI_iff (by omega) (by omega)]
  rw [e44_0]
  simp only [B44_0, xSeq, i_push, i_load, i_iload, i_lload, i_dload, i_aload, i_istore, i_astore, i_lstore, i_dstore, i_iinc, i_ii, i_iiz, i_ll, i_llz, i_lli, i_li, i_i, i_l, i_i2l, i_l2i, i_dup, i_dup2, i_dup2w, i_dupx1, i_pop, i_pop2, i_goto, i_ifc, i_icmp, i_getI, i_getL, i_getR, i_putI, i_putZ, i_putL, i_putR, i_aldI, i_aldB, i_aldL, i_aldD, i_astI, i_astL, i_astD, i_alen, i_ret, i_iret, i_zret, i_lret, i_fret, i_dret, i_aret, i_invS0, i_invV0, i_m2, i_m1, i_ml, i_obj, lk, lkp, stf1, stf2, Value.category, rV, xTo, lv_args, xCk, xCat, xRc, xAk, hg_S, hg_I, hg_J, hg_D, hg_R, hs_I, hs_J, hs_D, hs_R, uI_at, uJ_at, uD_at, uR_at, List.take_succ_cons, List.take_zero, List.drop_succ_cons, List.drop_zero, List.reverse_cons, List.reverse_nil, List.nil_append, List.cons_append, List.map_cons, List.map_nil, List.sum_cons, List.sum_nil, List.length_cons, List.length_nil, Option.toList_some, Option.toList_none, true_and, and_true, false_and, and_false, true_implies, false_implies, implies_true, not_true_eq_false, not_false_eq_true, ne_eq, if_true, if_false, Bool.and_true, Bool.true_and, decide_true, decide_false, reduceIte, reduceCtorEq, Bool.and_self, Bool.and_eq_true, decide_eq_true_eq, and_self, true_or, or_true, false_or, or_false, Nat.zero_add, Nat.add_zero, eq_self, Nat.reduceEqDiff, Nat.reduceLeDiff, Nat.reduceLT, Nat.reduceAdd, Nat.reduceSub, Nat.reduceMul, hS, hc, he, nI_1, nI_ltP (show y + 1 < 2147483648 by omega) (show r < 2147483648 by omega), e1, e44_17, B44_17, e44_21, B44_21, e44_22, B44_22, bD]
  by_cases h1 : y + 1 < r
  · simp [h1]
  · by_cases h2 : e = 0 <;> simp [h1, h2]
/-- what setup texts ask for: rows, columns, edge -/
def KS (S : xS) (I : xI) (su r c e : Nat) : Prop := S su = (5, 0) ∧ I su 0 = nI r ∧ I su 1 = nI c ∧ I su 2 = nI e ∧ 2 ≤ r ∧ r ≤ 8 ∧ 2 ≤ c ∧ c ≤ 8 ∧ e < 3 ∧ ∀ k, ¬ bO su k
theorem KS_fr {S : xS} {I I' : xI} {su r c e : Nat} (h : KS S I su r c e) (hf : ∀ o k, ¬ bO o k → I' o k = I o k) : KS S I' su r c e := by
  obtain ⟨h1, h2, h3, h4, h5, h6, h7, h8, h9, h10⟩ := h
  exact ⟨h1, by rw [hf _ _ (h10 _)]; exact h2, by rw [hf _ _ (h10 _)]; exact h3, by rw [hf _ _ (h10 _)]; exact h4, h5, h6, h7, h8, h9, h10⟩
/-- which bond leads right, which down -/
def PB (I : xI) (r c e s : Nat) : Prop := ∀ t, t < s → I 105 t = (if bR c e (t % c) = true then nI (bl r c e t).length else -1) ∧ I 106 t = (if bD r e (t / c) = true then nI (bl r c e t ++ oR c e t).length else -1)
theorem bl_len {r c e : Nat} : ∀ {s n : Nat}, s ≤ n → (bl r c e s).length ≤ (bl r c e n).length := by
  intro s n h
  induction n with
  | zero => rw [Nat.le_zero.mp h]; exact Nat.le_refl _
  | succ n ih =>
    by_cases e2 : s = n + 1
    · rw [e2]; exact Nat.le_refl _
    · have := ih (by omega)
      rw [bl, List.length_append, List.length_append]
      omega
theorem bl_pre {r c e : Nat} : ∀ {s n : Nat}, s ≤ n → ∃ l, bl r c e n = bl r c e s ++ l := by
  intro s n h
  induction n with
  | zero => rw [Nat.le_zero.mp h]; exact ⟨[], by rw [List.append_nil]⟩
  | succ n ih =>
    by_cases e2 : s = n + 1
    · rw [e2]; exact ⟨[], by rw [List.append_nil]⟩
    · obtain ⟨l, hl⟩ := ih (by omega)
      exact ⟨l ++ oR c e n ++ oD r c e n, by rw [bl, hl, List.append_assoc, List.append_assoc, List.append_assoc]⟩
theorem dE_mono (l : List (Nat × Nat)) (t : Nat) : ∀ l' : List (Nat × Nat), dE l t ≤ dE (l ++ l') t := by
  intro l'
  induction l' generalizing l with
  | nil => rw [List.append_nil]; exact Nat.le_refl _
  | cons q r ih =>
    have h1 := ih (l ++ [q])
    have h2 := dE_app l q.1 q.2 t
    rw [List.append_assoc, List.singleton_append] at h1
    have h3 : dE l t ≤ dE (l ++ [q]) t := by
      rw [show q = (q.1, q.2) from rfl, h2]
      split <;> omega
    omega
end
/-! ===== the lab's lattice is built: site by site ===== -/
section
theorem gk_q {n : Nat} {l : List (Nat × Nat)} (h : gk n l = true) : (0 < n ∧ n ≤ 64 ∧ l.length ≤ 128) ∧ (∀ q, q ∈ l → q.1 < n ∧ q.2 < n ∧ q.1 ≠ q.2) ∧ ∀ t, t < n → dE l t ≤ 4 := by
  unfold gk at h
  simp only [Bool.and_eq_true, decide_eq_true_eq] at h
  obtain ⟨⟨⟨⟨h0, h1⟩, h2⟩, h3⟩, h4⟩ := h
  refine ⟨⟨h0, h1, h2⟩, fun q hq => ?_, fun t ht => ?_⟩
  · have := List.all_eq_true.mp h3 q hq
    simp only [Bool.and_eq_true, decide_eq_true_eq, Bool.not_eq_true', decide_eq_false_iff_not] at this
    exact ⟨this.1.1, this.1.2, this.2⟩
  · have := List.all_eq_true.mp h4 t (List.mem_range.mpr ht)
    exact of_decide_eq_true this
/-- one bond more, still within a good grid -/
theorem gk_one {n f s : Nat} {l l' L : List (Nat × Nat)} (h : gk n L = true) (e : L = l ++ [(f, s)] ++ l') : f < n ∧ s < n ∧ f ≠ s ∧ l.length < 128 ∧ (∀ t, t < n → dE (l ++ [(f, s)]) t ≤ 4) ∧ dE l f < 4 ∧ dE l s < 4 := by
  obtain ⟨⟨h0, h1, h2⟩, h3, h4⟩ := gk_q h
  have hq := h3 (f, s) (by rw [e]; simp)
  have hd : ∀ t, t < n → dE (l ++ [(f, s)]) t ≤ 4 := fun t ht => by
    have := h4 t ht
    rw [e] at this
    exact Nat.le_trans (dE_mono _ t l') this
  have hl : l.length < 128 := by
    rw [e] at h2
    simp only [List.length_append, List.length_singleton] at h2
    omega
  have df := hd f hq.1
  have ds := hd s hq.2.1
  rw [dE_app, if_pos (Or.inl rfl)] at df
  rw [dE_app, if_pos (Or.inr rfl)] at ds
  exact ⟨hq.1, hq.2.1, hq.2.2, hl, hd, by omega, by omega⟩
variable {S : xS} {I : xI} {J : xJ} {D : xDb} {R : xR} {b : Nat × Nat} {Q : xQ} {n : Nat}
theorem KS_bound {su r c e : Nat} (h : KS S I su r c e) : 2 ≤ r ∧ r ≤ 8 ∧ 2 ≤ c ∧ c ≤ 8 ∧ e < 3 := ⟨h.2.2.2.2.1, h.2.2.2.2.2.1, h.2.2.2.2.2.2.1, h.2.2.2.2.2.2.2.1, h.2.2.2.2.2.2.2.2.1⟩
theorem L48_87 {su r c e s : Nat} (hL : LC S R) (hK : KS S I su r c e) (h0 : I 102 0 = nI r) (h1 : I 102 1 = nI c) (h2 : I 102 2 = nI n) (hn : n = r * c) (hs : s < n) (hg : gk n (bl r c e n) = true)
    (hB : HB I n (bl r c e s ++ oR c e s)) (hP : PB I r c e s) (hr : I 105 s = (if bR c e (s % c) = true then nI (bl r c e s).length else -1)) (hd : I 106 s = -1)
    (kk : ∀ I', HB I' n (bl r c e (s + 1)) → PB I' r c e (s + 1) → (∀ o k, ¬ bO o k → I' o k = I o k) → Q (.ok none) (S, I', J, D, R) b) :
    xRun xT 48 87 [(0, .ref 102), (1, .int (nI s)), (2, .ref su), (4, .int (nI (s / c))), (5, .int (nI (s % c)))] [] (S, I, J, D, R) b Q := by
  obtain ⟨k1, k2, k3, k4, k5⟩ := KS_bound hK
  obtain ⟨l0, hl0⟩ := bl_pre (r := r) (c := c) (e := e) (show s + 1 ≤ n by omega)
  have hn64 : n ≤ 64 := (gk_q hg).1.2.1
  have hrow : s / c < r := by
    rw [Nat.div_lt_iff_lt_mul (by omega)]
    rw [hn] at hs
    exact hs
  have hcol : s % c < c := Nat.mod_lt _ (by omega)
  have e1 : s / c + 1 < 64 := by omega
  rw [e48_87]
  simp only [B48_87, xSeq, i_push, i_load, i_iload, i_lload, i_dload, i_aload, i_istore, i_astore, i_lstore, i_dstore, i_iinc, i_ii, i_iiz, i_ll, i_llz, i_lli, i_li, i_i, i_l, i_i2l, i_l2i, i_dup, i_dup2, i_dup2w, i_dupx1, i_pop, i_pop2, i_goto, i_ifc, i_icmp, i_getI, i_getL, i_getR, i_putI, i_putZ, i_putL, i_putR, i_aldI, i_aldB, i_aldL, i_aldD, i_astI, i_astL, i_astD, i_alen, i_ret, i_iret, i_zret, i_lret, i_fret, i_dret, i_aret, i_invS0, i_invV0, i_m2, i_m1, i_ml, i_obj, lk, lkp, stf1, stf2, Value.category, rV, xTo, lv_args, xCk, xCat, xRc, xAk, hg_S, hg_I, hg_J, hg_D, hg_R, hs_I, hs_J, hs_D, hs_R, uI_at, uJ_at, uD_at, uR_at, List.take_succ_cons, List.take_zero, List.drop_succ_cons, List.drop_zero, List.reverse_cons, List.reverse_nil, List.nil_append, List.cons_append, List.map_cons, List.map_nil, List.sum_cons, List.sum_nil, List.length_cons, List.length_nil, Option.toList_some, Option.toList_none, true_and, and_true, false_and, and_false, true_implies, false_implies, implies_true, not_true_eq_false, not_false_eq_true, ne_eq, if_true, if_false, Bool.and_true, Bool.true_and, decide_true, decide_false, reduceIte, reduceCtorEq, Bool.and_self, Bool.and_eq_true, decide_eq_true_eq, and_self, true_or, or_true, false_or, or_false, Nat.zero_add, Nat.add_zero, eq_self, Nat.reduceEqDiff, Nat.reduceLeDiff, Nat.reduceLT, Nat.reduceAdd, Nat.reduceSub, Nat.reduceMul, LC_out hL, hK.1, R44 (R := R) hK.1 hK.2.1 hK.2.2.2.1 (show s / c < 64 by omega) (show r < 64 by omega) k5]
  by_cases hD : bD r e (s / c) = true
  · have eD : oD r c e s = [(s, nR r (s / c) * c + s % c)] := by rw [oD, if_pos hD]
    have hone := gk_one hg (l := bl r c e s ++ oR c e s) (f := s) (s := nR r (s / c) * c + s % c) (l' := l0) (by rw [hl0, bl, eD])
    obtain ⟨o1, o2, o3, o4, o5, o6, o7⟩ := hone
    have h49 := fun (Q : xQ) => R49 (J := J) (D := D) (b := (0, 0)) (Q := Q) hL h2 hn64 o1 o2 o3 hB.1 o4 (hB.2.2.2.1 _ o1) (hB.2.2.2.1 _ o2) o6 o7
    have hB' := HB_add hB o3 o1 o2 o5
    have hfr : ∀ o k, ¬ bO o k → uI (aB I s (nR r (s / c) * c + s % c) (bl r c e s ++ oR c e s).length (dE (bl r c e s ++ oR c e s) s) (dE (bl r c e s ++ oR c e s) (nR r (s / c) * c + s % c))) 106 s (nI (bl r c e s ++ oR c e s).length) o k = I o k := fun o k hok => by
      rw [uI_at, if_neg (fun h => hok (by unfold bO; omega)), aB_fr hok]
    have hfin : xRun xT 48 138 [] [] (S, uI (aB I s (nR r (s / c) * c + s % c) (bl r c e s ++ oR c e s).length (dE (bl r c e s ++ oR c e s) s) (dE (bl r c e s ++ oR c e s) (nR r (s / c) * c + s % c))) 106 s (nI (bl r c e s ++ oR c e s).length), J, D, R) b Q := by
      rw [e48_138]
      simp only [B48_138, xSeq, i_push, i_load, i_iload, i_lload, i_dload, i_aload, i_istore, i_astore, i_lstore, i_dstore, i_iinc, i_ii, i_iiz, i_ll, i_llz, i_lli, i_li, i_i, i_l, i_i2l, i_l2i, i_dup, i_dup2, i_dup2w, i_dupx1, i_pop, i_pop2, i_goto, i_ifc, i_icmp, i_getI, i_getL, i_getR, i_putI, i_putZ, i_putL, i_putR, i_aldI, i_aldB, i_aldL, i_aldD, i_astI, i_astL, i_astD, i_alen, i_ret, i_iret, i_zret, i_lret, i_fret, i_dret, i_aret, i_invS0, i_invV0, i_m2, i_m1, i_ml, i_obj, lk, lkp, stf1, stf2, Value.category, rV, xTo, lv_args, xCk, xCat, xRc, xAk, hg_S, hg_I, hg_J, hg_D, hg_R, hs_I, hs_J, hs_D, hs_R, uI_at, uJ_at, uD_at, uR_at, List.take_succ_cons, List.take_zero, List.drop_succ_cons, List.drop_zero, List.reverse_cons, List.reverse_nil, List.nil_append, List.cons_append, List.map_cons, List.map_nil, List.sum_cons, List.sum_nil, List.length_cons, List.length_nil, Option.toList_some, Option.toList_none, true_and, and_true, false_and, and_false, true_implies, false_implies, implies_true, not_true_eq_false, not_false_eq_true, ne_eq, if_true, if_false, Bool.and_true, Bool.true_and, decide_true, decide_false, reduceIte, reduceCtorEq, Bool.and_self, Bool.and_eq_true, decide_eq_true_eq, and_self, true_or, or_true, false_or, or_false, Nat.zero_add, Nat.add_zero, eq_self, Nat.reduceEqDiff, Nat.reduceLeDiff, Nat.reduceLT, Nat.reduceAdd, Nat.reduceSub, Nat.reduceMul]
      refine kk _ ?_ ?_ hfr
      · rw [bl, eD]
        exact hB'
      · intro t ht
        by_cases et : t = s
        · subst et
          refine ⟨?_, ?_⟩
          · rw [uI_at, if_neg (by omega)]
            unfold aB
            simp only [uI_at, true_and, and_true, false_and, and_false, true_implies, false_implies, implies_true, not_true_eq_false, not_false_eq_true, ne_eq, if_true, if_false, Bool.and_true, Bool.true_and, decide_true, decide_false, reduceIte, reduceCtorEq, Bool.and_self, Bool.and_eq_true, decide_eq_true_eq, and_self, true_or, or_true, false_or, or_false, Nat.zero_add, Nat.add_zero, eq_self, Nat.reduceEqDiff, Nat.reduceLeDiff, Nat.reduceLT, Nat.reduceAdd, Nat.reduceSub, Nat.reduceMul]
            exact hr
          · rw [uI_at, if_pos ⟨rfl, rfl⟩, if_pos hD]
        · have := hP t (by omega)
          refine ⟨?_, ?_⟩
          · rw [uI_at, if_neg (by omega)]
            unfold aB
            simp only [uI_at, true_and, and_true, false_and, and_false, true_implies, false_implies, implies_true, not_true_eq_false, not_false_eq_true, ne_eq, if_true, if_false, Bool.and_true, Bool.true_and, decide_true, decide_false, reduceIte, reduceCtorEq, Bool.and_self, Bool.and_eq_true, decide_eq_true_eq, and_self, true_or, or_true, false_or, or_false, Nat.zero_add, Nat.add_zero, eq_self, Nat.reduceEqDiff, Nat.reduceLeDiff, Nat.reduceLT, Nat.reduceAdd, Nat.reduceSub, Nat.reduceMul]
            exact this.1
          · rw [uI_at, if_neg (fun h => et h.2)]
            unfold aB
            simp only [uI_at, true_and, and_true, false_and, and_false, true_implies, false_implies, implies_true, not_true_eq_false, not_false_eq_true, ne_eq, if_true, if_false, Bool.and_true, Bool.true_and, decide_true, decide_false, reduceIte, reduceCtorEq, Bool.and_self, Bool.and_eq_true, decide_eq_true_eq, and_self, true_or, or_true, false_or, or_false, Nat.zero_add, Nat.add_zero, eq_self, Nat.reduceEqDiff, Nat.reduceLeDiff, Nat.reduceLT, Nat.reduceAdd, Nat.reduceSub, Nat.reduceMul]
            exact this.2
    by_cases hlt : s / c + 1 < r
    · have e3 : nI (s / c + 1) * nI c + nI (s % c) = nI (nR r (s / c) * c + s % c) := by
        rw [pk_mul, nI_add, nR, if_pos hlt]
      simp only [hD, if_true, i1_0, xSeq, i_push, i_load, i_iload, i_lload, i_dload, i_aload, i_istore, i_astore, i_lstore, i_dstore, i_iinc, i_ii, i_iiz, i_ll, i_llz, i_lli, i_li, i_i, i_l, i_i2l, i_l2i, i_dup, i_dup2, i_dup2w, i_dupx1, i_pop, i_pop2, i_goto, i_ifc, i_icmp, i_getI, i_getL, i_getR, i_putI, i_putZ, i_putL, i_putR, i_aldI, i_aldB, i_aldL, i_aldD, i_astI, i_astL, i_astD, i_alen, i_ret, i_iret, i_zret, i_lret, i_fret, i_dret, i_aret, i_invS0, i_invV0, i_m2, i_m1, i_ml, i_obj, lk, lkp, stf1, stf2, Value.category, rV, xTo, lv_args, xCk, xCat, xRc, xAk, hg_S, hg_I, hg_J, hg_D, hg_R, hs_I, hs_J, hs_D, hs_R, uI_at, uJ_at, uD_at, uR_at, List.take_succ_cons, List.take_zero, List.drop_succ_cons, List.drop_zero, List.reverse_cons, List.reverse_nil, List.nil_append, List.cons_append, List.map_cons, List.map_nil, List.sum_cons, List.sum_nil, List.length_cons, List.length_nil, Option.toList_some, Option.toList_none, true_and, and_true, false_and, and_false, true_implies, false_implies, implies_true, not_true_eq_false, not_false_eq_true, ne_eq, if_true, if_false, Bool.and_true, Bool.true_and, decide_true, decide_false, reduceIte, reduceCtorEq, Bool.and_self, Bool.and_eq_true, decide_eq_true_eq, and_self, true_or, or_true, false_or, or_false, Nat.zero_add, Nat.add_zero, eq_self, Nat.reduceEqDiff, Nat.reduceLeDiff, Nat.reduceLT, Nat.reduceAdd, Nat.reduceSub, Nat.reduceMul, h0, nI_1, nI_leP (show r < 2147483648 by omega) (show s / c + 1 < 2147483648 by omega), show (r ≤ s / c + 1) = False from eq_false (by omega), e48_115, B48_115, LC_out hL, h1, e3, h49, nI_inP (show s < 64 by omega) (by decide), nI_ix (show s < 2147483648 by omega)]
      exact hfin
    · have e3 : 0 * nI c + nI (s % c) = nI (nR r (s / c) * c + s % c) := by
        rw [nR, if_neg hlt, Nat.zero_mul, Nat.zero_add, Int32.zero_mul, Int32.zero_add]
      simp only [hD, if_true, i1_0, xSeq, i_push, i_load, i_iload, i_lload, i_dload, i_aload, i_istore, i_astore, i_lstore, i_dstore, i_iinc, i_ii, i_iiz, i_ll, i_llz, i_lli, i_li, i_i, i_l, i_i2l, i_l2i, i_dup, i_dup2, i_dup2w, i_dupx1, i_pop, i_pop2, i_goto, i_ifc, i_icmp, i_getI, i_getL, i_getR, i_putI, i_putZ, i_putL, i_putR, i_aldI, i_aldB, i_aldL, i_aldD, i_astI, i_astL, i_astD, i_alen, i_ret, i_iret, i_zret, i_lret, i_fret, i_dret, i_aret, i_invS0, i_invV0, i_m2, i_m1, i_ml, i_obj, lk, lkp, stf1, stf2, Value.category, rV, xTo, lv_args, xCk, xCat, xRc, xAk, hg_S, hg_I, hg_J, hg_D, hg_R, hs_I, hs_J, hs_D, hs_R, uI_at, uJ_at, uD_at, uR_at, List.take_succ_cons, List.take_zero, List.drop_succ_cons, List.drop_zero, List.reverse_cons, List.reverse_nil, List.nil_append, List.cons_append, List.map_cons, List.map_nil, List.sum_cons, List.sum_nil, List.length_cons, List.length_nil, Option.toList_some, Option.toList_none, true_and, and_true, false_and, and_false, true_implies, false_implies, implies_true, not_true_eq_false, not_false_eq_true, ne_eq, if_true, if_false, Bool.and_true, Bool.true_and, decide_true, decide_false, reduceIte, reduceCtorEq, Bool.and_self, Bool.and_eq_true, decide_eq_true_eq, and_self, true_or, or_true, false_or, or_false, Nat.zero_add, Nat.add_zero, eq_self, Nat.reduceEqDiff, Nat.reduceLeDiff, Nat.reduceLT, Nat.reduceAdd, Nat.reduceSub, Nat.reduceMul, h0, nI_1, nI_leP (show r < 2147483648 by omega) (show s / c + 1 < 2147483648 by omega), show (r ≤ s / c + 1) = True from eq_true (by omega), e48_114, B48_114, e48_115, B48_115, LC_out hL, h1, e3, h49, nI_inP (show s < 64 by omega) (by decide), nI_ix (show s < 2147483648 by omega)]
      exact hfin
  · have eD : oD r c e s = [] := by rw [oD, if_neg hD]
    simp only [hD, if_false, xSeq, i_push, i_load, i_iload, i_lload, i_dload, i_aload, i_istore, i_astore, i_lstore, i_dstore, i_iinc, i_ii, i_iiz, i_ll, i_llz, i_lli, i_li, i_i, i_l, i_i2l, i_l2i, i_dup, i_dup2, i_dup2w, i_dupx1, i_pop, i_pop2, i_goto, i_ifc, i_icmp, i_getI, i_getL, i_getR, i_putI, i_putZ, i_putL, i_putR, i_aldI, i_aldB, i_aldL, i_aldD, i_astI, i_astL, i_astD, i_alen, i_ret, i_iret, i_zret, i_lret, i_fret, i_dret, i_aret, i_invS0, i_invV0, i_m2, i_m1, i_ml, i_obj, lk, lkp, stf1, stf2, Value.category, rV, xTo, lv_args, xCk, xCat, xRc, xAk, hg_S, hg_I, hg_J, hg_D, hg_R, hs_I, hs_J, hs_D, hs_R, uI_at, uJ_at, uD_at, uR_at, List.take_succ_cons, List.take_zero, List.drop_succ_cons, List.drop_zero, List.reverse_cons, List.reverse_nil, List.nil_append, List.cons_append, List.map_cons, List.map_nil, List.sum_cons, List.sum_nil, List.length_cons, List.length_nil, Option.toList_some, Option.toList_none, true_and, and_true, false_and, and_false, true_implies, false_implies, implies_true, not_true_eq_false, not_false_eq_true, ne_eq, if_true, if_false, Bool.and_true, Bool.true_and, decide_true, decide_false, reduceIte, reduceCtorEq, Bool.and_self, Bool.and_eq_true, decide_eq_true_eq, and_self, true_or, or_true, false_or, or_false, Nat.zero_add, Nat.add_zero, eq_self, Nat.reduceEqDiff, Nat.reduceLeDiff, Nat.reduceLT, Nat.reduceAdd, Nat.reduceSub, Nat.reduceMul, e48_138, B48_138, Bool.false_eq_true]
    refine kk _ ?_ ?_ (fun _ _ _ => rfl)
    · rw [bl, eD, List.append_nil]
      exact hB
    · intro t ht
      by_cases et : t = s
      · subst et
        exact ⟨hr, by rw [if_neg hD]; exact hd⟩
      · exact hP t (by omega)
theorem L48 {su r c e s : Nat} (hL : LC S R) (hK : KS S I su r c e) (h0 : I 102 0 = nI r) (h1 : I 102 1 = nI c) (h2 : I 102 2 = nI n) (hn : n = r * c) (hs : s < n) (hg : gk n (bl r c e n) = true)
    (hB : HB I n (bl r c e s)) (hP : PB I r c e s)
    (kk : ∀ I', HB I' n (bl r c e (s + 1)) → PB I' r c e (s + 1) → (∀ o k, ¬ bO o k → I' o k = I o k) → Q (.ok none) (S, I', J, D, R) b) :
    xRun xT 48 0 [(0, .ref 102), (1, .int (nI s)), (2, .ref su)] [] (S, I, J, D, R) b Q := by
  obtain ⟨k1, k2, k3, k4, k5⟩ := KS_bound hK
  obtain ⟨l0, hl0⟩ := bl_pre (r := r) (c := c) (e := e) (show s + 1 ≤ n by omega)
  have hn64 : n ≤ 64 := (gk_q hg).1.2.1
  have hcol : s % c < c := Nat.mod_lt _ (by omega)
  have eM : jMax (nI c) 1 = nI c := by
    unfold jMax
    rw [if_neg (by rw [show (1 : Int32) = nI 1 from rfl]; exact nI_nlt (by omega) (by omega))]
  have eD : nI s / nI c = nI (s / c) := pk_div (by omega) (by omega) (by omega)
  have eC : nI s - nI (s / c) * nI c = nI (s % c) := by
    rw [← eD]
    exact pk_rem (by omega) (by omega) (by omega)
  have hc0 : (nI c = 0) = False := eq_false (nI_ne0 (by omega) (by omega))
  obtain ⟨I1, hI1⟩ : ∃ I1, I1 = uI (uI I 105 s (-1)) 106 s (-1) := ⟨_, rfl⟩
  have hf1 : ∀ o k, ¬ bO o k → I1 o k = I o k := fun o k hok => by
    rw [hI1, uI_at, if_neg (fun h => hok (by unfold bO; omega)), uI_at, if_neg (fun h => hok (by unfold bO; omega))]
  have hK1 := KS_fr hK hf1
  have h01 : I1 102 0 = nI r := by rw [hf1 _ _ (by decide)]; exact h0
  have h11 : I1 102 1 = nI c := by rw [hf1 _ _ (by decide)]; exact h1
  have h21 : I1 102 2 = nI n := by rw [hf1 _ _ (by decide)]; exact h2
  have hB1 : HB I1 n (bl r c e s) := by
    obtain ⟨a1, a2, a3, a4, a5⟩ := hB
    rw [hI1]
    refine ⟨a1, fun k hk => ?_, fun k hk => ?_, fun k hk => ?_, fun k i hk hi => ?_⟩
    · rw [uI_at, if_neg (by omega), uI_at, if_neg (by omega)]; exact a2 k hk
    · rw [uI_at, if_neg (by omega), uI_at, if_neg (by omega)]; exact a3 k hk
    · rw [uI_at, if_neg (by omega), uI_at, if_neg (by omega)]; exact a4 k hk
    · rw [uI_at, if_neg (by omega), uI_at, if_neg (by omega)]; exact a5 k i hk hi
  have hP1 : PB I1 r c e s := fun t ht => by
    rw [hI1]
    refine ⟨?_, ?_⟩
    · rw [uI_at, if_neg (by omega), uI_at, if_neg (by omega)]; exact (hP t ht).1
    · rw [uI_at, if_neg (by omega), uI_at, if_neg (by omega)]; exact (hP t ht).2
  have hr1 : I1 105 s = -1 := by
    rw [hI1, uI_at, if_neg (by omega), uI_at, if_pos ⟨rfl, rfl⟩]
  have hd1 : I1 106 s = -1 := by
    rw [hI1, uI_at, if_pos ⟨rfl, rfl⟩]
  rw [e48_0]
  simp only [B48_0, xSeq, i_push, i_load, i_iload, i_lload, i_dload, i_aload, i_istore, i_astore, i_lstore, i_dstore, i_iinc, i_ii, i_iiz, i_ll, i_llz, i_lli, i_li, i_i, i_l, i_i2l, i_l2i, i_dup, i_dup2, i_dup2w, i_dupx1, i_pop, i_pop2, i_goto, i_ifc, i_icmp, i_getI, i_getL, i_getR, i_putI, i_putZ, i_putL, i_putR, i_aldI, i_aldB, i_aldL, i_aldD, i_astI, i_astL, i_astD, i_alen, i_ret, i_iret, i_zret, i_lret, i_fret, i_dret, i_aret, i_invS0, i_invV0, i_m2, i_m1, i_ml, i_obj, lk, lkp, stf1, stf2, Value.category, rV, xTo, lv_args, xCk, xCat, xRc, xAk, hg_S, hg_I, hg_J, hg_D, hg_R, hs_I, hs_J, hs_D, hs_R, uI_at, uJ_at, uD_at, uR_at, List.take_succ_cons, List.take_zero, List.drop_succ_cons, List.drop_zero, List.reverse_cons, List.reverse_nil, List.nil_append, List.cons_append, List.map_cons, List.map_nil, List.sum_cons, List.sum_nil, List.length_cons, List.length_nil, Option.toList_some, Option.toList_none, true_and, and_true, false_and, and_false, true_implies, false_implies, implies_true, not_true_eq_false, not_false_eq_true, ne_eq, if_true, if_false, Bool.and_true, Bool.true_and, decide_true, decide_false, reduceIte, reduceCtorEq, Bool.and_self, Bool.and_eq_true, decide_eq_true_eq, and_self, true_or, or_true, false_or, or_false, Nat.zero_add, Nat.add_zero, eq_self, Nat.reduceEqDiff, Nat.reduceLeDiff, Nat.reduceLT, Nat.reduceAdd, Nat.reduceSub, Nat.reduceMul, LC_out hL, h1, eM, hc0, eD, eC, nI_inP (show s < 64 by omega) (by decide), nI_ix (show s < 2147483648 by omega)]
  rw [← hI1]
  simp only [xSeq, i_push, i_load, i_iload, i_lload, i_dload, i_aload, i_istore, i_astore, i_lstore, i_dstore, i_iinc, i_ii, i_iiz, i_ll, i_llz, i_lli, i_li, i_i, i_l, i_i2l, i_l2i, i_dup, i_dup2, i_dup2w, i_dupx1, i_pop, i_pop2, i_goto, i_ifc, i_icmp, i_getI, i_getL, i_getR, i_putI, i_putZ, i_putL, i_putR, i_aldI, i_aldB, i_aldL, i_aldD, i_astI, i_astL, i_astD, i_alen, i_ret, i_iret, i_zret, i_lret, i_fret, i_dret, i_aret, i_invS0, i_invV0, i_m2, i_m1, i_ml, i_obj, lk, lkp, stf1, stf2, Value.category, rV, xTo, lv_args, xCk, xCat, xRc, xAk, hg_S, hg_I, hg_J, hg_D, hg_R, hs_I, hs_J, hs_D, hs_R, uI_at, uJ_at, uD_at, uR_at, List.take_succ_cons, List.take_zero, List.drop_succ_cons, List.drop_zero, List.reverse_cons, List.reverse_nil, List.nil_append, List.cons_append, List.map_cons, List.map_nil, List.sum_cons, List.sum_nil, List.length_cons, List.length_nil, Option.toList_some, Option.toList_none, true_and, and_true, false_and, and_false, true_implies, false_implies, implies_true, not_true_eq_false, not_false_eq_true, ne_eq, if_true, if_false, Bool.and_true, Bool.true_and, decide_true, decide_false, reduceIte, reduceCtorEq, Bool.and_self, Bool.and_eq_true, decide_eq_true_eq, and_self, true_or, or_true, false_or, or_false, Nat.zero_add, Nat.add_zero, eq_self, Nat.reduceEqDiff, Nat.reduceLeDiff, Nat.reduceLT, Nat.reduceAdd, Nat.reduceSub, Nat.reduceMul, hK.1, R43 (R := R) hK1.1 hK1.2.2.1 hK1.2.2.2.1 (show s % c < 64 by omega) (show c < 64 by omega) k5]
  by_cases hR : bR c e (s % c) = true
  · have eR : oR c e s = [(s, s / c * c + nR c (s % c))] := by rw [oR, if_pos hR]
    have hone := gk_one hg (l := bl r c e s) (f := s) (s := s / c * c + nR c (s % c)) (l' := oD r c e s ++ l0) (by rw [hl0, bl, eR, ← List.append_assoc])
    obtain ⟨o1, o2, o3, o4, o5, o6, o7⟩ := hone
    have h49 := fun (Q : xQ) => R49 (J := J) (D := D) (b := (0, 0)) (Q := Q) hL h21 hn64 o1 o2 o3 hB1.1 o4 (hB1.2.2.2.1 _ o1) (hB1.2.2.2.1 _ o2) o6 o7
    have hB' := HB_add hB1 o3 o1 o2 o5
    obtain ⟨I2, hI2⟩ : ∃ I2, I2 = uI (aB I1 s (s / c * c + nR c (s % c)) (bl r c e s).length (dE (bl r c e s) s) (dE (bl r c e s) (s / c * c + nR c (s % c)))) 105 s (nI (bl r c e s).length) := ⟨_, rfl⟩
    have hf2 : ∀ o k, ¬ bO o k → I2 o k = I1 o k := fun o k hok => by
      rw [hI2, uI_at, if_neg (fun h => hok (by unfold bO; omega)), aB_fr hok]
    have hB2 : HB I2 n (bl r c e s ++ oR c e s) := by
      rw [eR, hI2]
      exact hB'
    have hP2 : PB I2 r c e s := fun t ht => by
      rw [hI2]
      refine ⟨?_, ?_⟩
      · rw [uI_at, if_neg (by omega)]
        unfold aB
        simp only [uI_at, true_and, and_true, false_and, and_false, true_implies, false_implies, implies_true, not_true_eq_false, not_false_eq_true, ne_eq, if_true, if_false, Bool.and_true, Bool.true_and, decide_true, decide_false, reduceIte, reduceCtorEq, Bool.and_self, Bool.and_eq_true, decide_eq_true_eq, and_self, true_or, or_true, false_or, or_false, Nat.zero_add, Nat.add_zero, eq_self, Nat.reduceEqDiff, Nat.reduceLeDiff, Nat.reduceLT, Nat.reduceAdd, Nat.reduceSub, Nat.reduceMul]
        exact (hP1 t ht).1
      · rw [uI_at, if_neg (by omega)]
        unfold aB
        simp only [uI_at, true_and, and_true, false_and, and_false, true_implies, false_implies, implies_true, not_true_eq_false, not_false_eq_true, ne_eq, if_true, if_false, Bool.and_true, Bool.true_and, decide_true, decide_false, reduceIte, reduceCtorEq, Bool.and_self, Bool.and_eq_true, decide_eq_true_eq, and_self, true_or, or_true, false_or, or_false, Nat.zero_add, Nat.add_zero, eq_self, Nat.reduceEqDiff, Nat.reduceLeDiff, Nat.reduceLT, Nat.reduceAdd, Nat.reduceSub, Nat.reduceMul]
        exact (hP1 t ht).2
    have hr2 : I2 105 s = (if bR c e (s % c) = true then nI (bl r c e s).length else -1) := by
      rw [hI2, uI_at, if_pos ⟨rfl, rfl⟩, if_pos hR]
    have hd2 : I2 106 s = -1 := by
      rw [hI2, uI_at, if_neg (by omega)]
      unfold aB
      simp only [uI_at, true_and, and_true, false_and, and_false, true_implies, false_implies, implies_true, not_true_eq_false, not_false_eq_true, ne_eq, if_true, if_false, Bool.and_true, Bool.true_and, decide_true, decide_false, reduceIte, reduceCtorEq, Bool.and_self, Bool.and_eq_true, decide_eq_true_eq, and_self, true_or, or_true, false_or, or_false, Nat.zero_add, Nat.add_zero, eq_self, Nat.reduceEqDiff, Nat.reduceLeDiff, Nat.reduceLT, Nat.reduceAdd, Nat.reduceSub, Nat.reduceMul]
      exact hd1
    have hfin := L48_87 (J := J) (D := D) (b := b) (Q := Q) hL (KS_fr hK1 hf2) (by rw [hf2 _ _ (by decide)]; exact h01) (by rw [hf2 _ _ (by decide)]; exact h11) (by rw [hf2 _ _ (by decide)]; exact h21) hn hs hg hB2 hP2 hr2 hd2 (fun I' a1 a2 a3 => kk I' a1 a2 (fun o k hok => by rw [a3 o k hok, hf2 o k hok, hf1 o k hok]))
    by_cases hlt : s % c + 1 < c
    · have e3 : nI (s / c) * nI c + nI (s % c + 1) = nI (s / c * c + nR c (s % c)) := by
        rw [pk_mul, nI_add, nR, if_pos hlt]
      simp only [hR, if_true, i1_0, xSeq, i_push, i_load, i_iload, i_lload, i_dload, i_aload, i_istore, i_astore, i_lstore, i_dstore, i_iinc, i_ii, i_iiz, i_ll, i_llz, i_lli, i_li, i_i, i_l, i_i2l, i_l2i, i_dup, i_dup2, i_dup2w, i_dupx1, i_pop, i_pop2, i_goto, i_ifc, i_icmp, i_getI, i_getL, i_getR, i_putI, i_putZ, i_putL, i_putR, i_aldI, i_aldB, i_aldL, i_aldD, i_astI, i_astL, i_astD, i_alen, i_ret, i_iret, i_zret, i_lret, i_fret, i_dret, i_aret, i_invS0, i_invV0, i_m2, i_m1, i_ml, i_obj, lk, lkp, stf1, stf2, Value.category, rV, xTo, lv_args, xCk, xCat, xRc, xAk, hg_S, hg_I, hg_J, hg_D, hg_R, hs_I, hs_J, hs_D, hs_R, uI_at, uJ_at, uD_at, uR_at, List.take_succ_cons, List.take_zero, List.drop_succ_cons, List.drop_zero, List.reverse_cons, List.reverse_nil, List.nil_append, List.cons_append, List.map_cons, List.map_nil, List.sum_cons, List.sum_nil, List.length_cons, List.length_nil, Option.toList_some, Option.toList_none, true_and, and_true, false_and, and_false, true_implies, false_implies, implies_true, not_true_eq_false, not_false_eq_true, ne_eq, if_true, if_false, Bool.and_true, Bool.true_and, decide_true, decide_false, reduceIte, reduceCtorEq, Bool.and_self, Bool.and_eq_true, decide_eq_true_eq, and_self, true_or, or_true, false_or, or_false, Nat.zero_add, Nat.add_zero, eq_self, Nat.reduceEqDiff, Nat.reduceLeDiff, Nat.reduceLT, Nat.reduceAdd, Nat.reduceSub, Nat.reduceMul, h11, nI_1, nI_leP (show c < 2147483648 by omega) (show s % c + 1 < 2147483648 by omega), show (c ≤ s % c + 1) = False from eq_false (by omega), e48_64, B48_64, LC_out hL, e3, h49, nI_inP (show s < 64 by omega) (by decide), nI_ix (show s < 2147483648 by omega)]
      rw [← hI2]
      exact hfin
    · have e3 : nI (s / c) * nI c + 0 = nI (s / c * c + nR c (s % c)) := by
        rw [nR, if_neg hlt, pk_mul, Nat.add_zero, Int32.add_zero]
      simp only [hR, if_true, i1_0, xSeq, i_push, i_load, i_iload, i_lload, i_dload, i_aload, i_istore, i_astore, i_lstore, i_dstore, i_iinc, i_ii, i_iiz, i_ll, i_llz, i_lli, i_li, i_i, i_l, i_i2l, i_l2i, i_dup, i_dup2, i_dup2w, i_dupx1, i_pop, i_pop2, i_goto, i_ifc, i_icmp, i_getI, i_getL, i_getR, i_putI, i_putZ, i_putL, i_putR, i_aldI, i_aldB, i_aldL, i_aldD, i_astI, i_astL, i_astD, i_alen, i_ret, i_iret, i_zret, i_lret, i_fret, i_dret, i_aret, i_invS0, i_invV0, i_m2, i_m1, i_ml, i_obj, lk, lkp, stf1, stf2, Value.category, rV, xTo, lv_args, xCk, xCat, xRc, xAk, hg_S, hg_I, hg_J, hg_D, hg_R, hs_I, hs_J, hs_D, hs_R, uI_at, uJ_at, uD_at, uR_at, List.take_succ_cons, List.take_zero, List.drop_succ_cons, List.drop_zero, List.reverse_cons, List.reverse_nil, List.nil_append, List.cons_append, List.map_cons, List.map_nil, List.sum_cons, List.sum_nil, List.length_cons, List.length_nil, Option.toList_some, Option.toList_none, true_and, and_true, false_and, and_false, true_implies, false_implies, implies_true, not_true_eq_false, not_false_eq_true, ne_eq, if_true, if_false, Bool.and_true, Bool.true_and, decide_true, decide_false, reduceIte, reduceCtorEq, Bool.and_self, Bool.and_eq_true, decide_eq_true_eq, and_self, true_or, or_true, false_or, or_false, Nat.zero_add, Nat.add_zero, eq_self, Nat.reduceEqDiff, Nat.reduceLeDiff, Nat.reduceLT, Nat.reduceAdd, Nat.reduceSub, Nat.reduceMul, h11, nI_1, nI_leP (show c < 2147483648 by omega) (show s % c + 1 < 2147483648 by omega), show (c ≤ s % c + 1) = True from eq_true (by omega), e48_63, B48_63, e48_64, B48_64, LC_out hL, e3, h49, nI_inP (show s < 64 by omega) (by decide), nI_ix (show s < 2147483648 by omega)]
      rw [← hI2]
      exact hfin
  · have eR : oR c e s = [] := by rw [oR, if_neg hR]
    simp only [hR, if_false, xSeq, i_push, i_load, i_iload, i_lload, i_dload, i_aload, i_istore, i_astore, i_lstore, i_dstore, i_iinc, i_ii, i_iiz, i_ll, i_llz, i_lli, i_li, i_i, i_l, i_i2l, i_l2i, i_dup, i_dup2, i_dup2w, i_dupx1, i_pop, i_pop2, i_goto, i_ifc, i_icmp, i_getI, i_getL, i_getR, i_putI, i_putZ, i_putL, i_putR, i_aldI, i_aldB, i_aldL, i_aldD, i_astI, i_astL, i_astD, i_alen, i_ret, i_iret, i_zret, i_lret, i_fret, i_dret, i_aret, i_invS0, i_invV0, i_m2, i_m1, i_ml, i_obj, lk, lkp, stf1, stf2, Value.category, rV, xTo, lv_args, xCk, xCat, xRc, xAk, hg_S, hg_I, hg_J, hg_D, hg_R, hs_I, hs_J, hs_D, hs_R, uI_at, uJ_at, uD_at, uR_at, List.take_succ_cons, List.take_zero, List.drop_succ_cons, List.drop_zero, List.reverse_cons, List.reverse_nil, List.nil_append, List.cons_append, List.map_cons, List.map_nil, List.sum_cons, List.sum_nil, List.length_cons, List.length_nil, Option.toList_some, Option.toList_none, true_and, and_true, false_and, and_false, true_implies, false_implies, implies_true, not_true_eq_false, not_false_eq_true, ne_eq, if_true, if_false, Bool.and_true, Bool.true_and, decide_true, decide_false, reduceIte, reduceCtorEq, Bool.and_self, Bool.and_eq_true, decide_eq_true_eq, and_self, true_or, or_true, false_or, or_false, Nat.zero_add, Nat.add_zero, eq_self, Nat.reduceEqDiff, Nat.reduceLeDiff, Nat.reduceLT, Nat.reduceAdd, Nat.reduceSub, Nat.reduceMul, Bool.false_eq_true]
    exact L48_87 (J := J) (D := D) (b := b) (Q := Q) hL hK1 h01 h11 h21 hn hs hg (by rw [eR, List.append_nil]; exact hB1) hP1 (by rw [if_neg hR]; exact hr1) hd1 (fun I' a1 a2 a3 => kk I' a1 a2 (fun o k hok => by rw [a3 o k hok, hf1 o k hok]))
end
/-! ===== the lab's lattice is built ===== -/
section
/-- all sites up -/
def aU (n : Nat) : Nat := 2 ^ n - 1
theorem aU_lt (n : Nat) : aU n < 2 ^ n := by
  have := Nat.two_pow_pos n
  unfold aU
  omega
theorem aU_64 : (-1 : Int64) = lN (aU 64) := by decide
theorem q_1sub {n : Nat} (h : n < 64) : jLshl 1 (nI n) - 1 = lN (aU n) := by
  have h2 := Nat.two_pow_pos n
  rw [show (1 : Int64) = lN 1 from rfl, q_shl 1 h, Nat.one_mul, lN_sub h2]
  rfl
theorem rI_fr {I : xI} {p : Nat} {f : Nat → Int32} {o k : Nat} (h : o ≠ p) : rI I p f o k = I o k := by
  rw [rI_at, if_neg h]
variable {S : xS} {I : xI} {J : xJ} {D : xDb} {R : xR} {b : Nat × Nat} {Q : xQ} {n : Nat}
theorem L47_76 {su r c e : Nat} (hL : LC S R) (hn : n = r * c) (hg : gk n (bl r c e n) = true) {I0 : xI} (h00 : I0 102 0 = nI r) (h01 : I0 102 1 = nI c) (h02 : I0 102 2 = nI n) (hK0 : KS S I0 su r c e)
    (kk : ∀ I', HB I' n (bl r c e n) → PB I' r c e n → (∀ o k, ¬ bO o k → I' o k = I0 o k) → Q (.ok none) (S, I', J, D, R) b) :
    ∀ (j s : Nat) (I : xI), s + j = n → HB I n (bl r c e s) → PB I r c e s → (∀ o k, ¬ bO o k → I o k = I0 o k) → xRun xT 47 76 [(0, .ref 102), (1, .ref su), (2, .int (nI s))] [] (S, I, J, D, R) b Q
  | 0, s, I, hs, hB, hP, hf => by
    have e2 : s = n := by omega
    have h2 : I 102 2 = nI n := by rw [hf _ _ (by decide)]; exact h02
    have hn64 : n ≤ 64 := (gk_q hg).1.2.1
    subst e2
    rw [e47_76]
    simp only [B47_76, xSeq, i_push, i_load, i_iload, i_lload, i_dload, i_aload, i_istore, i_astore, i_lstore, i_dstore, i_iinc, i_ii, i_iiz, i_ll, i_llz, i_lli, i_li, i_i, i_l, i_i2l, i_l2i, i_dup, i_dup2, i_dup2w, i_dupx1, i_pop, i_pop2, i_goto, i_ifc, i_icmp, i_getI, i_getL, i_getR, i_putI, i_putZ, i_putL, i_putR, i_aldI, i_aldB, i_aldL, i_aldD, i_astI, i_astL, i_astD, i_alen, i_ret, i_iret, i_zret, i_lret, i_fret, i_dret, i_aret, i_invS0, i_invV0, i_m2, i_m1, i_ml, i_obj, lk, lkp, stf1, stf2, Value.category, rV, xTo, lv_args, xCk, xCat, xRc, xAk, hg_S, hg_I, hg_J, hg_D, hg_R, hs_I, hs_J, hs_D, hs_R, uI_at, uJ_at, uD_at, uR_at, List.take_succ_cons, List.take_zero, List.drop_succ_cons, List.drop_zero, List.reverse_cons, List.reverse_nil, List.nil_append, List.cons_append, List.map_cons, List.map_nil, List.sum_cons, List.sum_nil, List.length_cons, List.length_nil, Option.toList_some, Option.toList_none, true_and, and_true, false_and, and_false, true_implies, false_implies, implies_true, not_true_eq_false, not_false_eq_true, ne_eq, if_true, if_false, Bool.and_true, Bool.true_and, decide_true, decide_false, reduceIte, reduceCtorEq, Bool.and_self, Bool.and_eq_true, decide_eq_true_eq, and_self, true_or, or_true, false_or, or_false, Nat.zero_add, Nat.add_zero, eq_self, Nat.reduceEqDiff, Nat.reduceLeDiff, Nat.reduceLT, Nat.reduceAdd, Nat.reduceSub, Nat.reduceMul, LC_out hL, h2, nI_leP (show s < 2147483648 by omega) (show s < 2147483648 by omega), Nat.le_refl, e47_96, B47_96]
    exact kk I hB hP hf
  | j + 1, s, I, hs, hB, hP, hf => by
    have h2 : I 102 2 = nI n := by rw [hf _ _ (by decide)]; exact h02
    have hn64 : n ≤ 64 := (gk_q hg).1.2.1
    rw [e47_76]
    simp only [B47_76, xSeq, i_push, i_load, i_iload, i_lload, i_dload, i_aload, i_istore, i_astore, i_lstore, i_dstore, i_iinc, i_ii, i_iiz, i_ll, i_llz, i_lli, i_li, i_i, i_l, i_i2l, i_l2i, i_dup, i_dup2, i_dup2w, i_dupx1, i_pop, i_pop2, i_goto, i_ifc, i_icmp, i_getI, i_getL, i_getR, i_putI, i_putZ, i_putL, i_putR, i_aldI, i_aldB, i_aldL, i_aldD, i_astI, i_astL, i_astD, i_alen, i_ret, i_iret, i_zret, i_lret, i_fret, i_dret, i_aret, i_invS0, i_invV0, i_m2, i_m1, i_ml, i_obj, lk, lkp, stf1, stf2, Value.category, rV, xTo, lv_args, xCk, xCat, xRc, xAk, hg_S, hg_I, hg_J, hg_D, hg_R, hs_I, hs_J, hs_D, hs_R, uI_at, uJ_at, uD_at, uR_at, List.take_succ_cons, List.take_zero, List.drop_succ_cons, List.drop_zero, List.reverse_cons, List.reverse_nil, List.nil_append, List.cons_append, List.map_cons, List.map_nil, List.sum_cons, List.sum_nil, List.length_cons, List.length_nil, Option.toList_some, Option.toList_none, true_and, and_true, false_and, and_false, true_implies, false_implies, implies_true, not_true_eq_false, not_false_eq_true, ne_eq, if_true, if_false, Bool.and_true, Bool.true_and, decide_true, decide_false, reduceIte, reduceCtorEq, Bool.and_self, Bool.and_eq_true, decide_eq_true_eq, and_self, true_or, or_true, false_or, or_false, Nat.zero_add, Nat.add_zero, eq_self, Nat.reduceEqDiff, Nat.reduceLeDiff, Nat.reduceLT, Nat.reduceAdd, Nat.reduceSub, Nat.reduceMul, LC_out hL, h2, nI_leP (show n < 2147483648 by omega) (show s < 2147483648 by omega), show (n ≤ s) = False from eq_false (by omega)]
    refine L48 hL (KS_fr hK0 hf) (by rw [hf _ _ (by decide)]; exact h00) (by rw [hf _ _ (by decide)]; exact h01) h2 hn (by omega) hg hB hP (fun I' a1 a2 a3 => ?_)
    simp only [xSeq, i_push, i_load, i_iload, i_lload, i_dload, i_aload, i_istore, i_astore, i_lstore, i_dstore, i_iinc, i_ii, i_iiz, i_ll, i_llz, i_lli, i_li, i_i, i_l, i_i2l, i_l2i, i_dup, i_dup2, i_dup2w, i_dupx1, i_pop, i_pop2, i_goto, i_ifc, i_icmp, i_getI, i_getL, i_getR, i_putI, i_putZ, i_putL, i_putR, i_aldI, i_aldB, i_aldL, i_aldD, i_astI, i_astL, i_astD, i_alen, i_ret, i_iret, i_zret, i_lret, i_fret, i_dret, i_aret, i_invS0, i_invV0, i_m2, i_m1, i_ml, i_obj, lk, lkp, stf1, stf2, Value.category, rV, xTo, lv_args, xCk, xCat, xRc, xAk, hg_S, hg_I, hg_J, hg_D, hg_R, hs_I, hs_J, hs_D, hs_R, uI_at, uJ_at, uD_at, uR_at, List.take_succ_cons, List.take_zero, List.drop_succ_cons, List.drop_zero, List.reverse_cons, List.reverse_nil, List.nil_append, List.cons_append, List.map_cons, List.map_nil, List.sum_cons, List.sum_nil, List.length_cons, List.length_nil, Option.toList_some, Option.toList_none, true_and, and_true, false_and, and_false, true_implies, false_implies, implies_true, not_true_eq_false, not_false_eq_true, ne_eq, if_true, if_false, Bool.and_true, Bool.true_and, decide_true, decide_false, reduceIte, reduceCtorEq, Bool.and_self, Bool.and_eq_true, decide_eq_true_eq, and_self, true_or, or_true, false_or, or_false, Nat.zero_add, Nat.add_zero, eq_self, Nat.reduceEqDiff, Nat.reduceLeDiff, Nat.reduceLT, Nat.reduceAdd, Nat.reduceSub, Nat.reduceMul, nI_1]
    exact L47_76 hL hn hg h00 h01 h02 hK0 kk j (s + 1) I' (by omega) a1 a2 (fun o k hok => by rw [a3 o k hok, hf o k hok])
theorem L47 {su r c e : Nat} (hL : LC S R) (hK : KS S I su r c e) (hsu : su ≠ 102) (hn : n = r * c) (hg : gk n (bl r c e n) = true)
    (kk : ∀ I', HB I' n (bl r c e n) → PB I' r c e n → I' 102 0 = nI r → I' 102 1 = nI c → I' 102 2 = nI n → (∀ o k, ¬ bO o k → o ≠ 102 → I' o k = I o k) → Q (.ok none) (S, I', uJ J 102 4 (lN (aU n)), D, R) b) :
    xRun xT 47 0 [(0, .ref 102), (1, .ref su)] [] (S, I, J, D, R) b Q := by
  obtain ⟨k1, k2, k3, k4, k5⟩ := KS_bound hK
  have hn64 : n ≤ 64 := (gk_q hg).1.2.1
  obtain ⟨q1, q2, q3, q4, q5, q6, q7, q8, q9, q10⟩ := hK
  have eM : jMin (nI n) 64 = nI n := by
    unfold jMin
    rw [if_neg (by rw [show (64 : Int32) = nI 64 from rfl]; exact nI_nlt (by omega) (by omega))]
  have eP : nI r * nI c = nI n := by rw [pk_mul, hn]
  have e64 : (nI n = 64) = (n = 64) := by rw [show (64 : Int32) = nI 64 from rfl, nI_iff (by omega) (by decide)]
  obtain ⟨I1, hI1⟩ : ∃ I1, I1 = rI (uI (uI (uI (uI I 102 0 (nI r)) 102 1 (nI c)) 102 2 (nI n)) 102 3 0) 107 (fill (uI (uI (uI (uI I 102 0 (nI r)) 102 1 (nI c)) 102 2 (nI n)) 102 3 0 107) 0 64) := ⟨_, rfl⟩
  have hfr : ∀ o k, ¬ bO o k → o ≠ 102 → I1 o k = I o k := fun o k h1 h2 => by
    rw [hI1, rI_fr (fun h => h1 (by unfold bO; omega)), uI_at, if_neg (by omega), uI_at, if_neg (by omega), uI_at, if_neg (by omega), uI_at, if_neg (by omega)]
  have a0 : I1 102 0 = nI r := by rw [hI1]; simp only [rI_at, uI_at, true_and, and_true, false_and, and_false, true_implies, false_implies, implies_true, not_true_eq_false, not_false_eq_true, ne_eq, if_true, if_false, Bool.and_true, Bool.true_and, decide_true, decide_false, reduceIte, reduceCtorEq, Bool.and_self, Bool.and_eq_true, decide_eq_true_eq, and_self, true_or, or_true, false_or, or_false, Nat.zero_add, Nat.add_zero, eq_self, Nat.reduceEqDiff, Nat.reduceLeDiff, Nat.reduceLT, Nat.reduceAdd, Nat.reduceSub, Nat.reduceMul]
  have a1 : I1 102 1 = nI c := by rw [hI1]; simp only [rI_at, uI_at, true_and, and_true, false_and, and_false, true_implies, false_implies, implies_true, not_true_eq_false, not_false_eq_true, ne_eq, if_true, if_false, Bool.and_true, Bool.true_and, decide_true, decide_false, reduceIte, reduceCtorEq, Bool.and_self, Bool.and_eq_true, decide_eq_true_eq, and_self, true_or, or_true, false_or, or_false, Nat.zero_add, Nat.add_zero, eq_self, Nat.reduceEqDiff, Nat.reduceLeDiff, Nat.reduceLT, Nat.reduceAdd, Nat.reduceSub, Nat.reduceMul]
  have a2 : I1 102 2 = nI n := by rw [hI1]; simp only [rI_at, uI_at, true_and, and_true, false_and, and_false, true_implies, false_implies, implies_true, not_true_eq_false, not_false_eq_true, ne_eq, if_true, if_false, Bool.and_true, Bool.true_and, decide_true, decide_false, reduceIte, reduceCtorEq, Bool.and_self, Bool.and_eq_true, decide_eq_true_eq, and_self, true_or, or_true, false_or, or_false, Nat.zero_add, Nat.add_zero, eq_self, Nat.reduceEqDiff, Nat.reduceLeDiff, Nat.reduceLT, Nat.reduceAdd, Nat.reduceSub, Nat.reduceMul]
  have a3 : I1 102 3 = nI 0 := by rw [hI1]; simp only [rI_at, uI_at, true_and, and_true, false_and, and_false, true_implies, false_implies, implies_true, not_true_eq_false, not_false_eq_true, ne_eq, if_true, if_false, Bool.and_true, Bool.true_and, decide_true, decide_false, reduceIte, reduceCtorEq, Bool.and_self, Bool.and_eq_true, decide_eq_true_eq, and_self, true_or, or_true, false_or, or_false, Nat.zero_add, Nat.add_zero, eq_self, Nat.reduceEqDiff, Nat.reduceLeDiff, Nat.reduceLT, Nat.reduceAdd, Nat.reduceSub, Nat.reduceMul]; rfl
  have hK1 : KS S I1 su r c e := ⟨q1, by rw [hfr _ _ (q10 _) hsu]; exact q2, by rw [hfr _ _ (q10 _) hsu]; exact q3, by rw [hfr _ _ (q10 _) hsu]; exact q4, q5, q6, q7, q8, q9, q10⟩
  have hB1 : HB I1 n (bl r c e 0) := by
    refine ⟨a3, fun k hk => absurd hk (Nat.not_lt_zero k), fun k hk => absurd hk (Nat.not_lt_zero k), fun t ht => ?_, fun t i ht hi => absurd hi (Nat.not_lt_zero i)⟩
    rw [hI1, rI_at, if_pos rfl, fill_at, if_pos (by omega)]
    rfl
  have hfin : ∀ J, (∀ I', HB I' n (bl r c e n) → PB I' r c e n → I' 102 0 = nI r → I' 102 1 = nI c → I' 102 2 = nI n → (∀ o k, ¬ bO o k → o ≠ 102 → I' o k = I o k) → Q (.ok none) (S, I', J, D, R) b) → xRun xT 47 76 [(0, .ref 102), (1, .ref su), (2, .int 0)] [] (S, I1, J, D, R) b Q := fun J hk => by
    have h := L47_76 (J := J) (D := D) (b := b) (Q := Q) hL hn hg a0 a1 a2 hK1 (fun I' b1 b2 b3 => hk I' b1 b2 (by rw [b3 _ _ (by decide)]; exact a0) (by rw [b3 _ _ (by decide)]; exact a1) (by rw [b3 _ _ (by decide)]; exact a2) (fun o k h1 h2 => by rw [b3 o k h1, hfr o k h1 h2])) n 0 I1 (by omega) hB1 (fun t ht => absurd ht (Nat.not_lt_zero t)) (fun _ _ _ => rfl)
    rw [nI_0] at h
    exact h
  rw [e47_0]
  simp only [B47_0, xSeq, i_push, i_load, i_iload, i_lload, i_dload, i_aload, i_istore, i_astore, i_lstore, i_dstore, i_iinc, i_ii, i_iiz, i_ll, i_llz, i_lli, i_li, i_i, i_l, i_i2l, i_l2i, i_dup, i_dup2, i_dup2w, i_dupx1, i_pop, i_pop2, i_goto, i_ifc, i_icmp, i_getI, i_getL, i_getR, i_putI, i_putZ, i_putL, i_putR, i_aldI, i_aldB, i_aldL, i_aldD, i_astI, i_astL, i_astD, i_alen, i_ret, i_iret, i_zret, i_lret, i_fret, i_dret, i_aret, i_invS0, i_invV0, i_m2, i_m1, i_ml, i_obj, lk, lkp, stf1, stf2, Value.category, rV, xTo, lv_args, xCk, xCat, xRc, xAk, hg_S, hg_I, hg_J, hg_D, hg_R, hs_I, hs_J, hs_D, hs_R, uI_at, uJ_at, uD_at, uR_at, List.take_succ_cons, List.take_zero, List.drop_succ_cons, List.drop_zero, List.reverse_cons, List.reverse_nil, List.nil_append, List.cons_append, List.map_cons, List.map_nil, List.sum_cons, List.sum_nil, List.length_cons, List.length_nil, Option.toList_some, Option.toList_none, true_and, and_true, false_and, and_false, true_implies, false_implies, implies_true, not_true_eq_false, not_false_eq_true, ne_eq, if_true, if_false, Bool.and_true, Bool.true_and, decide_true, decide_false, reduceIte, reduceCtorEq, Bool.and_self, Bool.and_eq_true, decide_eq_true_eq, and_self, true_or, or_true, false_or, or_false, Nat.zero_add, Nat.add_zero, eq_self, Nat.reduceEqDiff, Nat.reduceLeDiff, Nat.reduceLT, Nat.reduceAdd, Nat.reduceSub, Nat.reduceMul, LC_out hL, q1, q2, q3, eP, eM, hsu]
  by_cases h64 : n = 64
  · have eT : (nI n = 64) = True := by rw [e64]; exact eq_true h64
    have eA : (-1 : Int64) = lN (aU n) := by rw [h64]; exact aU_64
    simp only [eT, true_and, and_true, false_and, and_false, true_implies, false_implies, implies_true, not_true_eq_false, not_false_eq_true, ne_eq, if_true, if_false, Bool.and_true, Bool.true_and, decide_true, decide_false, reduceIte, reduceCtorEq, Bool.and_self, Bool.and_eq_true, decide_eq_true_eq, and_self, true_or, or_true, false_or, or_false, Nat.zero_add, Nat.add_zero, eq_self, Nat.reduceEqDiff, Nat.reduceLeDiff, Nat.reduceLT, Nat.reduceAdd, Nat.reduceSub, Nat.reduceMul, e47_58, B47_58, xSeq, i_push, i_load, i_iload, i_lload, i_dload, i_aload, i_istore, i_astore, i_lstore, i_dstore, i_iinc, i_ii, i_iiz, i_ll, i_llz, i_lli, i_li, i_i, i_l, i_i2l, i_l2i, i_dup, i_dup2, i_dup2w, i_dupx1, i_pop, i_pop2, i_goto, i_ifc, i_icmp, i_getI, i_getL, i_getR, i_putI, i_putZ, i_putL, i_putR, i_aldI, i_aldB, i_aldL, i_aldD, i_astI, i_astL, i_astD, i_alen, i_ret, i_iret, i_zret, i_lret, i_fret, i_dret, i_aret, i_invS0, i_invV0, i_m2, i_m1, i_ml, i_obj, lk, lkp, stf1, stf2, Value.category, rV, xTo, lv_args, xCk, xCat, xRc, xAk, hg_S, hg_I, hg_J, hg_D, hg_R, hs_I, hs_J, hs_D, hs_R, uI_at, uJ_at, uD_at, uR_at, List.take_succ_cons, List.take_zero, List.drop_succ_cons, List.drop_zero, List.reverse_cons, List.reverse_nil, List.nil_append, List.cons_append, List.map_cons, List.map_nil, List.sum_cons, List.sum_nil, List.length_cons, List.length_nil, Option.toList_some, Option.toList_none, LC_out hL, Y6 (S := S) (R := R) (o := 107) (L := 64) (v := 0) (LC_out hL).2.2.2.2.2.2.2.2.2.2.2.2.2.2.2.2.2.2.2.1 (by decide)]
    rw [← hI1, eA]
    exact hfin _ kk
  · simp only [e64, h64, true_and, and_true, false_and, and_false, true_implies, false_implies, implies_true, not_true_eq_false, not_false_eq_true, ne_eq, if_true, if_false, Bool.and_true, Bool.true_and, decide_true, decide_false, reduceIte, reduceCtorEq, Bool.and_self, Bool.and_eq_true, decide_eq_true_eq, and_self, true_or, or_true, false_or, or_false, Nat.zero_add, Nat.add_zero, eq_self, Nat.reduceEqDiff, Nat.reduceLeDiff, Nat.reduceLT, Nat.reduceAdd, Nat.reduceSub, Nat.reduceMul, e47_50, B47_50, e47_58, B47_58, xSeq, i_push, i_load, i_iload, i_lload, i_dload, i_aload, i_istore, i_astore, i_lstore, i_dstore, i_iinc, i_ii, i_iiz, i_ll, i_llz, i_lli, i_li, i_i, i_l, i_i2l, i_l2i, i_dup, i_dup2, i_dup2w, i_dupx1, i_pop, i_pop2, i_goto, i_ifc, i_icmp, i_getI, i_getL, i_getR, i_putI, i_putZ, i_putL, i_putR, i_aldI, i_aldB, i_aldL, i_aldD, i_astI, i_astL, i_astD, i_alen, i_ret, i_iret, i_zret, i_lret, i_fret, i_dret, i_aret, i_invS0, i_invV0, i_m2, i_m1, i_ml, i_obj, lk, lkp, stf1, stf2, Value.category, rV, xTo, lv_args, xCk, xCat, xRc, xAk, hg_S, hg_I, hg_J, hg_D, hg_R, hs_I, hs_J, hs_D, hs_R, uI_at, uJ_at, uD_at, uR_at, List.take_succ_cons, List.take_zero, List.drop_succ_cons, List.drop_zero, List.reverse_cons, List.reverse_nil, List.nil_append, List.cons_append, List.map_cons, List.map_nil, List.sum_cons, List.sum_nil, List.length_cons, List.length_nil, Option.toList_some, Option.toList_none, LC_out hL, q_1sub (show n < 64 by omega), Y6 (S := S) (R := R) (o := 107) (L := 64) (v := 0) (LC_out hL).2.2.2.2.2.2.2.2.2.2.2.2.2.2.2.2.2.2.2.1 (by decide)]
    rw [← hI1]
    exact hfin _ kk
end
/-! ===== the model lays its bonds ===== -/
section
/-- the lattice holds the bonds l of n sites -/
def HM (I : xI) (n : Nat) (l : List (Nat × Nat)) : Prop := I 300 8 = nI l.length ∧ (∀ k, k < l.length → I 314 k = nI (fE l k)) ∧ (∀ k, k < l.length → I 315 k = nI (sE l k)) ∧ (∀ t, t < n → I 317 t = nI (dE l t)) ∧ ∀ t i, t < n → i < dE l t → I 316 (t * 4 + i) = nI (bE l t i)
/-- what building may change -/
abbrev bM (o k : Nat) : Prop := (o = 300 ∧ k = 8) ∨ o = 314 ∨ o = 315 ∨ o = 316 ∨ o = 317
def aM (I : xI) (f s k df ds : Nat) : xI := uI (uI (uI (uI (uI (uI (uI I 314 k (nI f)) 315 k (nI s)) 316 (f * 4 + df) (nI k)) 317 f (nI (df + 1))) 316 (s * 4 + ds) (nI k)) 317 s (nI (ds + 1))) 300 8 (nI (k + 1))
theorem aM_fr {I : xI} {f s k df ds o j : Nat} (h : ¬ bM o j) : aM I f s k df ds o j = I o j := by
  unfold bM at h
  unfold aM
  simp only [uI_at]
  rw [if_neg (by omega), if_neg (by omega), if_neg (by omega), if_neg (by omega), if_neg (by omega), if_neg (by omega), if_neg (by omega)]
theorem HM_add {I : xI} {n : Nat} {l : List (Nat × Nat)} {f s : Nat} (h : HM I n l) (hne : f ≠ s) (hf : f < n) (hs : s < n) (h4 : ∀ t, t < n → dE (l ++ [(f, s)]) t ≤ 4) : HM (aM I f s l.length (dE l f) (dE l s)) n (l ++ [(f, s)]) := by
  obtain ⟨h1, h2, h3, h5, h6⟩ := h
  have hdf := dE_app l f s f
  have hds := dE_app l f s s
  rw [if_pos (Or.inl rfl)] at hdf
  rw [if_pos (Or.inr rfl)] at hds
  have hf4 := h4 f hf
  have hs4 := h4 s hs
  unfold aM
  refine ⟨?_, fun k hk => ?_, fun k hk => ?_, fun t ht => ?_, fun t i ht hi => ?_⟩
  · simp only [uI_at, true_and, and_true, false_and, and_false, true_implies, false_implies, implies_true, not_true_eq_false, not_false_eq_true, ne_eq, if_true, if_false, Bool.and_true, Bool.true_and, decide_true, decide_false, reduceIte, reduceCtorEq, Bool.and_self, Bool.and_eq_true, decide_eq_true_eq, and_self, true_or, or_true, false_or, or_false, Nat.zero_add, Nat.add_zero, eq_self, Nat.reduceEqDiff, Nat.reduceLeDiff, Nat.reduceLT, Nat.reduceAdd, Nat.reduceSub, Nat.reduceMul, List.length_append, List.length_singleton]
  · rw [List.length_append, List.length_singleton] at hk
    simp only [uI_at, true_and, and_true, false_and, and_false, true_implies, false_implies, implies_true, not_true_eq_false, not_false_eq_true, ne_eq, if_true, if_false, Bool.and_true, Bool.true_and, decide_true, decide_false, reduceIte, reduceCtorEq, Bool.and_self, Bool.and_eq_true, decide_eq_true_eq, and_self, true_or, or_true, false_or, or_false, Nat.zero_add, Nat.add_zero, eq_self, Nat.reduceEqDiff, Nat.reduceLeDiff, Nat.reduceLT, Nat.reduceAdd, Nat.reduceSub, Nat.reduceMul]
    unfold fE
    by_cases e : k = l.length
    · rw [if_pos e, e, getD_app2]
    · rw [if_neg e, getD_app1 _ _ _ (by omega)]
      exact h2 k (by omega)
  · rw [List.length_append, List.length_singleton] at hk
    simp only [uI_at, true_and, and_true, false_and, and_false, true_implies, false_implies, implies_true, not_true_eq_false, not_false_eq_true, ne_eq, if_true, if_false, Bool.and_true, Bool.true_and, decide_true, decide_false, reduceIte, reduceCtorEq, Bool.and_self, Bool.and_eq_true, decide_eq_true_eq, and_self, true_or, or_true, false_or, or_false, Nat.zero_add, Nat.add_zero, eq_self, Nat.reduceEqDiff, Nat.reduceLeDiff, Nat.reduceLT, Nat.reduceAdd, Nat.reduceSub, Nat.reduceMul]
    unfold sE
    by_cases e : k = l.length
    · rw [if_pos e, e, getD_app2]
    · rw [if_neg e, getD_app1 _ _ _ (by omega)]
      exact h3 k (by omega)
  · simp only [uI_at, true_and, and_true, false_and, and_false, true_implies, false_implies, implies_true, not_true_eq_false, not_false_eq_true, ne_eq, if_true, if_false, Bool.and_true, Bool.true_and, decide_true, decide_false, reduceIte, reduceCtorEq, Bool.and_self, Bool.and_eq_true, decide_eq_true_eq, and_self, true_or, or_true, false_or, or_false, Nat.zero_add, Nat.add_zero, eq_self, Nat.reduceEqDiff, Nat.reduceLeDiff, Nat.reduceLT, Nat.reduceAdd, Nat.reduceSub, Nat.reduceMul]
    rw [dE_app]
    by_cases e : t = s
    · rw [if_pos e, if_pos (Or.inr e.symm), e]
    · rw [if_neg e]
      by_cases e2 : t = f
      · rw [if_pos e2, if_pos (Or.inl e2.symm), e2]
      · rw [if_neg e2, if_neg (fun h => h.elim (fun h => e2 h.symm) (fun h => e h.symm))]
        exact h5 t ht
  · have ht4 := h4 t ht
    have hd := dE_app l f s t
    simp only [uI_at, true_and, and_true, false_and, and_false, true_implies, false_implies, implies_true, not_true_eq_false, not_false_eq_true, ne_eq, if_true, if_false, Bool.and_true, Bool.true_and, decide_true, decide_false, reduceIte, reduceCtorEq, Bool.and_self, Bool.and_eq_true, decide_eq_true_eq, and_self, true_or, or_true, false_or, or_false, Nat.zero_add, Nat.add_zero, eq_self, Nat.reduceEqDiff, Nat.reduceLeDiff, Nat.reduceLT, Nat.reduceAdd, Nat.reduceSub, Nat.reduceMul]
    by_cases e : t = s
    · subst e
      rw [if_pos (Or.inr rfl)] at hd
      by_cases e2 : i = dE l t
      · subst e2
        rw [if_pos rfl, bE_app2 _ _ _ _ (Or.inr rfl)]
      · rw [if_neg (by omega), if_neg (by omega), bE_app1 _ _ _ _ (by omega)]
        exact h6 t i ht (by omega)
    · by_cases e3 : t = f
      · subst e3
        rw [if_pos (Or.inl rfl)] at hd
        by_cases e2 : i = dE l t
        · subst e2
          rw [if_neg (by omega), if_pos rfl, bE_app2 _ _ _ _ (Or.inl rfl)]
        · rw [if_neg (by omega), if_neg (by omega), bE_app1 _ _ _ _ (by omega)]
          exact h6 t i ht (by omega)
      · rw [if_neg (by omega)] at hd
        rw [if_neg (by omega), if_neg (by omega), bE_app1 _ _ _ _ (by omega)]
        exact h6 t i ht (by omega)
variable {S : xS} {I : xI} {J : xJ} {D : xDb} {R : xR} {b : Nat × Nat} {Q : xQ} {n : Nat}
theorem R196 (hL : LM S R) (hn : n ≤ 64) {f s k df ds : Nat} (hf : f < n) (hs : s < n) (hne : f ≠ s) (h3 : I 300 8 = nI k) (hk : k < 128) (h7 : I 317 f = nI df) (h8 : I 317 s = nI ds) (h4 : df < 4) (h5 : ds < 4) :
    xRun xT 196 0 [(0, .ref 200), (1, .int (nI f)), (2, .int (nI s))] [] (S, I, J, D, R) b Q = Q (.ok none) (S, aM I f s k df ds, J, D, R) b := by
  have hne2 : s ≠ f := fun e => hne e.symm
  rw [e196_0]
  simp only [B196_0, xSeq, i_push, i_load, i_iload, i_lload, i_dload, i_aload, i_istore, i_astore, i_lstore, i_dstore, i_iinc, i_ii, i_iiz, i_ll, i_llz, i_lli, i_li, i_i, i_l, i_i2l, i_l2i, i_dup, i_dup2, i_dup2w, i_dupx1, i_pop, i_pop2, i_goto, i_ifc, i_icmp, i_getI, i_getL, i_getR, i_putI, i_putZ, i_putL, i_putR, i_aldI, i_aldB, i_aldL, i_aldD, i_astI, i_astL, i_astD, i_alen, i_ret, i_iret, i_zret, i_lret, i_fret, i_dret, i_aret, i_invS0, i_invV0, i_m2, i_m1, i_ml, i_obj, lk, lkp, stf1, stf2, Value.category, rV, xTo, lv_args, xCk, xCat, xRc, xAk, hg_S, hg_I, hg_J, hg_D, hg_R, hs_I, hs_J, hs_D, hs_R, uI_at, uJ_at, uD_at, uR_at, List.take_succ_cons, List.take_zero, List.drop_succ_cons, List.drop_zero, List.reverse_cons, List.reverse_nil, List.nil_append, List.cons_append, List.map_cons, List.map_nil, List.sum_cons, List.sum_nil, List.length_cons, List.length_nil, Option.toList_some, Option.toList_none, true_and, and_true, false_and, and_false, true_implies, false_implies, implies_true, not_true_eq_false, not_false_eq_true, ne_eq, if_true, if_false, Bool.and_true, Bool.true_and, decide_true, decide_false, reduceIte, reduceCtorEq, Bool.and_self, Bool.and_eq_true, decide_eq_true_eq, and_self, true_or, or_true, false_or, or_false, Nat.zero_add, Nat.add_zero, eq_self, Nat.reduceEqDiff, Nat.reduceLeDiff, Nat.reduceLT, Nat.reduceAdd, Nat.reduceSub, Nat.reduceMul, xi144_0, ix_0, xi144_1, ix_1, xi144_2, ix_2, xi144_3, ix_3, xi144_4, ix_4, xi144_5, ix_5, xi144_6, ix_6, xi144_7, ix_7, xi144_8, ix_8, xi144_9, ix_9, xi144_10, ix_10, LM_out hL, h3, nI_4m, nI_inP hk (by decide), nI_ix (show k < 2147483648 by omega), nI_inP (show f < 64 by omega) (by decide), nI_ix (show f < 2147483648 by omega), nI_inP (show s < 64 by omega) (by decide), nI_ix (show s < 2147483648 by omega), h7, h8, nI_add, nI_inP (show f * 4 + df < 256 by omega) (by decide), nI_ix (show f * 4 + df < 2147483648 by omega), nI_inP (show s * 4 + ds < 256 by omega) (by decide), nI_ix (show s * 4 + ds < 2147483648 by omega), nI_1, hne2]
  rfl
theorem nR_mod {c x : Nat} (h : x < c) : (x + 1) % c = nR c x := by
  unfold nR
  split
  · exact Nat.mod_eq_of_lt (by omega)
  · rw [show x + 1 = c by omega, Nat.mod_self]
theorem R195 (hL : LM S R) {c e s : Nat} (h1 : I 300 1 = nI c) (he : I 200 18 = nI e) (hs : s < 64) (hc0 : 0 < c) (hc : c < 64) (he2 : e < 3) : xRun xT 195 0 [(0, .ref 200), (1, .int (nI s))] [] (S, I, J, D, R) b Q = Q (.ok (some (.int (if bR c e (s % c) = true then 1 else 0)))) (S, I, J, D, R) b := by
  have e1 : (nI e = 1) = (e = 1) := by rw [show (1 : Int32) = nI 1 from rfl, nI_iff (by omega) (by omega)]
  have e0 : (nI c = 0) = False := eq_false (nI_ne0 hc0 (by omega))
  have hm := Nat.mod_lt s hc0
  rw [e195_0]
  simp only [B195_0, xSeq, i_push, i_load, i_iload, i_lload, i_dload, i_aload, i_istore, i_astore, i_lstore, i_dstore, i_iinc, i_ii, i_iiz, i_ll, i_llz, i_lli, i_li, i_i, i_l, i_i2l, i_l2i, i_dup, i_dup2, i_dup2w, i_dupx1, i_pop, i_pop2, i_goto, i_ifc, i_icmp, i_getI, i_getL, i_getR, i_putI, i_putZ, i_putL, i_putR, i_aldI, i_aldB, i_aldL, i_aldD, i_astI, i_astL, i_astD, i_alen, i_ret, i_iret, i_zret, i_lret, i_fret, i_dret, i_aret, i_invS0, i_invV0, i_m2, i_m1, i_ml, i_obj, lk, lkp, stf1, stf2, Value.category, rV, xTo, lv_args, xCk, xCat, xRc, xAk, hg_S, hg_I, hg_J, hg_D, hg_R, hs_I, hs_J, hs_D, hs_R, uI_at, uJ_at, uD_at, uR_at, List.take_succ_cons, List.take_zero, List.drop_succ_cons, List.drop_zero, List.reverse_cons, List.reverse_nil, List.nil_append, List.cons_append, List.map_cons, List.map_nil, List.sum_cons, List.sum_nil, List.length_cons, List.length_nil, Option.toList_some, Option.toList_none, true_and, and_true, false_and, and_false, true_implies, false_implies, implies_true, not_true_eq_false, not_false_eq_true, ne_eq, if_true, if_false, Bool.and_true, Bool.true_and, decide_true, decide_false, reduceIte, reduceCtorEq, Bool.and_self, Bool.and_eq_true, decide_eq_true_eq, and_self, true_or, or_true, false_or, or_false, Nat.zero_add, Nat.add_zero, eq_self, Nat.reduceEqDiff, Nat.reduceLeDiff, Nat.reduceLT, Nat.reduceAdd, Nat.reduceSub, Nat.reduceMul, xi144_0, ix_0, xi144_1, ix_1, xi144_2, ix_2, xi144_3, ix_3, xi144_4, ix_4, xi144_5, ix_5, xi144_6, ix_6, xi144_7, ix_7, xi144_8, ix_8, xi144_9, ix_9, xi144_10, ix_10, LM_out hL, h1, he, e0, q_rem (show s < 2 ^ 31 by omega) hc0 (show c < 2 ^ 31 by omega), nI_1, nI_ltP (show s % c + 1 < 2147483648 by omega) (show c < 2147483648 by omega), e1, e195_27, B195_27, e195_31, B195_31, e195_32, B195_32, bR]
  by_cases h1 : s % c + 1 < c
  · simp [h1]
  · by_cases h2 : e = 1 <;> simp [h1, h2]
theorem R197 (hL : LM S R) {r c e s : Nat} (h0 : I 300 0 = nI r) (h1 : I 300 1 = nI c) (he : I 200 18 = nI e) (hs : s < 64) (hc0 : 0 < c) (hc : c < 64) (hr : r < 64) (he2 : e < 3) : xRun xT 197 0 [(0, .ref 200), (1, .int (nI s))] [] (S, I, J, D, R) b Q = Q (.ok (some (.int (if bD r e (s / c) = true then 1 else 0)))) (S, I, J, D, R) b := by
  have e1 : (nI e = 0) = (e = 0) := by rw [show (0 : Int32) = nI 0 from rfl, nI_iff (by omega) (by omega)]
  have e0 : (nI c = 0) = False := eq_false (nI_ne0 hc0 (by omega))
  have hm := Nat.div_le_self s c
  have eD : nI s / nI c = nI (s / c) := pk_div (by omega) (by omega) (by omega)
  rw [e197_0]
  simp only [B197_0, xSeq, i_push, i_load, i_iload, i_lload, i_dload, i_aload, i_istore, i_astore, i_lstore, i_dstore, i_iinc, i_ii, i_iiz, i_ll, i_llz, i_lli, i_li, i_i, i_l, i_i2l, i_l2i, i_dup, i_dup2, i_dup2w, i_dupx1, i_pop, i_pop2, i_goto, i_ifc, i_icmp, i_getI, i_getL, i_getR, i_putI, i_putZ, i_putL, i_putR, i_aldI, i_aldB, i_aldL, i_aldD, i_astI, i_astL, i_astD, i_alen, i_ret, i_iret, i_zret, i_lret, i_fret, i_dret, i_aret, i_invS0, i_invV0, i_m2, i_m1, i_ml, i_obj, lk, lkp, stf1, stf2, Value.category, rV, xTo, lv_args, xCk, xCat, xRc, xAk, hg_S, hg_I, hg_J, hg_D, hg_R, hs_I, hs_J, hs_D, hs_R, uI_at, uJ_at, uD_at, uR_at, List.take_succ_cons, List.take_zero, List.drop_succ_cons, List.drop_zero, List.reverse_cons, List.reverse_nil, List.nil_append, List.cons_append, List.map_cons, List.map_nil, List.sum_cons, List.sum_nil, List.length_cons, List.length_nil, Option.toList_some, Option.toList_none, true_and, and_true, false_and, and_false, true_implies, false_implies, implies_true, not_true_eq_false, not_false_eq_true, ne_eq, if_true, if_false, Bool.and_true, Bool.true_and, decide_true, decide_false, reduceIte, reduceCtorEq, Bool.and_self, Bool.and_eq_true, decide_eq_true_eq, and_self, true_or, or_true, false_or, or_false, Nat.zero_add, Nat.add_zero, eq_self, Nat.reduceEqDiff, Nat.reduceLeDiff, Nat.reduceLT, Nat.reduceAdd, Nat.reduceSub, Nat.reduceMul, xi144_0, ix_0, xi144_1, ix_1, xi144_2, ix_2, xi144_3, ix_3, xi144_4, ix_4, xi144_5, ix_5, xi144_6, ix_6, xi144_7, ix_7, xi144_8, ix_8, xi144_9, ix_9, xi144_10, ix_10, LM_out hL, h0, h1, he, e0, eD, nI_1, nI_ltP (show s / c + 1 < 2147483648 by omega) (show r < 2147483648 by omega), e1, e197_26, B197_26, e197_30, B197_30, e197_31, B197_31, bD]
  by_cases h1 : s / c + 1 < r
  · simp [h1]
  · by_cases h2 : e = 0 <;> simp [h1, h2]
theorem L194_117 {r c e s : Nat} (hL : LM S R) (h0 : I 300 0 = nI r) (h1 : I 300 1 = nI c) (he : I 200 18 = nI e) (hn : n = r * c) (hc0 : 0 < c) (hc : c < 64) (hr : r < 64) (he2 : e < 3) (hs : s < n) (hg : gk n (bl r c e n) = true)
    (hB : HM I n (bl r c e s ++ oR c e s))
    (kk : ∀ I', HM I' n (bl r c e (s + 1)) → (∀ o k, ¬ bM o k → I' o k = I o k) → xRun xT 194 56 [(0, .ref 200), (1, .int (nI (s + 1)))] [] (S, I', J, D, R) b Q) :
    xRun xT 194 117 [(0, .ref 200), (1, .int (nI s)), (2, .int (nI (s / c))), (3, .int (nI (s % c)))] [] (S, I, J, D, R) b Q := by
  obtain ⟨l0, hl0⟩ := bl_pre (r := r) (c := c) (e := e) (show s + 1 ≤ n by omega)
  have hn64 : n ≤ 64 := (gk_q hg).1.2.1
  have hrow : s / c < r := by
    rw [Nat.div_lt_iff_lt_mul (by omega)]
    rw [hn] at hs
    exact hs
  have hr1 : 0 < r := Nat.lt_of_le_of_lt (Nat.zero_le _) hrow
  have hr0 : (nI r = 0) = False := eq_false (nI_ne0 hr1 (by omega))
  have e5 : s / c + 1 < 2 ^ 31 := Nat.lt_of_le_of_lt hrow (by omega)
  rw [e194_117]
  simp only [B194_117, xSeq, i_push, i_load, i_iload, i_lload, i_dload, i_aload, i_istore, i_astore, i_lstore, i_dstore, i_iinc, i_ii, i_iiz, i_ll, i_llz, i_lli, i_li, i_i, i_l, i_i2l, i_l2i, i_dup, i_dup2, i_dup2w, i_dupx1, i_pop, i_pop2, i_goto, i_ifc, i_icmp, i_getI, i_getL, i_getR, i_putI, i_putZ, i_putL, i_putR, i_aldI, i_aldB, i_aldL, i_aldD, i_astI, i_astL, i_astD, i_alen, i_ret, i_iret, i_zret, i_lret, i_fret, i_dret, i_aret, i_invS0, i_invV0, i_m2, i_m1, i_ml, i_obj, lk, lkp, stf1, stf2, Value.category, rV, xTo, lv_args, xCk, xCat, xRc, xAk, hg_S, hg_I, hg_J, hg_D, hg_R, hs_I, hs_J, hs_D, hs_R, uI_at, uJ_at, uD_at, uR_at, List.take_succ_cons, List.take_zero, List.drop_succ_cons, List.drop_zero, List.reverse_cons, List.reverse_nil, List.nil_append, List.cons_append, List.map_cons, List.map_nil, List.sum_cons, List.sum_nil, List.length_cons, List.length_nil, Option.toList_some, Option.toList_none, true_and, and_true, false_and, and_false, true_implies, false_implies, implies_true, not_true_eq_false, not_false_eq_true, ne_eq, if_true, if_false, Bool.and_true, Bool.true_and, decide_true, decide_false, reduceIte, reduceCtorEq, Bool.and_self, Bool.and_eq_true, decide_eq_true_eq, and_self, true_or, or_true, false_or, or_false, Nat.zero_add, Nat.add_zero, eq_self, Nat.reduceEqDiff, Nat.reduceLeDiff, Nat.reduceLT, Nat.reduceAdd, Nat.reduceSub, Nat.reduceMul, xi144_0, ix_0, xi144_1, ix_1, xi144_2, ix_2, xi144_3, ix_3, xi144_4, ix_4, xi144_5, ix_5, xi144_6, ix_6, xi144_7, ix_7, xi144_8, ix_8, xi144_9, ix_9, xi144_10, ix_10, LM_out hL, R197 (J := J) (D := D) hL h0 h1 he (show s < 64 by omega) hc0 hc hr he2]
  by_cases hD : bD r e (s / c) = true
  · have eD : oD r c e s = [(s, nR r (s / c) * c + s % c)] := by rw [oD, if_pos hD]
    obtain ⟨o1, o2, o3, o4, o5, o6, o7⟩ := gk_one hg (l := bl r c e s ++ oR c e s) (f := s) (s := nR r (s / c) * c + s % c) (l' := l0) (by rw [hl0, bl, eD])
    have h196 := fun (Q : xQ) => R196 (J := J) (D := D) (b := (0, 0)) (Q := Q) hL hn64 o1 o2 o3 hB.1 o4 (hB.2.2.2.1 _ o1) (hB.2.2.2.1 _ o2) o6 o7
    have hB' := HM_add hB o3 o1 o2 o5
    have e3 : jRem (nI (s / c + 1)) (nI r) * nI c + nI (s % c) = nI (nR r (s / c) * c + s % c) := by
      rw [q_rem e5 hr1 (by omega), nR_mod hrow, pk_mul, nI_add]
    simp only [hD, if_true, i1_0, xSeq, i_push, i_load, i_iload, i_lload, i_dload, i_aload, i_istore, i_astore, i_lstore, i_dstore, i_iinc, i_ii, i_iiz, i_ll, i_llz, i_lli, i_li, i_i, i_l, i_i2l, i_l2i, i_dup, i_dup2, i_dup2w, i_dupx1, i_pop, i_pop2, i_goto, i_ifc, i_icmp, i_getI, i_getL, i_getR, i_putI, i_putZ, i_putL, i_putR, i_aldI, i_aldB, i_aldL, i_aldD, i_astI, i_astL, i_astD, i_alen, i_ret, i_iret, i_zret, i_lret, i_fret, i_dret, i_aret, i_invS0, i_invV0, i_m2, i_m1, i_ml, i_obj, lk, lkp, stf1, stf2, Value.category, rV, xTo, lv_args, xCk, xCat, xRc, xAk, hg_S, hg_I, hg_J, hg_D, hg_R, hs_I, hs_J, hs_D, hs_R, uI_at, uJ_at, uD_at, uR_at, List.take_succ_cons, List.take_zero, List.drop_succ_cons, List.drop_zero, List.reverse_cons, List.reverse_nil, List.nil_append, List.cons_append, List.map_cons, List.map_nil, List.sum_cons, List.sum_nil, List.length_cons, List.length_nil, Option.toList_some, Option.toList_none, true_and, and_true, false_and, and_false, true_implies, false_implies, implies_true, not_true_eq_false, not_false_eq_true, ne_eq, if_true, if_false, Bool.and_true, Bool.true_and, decide_true, decide_false, reduceIte, reduceCtorEq, Bool.and_self, Bool.and_eq_true, decide_eq_true_eq, and_self, true_or, or_true, false_or, or_false, Nat.zero_add, Nat.add_zero, eq_self, Nat.reduceEqDiff, Nat.reduceLeDiff, Nat.reduceLT, Nat.reduceAdd, Nat.reduceSub, Nat.reduceMul, xi144_0, ix_0, xi144_1, ix_1, xi144_2, ix_2, xi144_3, ix_3, xi144_4, ix_4, xi144_5, ix_5, xi144_6, ix_6, xi144_7, ix_7, xi144_8, ix_8, xi144_9, ix_9, xi144_10, ix_10, h0, h1, nI_1, LM_out hL, hr0, e3, h196, e194_149, B194_149]
    exact kk _ (by rw [bl, eD]; exact hB') (fun o k hok => aM_fr hok)
  · have eD : oD r c e s = [] := by rw [oD, if_neg hD]
    simp only [hD, if_false, xSeq, i_push, i_load, i_iload, i_lload, i_dload, i_aload, i_istore, i_astore, i_lstore, i_dstore, i_iinc, i_ii, i_iiz, i_ll, i_llz, i_lli, i_li, i_i, i_l, i_i2l, i_l2i, i_dup, i_dup2, i_dup2w, i_dupx1, i_pop, i_pop2, i_goto, i_ifc, i_icmp, i_getI, i_getL, i_getR, i_putI, i_putZ, i_putL, i_putR, i_aldI, i_aldB, i_aldL, i_aldD, i_astI, i_astL, i_astD, i_alen, i_ret, i_iret, i_zret, i_lret, i_fret, i_dret, i_aret, i_invS0, i_invV0, i_m2, i_m1, i_ml, i_obj, lk, lkp, stf1, stf2, Value.category, rV, xTo, lv_args, xCk, xCat, xRc, xAk, hg_S, hg_I, hg_J, hg_D, hg_R, hs_I, hs_J, hs_D, hs_R, uI_at, uJ_at, uD_at, uR_at, List.take_succ_cons, List.take_zero, List.drop_succ_cons, List.drop_zero, List.reverse_cons, List.reverse_nil, List.nil_append, List.cons_append, List.map_cons, List.map_nil, List.sum_cons, List.sum_nil, List.length_cons, List.length_nil, Option.toList_some, Option.toList_none, true_and, and_true, false_and, and_false, true_implies, false_implies, implies_true, not_true_eq_false, not_false_eq_true, ne_eq, if_true, if_false, Bool.and_true, Bool.true_and, decide_true, decide_false, reduceIte, reduceCtorEq, Bool.and_self, Bool.and_eq_true, decide_eq_true_eq, and_self, true_or, or_true, false_or, or_false, Nat.zero_add, Nat.add_zero, eq_self, Nat.reduceEqDiff, Nat.reduceLeDiff, Nat.reduceLT, Nat.reduceAdd, Nat.reduceSub, Nat.reduceMul, Bool.false_eq_true, e194_149, B194_149, nI_1]
    exact kk _ (by rw [bl, eD, List.append_nil]; exact hB) (fun _ _ _ => rfl)
theorem L194_56 {r c e : Nat} (hL : LM S R) (hn : n = r * c) (hc0 : 0 < c) (hc : c < 64) (hr : r < 64) (he2 : e < 3) (hg : gk n (bl r c e n) = true) {I0 : xI} (h00 : I0 300 0 = nI r) (h01 : I0 300 1 = nI c) (h02 : I0 300 10 = nI n) (h0e : I0 200 18 = nI e)
    (kk : ∀ I', HM I' n (bl r c e n) → (∀ o k, ¬ bM o k → I' o k = I0 o k) → Q (.ok none) (S, I', J, D, R) b) :
    ∀ (j s : Nat) (I : xI), s + j = n → HM I n (bl r c e s) → (∀ o k, ¬ bM o k → I o k = I0 o k) → xRun xT 194 56 [(0, .ref 200), (1, .int (nI s))] [] (S, I, J, D, R) b Q
  | 0, s, I, hs, hB, hf => by
    have e2 : s = n := by omega
    have h2 : I 300 10 = nI n := by rw [hf _ _ (by decide)]; exact h02
    have hn64 : n ≤ 64 := (gk_q hg).1.2.1
    subst e2
    rw [e194_56]
    simp only [B194_56, xSeq, i_push, i_load, i_iload, i_lload, i_dload, i_aload, i_istore, i_astore, i_lstore, i_dstore, i_iinc, i_ii, i_iiz, i_ll, i_llz, i_lli, i_li, i_i, i_l, i_i2l, i_l2i, i_dup, i_dup2, i_dup2w, i_dupx1, i_pop, i_pop2, i_goto, i_ifc, i_icmp, i_getI, i_getL, i_getR, i_putI, i_putZ, i_putL, i_putR, i_aldI, i_aldB, i_aldL, i_aldD, i_astI, i_astL, i_astD, i_alen, i_ret, i_iret, i_zret, i_lret, i_fret, i_dret, i_aret, i_invS0, i_invV0, i_m2, i_m1, i_ml, i_obj, lk, lkp, stf1, stf2, Value.category, rV, xTo, lv_args, xCk, xCat, xRc, xAk, hg_S, hg_I, hg_J, hg_D, hg_R, hs_I, hs_J, hs_D, hs_R, uI_at, uJ_at, uD_at, uR_at, List.take_succ_cons, List.take_zero, List.drop_succ_cons, List.drop_zero, List.reverse_cons, List.reverse_nil, List.nil_append, List.cons_append, List.map_cons, List.map_nil, List.sum_cons, List.sum_nil, List.length_cons, List.length_nil, Option.toList_some, Option.toList_none, true_and, and_true, false_and, and_false, true_implies, false_implies, implies_true, not_true_eq_false, not_false_eq_true, ne_eq, if_true, if_false, Bool.and_true, Bool.true_and, decide_true, decide_false, reduceIte, reduceCtorEq, Bool.and_self, Bool.and_eq_true, decide_eq_true_eq, and_self, true_or, or_true, false_or, or_false, Nat.zero_add, Nat.add_zero, eq_self, Nat.reduceEqDiff, Nat.reduceLeDiff, Nat.reduceLT, Nat.reduceAdd, Nat.reduceSub, Nat.reduceMul, xi144_0, ix_0, xi144_1, ix_1, xi144_2, ix_2, xi144_3, ix_3, xi144_4, ix_4, xi144_5, ix_5, xi144_6, ix_6, xi144_7, ix_7, xi144_8, ix_8, xi144_9, ix_9, xi144_10, ix_10, LM_out hL, h2, nI_leP (show s < 2147483648 by omega) (show s < 2147483648 by omega), Nat.le_refl, e194_155, B194_155]
    exact kk I hB hf
  | j + 1, s, I, hs, hB, hf => by
    have h0 : I 300 0 = nI r := by rw [hf _ _ (by decide)]; exact h00
    have h1 : I 300 1 = nI c := by rw [hf _ _ (by decide)]; exact h01
    have h2 : I 300 10 = nI n := by rw [hf _ _ (by decide)]; exact h02
    have h3 : I 200 18 = nI e := by rw [hf _ _ (by decide)]; exact h0e
    have hn64 : n ≤ 64 := (gk_q hg).1.2.1
    have e0 : (nI c = 0) = False := eq_false (nI_ne0 hc0 (by omega))
    have eD : nI s / nI c = nI (s / c) := pk_div (by omega) (by omega) (by omega)
    have hcol := Nat.mod_lt s hc0
    obtain ⟨l0, hl0⟩ := bl_pre (r := r) (c := c) (e := e) (show s + 1 ≤ n by omega)
    rw [e194_56]
    simp only [B194_56, xSeq, i_push, i_load, i_iload, i_lload, i_dload, i_aload, i_istore, i_astore, i_lstore, i_dstore, i_iinc, i_ii, i_iiz, i_ll, i_llz, i_lli, i_li, i_i, i_l, i_i2l, i_l2i, i_dup, i_dup2, i_dup2w, i_dupx1, i_pop, i_pop2, i_goto, i_ifc, i_icmp, i_getI, i_getL, i_getR, i_putI, i_putZ, i_putL, i_putR, i_aldI, i_aldB, i_aldL, i_aldD, i_astI, i_astL, i_astD, i_alen, i_ret, i_iret, i_zret, i_lret, i_fret, i_dret, i_aret, i_invS0, i_invV0, i_m2, i_m1, i_ml, i_obj, lk, lkp, stf1, stf2, Value.category, rV, xTo, lv_args, xCk, xCat, xRc, xAk, hg_S, hg_I, hg_J, hg_D, hg_R, hs_I, hs_J, hs_D, hs_R, uI_at, uJ_at, uD_at, uR_at, List.take_succ_cons, List.take_zero, List.drop_succ_cons, List.drop_zero, List.reverse_cons, List.reverse_nil, List.nil_append, List.cons_append, List.map_cons, List.map_nil, List.sum_cons, List.sum_nil, List.length_cons, List.length_nil, Option.toList_some, Option.toList_none, true_and, and_true, false_and, and_false, true_implies, false_implies, implies_true, not_true_eq_false, not_false_eq_true, ne_eq, if_true, if_false, Bool.and_true, Bool.true_and, decide_true, decide_false, reduceIte, reduceCtorEq, Bool.and_self, Bool.and_eq_true, decide_eq_true_eq, and_self, true_or, or_true, false_or, or_false, Nat.zero_add, Nat.add_zero, eq_self, Nat.reduceEqDiff, Nat.reduceLeDiff, Nat.reduceLT, Nat.reduceAdd, Nat.reduceSub, Nat.reduceMul, xi144_0, ix_0, xi144_1, ix_1, xi144_2, ix_2, xi144_3, ix_3, xi144_4, ix_4, xi144_5, ix_5, xi144_6, ix_6, xi144_7, ix_7, xi144_8, ix_8, xi144_9, ix_9, xi144_10, ix_10, LM_out hL, h1, h2, e0, eD, q_rem (show s < 2 ^ 31 by omega) hc0 (show c < 2 ^ 31 by omega), nI_leP (show n < 2147483648 by omega) (show s < 2147483648 by omega), show (n ≤ s) = False from eq_false (by omega), R195 (J := J) (D := D) hL h1 h3 (show s < 64 by omega) hc0 hc he2]
    by_cases hR : bR c e (s % c) = true
    · have eR : oR c e s = [(s, s / c * c + nR c (s % c))] := by rw [oR, if_pos hR]
      obtain ⟨o1, o2, o3, o4, o5, o6, o7⟩ := gk_one hg (l := bl r c e s) (f := s) (s := s / c * c + nR c (s % c)) (l' := oD r c e s ++ l0) (by rw [hl0, bl, eR, ← List.append_assoc])
      have h196 := fun (Q : xQ) => R196 (J := J) (D := D) (b := (0, 0)) (Q := Q) hL hn64 o1 o2 o3 hB.1 o4 (hB.2.2.2.1 _ o1) (hB.2.2.2.1 _ o2) o6 o7
      have hB' := HM_add hB o3 o1 o2 o5
      have hf' := fun o k (hok : ¬ bM o k) => aM_fr (I := I) (f := s) (s := s / c * c + nR c (s % c)) (k := (bl r c e s).length) (df := dE (bl r c e s) s) (ds := dE (bl r c e s) (s / c * c + nR c (s % c))) hok
      have e3 : nI (s / c) * nI c + nI ((s % c + 1) % c) = nI (s / c * c + nR c (s % c)) := by
        rw [nR_mod hcol, pk_mul, nI_add]
      simp only [hR, if_true, i1_0, xSeq, i_push, i_load, i_iload, i_lload, i_dload, i_aload, i_istore, i_astore, i_lstore, i_dstore, i_iinc, i_ii, i_iiz, i_ll, i_llz, i_lli, i_li, i_i, i_l, i_i2l, i_l2i, i_dup, i_dup2, i_dup2w, i_dupx1, i_pop, i_pop2, i_goto, i_ifc, i_icmp, i_getI, i_getL, i_getR, i_putI, i_putZ, i_putL, i_putR, i_aldI, i_aldB, i_aldL, i_aldD, i_astI, i_astL, i_astD, i_alen, i_ret, i_iret, i_zret, i_lret, i_fret, i_dret, i_aret, i_invS0, i_invV0, i_m2, i_m1, i_ml, i_obj, lk, lkp, stf1, stf2, Value.category, rV, xTo, lv_args, xCk, xCat, xRc, xAk, hg_S, hg_I, hg_J, hg_D, hg_R, hs_I, hs_J, hs_D, hs_R, uI_at, uJ_at, uD_at, uR_at, List.take_succ_cons, List.take_zero, List.drop_succ_cons, List.drop_zero, List.reverse_cons, List.reverse_nil, List.nil_append, List.cons_append, List.map_cons, List.map_nil, List.sum_cons, List.sum_nil, List.length_cons, List.length_nil, Option.toList_some, Option.toList_none, true_and, and_true, false_and, and_false, true_implies, false_implies, implies_true, not_true_eq_false, not_false_eq_true, ne_eq, if_true, if_false, Bool.and_true, Bool.true_and, decide_true, decide_false, reduceIte, reduceCtorEq, Bool.and_self, Bool.and_eq_true, decide_eq_true_eq, and_self, true_or, or_true, false_or, or_false, Nat.zero_add, Nat.add_zero, eq_self, Nat.reduceEqDiff, Nat.reduceLeDiff, Nat.reduceLT, Nat.reduceAdd, Nat.reduceSub, Nat.reduceMul, nI_1, xi144_0, ix_0, xi144_1, ix_1, xi144_2, ix_2, xi144_3, ix_3, xi144_4, ix_4, xi144_5, ix_5, xi144_6, ix_6, xi144_7, ix_7, xi144_8, ix_8, xi144_9, ix_9, xi144_10, ix_10, h1, LM_out hL, e0, q_rem (show s % c + 1 < 2 ^ 31 by omega) hc0 (show c < 2 ^ 31 by omega), e3, h196]
      exact L194_117 hL (by rw [hf' _ _ (by decide)]; exact h0) (by rw [hf' _ _ (by decide)]; exact h1) (by rw [hf' _ _ (by decide)]; exact h3) hn hc0 hc hr he2 (by omega) hg (by rw [eR]; exact hB') (fun I' a1 a2 => L194_56 hL hn hc0 hc hr he2 hg h00 h01 h02 h0e kk j (s + 1) I' (by omega) a1 (fun o k hok => by rw [a2 o k hok, hf' o k hok, hf o k hok]))
    · have eR : oR c e s = [] := by rw [oR, if_neg hR]
      simp only [hR, if_false, xSeq, i_push, i_load, i_iload, i_lload, i_dload, i_aload, i_istore, i_astore, i_lstore, i_dstore, i_iinc, i_ii, i_iiz, i_ll, i_llz, i_lli, i_li, i_i, i_l, i_i2l, i_l2i, i_dup, i_dup2, i_dup2w, i_dupx1, i_pop, i_pop2, i_goto, i_ifc, i_icmp, i_getI, i_getL, i_getR, i_putI, i_putZ, i_putL, i_putR, i_aldI, i_aldB, i_aldL, i_aldD, i_astI, i_astL, i_astD, i_alen, i_ret, i_iret, i_zret, i_lret, i_fret, i_dret, i_aret, i_invS0, i_invV0, i_m2, i_m1, i_ml, i_obj, lk, lkp, stf1, stf2, Value.category, rV, xTo, lv_args, xCk, xCat, xRc, xAk, hg_S, hg_I, hg_J, hg_D, hg_R, hs_I, hs_J, hs_D, hs_R, uI_at, uJ_at, uD_at, uR_at, List.take_succ_cons, List.take_zero, List.drop_succ_cons, List.drop_zero, List.reverse_cons, List.reverse_nil, List.nil_append, List.cons_append, List.map_cons, List.map_nil, List.sum_cons, List.sum_nil, List.length_cons, List.length_nil, Option.toList_some, Option.toList_none, true_and, and_true, false_and, and_false, true_implies, false_implies, implies_true, not_true_eq_false, not_false_eq_true, ne_eq, if_true, if_false, Bool.and_true, Bool.true_and, decide_true, decide_false, reduceIte, reduceCtorEq, Bool.and_self, Bool.and_eq_true, decide_eq_true_eq, and_self, true_or, or_true, false_or, or_false, Nat.zero_add, Nat.add_zero, eq_self, Nat.reduceEqDiff, Nat.reduceLeDiff, Nat.reduceLT, Nat.reduceAdd, Nat.reduceSub, Nat.reduceMul, Bool.false_eq_true]
      exact L194_117 hL h0 h1 h3 hn hc0 hc hr he2 (by omega) hg (by rw [eR, List.append_nil]; exact hB) (fun I' a1 a2 => L194_56 hL hn hc0 hc hr he2 hg h00 h01 h02 h0e kk j (s + 1) I' (by omega) a1 (fun o k hok => by rw [a2 o k hok, hf o k hok]))
end
/-! ===== the lab begins ===== -/
section
theorem w_invVA {c z n m mc ms : Nat} {P : xP} {Q : xQ} {K : xK} {l : xL} {st : List Value} {h : xH} {b : Nat × Nat} (h1 : mc ≤ b.1) (h2 : ms ≤ b.2) (hc : xCk n m st = true) (hr : xRc c h (st.take n).reverse) (k : P z 0 (lv_args 0 (st.take n).reverse) [] h (mc, ms) (xTo Q K l (st.drop n) (b.1 - mc, b.2 - ms))) : i_invVA c z n m P Q K l st h b := ⟨hc, hr, mc, ms, h1, h2, k⟩
theorem w_invSA {z n m mc ms : Nat} {P : xP} {Q : xQ} {K : xK} {l : xL} {st : List Value} {h : xH} {b : Nat × Nat} (h1 : mc ≤ b.1) (h2 : ms ≤ b.2) (hc : xCk n m st = true) (k : P z 0 (lv_args 0 (st.take n).reverse) [] h (mc, ms) (xTo Q K l (st.drop n) (b.1 - mc, b.2 - ms))) : i_invSA z n m P Q K l st h b := ⟨hc, mc, ms, h1, h2, k⟩
variable {S : xS} {I : xI} {J : xJ} {D : xDb} {R : xR} {b : Nat × Nat} {Q : xQ} {n : Nat}
theorem shr0 (x : Int32) : jShr x 0 = x := by
  unfold jShr
  exact sb_shr0 x
/-- the output's things: its bytes at v, room for cap of them -/
def LO (S : xS) (I : xI) (R : xR) (v cap : Nat) : Prop := R 140 0 = some v ∧ S v = (103, cap) ∧ I 140 1 = 0 ∧ cap < 65536
theorem R18 (hL : LC S R) {v cap : Nat} (hO : LO S I R v cap) : xRun xT 18 0 [(0, .ref 140), (1, .int 0)] [] (S, I, J, D, R) b Q = Q (.ok none) (S, I, J, D, R) b := by
  obtain ⟨o1, o2, o3, o4⟩ := hO
  have e : (0 - nI cap ≤ 0) = True := eq_true (by
    rw [Int32.le_iff_toInt_le, Int32.zero_sub, sb_negT (by omega)]
    show -(cap : Int) ≤ 0
    omega)
  rw [e18_0]
  simp only [B18_0, xSeq, i_push, i_load, i_iload, i_lload, i_dload, i_aload, i_istore, i_astore, i_lstore, i_dstore, i_iinc, i_ii, i_iiz, i_ll, i_llz, i_lli, i_li, i_i, i_l, i_i2l, i_l2i, i_dup, i_dup2, i_dup2w, i_dupx1, i_pop, i_pop2, i_goto, i_ifc, i_icmp, i_getI, i_getL, i_getR, i_putI, i_putZ, i_putL, i_putR, i_aldI, i_aldB, i_aldL, i_aldD, i_astI, i_astL, i_astD, i_alen, i_ret, i_iret, i_zret, i_lret, i_fret, i_dret, i_aret, i_invS0, i_invV0, i_m2, i_m1, i_ml, i_obj, lk, lkp, stf1, stf2, Value.category, rV, xTo, lv_args, xCk, xCat, xRc, xAk, hg_S, hg_I, hg_J, hg_D, hg_R, hs_I, hs_J, hs_D, hs_R, uI_at, uJ_at, uD_at, uR_at, List.take_succ_cons, List.take_zero, List.drop_succ_cons, List.drop_zero, List.reverse_cons, List.reverse_nil, List.nil_append, List.cons_append, List.map_cons, List.map_nil, List.sum_cons, List.sum_nil, List.length_cons, List.length_nil, Option.toList_some, Option.toList_none, true_and, and_true, false_and, and_false, true_implies, false_implies, implies_true, not_true_eq_false, not_false_eq_true, ne_eq, if_true, if_false, Bool.and_true, Bool.true_and, decide_true, decide_false, reduceIte, reduceCtorEq, Bool.and_self, Bool.and_eq_true, decide_eq_true_eq, and_self, true_or, or_true, false_or, or_false, Nat.zero_add, Nat.add_zero, eq_self, Nat.reduceEqDiff, Nat.reduceLeDiff, Nat.reduceLT, Nat.reduceAdd, Nat.reduceSub, Nat.reduceMul, LC_out hL, o1, o2, o3, shr0, e, e18_38, B18_38]
theorem L16 (hL : LC S R) {v cap cnt : Nat} (hO : LO S I R v cap) (hc : I 140 3 = nI cnt) (hcnt : cnt < 65536)
    (kk : ∀ x b', Q (.ok none) (S, uI (uI I 140 2 x) 140 3 0, J, D, R) b') : xRun xT 16 0 [(0, .ref 140), (1, .int 0)] [] (S, I, J, D, R) b Q := by
  have hO' := hO
  obtain ⟨o1, o2, o3, o4⟩ := hO
  have e22 : ∀ Q : xQ, xRun xT 22 0 [(0, .ref 140)] [] (S, I, J, D, R) (0, 0) Q = Q (.ok (some (.int 1))) (S, I, J, D, R) (0, 0) := fun Q => by
    rw [e22_0]
    simp only [B22_0, xSeq, i_push, i_load, i_iload, i_lload, i_dload, i_aload, i_istore, i_astore, i_lstore, i_dstore, i_iinc, i_ii, i_iiz, i_ll, i_llz, i_lli, i_li, i_i, i_l, i_i2l, i_l2i, i_dup, i_dup2, i_dup2w, i_dupx1, i_pop, i_pop2, i_goto, i_ifc, i_icmp, i_getI, i_getL, i_getR, i_putI, i_putZ, i_putL, i_putR, i_aldI, i_aldB, i_aldL, i_aldD, i_astI, i_astL, i_astD, i_alen, i_ret, i_iret, i_zret, i_lret, i_fret, i_dret, i_aret, i_invS0, i_invV0, i_m2, i_m1, i_ml, i_obj, lk, lkp, stf1, stf2, Value.category, rV, xTo, lv_args, xCk, xCat, xRc, xAk, hg_S, hg_I, hg_J, hg_D, hg_R, hs_I, hs_J, hs_D, hs_R, uI_at, uJ_at, uD_at, uR_at, List.take_succ_cons, List.take_zero, List.drop_succ_cons, List.drop_zero, List.reverse_cons, List.reverse_nil, List.nil_append, List.cons_append, List.map_cons, List.map_nil, List.sum_cons, List.sum_nil, List.length_cons, List.length_nil, Option.toList_some, Option.toList_none, true_and, and_true, false_and, and_false, true_implies, false_implies, implies_true, not_true_eq_false, not_false_eq_true, ne_eq, if_true, if_false, Bool.and_true, Bool.true_and, decide_true, decide_false, reduceIte, reduceCtorEq, Bool.and_self, Bool.and_eq_true, decide_eq_true_eq, and_self, true_or, or_true, false_or, or_false, Nat.zero_add, Nat.add_zero, eq_self, Nat.reduceEqDiff, Nat.reduceLeDiff, Nat.reduceLT, Nat.reduceAdd, Nat.reduceSub, Nat.reduceMul, LC_out hL, o3, i1_0, e22_18, B22_18]
  rw [e16_0]
  simp only [B16_0, xSeq, i_push, i_load, i_iload, i_lload, i_dload, i_aload, i_istore, i_astore, i_lstore, i_dstore, i_iinc, i_ii, i_iiz, i_ll, i_llz, i_lli, i_li, i_i, i_l, i_i2l, i_l2i, i_dup, i_dup2, i_dup2w, i_dupx1, i_pop, i_pop2, i_goto, i_ifc, i_icmp, i_getI, i_getL, i_getR, i_putI, i_putZ, i_putL, i_putR, i_aldI, i_aldB, i_aldL, i_aldD, i_astI, i_astL, i_astD, i_alen, i_ret, i_iret, i_zret, i_lret, i_fret, i_dret, i_aret, i_invS0, i_invV0, i_m2, i_m1, i_ml, i_obj, lk, lkp, stf1, stf2, Value.category, rV, xTo, lv_args, xCk, xCat, xRc, xAk, hg_S, hg_I, hg_J, hg_D, hg_R, hs_I, hs_J, hs_D, hs_R, uI_at, uJ_at, uD_at, uR_at, List.take_succ_cons, List.take_zero, List.drop_succ_cons, List.drop_zero, List.reverse_cons, List.reverse_nil, List.nil_append, List.cons_append, List.map_cons, List.map_nil, List.sum_cons, List.sum_nil, List.length_cons, List.length_nil, Option.toList_some, Option.toList_none, true_and, and_true, false_and, and_false, true_implies, false_implies, implies_true, not_true_eq_false, not_false_eq_true, ne_eq, if_true, if_false, Bool.and_true, Bool.true_and, decide_true, decide_false, reduceIte, reduceCtorEq, Bool.and_self, Bool.and_eq_true, decide_eq_true_eq, and_self, true_or, or_true, false_or, or_false, Nat.zero_add, Nat.add_zero, eq_self, Nat.reduceEqDiff, Nat.reduceLeDiff, Nat.reduceLT, Nat.reduceAdd, Nat.reduceSub, Nat.reduceMul]
  refine w_invVA (mc := 0) (ms := 0) (Nat.zero_le _) (Nat.zero_le _) rfl (by simp only [xSeq, i_push, i_load, i_iload, i_lload, i_dload, i_aload, i_istore, i_astore, i_lstore, i_dstore, i_iinc, i_ii, i_iiz, i_ll, i_llz, i_lli, i_li, i_i, i_l, i_i2l, i_l2i, i_dup, i_dup2, i_dup2w, i_dupx1, i_pop, i_pop2, i_goto, i_ifc, i_icmp, i_getI, i_getL, i_getR, i_putI, i_putZ, i_putL, i_putR, i_aldI, i_aldB, i_aldL, i_aldD, i_astI, i_astL, i_astD, i_alen, i_ret, i_iret, i_zret, i_lret, i_fret, i_dret, i_aret, i_invS0, i_invV0, i_m2, i_m1, i_ml, i_obj, lk, lkp, stf1, stf2, Value.category, rV, xTo, lv_args, xCk, xCat, xRc, xAk, hg_S, hg_I, hg_J, hg_D, hg_R, hs_I, hs_J, hs_D, hs_R, uI_at, uJ_at, uD_at, uR_at, List.take_succ_cons, List.take_zero, List.drop_succ_cons, List.drop_zero, List.reverse_cons, List.reverse_nil, List.nil_append, List.cons_append, List.map_cons, List.map_nil, List.sum_cons, List.sum_nil, List.length_cons, List.length_nil, Option.toList_some, Option.toList_none, true_and, and_true, false_and, and_false, true_implies, false_implies, implies_true, not_true_eq_false, not_false_eq_true, ne_eq, if_true, if_false, Bool.and_true, Bool.true_and, decide_true, decide_false, reduceIte, reduceCtorEq, Bool.and_self, Bool.and_eq_true, decide_eq_true_eq, and_self, true_or, or_true, false_or, or_false, Nat.zero_add, Nat.add_zero, eq_self, Nat.reduceEqDiff, Nat.reduceLeDiff, Nat.reduceLT, Nat.reduceAdd, Nat.reduceSub, Nat.reduceMul, LC_out hL]) ?_
  simp only [xSeq, i_push, i_load, i_iload, i_lload, i_dload, i_aload, i_istore, i_astore, i_lstore, i_dstore, i_iinc, i_ii, i_iiz, i_ll, i_llz, i_lli, i_li, i_i, i_l, i_i2l, i_l2i, i_dup, i_dup2, i_dup2w, i_dupx1, i_pop, i_pop2, i_goto, i_ifc, i_icmp, i_getI, i_getL, i_getR, i_putI, i_putZ, i_putL, i_putR, i_aldI, i_aldB, i_aldL, i_aldD, i_astI, i_astL, i_astD, i_alen, i_ret, i_iret, i_zret, i_lret, i_fret, i_dret, i_aret, i_invS0, i_invV0, i_m2, i_m1, i_ml, i_obj, lk, lkp, stf1, stf2, Value.category, rV, xTo, lv_args, xCk, xCat, xRc, xAk, hg_S, hg_I, hg_J, hg_D, hg_R, hs_I, hs_J, hs_D, hs_R, uI_at, uJ_at, uD_at, uR_at, List.take_succ_cons, List.take_zero, List.drop_succ_cons, List.drop_zero, List.reverse_cons, List.reverse_nil, List.nil_append, List.cons_append, List.map_cons, List.map_nil, List.sum_cons, List.sum_nil, List.length_cons, List.length_nil, Option.toList_some, Option.toList_none, true_and, and_true, false_and, and_false, true_implies, false_implies, implies_true, not_true_eq_false, not_false_eq_true, ne_eq, if_true, if_false, Bool.and_true, Bool.true_and, decide_true, decide_false, reduceIte, reduceCtorEq, Bool.and_self, Bool.and_eq_true, decide_eq_true_eq, and_self, true_or, or_true, false_or, or_false, Nat.zero_add, Nat.add_zero, eq_self, Nat.reduceEqDiff, Nat.reduceLeDiff, Nat.reduceLT, Nat.reduceAdd, Nat.reduceSub, Nat.reduceMul]
  rw [e17_0]
  simp only [B17_0, xSeq, i_push, i_load, i_iload, i_lload, i_dload, i_aload, i_istore, i_astore, i_lstore, i_dstore, i_iinc, i_ii, i_iiz, i_ll, i_llz, i_lli, i_li, i_i, i_l, i_i2l, i_l2i, i_dup, i_dup2, i_dup2w, i_dupx1, i_pop, i_pop2, i_goto, i_ifc, i_icmp, i_getI, i_getL, i_getR, i_putI, i_putZ, i_putL, i_putR, i_aldI, i_aldB, i_aldL, i_aldD, i_astI, i_astL, i_astD, i_alen, i_ret, i_iret, i_zret, i_lret, i_fret, i_dret, i_aret, i_invS0, i_invV0, i_m2, i_m1, i_ml, i_obj, lk, lkp, stf1, stf2, Value.category, rV, xTo, lv_args, xCk, xCat, xRc, xAk, hg_S, hg_I, hg_J, hg_D, hg_R, hs_I, hs_J, hs_D, hs_R, uI_at, uJ_at, uD_at, uR_at, List.take_succ_cons, List.take_zero, List.drop_succ_cons, List.drop_zero, List.reverse_cons, List.reverse_nil, List.nil_append, List.cons_append, List.map_cons, List.map_nil, List.sum_cons, List.sum_nil, List.length_cons, List.length_nil, Option.toList_some, Option.toList_none, true_and, and_true, false_and, and_false, true_implies, false_implies, implies_true, not_true_eq_false, not_false_eq_true, ne_eq, if_true, if_false, Bool.and_true, Bool.true_and, decide_true, decide_false, reduceIte, reduceCtorEq, Bool.and_self, Bool.and_eq_true, decide_eq_true_eq, and_self, true_or, or_true, false_or, or_false, Nat.zero_add, Nat.add_zero, eq_self, Nat.reduceEqDiff, Nat.reduceLeDiff, Nat.reduceLT, Nat.reduceAdd, Nat.reduceSub, Nat.reduceMul, show ((0 : Int32) ≤ 0) = True from eq_true (by decide)]
  rw [e17_13]
  simp only [B17_13, xSeq, i_push, i_load, i_iload, i_lload, i_dload, i_aload, i_istore, i_astore, i_lstore, i_dstore, i_iinc, i_ii, i_iiz, i_ll, i_llz, i_lli, i_li, i_i, i_l, i_i2l, i_l2i, i_dup, i_dup2, i_dup2w, i_dupx1, i_pop, i_pop2, i_goto, i_ifc, i_icmp, i_getI, i_getL, i_getR, i_putI, i_putZ, i_putL, i_putR, i_aldI, i_aldB, i_aldL, i_aldD, i_astI, i_astL, i_astD, i_alen, i_ret, i_iret, i_zret, i_lret, i_fret, i_dret, i_aret, i_invS0, i_invV0, i_m2, i_m1, i_ml, i_obj, lk, lkp, stf1, stf2, Value.category, rV, xTo, lv_args, xCk, xCat, xRc, xAk, hg_S, hg_I, hg_J, hg_D, hg_R, hs_I, hs_J, hs_D, hs_R, uI_at, uJ_at, uD_at, uR_at, List.take_succ_cons, List.take_zero, List.drop_succ_cons, List.drop_zero, List.reverse_cons, List.reverse_nil, List.nil_append, List.cons_append, List.map_cons, List.map_nil, List.sum_cons, List.sum_nil, List.length_cons, List.length_nil, Option.toList_some, Option.toList_none, true_and, and_true, false_and, and_false, true_implies, false_implies, implies_true, not_true_eq_false, not_false_eq_true, ne_eq, if_true, if_false, Bool.and_true, Bool.true_and, decide_true, decide_false, reduceIte, reduceCtorEq, Bool.and_self, Bool.and_eq_true, decide_eq_true_eq, and_self, true_or, or_true, false_or, or_false, Nat.zero_add, Nat.add_zero, eq_self, Nat.reduceEqDiff, Nat.reduceLeDiff, Nat.reduceLT, Nat.reduceAdd, Nat.reduceSub, Nat.reduceMul]
  refine w_invVA (mc := 0) (ms := 0) (Nat.zero_le _) (Nat.zero_le _) rfl (by simp only [xSeq, i_push, i_load, i_iload, i_lload, i_dload, i_aload, i_istore, i_astore, i_lstore, i_dstore, i_iinc, i_ii, i_iiz, i_ll, i_llz, i_lli, i_li, i_i, i_l, i_i2l, i_l2i, i_dup, i_dup2, i_dup2w, i_dupx1, i_pop, i_pop2, i_goto, i_ifc, i_icmp, i_getI, i_getL, i_getR, i_putI, i_putZ, i_putL, i_putR, i_aldI, i_aldB, i_aldL, i_aldD, i_astI, i_astL, i_astD, i_alen, i_ret, i_iret, i_zret, i_lret, i_fret, i_dret, i_aret, i_invS0, i_invV0, i_m2, i_m1, i_ml, i_obj, lk, lkp, stf1, stf2, Value.category, rV, xTo, lv_args, xCk, xCat, xRc, xAk, hg_S, hg_I, hg_J, hg_D, hg_R, hs_I, hs_J, hs_D, hs_R, uI_at, uJ_at, uD_at, uR_at, List.take_succ_cons, List.take_zero, List.drop_succ_cons, List.drop_zero, List.reverse_cons, List.reverse_nil, List.nil_append, List.cons_append, List.map_cons, List.map_nil, List.sum_cons, List.sum_nil, List.length_cons, List.length_nil, Option.toList_some, Option.toList_none, true_and, and_true, false_and, and_false, true_implies, false_implies, implies_true, not_true_eq_false, not_false_eq_true, ne_eq, if_true, if_false, Bool.and_true, Bool.true_and, decide_true, decide_false, reduceIte, reduceCtorEq, Bool.and_self, Bool.and_eq_true, decide_eq_true_eq, and_self, true_or, or_true, false_or, or_false, Nat.zero_add, Nat.add_zero, eq_self, Nat.reduceEqDiff, Nat.reduceLeDiff, Nat.reduceLT, Nat.reduceAdd, Nat.reduceSub, Nat.reduceMul, LC_out hL]) ?_
  simp only [xSeq, i_push, i_load, i_iload, i_lload, i_dload, i_aload, i_istore, i_astore, i_lstore, i_dstore, i_iinc, i_ii, i_iiz, i_ll, i_llz, i_lli, i_li, i_i, i_l, i_i2l, i_l2i, i_dup, i_dup2, i_dup2w, i_dupx1, i_pop, i_pop2, i_goto, i_ifc, i_icmp, i_getI, i_getL, i_getR, i_putI, i_putZ, i_putL, i_putR, i_aldI, i_aldB, i_aldL, i_aldD, i_astI, i_astL, i_astD, i_alen, i_ret, i_iret, i_zret, i_lret, i_fret, i_dret, i_aret, i_invS0, i_invV0, i_m2, i_m1, i_ml, i_obj, lk, lkp, stf1, stf2, Value.category, rV, xTo, lv_args, xCk, xCat, xRc, xAk, hg_S, hg_I, hg_J, hg_D, hg_R, hs_I, hs_J, hs_D, hs_R, uI_at, uJ_at, uD_at, uR_at, List.take_succ_cons, List.take_zero, List.drop_succ_cons, List.drop_zero, List.reverse_cons, List.reverse_nil, List.nil_append, List.cons_append, List.map_cons, List.map_nil, List.sum_cons, List.sum_nil, List.length_cons, List.length_nil, Option.toList_some, Option.toList_none, true_and, and_true, false_and, and_false, true_implies, false_implies, implies_true, not_true_eq_false, not_false_eq_true, ne_eq, if_true, if_false, Bool.and_true, Bool.true_and, decide_true, decide_false, reduceIte, reduceCtorEq, Bool.and_self, Bool.and_eq_true, decide_eq_true_eq, and_self, true_or, or_true, false_or, or_false, Nat.zero_add, Nat.add_zero, eq_self, Nat.reduceEqDiff, Nat.reduceLeDiff, Nat.reduceLT, Nat.reduceAdd, Nat.reduceSub, Nat.reduceMul]
  rw [R18 hL hO']
  simp only [xSeq, i_push, i_load, i_iload, i_lload, i_dload, i_aload, i_istore, i_astore, i_lstore, i_dstore, i_iinc, i_ii, i_iiz, i_ll, i_llz, i_lli, i_li, i_i, i_l, i_i2l, i_l2i, i_dup, i_dup2, i_dup2w, i_dupx1, i_pop, i_pop2, i_goto, i_ifc, i_icmp, i_getI, i_getL, i_getR, i_putI, i_putZ, i_putL, i_putR, i_aldI, i_aldB, i_aldL, i_aldD, i_astI, i_astL, i_astD, i_alen, i_ret, i_iret, i_zret, i_lret, i_fret, i_dret, i_aret, i_invS0, i_invV0, i_m2, i_m1, i_ml, i_obj, lk, lkp, stf1, stf2, Value.category, rV, xTo, lv_args, xCk, xCat, xRc, xAk, hg_S, hg_I, hg_J, hg_D, hg_R, hs_I, hs_J, hs_D, hs_R, uI_at, uJ_at, uD_at, uR_at, List.take_succ_cons, List.take_zero, List.drop_succ_cons, List.drop_zero, List.reverse_cons, List.reverse_nil, List.nil_append, List.cons_append, List.map_cons, List.map_nil, List.sum_cons, List.sum_nil, List.length_cons, List.length_nil, Option.toList_some, Option.toList_none, true_and, and_true, false_and, and_false, true_implies, false_implies, implies_true, not_true_eq_false, not_false_eq_true, ne_eq, if_true, if_false, Bool.and_true, Bool.true_and, decide_true, decide_false, reduceIte, reduceCtorEq, Bool.and_self, Bool.and_eq_true, decide_eq_true_eq, and_self, true_or, or_true, false_or, or_false, Nat.zero_add, Nat.add_zero, eq_self, Nat.reduceEqDiff, Nat.reduceLeDiff, Nat.reduceLT, Nat.reduceAdd, Nat.reduceSub, Nat.reduceMul, LC_out hL, hc, show ((0 : Int32) ≤ nI cnt) = True from eq_true (nI_pos' (by omega)), e17_63, B17_63]
  by_cases h0 : cnt = 0
  · subst h0
    simp only [nI_0, show ((0 : Int32) ≤ 0) = True from eq_true (by decide), xSeq, i_push, i_load, i_iload, i_lload, i_dload, i_aload, i_istore, i_astore, i_lstore, i_dstore, i_iinc, i_ii, i_iiz, i_ll, i_llz, i_lli, i_li, i_i, i_l, i_i2l, i_l2i, i_dup, i_dup2, i_dup2w, i_dupx1, i_pop, i_pop2, i_goto, i_ifc, i_icmp, i_getI, i_getL, i_getR, i_putI, i_putZ, i_putL, i_putR, i_aldI, i_aldB, i_aldL, i_aldD, i_astI, i_astL, i_astD, i_alen, i_ret, i_iret, i_zret, i_lret, i_fret, i_dret, i_aret, i_invS0, i_invV0, i_m2, i_m1, i_ml, i_obj, lk, lkp, stf1, stf2, Value.category, rV, xTo, lv_args, xCk, xCat, xRc, xAk, hg_S, hg_I, hg_J, hg_D, hg_R, hs_I, hs_J, hs_D, hs_R, uI_at, uJ_at, uD_at, uR_at, List.take_succ_cons, List.take_zero, List.drop_succ_cons, List.drop_zero, List.reverse_cons, List.reverse_nil, List.nil_append, List.cons_append, List.map_cons, List.map_nil, List.sum_cons, List.sum_nil, List.length_cons, List.length_nil, Option.toList_some, Option.toList_none, true_and, and_true, false_and, and_false, true_implies, false_implies, implies_true, not_true_eq_false, not_false_eq_true, ne_eq, if_true, if_false, Bool.and_true, Bool.true_and, decide_true, decide_false, reduceIte, reduceCtorEq, Bool.and_self, Bool.and_eq_true, decide_eq_true_eq, and_self, true_or, or_true, false_or, or_false, Nat.zero_add, Nat.add_zero, eq_self, Nat.reduceEqDiff, Nat.reduceLeDiff, Nat.reduceLT, Nat.reduceAdd, Nat.reduceSub, Nat.reduceMul, e17_76, B17_76, LC_out hL]
    have := kk (I 140 2)
    rw [uI_same rfl] at this
    exact this _
  · simp only [show (nI cnt ≤ 0) = False from eq_false (nI_nle (by omega) (by omega)), xSeq, i_push, i_load, i_iload, i_lload, i_dload, i_aload, i_istore, i_astore, i_lstore, i_dstore, i_iinc, i_ii, i_iiz, i_ll, i_llz, i_lli, i_li, i_i, i_l, i_i2l, i_l2i, i_dup, i_dup2, i_dup2w, i_dupx1, i_pop, i_pop2, i_goto, i_ifc, i_icmp, i_getI, i_getL, i_getR, i_putI, i_putZ, i_putL, i_putR, i_aldI, i_aldB, i_aldL, i_aldD, i_astI, i_astL, i_astD, i_alen, i_ret, i_iret, i_zret, i_lret, i_fret, i_dret, i_aret, i_invS0, i_invV0, i_m2, i_m1, i_ml, i_obj, lk, lkp, stf1, stf2, Value.category, rV, xTo, lv_args, xCk, xCat, xRc, xAk, hg_S, hg_I, hg_J, hg_D, hg_R, hs_I, hs_J, hs_D, hs_R, uI_at, uJ_at, uD_at, uR_at, List.take_succ_cons, List.take_zero, List.drop_succ_cons, List.drop_zero, List.reverse_cons, List.reverse_nil, List.nil_append, List.cons_append, List.map_cons, List.map_nil, List.sum_cons, List.sum_nil, List.length_cons, List.length_nil, Option.toList_some, Option.toList_none, true_and, and_true, false_and, and_false, true_implies, false_implies, implies_true, not_true_eq_false, not_false_eq_true, ne_eq, if_true, if_false, Bool.and_true, Bool.true_and, decide_true, decide_false, reduceIte, reduceCtorEq, Bool.and_self, Bool.and_eq_true, decide_eq_true_eq, and_self, true_or, or_true, false_or, or_false, Nat.zero_add, Nat.add_zero, eq_self, Nat.reduceEqDiff, Nat.reduceLeDiff, Nat.reduceLT, Nat.reduceAdd, Nat.reduceSub, Nat.reduceMul, e17_76, B17_76, LC_out hL]
    exact kk 1 _
/-- what a start with default spins and no bonds of its own makes of the state -/
def sB (I : xI) (F a bb ru str : Int32) : xI := rI (uI (uI (uI (uI (uI (uI (uI I 110 6 F) 110 7 a) 110 8 bb) 110 9 ru) 110 10 0) 110 11 0) 112 0 0) 111 (fill (I 111) str 128)
theorem R72 (hL : LC S R) {su : Nat} (hS : S su = (5, 0)) (hne : su ≠ 110 ∧ su ≠ 111 ∧ su ≠ 112) (h9 : I su 9 = 0) (h10 : I su 10 = 0) : xRun xT 72 0 [(0, .ref 110), (1, .ref su)] [] (S, I, J, D, R) b Q = Q (.ok none) (S, sB I (I su 6) (I su 3) (I su 4) (I su 7) (I su 5), uJ (uJ J 110 5 (I su 8).toInt64) 110 4 (J 102 4), D, R) b := by
  obtain ⟨n1, n2, n3⟩ := hne
  have S111 : S 111 = (100, 128) := (LC_out hL).2.2.2.2.2.2.2.2.2.2.2.2.2.2.2.2.2.2.2.2.2.2.2.2.2.2.1
  rw [e72_0]
  simp only [B72_0, xSeq, i_push, i_load, i_iload, i_lload, i_dload, i_aload, i_istore, i_astore, i_lstore, i_dstore, i_iinc, i_ii, i_iiz, i_ll, i_llz, i_lli, i_li, i_i, i_l, i_i2l, i_l2i, i_dup, i_dup2, i_dup2w, i_dupx1, i_pop, i_pop2, i_goto, i_ifc, i_icmp, i_getI, i_getL, i_getR, i_putI, i_putZ, i_putL, i_putR, i_aldI, i_aldB, i_aldL, i_aldD, i_astI, i_astL, i_astD, i_alen, i_ret, i_iret, i_zret, i_lret, i_fret, i_dret, i_aret, i_invS0, i_invV0, i_m2, i_m1, i_ml, i_obj, lk, lkp, stf1, stf2, Value.category, rV, xTo, lv_args, xCk, xCat, xRc, xAk, hg_S, hg_I, hg_J, hg_D, hg_R, hs_I, hs_J, hs_D, hs_R, uI_at, uJ_at, uD_at, uR_at, List.take_succ_cons, List.take_zero, List.drop_succ_cons, List.drop_zero, List.reverse_cons, List.reverse_nil, List.nil_append, List.cons_append, List.map_cons, List.map_nil, List.sum_cons, List.sum_nil, List.length_cons, List.length_nil, Option.toList_some, Option.toList_none, true_and, and_true, false_and, and_false, true_implies, false_implies, implies_true, not_true_eq_false, not_false_eq_true, ne_eq, if_true, if_false, Bool.and_true, Bool.true_and, decide_true, decide_false, reduceIte, reduceCtorEq, Bool.and_self, Bool.and_eq_true, decide_eq_true_eq, and_self, true_or, or_true, false_or, or_false, Nat.zero_add, Nat.add_zero, eq_self, Nat.reduceEqDiff, Nat.reduceLeDiff, Nat.reduceLT, Nat.reduceAdd, Nat.reduceSub, Nat.reduceMul, LC_out hL, hS, n1, n2, n3, h9]
  rw [e73_0]
  simp only [B73_0, xSeq, i_push, i_load, i_iload, i_lload, i_dload, i_aload, i_istore, i_astore, i_lstore, i_dstore, i_iinc, i_ii, i_iiz, i_ll, i_llz, i_lli, i_li, i_i, i_l, i_i2l, i_l2i, i_dup, i_dup2, i_dup2w, i_dupx1, i_pop, i_pop2, i_goto, i_ifc, i_icmp, i_getI, i_getL, i_getR, i_putI, i_putZ, i_putL, i_putR, i_aldI, i_aldB, i_aldL, i_aldD, i_astI, i_astL, i_astD, i_alen, i_ret, i_iret, i_zret, i_lret, i_fret, i_dret, i_aret, i_invS0, i_invV0, i_m2, i_m1, i_ml, i_obj, lk, lkp, stf1, stf2, Value.category, rV, xTo, lv_args, xCk, xCat, xRc, xAk, hg_S, hg_I, hg_J, hg_D, hg_R, hs_I, hs_J, hs_D, hs_R, uI_at, uJ_at, uD_at, uR_at, List.take_succ_cons, List.take_zero, List.drop_succ_cons, List.drop_zero, List.reverse_cons, List.reverse_nil, List.nil_append, List.cons_append, List.map_cons, List.map_nil, List.sum_cons, List.sum_nil, List.length_cons, List.length_nil, Option.toList_some, Option.toList_none, true_and, and_true, false_and, and_false, true_implies, false_implies, implies_true, not_true_eq_false, not_false_eq_true, ne_eq, if_true, if_false, Bool.and_true, Bool.true_and, decide_true, decide_false, reduceIte, reduceCtorEq, Bool.and_self, Bool.and_eq_true, decide_eq_true_eq, and_self, true_or, or_true, false_or, or_false, Nat.zero_add, Nat.add_zero, eq_self, Nat.reduceEqDiff, Nat.reduceLeDiff, Nat.reduceLT, Nat.reduceAdd, Nat.reduceSub, Nat.reduceMul, LC_out hL, n1, n2, n3]
  rw [Y6 (o := 111) (L := 128) S111 (by decide)]
  simp only [xSeq, i_push, i_load, i_iload, i_lload, i_dload, i_aload, i_istore, i_astore, i_lstore, i_dstore, i_iinc, i_ii, i_iiz, i_ll, i_llz, i_lli, i_li, i_i, i_l, i_i2l, i_l2i, i_dup, i_dup2, i_dup2w, i_dupx1, i_pop, i_pop2, i_goto, i_ifc, i_icmp, i_getI, i_getL, i_getR, i_putI, i_putZ, i_putL, i_putR, i_aldI, i_aldB, i_aldL, i_aldD, i_astI, i_astL, i_astD, i_alen, i_ret, i_iret, i_zret, i_lret, i_fret, i_dret, i_aret, i_invS0, i_invV0, i_m2, i_m1, i_ml, i_obj, lk, lkp, stf1, stf2, Value.category, rV, xTo, lv_args, xCk, xCat, xRc, xAk, hg_S, hg_I, hg_J, hg_D, hg_R, hs_I, hs_J, hs_D, hs_R, uI_at, uJ_at, uD_at, uR_at, List.take_succ_cons, List.take_zero, List.drop_succ_cons, List.drop_zero, List.reverse_cons, List.reverse_nil, List.nil_append, List.cons_append, List.map_cons, List.map_nil, List.sum_cons, List.sum_nil, List.length_cons, List.length_nil, Option.toList_some, Option.toList_none, true_and, and_true, false_and, and_false, true_implies, false_implies, implies_true, not_true_eq_false, not_false_eq_true, ne_eq, if_true, if_false, Bool.and_true, Bool.true_and, decide_true, decide_false, reduceIte, reduceCtorEq, Bool.and_self, Bool.and_eq_true, decide_eq_true_eq, and_self, true_or, or_true, false_or, or_false, Nat.zero_add, Nat.add_zero, eq_self, Nat.reduceEqDiff, Nat.reduceLeDiff, Nat.reduceLT, Nat.reduceAdd, Nat.reduceSub, Nat.reduceMul, rI_at]
  rw [e72_84]
  simp only [B72_84, xSeq, i_push, i_load, i_iload, i_lload, i_dload, i_aload, i_istore, i_astore, i_lstore, i_dstore, i_iinc, i_ii, i_iiz, i_ll, i_llz, i_lli, i_li, i_i, i_l, i_i2l, i_l2i, i_dup, i_dup2, i_dup2w, i_dupx1, i_pop, i_pop2, i_goto, i_ifc, i_icmp, i_getI, i_getL, i_getR, i_putI, i_putZ, i_putL, i_putR, i_aldI, i_aldB, i_aldL, i_aldD, i_astI, i_astL, i_astD, i_alen, i_ret, i_iret, i_zret, i_lret, i_fret, i_dret, i_aret, i_invS0, i_invV0, i_m2, i_m1, i_ml, i_obj, lk, lkp, stf1, stf2, Value.category, rV, xTo, lv_args, xCk, xCat, xRc, xAk, hg_S, hg_I, hg_J, hg_D, hg_R, hs_I, hs_J, hs_D, hs_R, uI_at, uJ_at, uD_at, uR_at, List.take_succ_cons, List.take_zero, List.drop_succ_cons, List.drop_zero, List.reverse_cons, List.reverse_nil, List.nil_append, List.cons_append, List.map_cons, List.map_nil, List.sum_cons, List.sum_nil, List.length_cons, List.length_nil, Option.toList_some, Option.toList_none, true_and, and_true, false_and, and_false, true_implies, false_implies, implies_true, not_true_eq_false, not_false_eq_true, ne_eq, if_true, if_false, Bool.and_true, Bool.true_and, decide_true, decide_false, reduceIte, reduceCtorEq, Bool.and_self, Bool.and_eq_true, decide_eq_true_eq, and_self, true_or, or_true, false_or, or_false, Nat.zero_add, Nat.add_zero, eq_self, Nat.reduceEqDiff, Nat.reduceLeDiff, Nat.reduceLT, Nat.reduceAdd, Nat.reduceSub, Nat.reduceMul, hS, rI_at, n1, n2, n3, h10, show ((0 : Int32) ≤ 0) = True from eq_true (by decide), e72_156, B72_156]
  rfl
theorem L117 {su r c e v cap cnt : Nat} (hL : LC S R) (hK : KS S I su r c e) (hsu : su ≠ 102 ∧ su ≠ 110 ∧ su ≠ 111 ∧ su ≠ 112 ∧ su ≠ 100 ∧ su ≠ 130 ∧ su ≠ 140) (hn : n = r * c) (hg : gk n (bl r c e n) = true) (h9 : I su 9 = 0) (h10 : I su 10 = 0) (hO : LO S I R v cap) (hc : I 140 3 = nI cnt) (hcnt : cnt < 65536)
    (kk : ∀ I' x b', HB I' n (bl r c e n) → PB I' r c e n → I' 102 0 = nI r → I' 102 1 = nI c → I' 102 2 = nI n → (∀ o k, ¬ bO o k → o ≠ 102 → I' o k = I o k) →
      Q (.ok none) (S, uI (uI (uI (uI (sB I' (I su 6) (I su 3) (I su 4) (I su 7) (I su 5)) 100 7 0) 130 1 0) 140 2 x) 140 3 0, uJ (uJ (uJ J 102 4 (lN (aU n))) 110 5 (I su 8).toInt64) 110 4 (lN (aU n)), D, R) b') :
    xRun xT 117 0 [(0, .ref 100), (1, .ref su)] [] (S, I, J, D, R) b Q := by
  obtain ⟨n1, n2, n3, n4, n5, n6, n7⟩ := hsu
  have hnb : ∀ k, ¬ bO su k := hK.2.2.2.2.2.2.2.2.2
  rw [e117_0]
  simp only [B117_0, xSeq, i_push, i_load, i_iload, i_lload, i_dload, i_aload, i_istore, i_astore, i_lstore, i_dstore, i_iinc, i_ii, i_iiz, i_ll, i_llz, i_lli, i_li, i_i, i_l, i_i2l, i_l2i, i_dup, i_dup2, i_dup2w, i_dupx1, i_pop, i_pop2, i_goto, i_ifc, i_icmp, i_getI, i_getL, i_getR, i_putI, i_putZ, i_putL, i_putR, i_aldI, i_aldB, i_aldL, i_aldD, i_astI, i_astL, i_astD, i_alen, i_ret, i_iret, i_zret, i_lret, i_fret, i_dret, i_aret, i_invS0, i_invV0, i_m2, i_m1, i_ml, i_obj, lk, lkp, stf1, stf2, Value.category, rV, xTo, lv_args, xCk, xCat, xRc, xAk, hg_S, hg_I, hg_J, hg_D, hg_R, hs_I, hs_J, hs_D, hs_R, uI_at, uJ_at, uD_at, uR_at, List.take_succ_cons, List.take_zero, List.drop_succ_cons, List.drop_zero, List.reverse_cons, List.reverse_nil, List.nil_append, List.cons_append, List.map_cons, List.map_nil, List.sum_cons, List.sum_nil, List.length_cons, List.length_nil, Option.toList_some, Option.toList_none, true_and, and_true, false_and, and_false, true_implies, false_implies, implies_true, not_true_eq_false, not_false_eq_true, ne_eq, if_true, if_false, Bool.and_true, Bool.true_and, decide_true, decide_false, reduceIte, reduceCtorEq, Bool.and_self, Bool.and_eq_true, decide_eq_true_eq, and_self, true_or, or_true, false_or, or_false, Nat.zero_add, Nat.add_zero, eq_self, Nat.reduceEqDiff, Nat.reduceLeDiff, Nat.reduceLT, Nat.reduceAdd, Nat.reduceSub, Nat.reduceMul, LC_out hL]
  refine L47 hL hK n1 hn hg (fun I' a1 a2 a3 a4 a5 a6 => ?_)
  have s3 : I' su 3 = I su 3 := a6 _ _ (hnb _) n1
  have s4 : I' su 4 = I su 4 := a6 _ _ (hnb _) n1
  have s5 : I' su 5 = I su 5 := a6 _ _ (hnb _) n1
  have s6 : I' su 6 = I su 6 := a6 _ _ (hnb _) n1
  have s7 : I' su 7 = I su 7 := a6 _ _ (hnb _) n1
  have s8 : I' su 8 = I su 8 := a6 _ _ (hnb _) n1
  have s9 : I' su 9 = 0 := (a6 _ _ (hnb _) n1).trans h9
  have s10 : I' su 10 = 0 := (a6 _ _ (hnb _) n1).trans h10
  have t3 : I' 140 3 = nI cnt := (a6 _ _ (by decide) (by decide)).trans hc
  have t1 : I' 140 1 = 0 := (a6 _ _ (by decide) (by decide)).trans hO.2.2.1
  simp only [xSeq, i_push, i_load, i_iload, i_lload, i_dload, i_aload, i_istore, i_astore, i_lstore, i_dstore, i_iinc, i_ii, i_iiz, i_ll, i_llz, i_lli, i_li, i_i, i_l, i_i2l, i_l2i, i_dup, i_dup2, i_dup2w, i_dupx1, i_pop, i_pop2, i_goto, i_ifc, i_icmp, i_getI, i_getL, i_getR, i_putI, i_putZ, i_putL, i_putR, i_aldI, i_aldB, i_aldL, i_aldD, i_astI, i_astL, i_astD, i_alen, i_ret, i_iret, i_zret, i_lret, i_fret, i_dret, i_aret, i_invS0, i_invV0, i_m2, i_m1, i_ml, i_obj, lk, lkp, stf1, stf2, Value.category, rV, xTo, lv_args, xCk, xCat, xRc, xAk, hg_S, hg_I, hg_J, hg_D, hg_R, hs_I, hs_J, hs_D, hs_R, uI_at, uJ_at, uD_at, uR_at, List.take_succ_cons, List.take_zero, List.drop_succ_cons, List.drop_zero, List.reverse_cons, List.reverse_nil, List.nil_append, List.cons_append, List.map_cons, List.map_nil, List.sum_cons, List.sum_nil, List.length_cons, List.length_nil, Option.toList_some, Option.toList_none, true_and, and_true, false_and, and_false, true_implies, false_implies, implies_true, not_true_eq_false, not_false_eq_true, ne_eq, if_true, if_false, Bool.and_true, Bool.true_and, decide_true, decide_false, reduceIte, reduceCtorEq, Bool.and_self, Bool.and_eq_true, decide_eq_true_eq, and_self, true_or, or_true, false_or, or_false, Nat.zero_add, Nat.add_zero, eq_self, Nat.reduceEqDiff, Nat.reduceLeDiff, Nat.reduceLT, Nat.reduceAdd, Nat.reduceSub, Nat.reduceMul, LC_out hL]
  rw [R72 hL hK.1 ⟨n2, n3, n4⟩ s9 s10]
  simp only [xSeq, i_push, i_load, i_iload, i_lload, i_dload, i_aload, i_istore, i_astore, i_lstore, i_dstore, i_iinc, i_ii, i_iiz, i_ll, i_llz, i_lli, i_li, i_i, i_l, i_i2l, i_l2i, i_dup, i_dup2, i_dup2w, i_dupx1, i_pop, i_pop2, i_goto, i_ifc, i_icmp, i_getI, i_getL, i_getR, i_putI, i_putZ, i_putL, i_putR, i_aldI, i_aldB, i_aldL, i_aldD, i_astI, i_astL, i_astD, i_alen, i_ret, i_iret, i_zret, i_lret, i_fret, i_dret, i_aret, i_invS0, i_invV0, i_m2, i_m1, i_ml, i_obj, lk, lkp, stf1, stf2, Value.category, rV, xTo, lv_args, xCk, xCat, xRc, xAk, hg_S, hg_I, hg_J, hg_D, hg_R, hs_I, hs_J, hs_D, hs_R, uI_at, uJ_at, uD_at, uR_at, List.take_succ_cons, List.take_zero, List.drop_succ_cons, List.drop_zero, List.reverse_cons, List.reverse_nil, List.nil_append, List.cons_append, List.map_cons, List.map_nil, List.sum_cons, List.sum_nil, List.length_cons, List.length_nil, Option.toList_some, Option.toList_none, true_and, and_true, false_and, and_false, true_implies, false_implies, implies_true, not_true_eq_false, not_false_eq_true, ne_eq, if_true, if_false, Bool.and_true, Bool.true_and, decide_true, decide_false, reduceIte, reduceCtorEq, Bool.and_self, Bool.and_eq_true, decide_eq_true_eq, and_self, true_or, or_true, false_or, or_false, Nat.zero_add, Nat.add_zero, eq_self, Nat.reduceEqDiff, Nat.reduceLeDiff, Nat.reduceLT, Nat.reduceAdd, Nat.reduceSub, Nat.reduceMul, LC_out hL, s3, s4, s5, s6, s7, s8, e95_0, B95_0]
  refine w_invVA (mc := 0) (ms := 0) (Nat.zero_le _) (Nat.zero_le _) rfl (by simp only [xSeq, i_push, i_load, i_iload, i_lload, i_dload, i_aload, i_istore, i_astore, i_lstore, i_dstore, i_iinc, i_ii, i_iiz, i_ll, i_llz, i_lli, i_li, i_i, i_l, i_i2l, i_l2i, i_dup, i_dup2, i_dup2w, i_dupx1, i_pop, i_pop2, i_goto, i_ifc, i_icmp, i_getI, i_getL, i_getR, i_putI, i_putZ, i_putL, i_putR, i_aldI, i_aldB, i_aldL, i_aldD, i_astI, i_astL, i_astD, i_alen, i_ret, i_iret, i_zret, i_lret, i_fret, i_dret, i_aret, i_invS0, i_invV0, i_m2, i_m1, i_ml, i_obj, lk, lkp, stf1, stf2, Value.category, rV, xTo, lv_args, xCk, xCat, xRc, xAk, hg_S, hg_I, hg_J, hg_D, hg_R, hs_I, hs_J, hs_D, hs_R, uI_at, uJ_at, uD_at, uR_at, List.take_succ_cons, List.take_zero, List.drop_succ_cons, List.drop_zero, List.reverse_cons, List.reverse_nil, List.nil_append, List.cons_append, List.map_cons, List.map_nil, List.sum_cons, List.sum_nil, List.length_cons, List.length_nil, Option.toList_some, Option.toList_none, true_and, and_true, false_and, and_false, true_implies, false_implies, implies_true, not_true_eq_false, not_false_eq_true, ne_eq, if_true, if_false, Bool.and_true, Bool.true_and, decide_true, decide_false, reduceIte, reduceCtorEq, Bool.and_self, Bool.and_eq_true, decide_eq_true_eq, and_self, true_or, or_true, false_or, or_false, Nat.zero_add, Nat.add_zero, eq_self, Nat.reduceEqDiff, Nat.reduceLeDiff, Nat.reduceLT, Nat.reduceAdd, Nat.reduceSub, Nat.reduceMul, LC_out hL]) ?_
  simp only [xSeq, i_push, i_load, i_iload, i_lload, i_dload, i_aload, i_istore, i_astore, i_lstore, i_dstore, i_iinc, i_ii, i_iiz, i_ll, i_llz, i_lli, i_li, i_i, i_l, i_i2l, i_l2i, i_dup, i_dup2, i_dup2w, i_dupx1, i_pop, i_pop2, i_goto, i_ifc, i_icmp, i_getI, i_getL, i_getR, i_putI, i_putZ, i_putL, i_putR, i_aldI, i_aldB, i_aldL, i_aldD, i_astI, i_astL, i_astD, i_alen, i_ret, i_iret, i_zret, i_lret, i_fret, i_dret, i_aret, i_invS0, i_invV0, i_m2, i_m1, i_ml, i_obj, lk, lkp, stf1, stf2, Value.category, rV, xTo, lv_args, xCk, xCat, xRc, xAk, hg_S, hg_I, hg_J, hg_D, hg_R, hs_I, hs_J, hs_D, hs_R, uI_at, uJ_at, uD_at, uR_at, List.take_succ_cons, List.take_zero, List.drop_succ_cons, List.drop_zero, List.reverse_cons, List.reverse_nil, List.nil_append, List.cons_append, List.map_cons, List.map_nil, List.sum_cons, List.sum_nil, List.length_cons, List.length_nil, Option.toList_some, Option.toList_none, true_and, and_true, false_and, and_false, true_implies, false_implies, implies_true, not_true_eq_false, not_false_eq_true, ne_eq, if_true, if_false, Bool.and_true, Bool.true_and, decide_true, decide_false, reduceIte, reduceCtorEq, Bool.and_self, Bool.and_eq_true, decide_eq_true_eq, and_self, true_or, or_true, false_or, or_false, Nat.zero_add, Nat.add_zero, eq_self, Nat.reduceEqDiff, Nat.reduceLeDiff, Nat.reduceLT, Nat.reduceAdd, Nat.reduceSub, Nat.reduceMul]
  refine L16 (v := v) (cap := cap) (cnt := cnt) hL ⟨hO.1, hO.2.1, ?_, hO.2.2.2⟩ ?_ hcnt (fun x b' => ?_)
  · simp only [uI_at, sB, rI_at, true_and, and_true, false_and, and_false, true_implies, false_implies, implies_true, not_true_eq_false, not_false_eq_true, ne_eq, if_true, if_false, Bool.and_true, Bool.true_and, decide_true, decide_false, reduceIte, reduceCtorEq, Bool.and_self, Bool.and_eq_true, decide_eq_true_eq, and_self, true_or, or_true, false_or, or_false, Nat.zero_add, Nat.add_zero, eq_self, Nat.reduceEqDiff, Nat.reduceLeDiff, Nat.reduceLT, Nat.reduceAdd, Nat.reduceSub, Nat.reduceMul]
    exact t1
  · simp only [uI_at, sB, rI_at, true_and, and_true, false_and, and_false, true_implies, false_implies, implies_true, not_true_eq_false, not_false_eq_true, ne_eq, if_true, if_false, Bool.and_true, Bool.true_and, decide_true, decide_false, reduceIte, reduceCtorEq, Bool.and_self, Bool.and_eq_true, decide_eq_true_eq, and_self, true_or, or_true, false_or, or_false, Nat.zero_add, Nat.add_zero, eq_self, Nat.reduceEqDiff, Nat.reduceLeDiff, Nat.reduceLT, Nat.reduceAdd, Nat.reduceSub, Nat.reduceMul]
    exact t3
  · simp only [xSeq, i_push, i_load, i_iload, i_lload, i_dload, i_aload, i_istore, i_astore, i_lstore, i_dstore, i_iinc, i_ii, i_iiz, i_ll, i_llz, i_lli, i_li, i_i, i_l, i_i2l, i_l2i, i_dup, i_dup2, i_dup2w, i_dupx1, i_pop, i_pop2, i_goto, i_ifc, i_icmp, i_getI, i_getL, i_getR, i_putI, i_putZ, i_putL, i_putR, i_aldI, i_aldB, i_aldL, i_aldD, i_astI, i_astL, i_astD, i_alen, i_ret, i_iret, i_zret, i_lret, i_fret, i_dret, i_aret, i_invS0, i_invV0, i_m2, i_m1, i_ml, i_obj, lk, lkp, stf1, stf2, Value.category, rV, xTo, lv_args, xCk, xCat, xRc, xAk, hg_S, hg_I, hg_J, hg_D, hg_R, hs_I, hs_J, hs_D, hs_R, uI_at, uJ_at, uD_at, uR_at, List.take_succ_cons, List.take_zero, List.drop_succ_cons, List.drop_zero, List.reverse_cons, List.reverse_nil, List.nil_append, List.cons_append, List.map_cons, List.map_nil, List.sum_cons, List.sum_nil, List.length_cons, List.length_nil, Option.toList_some, Option.toList_none, true_and, and_true, false_and, and_false, true_implies, false_implies, implies_true, not_true_eq_false, not_false_eq_true, ne_eq, if_true, if_false, Bool.and_true, Bool.true_and, decide_true, decide_false, reduceIte, reduceCtorEq, Bool.and_self, Bool.and_eq_true, decide_eq_true_eq, and_self, true_or, or_true, false_or, or_false, Nat.zero_add, Nat.add_zero, eq_self, Nat.reduceEqDiff, Nat.reduceLeDiff, Nat.reduceLT, Nat.reduceAdd, Nat.reduceSub, Nat.reduceMul]
    exact kk I' x _ a1 a2 a3 a4 a5 a6
end
/-! ===== the model starts ===== -/
section
variable {S : xS} {I : xI} {J : xJ} {D : xDb} {R : xR} {b : Nat × Nat} {Q : xQ} {n m : Nat}
theorem R200 (hL : LM S R) (hC : I 300 10 = nI n) (hn : n ≤ 64) : xRun xT 200 0 [(0, .ref 200)] [] (S, I, J, D, R) b Q = Q (.ok (some (.long (lN (aU n))))) (S, I, J, D, R) b := by
  have e64 : (nI n = 64) = (n = 64) := by rw [show (64 : Int32) = nI 64 from rfl, nI_iff (by omega) (by decide)]
  rw [e200_0]
  by_cases h : n = 64
  · have eT : (nI n = 64) = True := by rw [e64]; exact eq_true h
    have eA : (-1 : Int64) = lN (aU n) := by rw [h]; exact aU_64
    simp only [B200_0, xSeq, i_push, i_load, i_iload, i_lload, i_dload, i_aload, i_istore, i_astore, i_lstore, i_dstore, i_iinc, i_ii, i_iiz, i_ll, i_llz, i_lli, i_li, i_i, i_l, i_i2l, i_l2i, i_dup, i_dup2, i_dup2w, i_dupx1, i_pop, i_pop2, i_goto, i_ifc, i_icmp, i_getI, i_getL, i_getR, i_putI, i_putZ, i_putL, i_putR, i_aldI, i_aldB, i_aldL, i_aldD, i_astI, i_astL, i_astD, i_alen, i_ret, i_iret, i_zret, i_lret, i_fret, i_dret, i_aret, i_invS0, i_invV0, i_m2, i_m1, i_ml, i_obj, lk, lkp, stf1, stf2, Value.category, rV, xTo, lv_args, xCk, xCat, xRc, xAk, hg_S, hg_I, hg_J, hg_D, hg_R, hs_I, hs_J, hs_D, hs_R, uI_at, uJ_at, uD_at, uR_at, List.take_succ_cons, List.take_zero, List.drop_succ_cons, List.drop_zero, List.reverse_cons, List.reverse_nil, List.nil_append, List.cons_append, List.map_cons, List.map_nil, List.sum_cons, List.sum_nil, List.length_cons, List.length_nil, Option.toList_some, Option.toList_none, true_and, and_true, false_and, and_false, true_implies, false_implies, implies_true, not_true_eq_false, not_false_eq_true, ne_eq, if_true, if_false, Bool.and_true, Bool.true_and, decide_true, decide_false, reduceIte, reduceCtorEq, Bool.and_self, Bool.and_eq_true, decide_eq_true_eq, and_self, true_or, or_true, false_or, or_false, Nat.zero_add, Nat.add_zero, eq_self, Nat.reduceEqDiff, Nat.reduceLeDiff, Nat.reduceLT, Nat.reduceAdd, Nat.reduceSub, Nat.reduceMul, xi144_0, ix_0, xi144_1, ix_1, xi144_2, ix_2, xi144_3, ix_3, xi144_4, ix_4, xi144_5, ix_5, xi144_6, ix_6, xi144_7, ix_7, xi144_8, ix_8, xi144_9, ix_9, xi144_10, ix_10, LM_out hL, hC, eT, e200_29, B200_29]
    rw [eA]
  · have eT : (nI n = 64) = False := by rw [e64]; exact eq_false h
    simp only [B200_0, xSeq, i_push, i_load, i_iload, i_lload, i_dload, i_aload, i_istore, i_astore, i_lstore, i_dstore, i_iinc, i_ii, i_iiz, i_ll, i_llz, i_lli, i_li, i_i, i_l, i_i2l, i_l2i, i_dup, i_dup2, i_dup2w, i_dupx1, i_pop, i_pop2, i_goto, i_ifc, i_icmp, i_getI, i_getL, i_getR, i_putI, i_putZ, i_putL, i_putR, i_aldI, i_aldB, i_aldL, i_aldD, i_astI, i_astL, i_astD, i_alen, i_ret, i_iret, i_zret, i_lret, i_fret, i_dret, i_aret, i_invS0, i_invV0, i_m2, i_m1, i_ml, i_obj, lk, lkp, stf1, stf2, Value.category, rV, xTo, lv_args, xCk, xCat, xRc, xAk, hg_S, hg_I, hg_J, hg_D, hg_R, hs_I, hs_J, hs_D, hs_R, uI_at, uJ_at, uD_at, uR_at, List.take_succ_cons, List.take_zero, List.drop_succ_cons, List.drop_zero, List.reverse_cons, List.reverse_nil, List.nil_append, List.cons_append, List.map_cons, List.map_nil, List.sum_cons, List.sum_nil, List.length_cons, List.length_nil, Option.toList_some, Option.toList_none, true_and, and_true, false_and, and_false, true_implies, false_implies, implies_true, not_true_eq_false, not_false_eq_true, ne_eq, if_true, if_false, Bool.and_true, Bool.true_and, decide_true, decide_false, reduceIte, reduceCtorEq, Bool.and_self, Bool.and_eq_true, decide_eq_true_eq, and_self, true_or, or_true, false_or, or_false, Nat.zero_add, Nat.add_zero, eq_self, Nat.reduceEqDiff, Nat.reduceLeDiff, Nat.reduceLT, Nat.reduceAdd, Nat.reduceSub, Nat.reduceMul, xi144_0, ix_0, xi144_1, ix_1, xi144_2, ix_2, xi144_3, ix_3, xi144_4, ix_4, xi144_5, ix_5, xi144_6, ix_6, xi144_7, ix_7, xi144_8, ix_8, xi144_9, ix_9, xi144_10, ix_10, LM_out hL, hC, eT, e200_18, B200_18, e200_29, B200_29, q_1sub (show n < 64 by omega)]
theorem L193_2 (hL : LM S R) : ∀ (j i : Nat) (f : Nat → Int32), i + j = 144 → xRun xT 193 2 [(0, .ref 200), (1, .int (nI i))] [] (S, rI I 300 (fill f 0 i), J, D, R) b Q = xRun xT 193 22 [(0, .ref 200)] [] (S, rI I 300 (fill f 0 144), J, D, R) b Q
  | 0, i, f, hi => by
    have e : i = 144 := by omega
    subst e
    rw [e193_2]
    simp only [B193_2, xSeq, i_push, i_load, i_iload, i_lload, i_dload, i_aload, i_istore, i_astore, i_lstore, i_dstore, i_iinc, i_ii, i_iiz, i_ll, i_llz, i_lli, i_li, i_i, i_l, i_i2l, i_l2i, i_dup, i_dup2, i_dup2w, i_dupx1, i_pop, i_pop2, i_goto, i_ifc, i_icmp, i_getI, i_getL, i_getR, i_putI, i_putZ, i_putL, i_putR, i_aldI, i_aldB, i_aldL, i_aldD, i_astI, i_astL, i_astD, i_alen, i_ret, i_iret, i_zret, i_lret, i_fret, i_dret, i_aret, i_invS0, i_invV0, i_m2, i_m1, i_ml, i_obj, lk, lkp, stf1, stf2, Value.category, rV, xTo, lv_args, xCk, xCat, xRc, xAk, hg_S, hg_I, hg_J, hg_D, hg_R, hs_I, hs_J, hs_D, hs_R, uI_at, uJ_at, uD_at, uR_at, List.take_succ_cons, List.take_zero, List.drop_succ_cons, List.drop_zero, List.reverse_cons, List.reverse_nil, List.nil_append, List.cons_append, List.map_cons, List.map_nil, List.sum_cons, List.sum_nil, List.length_cons, List.length_nil, Option.toList_some, Option.toList_none, true_and, and_true, false_and, and_false, true_implies, false_implies, implies_true, not_true_eq_false, not_false_eq_true, ne_eq, if_true, if_false, Bool.and_true, Bool.true_and, decide_true, decide_false, reduceIte, reduceCtorEq, Bool.and_self, Bool.and_eq_true, decide_eq_true_eq, and_self, true_or, or_true, false_or, or_false, Nat.zero_add, Nat.add_zero, eq_self, Nat.reduceEqDiff, Nat.reduceLeDiff, Nat.reduceLT, Nat.reduceAdd, Nat.reduceSub, Nat.reduceMul, show ((144 : Int32) ≤ nI 144) = True from eq_true (by decide)]
  | j + 1, i, f, hi => by
    have e : ((144 : Int32) ≤ nI i) = False := eq_false (by rw [show (144 : Int32) = nI 144 from rfl]; exact nI_ge (by omega) (by decide))
    rw [e193_2]
    simp only [B193_2, xSeq, i_push, i_load, i_iload, i_lload, i_dload, i_aload, i_istore, i_astore, i_lstore, i_dstore, i_iinc, i_ii, i_iiz, i_ll, i_llz, i_lli, i_li, i_i, i_l, i_i2l, i_l2i, i_dup, i_dup2, i_dup2w, i_dupx1, i_pop, i_pop2, i_goto, i_ifc, i_icmp, i_getI, i_getL, i_getR, i_putI, i_putZ, i_putL, i_putR, i_aldI, i_aldB, i_aldL, i_aldD, i_astI, i_astL, i_astD, i_alen, i_ret, i_iret, i_zret, i_lret, i_fret, i_dret, i_aret, i_invS0, i_invV0, i_m2, i_m1, i_ml, i_obj, lk, lkp, stf1, stf2, Value.category, rV, xTo, lv_args, xCk, xCat, xRc, xAk, hg_S, hg_I, hg_J, hg_D, hg_R, hs_I, hs_J, hs_D, hs_R, uI_at, uJ_at, uD_at, uR_at, List.take_succ_cons, List.take_zero, List.drop_succ_cons, List.drop_zero, List.reverse_cons, List.reverse_nil, List.nil_append, List.cons_append, List.map_cons, List.map_nil, List.sum_cons, List.sum_nil, List.length_cons, List.length_nil, Option.toList_some, Option.toList_none, true_and, and_true, false_and, and_false, true_implies, false_implies, implies_true, not_true_eq_false, not_false_eq_true, ne_eq, if_true, if_false, Bool.and_true, Bool.true_and, decide_true, decide_false, reduceIte, reduceCtorEq, Bool.and_self, Bool.and_eq_true, decide_eq_true_eq, and_self, true_or, or_true, false_or, or_false, Nat.zero_add, Nat.add_zero, eq_self, Nat.reduceEqDiff, Nat.reduceLeDiff, Nat.reduceLT, Nat.reduceAdd, Nat.reduceSub, Nat.reduceMul, e, LM_out hL, nI_inP (show i < 144 by omega) (by decide), nI_ix (show i < 2147483648 by omega), uI_rI, fill_up, nI_1]
    exact L193_2 hL j (i + 1) f (by omega)
/-- a cleared lab -/
def mC (I : xI) : xI := uI (uI (uI (uI (uI (uI (uI (uI (uI (rI I 300 (fill (I 300) 0 144)) 300 0 4) 300 1 4) 300 2 1) 300 3 2) 200 18 0) 200 31 1) 200 32 0) 200 33 1) 200 36 0
theorem R193 (hL : LM S R) : xRun xT 193 0 [(0, .ref 200)] [] (S, I, J, D, R) b Q = Q (.ok none) (S, mC I, J, D, R) b := by
  have h := L193_2 (I := I) (J := J) (D := D) (b := b) (Q := Q) hL 144 0 (I 300) (by omega)
  rw [fill_0, rI_self, nI_0] at h
  rw [e193_0]
  simp only [B193_0, xSeq, i_push, i_load, i_iload, i_lload, i_dload, i_aload, i_istore, i_astore, i_lstore, i_dstore, i_iinc, i_ii, i_iiz, i_ll, i_llz, i_lli, i_li, i_i, i_l, i_i2l, i_l2i, i_dup, i_dup2, i_dup2w, i_dupx1, i_pop, i_pop2, i_goto, i_ifc, i_icmp, i_getI, i_getL, i_getR, i_putI, i_putZ, i_putL, i_putR, i_aldI, i_aldB, i_aldL, i_aldD, i_astI, i_astL, i_astD, i_alen, i_ret, i_iret, i_zret, i_lret, i_fret, i_dret, i_aret, i_invS0, i_invV0, i_m2, i_m1, i_ml, i_obj, lk, lkp, stf1, stf2, Value.category, rV, xTo, lv_args, xCk, xCat, xRc, xAk, hg_S, hg_I, hg_J, hg_D, hg_R, hs_I, hs_J, hs_D, hs_R, uI_at, uJ_at, uD_at, uR_at, List.take_succ_cons, List.take_zero, List.drop_succ_cons, List.drop_zero, List.reverse_cons, List.reverse_nil, List.nil_append, List.cons_append, List.map_cons, List.map_nil, List.sum_cons, List.sum_nil, List.length_cons, List.length_nil, Option.toList_some, Option.toList_none, true_and, and_true, false_and, and_false, true_implies, false_implies, implies_true, not_true_eq_false, not_false_eq_true, ne_eq, if_true, if_false, Bool.and_true, Bool.true_and, decide_true, decide_false, reduceIte, reduceCtorEq, Bool.and_self, Bool.and_eq_true, decide_eq_true_eq, and_self, true_or, or_true, false_or, or_false, Nat.zero_add, Nat.add_zero, eq_self, Nat.reduceEqDiff, Nat.reduceLeDiff, Nat.reduceLT, Nat.reduceAdd, Nat.reduceSub, Nat.reduceMul, h]
  rw [e193_22]
  simp only [B193_22, xSeq, i_push, i_load, i_iload, i_lload, i_dload, i_aload, i_istore, i_astore, i_lstore, i_dstore, i_iinc, i_ii, i_iiz, i_ll, i_llz, i_lli, i_li, i_i, i_l, i_i2l, i_l2i, i_dup, i_dup2, i_dup2w, i_dupx1, i_pop, i_pop2, i_goto, i_ifc, i_icmp, i_getI, i_getL, i_getR, i_putI, i_putZ, i_putL, i_putR, i_aldI, i_aldB, i_aldL, i_aldD, i_astI, i_astL, i_astD, i_alen, i_ret, i_iret, i_zret, i_lret, i_fret, i_dret, i_aret, i_invS0, i_invV0, i_m2, i_m1, i_ml, i_obj, lk, lkp, stf1, stf2, Value.category, rV, xTo, lv_args, xCk, xCat, xRc, xAk, hg_S, hg_I, hg_J, hg_D, hg_R, hs_I, hs_J, hs_D, hs_R, uI_at, uJ_at, uD_at, uR_at, List.take_succ_cons, List.take_zero, List.drop_succ_cons, List.drop_zero, List.reverse_cons, List.reverse_nil, List.nil_append, List.cons_append, List.map_cons, List.map_nil, List.sum_cons, List.sum_nil, List.length_cons, List.length_nil, Option.toList_some, Option.toList_none, true_and, and_true, false_and, and_false, true_implies, false_implies, implies_true, not_true_eq_false, not_false_eq_true, ne_eq, if_true, if_false, Bool.and_true, Bool.true_and, decide_true, decide_false, reduceIte, reduceCtorEq, Bool.and_self, Bool.and_eq_true, decide_eq_true_eq, and_self, true_or, or_true, false_or, or_false, Nat.zero_add, Nat.add_zero, eq_self, Nat.reduceEqDiff, Nat.reduceLeDiff, Nat.reduceLT, Nat.reduceAdd, Nat.reduceSub, Nat.reduceMul, xi144_0, ix_0, xi144_1, ix_1, xi144_2, ix_2, xi144_3, ix_3, xi144_4, ix_4, xi144_5, ix_5, xi144_6, ix_6, xi144_7, ix_7, xi144_8, ix_8, xi144_9, ix_9, xi144_10, ix_10, LM_out hL]
  rfl
theorem L194_30 (hL : LM S R) (hC : I 300 10 = nI n) (hn : n ≤ 64) : ∀ (j i : Nat) (f : Nat → Int32), i + j = n → xRun xT 194 30 [(0, .ref 200), (1, .int (nI i))] [] (S, rI I 317 (fill f 0 i), J, D, R) b Q = xRun xT 194 54 [(0, .ref 200)] [] (S, rI I 317 (fill f 0 n), J, D, R) b Q
  | 0, i, f, hi => by
    have e : i = n := by omega
    subst e
    rw [e194_30]
    simp only [B194_30, xSeq, i_push, i_load, i_iload, i_lload, i_dload, i_aload, i_istore, i_astore, i_lstore, i_dstore, i_iinc, i_ii, i_iiz, i_ll, i_llz, i_lli, i_li, i_i, i_l, i_i2l, i_l2i, i_dup, i_dup2, i_dup2w, i_dupx1, i_pop, i_pop2, i_goto, i_ifc, i_icmp, i_getI, i_getL, i_getR, i_putI, i_putZ, i_putL, i_putR, i_aldI, i_aldB, i_aldL, i_aldD, i_astI, i_astL, i_astD, i_alen, i_ret, i_iret, i_zret, i_lret, i_fret, i_dret, i_aret, i_invS0, i_invV0, i_m2, i_m1, i_ml, i_obj, lk, lkp, stf1, stf2, Value.category, rV, xTo, lv_args, xCk, xCat, xRc, xAk, hg_S, hg_I, hg_J, hg_D, hg_R, hs_I, hs_J, hs_D, hs_R, uI_at, uJ_at, uD_at, uR_at, List.take_succ_cons, List.take_zero, List.drop_succ_cons, List.drop_zero, List.reverse_cons, List.reverse_nil, List.nil_append, List.cons_append, List.map_cons, List.map_nil, List.sum_cons, List.sum_nil, List.length_cons, List.length_nil, Option.toList_some, Option.toList_none, true_and, and_true, false_and, and_false, true_implies, false_implies, implies_true, not_true_eq_false, not_false_eq_true, ne_eq, if_true, if_false, Bool.and_true, Bool.true_and, decide_true, decide_false, reduceIte, reduceCtorEq, Bool.and_self, Bool.and_eq_true, decide_eq_true_eq, and_self, true_or, or_true, false_or, or_false, Nat.zero_add, Nat.add_zero, eq_self, Nat.reduceEqDiff, Nat.reduceLeDiff, Nat.reduceLT, Nat.reduceAdd, Nat.reduceSub, Nat.reduceMul, xi144_0, ix_0, xi144_1, ix_1, xi144_2, ix_2, xi144_3, ix_3, xi144_4, ix_4, xi144_5, ix_5, xi144_6, ix_6, xi144_7, ix_7, xi144_8, ix_8, xi144_9, ix_9, xi144_10, ix_10, LM_out hL, rI_at, hC, nI_leP (show i < 2147483648 by omega) (show i < 2147483648 by omega), Nat.le_refl]
  | j + 1, i, f, hi => by
    rw [e194_30]
    simp only [B194_30, xSeq, i_push, i_load, i_iload, i_lload, i_dload, i_aload, i_istore, i_astore, i_lstore, i_dstore, i_iinc, i_ii, i_iiz, i_ll, i_llz, i_lli, i_li, i_i, i_l, i_i2l, i_l2i, i_dup, i_dup2, i_dup2w, i_dupx1, i_pop, i_pop2, i_goto, i_ifc, i_icmp, i_getI, i_getL, i_getR, i_putI, i_putZ, i_putL, i_putR, i_aldI, i_aldB, i_aldL, i_aldD, i_astI, i_astL, i_astD, i_alen, i_ret, i_iret, i_zret, i_lret, i_fret, i_dret, i_aret, i_invS0, i_invV0, i_m2, i_m1, i_ml, i_obj, lk, lkp, stf1, stf2, Value.category, rV, xTo, lv_args, xCk, xCat, xRc, xAk, hg_S, hg_I, hg_J, hg_D, hg_R, hs_I, hs_J, hs_D, hs_R, uI_at, uJ_at, uD_at, uR_at, List.take_succ_cons, List.take_zero, List.drop_succ_cons, List.drop_zero, List.reverse_cons, List.reverse_nil, List.nil_append, List.cons_append, List.map_cons, List.map_nil, List.sum_cons, List.sum_nil, List.length_cons, List.length_nil, Option.toList_some, Option.toList_none, true_and, and_true, false_and, and_false, true_implies, false_implies, implies_true, not_true_eq_false, not_false_eq_true, ne_eq, if_true, if_false, Bool.and_true, Bool.true_and, decide_true, decide_false, reduceIte, reduceCtorEq, Bool.and_self, Bool.and_eq_true, decide_eq_true_eq, and_self, true_or, or_true, false_or, or_false, Nat.zero_add, Nat.add_zero, eq_self, Nat.reduceEqDiff, Nat.reduceLeDiff, Nat.reduceLT, Nat.reduceAdd, Nat.reduceSub, Nat.reduceMul, xi144_0, ix_0, xi144_1, ix_1, xi144_2, ix_2, xi144_3, ix_3, xi144_4, ix_4, xi144_5, ix_5, xi144_6, ix_6, xi144_7, ix_7, xi144_8, ix_8, xi144_9, ix_9, xi144_10, ix_10, LM_out hL, rI_at, hC, nI_leP (show n < 2147483648 by omega) (show i < 2147483648 by omega), show (n ≤ i) = False from eq_false (by omega), nI_inP (show i < 64 by omega) (by decide), nI_ix (show i < 2147483648 by omega), uI_rI, fill_up, nI_1]
    exact L194_30 hL hC hn j (i + 1) f (by omega)
theorem L194 {r c e : Nat} (hL : LM S R) (h0 : I 300 0 = nI r) (h1 : I 300 1 = nI c) (he : I 200 18 = nI e) (hn : n = r * c) (hc0 : 0 < c) (hc : c < 64) (hr : r < 64) (he2 : e < 3) (hg : gk n (bl r c e n) = true)
    (kk : ∀ I', HM I' n (bl r c e n) → I' 300 10 = nI n → (∀ o k, ¬ bM o k → (o ≠ 300 ∨ k ≠ 10) → I' o k = I o k) → Q (.ok none) (S, I', J, D, R) b) :
    xRun xT 194 0 [(0, .ref 200)] [] (S, I, J, D, R) b Q := by
  have hn64 : n ≤ 64 := (gk_q hg).1.2.1
  have eP : nI r * nI c = nI n := by rw [pk_mul, hn]
  obtain ⟨I1, hI1⟩ : ∃ I1, I1 = rI (uI (uI I 300 10 (nI n)) 300 8 0) 317 (fill (uI (uI I 300 10 (nI n)) 300 8 0 317) 0 n) := ⟨_, rfl⟩
  have hfr : ∀ o k, ¬ bM o k → (o ≠ 300 ∨ k ≠ 10) → I1 o k = I o k := fun o k h1 h2 => by
    rw [hI1, rI_fr (fun h => h1 (by unfold bM; omega)), uI_at, if_neg (fun h => h1 (by unfold bM; omega)), uI_at, if_neg (by omega)]
  have b10 : I1 300 10 = nI n := by rw [hI1]; simp only [rI_at, uI_at, true_and, and_true, false_and, and_false, true_implies, false_implies, implies_true, not_true_eq_false, not_false_eq_true, ne_eq, if_true, if_false, Bool.and_true, Bool.true_and, decide_true, decide_false, reduceIte, reduceCtorEq, Bool.and_self, Bool.and_eq_true, decide_eq_true_eq, and_self, true_or, or_true, false_or, or_false, Nat.zero_add, Nat.add_zero, eq_self, Nat.reduceEqDiff, Nat.reduceLeDiff, Nat.reduceLT, Nat.reduceAdd, Nat.reduceSub, Nat.reduceMul]
  have hB1 : HM I1 n (bl r c e 0) := by
    refine ⟨?_, fun k hk => absurd hk (Nat.not_lt_zero k), fun k hk => absurd hk (Nat.not_lt_zero k), fun t ht => ?_, fun t i ht hi => absurd hi (Nat.not_lt_zero i)⟩
    · rw [hI1]
      simp only [rI_at, uI_at, true_and, and_true, false_and, and_false, true_implies, false_implies, implies_true, not_true_eq_false, not_false_eq_true, ne_eq, if_true, if_false, Bool.and_true, Bool.true_and, decide_true, decide_false, reduceIte, reduceCtorEq, Bool.and_self, Bool.and_eq_true, decide_eq_true_eq, and_self, true_or, or_true, false_or, or_false, Nat.zero_add, Nat.add_zero, eq_self, Nat.reduceEqDiff, Nat.reduceLeDiff, Nat.reduceLT, Nat.reduceAdd, Nat.reduceSub, Nat.reduceMul]
      rfl
    · rw [hI1, rI_at, if_pos rfl, fill_at, if_pos ht]
      rfl
  have hloop := L194_30 (I := uI (uI I 300 10 (nI n)) 300 8 0) (J := J) (D := D) (b := b) (Q := Q) (n := n) hL (by simp only [uI_at, true_and, and_true, false_and, and_false, true_implies, false_implies, implies_true, not_true_eq_false, not_false_eq_true, ne_eq, if_true, if_false, Bool.and_true, Bool.true_and, decide_true, decide_false, reduceIte, reduceCtorEq, Bool.and_self, Bool.and_eq_true, decide_eq_true_eq, and_self, true_or, or_true, false_or, or_false, Nat.zero_add, Nat.add_zero, eq_self, Nat.reduceEqDiff, Nat.reduceLeDiff, Nat.reduceLT, Nat.reduceAdd, Nat.reduceSub, Nat.reduceMul]) hn64 n 0 (uI (uI I 300 10 (nI n)) 300 8 0 317) (by omega)
  rw [fill_0, rI_self, nI_0, ← hI1] at hloop
  have h56 := L194_56 (J := J) (D := D) (b := b) (Q := Q) hL hn hc0 hc hr he2 hg (I0 := I1) (by rw [hfr _ _ (by decide) (by decide)]; exact h0) (by rw [hfr _ _ (by decide) (by decide)]; exact h1) b10 (by rw [hfr _ _ (by decide) (by decide)]; exact he) (fun I' a1 a2 => kk I' a1 (by rw [a2 _ _ (by decide)]; exact b10) (fun o k g1 g2 => by rw [a2 o k g1, hfr o k g1 g2])) n 0 I1 (by omega) hB1 (fun _ _ _ => rfl)
  rw [nI_0] at h56
  rw [e194_0]
  simp only [B194_0, xSeq, i_push, i_load, i_iload, i_lload, i_dload, i_aload, i_istore, i_astore, i_lstore, i_dstore, i_iinc, i_ii, i_iiz, i_ll, i_llz, i_lli, i_li, i_i, i_l, i_i2l, i_l2i, i_dup, i_dup2, i_dup2w, i_dupx1, i_pop, i_pop2, i_goto, i_ifc, i_icmp, i_getI, i_getL, i_getR, i_putI, i_putZ, i_putL, i_putR, i_aldI, i_aldB, i_aldL, i_aldD, i_astI, i_astL, i_astD, i_alen, i_ret, i_iret, i_zret, i_lret, i_fret, i_dret, i_aret, i_invS0, i_invV0, i_m2, i_m1, i_ml, i_obj, lk, lkp, stf1, stf2, Value.category, rV, xTo, lv_args, xCk, xCat, xRc, xAk, hg_S, hg_I, hg_J, hg_D, hg_R, hs_I, hs_J, hs_D, hs_R, uI_at, uJ_at, uD_at, uR_at, List.take_succ_cons, List.take_zero, List.drop_succ_cons, List.drop_zero, List.reverse_cons, List.reverse_nil, List.nil_append, List.cons_append, List.map_cons, List.map_nil, List.sum_cons, List.sum_nil, List.length_cons, List.length_nil, Option.toList_some, Option.toList_none, true_and, and_true, false_and, and_false, true_implies, false_implies, implies_true, not_true_eq_false, not_false_eq_true, ne_eq, if_true, if_false, Bool.and_true, Bool.true_and, decide_true, decide_false, reduceIte, reduceCtorEq, Bool.and_self, Bool.and_eq_true, decide_eq_true_eq, and_self, true_or, or_true, false_or, or_false, Nat.zero_add, Nat.add_zero, eq_self, Nat.reduceEqDiff, Nat.reduceLeDiff, Nat.reduceLT, Nat.reduceAdd, Nat.reduceSub, Nat.reduceMul, xi144_0, ix_0, xi144_1, ix_1, xi144_2, ix_2, xi144_3, ix_3, xi144_4, ix_4, xi144_5, ix_5, xi144_6, ix_6, xi144_7, ix_7, xi144_8, ix_8, xi144_9, ix_9, xi144_10, ix_10, LM_out hL, h0, h1, eP, hloop]
  rw [e194_54]
  simp only [B194_54, xSeq, i_push, i_load, i_iload, i_lload, i_dload, i_aload, i_istore, i_astore, i_lstore, i_dstore, i_iinc, i_ii, i_iiz, i_ll, i_llz, i_lli, i_li, i_i, i_l, i_i2l, i_l2i, i_dup, i_dup2, i_dup2w, i_dupx1, i_pop, i_pop2, i_goto, i_ifc, i_icmp, i_getI, i_getL, i_getR, i_putI, i_putZ, i_putL, i_putR, i_aldI, i_aldB, i_aldL, i_aldD, i_astI, i_astL, i_astD, i_alen, i_ret, i_iret, i_zret, i_lret, i_fret, i_dret, i_aret, i_invS0, i_invV0, i_m2, i_m1, i_ml, i_obj, lk, lkp, stf1, stf2, Value.category, rV, xTo, lv_args, xCk, xCat, xRc, xAk, hg_S, hg_I, hg_J, hg_D, hg_R, hs_I, hs_J, hs_D, hs_R, uI_at, uJ_at, uD_at, uR_at, List.take_succ_cons, List.take_zero, List.drop_succ_cons, List.drop_zero, List.reverse_cons, List.reverse_nil, List.nil_append, List.cons_append, List.map_cons, List.map_nil, List.sum_cons, List.sum_nil, List.length_cons, List.length_nil, Option.toList_some, Option.toList_none, true_and, and_true, false_and, and_false, true_implies, false_implies, implies_true, not_true_eq_false, not_false_eq_true, ne_eq, if_true, if_false, Bool.and_true, Bool.true_and, decide_true, decide_false, reduceIte, reduceCtorEq, Bool.and_self, Bool.and_eq_true, decide_eq_true_eq, and_self, true_or, or_true, false_or, or_false, Nat.zero_add, Nat.add_zero, eq_self, Nat.reduceEqDiff, Nat.reduceLeDiff, Nat.reduceLT, Nat.reduceAdd, Nat.reduceSub, Nat.reduceMul]
  exact h56
/-- one strength for all bonds -/
def sF (f : Nat → Int32) (v : Int32) (k : Nat) : Nat → Int32 := fun j => if 16 ≤ j ∧ j < 16 + k then v else f j
theorem sF_at (f : Nat → Int32) (v : Int32) (k j : Nat) : sF f v k j = if 16 ≤ j ∧ j < 16 + k then v else f j := rfl
theorem sF_up (f : Nat → Int32) (v : Int32) (k : Nat) : up (sF f v k) (16 + k) v = sF f v (k + 1) := by
  funext j
  simp only [up_at, sF_at]
  by_cases h : j = 16 + k
  · rw [if_pos h, if_pos (by omega)]
  · rw [if_neg h]
    by_cases h2 : 16 ≤ j ∧ j < 16 + k
    · rw [if_pos h2, if_pos (by omega)]
    · rw [if_neg h2, if_neg (by omega)]
theorem sF_0 (f : Nat → Int32) (v : Int32) : sF f v 0 = f := by
  funext j
  unfold sF
  rw [if_neg (by omega)]
theorem L198_2 (hL : LM S R) (hC : I 300 8 = nI m) (hm : m ≤ 128) {v : Int32} (h31 : I 200 31 = v) : ∀ (j i : Nat), i + j = m → xRun xT 198 2 [(0, .ref 200), (1, .int (nI i))] [] (S, rI I 300 (sF (I 300) v i), J, D, R) b Q = xRun xT 198 32 [(0, .ref 200)] [] (S, rI I 300 (sF (I 300) v m), J, D, R) b Q
  | 0, i, hi => by
    have e : i = m := by omega
    subst e
    have e8 : sF (I 300) v i 8 = nI i := by unfold sF; rw [if_neg (by omega)]; exact hC
    rw [e198_2]
    simp only [B198_2, xSeq, i_push, i_load, i_iload, i_lload, i_dload, i_aload, i_istore, i_astore, i_lstore, i_dstore, i_iinc, i_ii, i_iiz, i_ll, i_llz, i_lli, i_li, i_i, i_l, i_i2l, i_l2i, i_dup, i_dup2, i_dup2w, i_dupx1, i_pop, i_pop2, i_goto, i_ifc, i_icmp, i_getI, i_getL, i_getR, i_putI, i_putZ, i_putL, i_putR, i_aldI, i_aldB, i_aldL, i_aldD, i_astI, i_astL, i_astD, i_alen, i_ret, i_iret, i_zret, i_lret, i_fret, i_dret, i_aret, i_invS0, i_invV0, i_m2, i_m1, i_ml, i_obj, lk, lkp, stf1, stf2, Value.category, rV, xTo, lv_args, xCk, xCat, xRc, xAk, hg_S, hg_I, hg_J, hg_D, hg_R, hs_I, hs_J, hs_D, hs_R, uI_at, uJ_at, uD_at, uR_at, List.take_succ_cons, List.take_zero, List.drop_succ_cons, List.drop_zero, List.reverse_cons, List.reverse_nil, List.nil_append, List.cons_append, List.map_cons, List.map_nil, List.sum_cons, List.sum_nil, List.length_cons, List.length_nil, Option.toList_some, Option.toList_none, true_and, and_true, false_and, and_false, true_implies, false_implies, implies_true, not_true_eq_false, not_false_eq_true, ne_eq, if_true, if_false, Bool.and_true, Bool.true_and, decide_true, decide_false, reduceIte, reduceCtorEq, Bool.and_self, Bool.and_eq_true, decide_eq_true_eq, and_self, true_or, or_true, false_or, or_false, Nat.zero_add, Nat.add_zero, eq_self, Nat.reduceEqDiff, Nat.reduceLeDiff, Nat.reduceLT, Nat.reduceAdd, Nat.reduceSub, Nat.reduceMul, xi144_0, ix_0, xi144_1, ix_1, xi144_2, ix_2, xi144_3, ix_3, xi144_4, ix_4, xi144_5, ix_5, xi144_6, ix_6, xi144_7, ix_7, xi144_8, ix_8, xi144_9, ix_9, xi144_10, ix_10, LM_out hL, rI_at, e8, nI_leP (show i < 2147483648 by omega) (show i < 2147483648 by omega), Nat.le_refl]
  | j + 1, i, hi => by
    have e8 : sF (I 300) v i 8 = nI m := by unfold sF; rw [if_neg (by omega)]; exact hC
    rw [e198_2]
    simp only [B198_2, xSeq, i_push, i_load, i_iload, i_lload, i_dload, i_aload, i_istore, i_astore, i_lstore, i_dstore, i_iinc, i_ii, i_iiz, i_ll, i_llz, i_lli, i_li, i_i, i_l, i_i2l, i_l2i, i_dup, i_dup2, i_dup2w, i_dupx1, i_pop, i_pop2, i_goto, i_ifc, i_icmp, i_getI, i_getL, i_getR, i_putI, i_putZ, i_putL, i_putR, i_aldI, i_aldB, i_aldL, i_aldD, i_astI, i_astL, i_astD, i_alen, i_ret, i_iret, i_zret, i_lret, i_fret, i_dret, i_aret, i_invS0, i_invV0, i_m2, i_m1, i_ml, i_obj, lk, lkp, stf1, stf2, Value.category, rV, xTo, lv_args, xCk, xCat, xRc, xAk, hg_S, hg_I, hg_J, hg_D, hg_R, hs_I, hs_J, hs_D, hs_R, uI_at, uJ_at, uD_at, uR_at, List.take_succ_cons, List.take_zero, List.drop_succ_cons, List.drop_zero, List.reverse_cons, List.reverse_nil, List.nil_append, List.cons_append, List.map_cons, List.map_nil, List.sum_cons, List.sum_nil, List.length_cons, List.length_nil, Option.toList_some, Option.toList_none, true_and, and_true, false_and, and_false, true_implies, false_implies, implies_true, not_true_eq_false, not_false_eq_true, ne_eq, if_true, if_false, Bool.and_true, Bool.true_and, decide_true, decide_false, reduceIte, reduceCtorEq, Bool.and_self, Bool.and_eq_true, decide_eq_true_eq, and_self, true_or, or_true, false_or, or_false, Nat.zero_add, Nat.add_zero, eq_self, Nat.reduceEqDiff, Nat.reduceLeDiff, Nat.reduceLT, Nat.reduceAdd, Nat.reduceSub, Nat.reduceMul, xi144_0, ix_0, xi144_1, ix_1, xi144_2, ix_2, xi144_3, ix_3, xi144_4, ix_4, xi144_5, ix_5, xi144_6, ix_6, xi144_7, ix_7, xi144_8, ix_8, xi144_9, ix_9, xi144_10, ix_10, LM_out hL, rI_at, e8, nI_leP (show m < 2147483648 by omega) (show i < 2147483648 by omega), show (m ≤ i) = False from eq_false (by omega), nI_c16, nI_inP (show 16 + i < 144 by omega) (by decide), nI_ix (show 16 + i < 2147483648 by omega), h31, uI_rI, sF_up, nI_1]
    exact L198_2 hL hC hm h31 j (i + 1) (by omega)
theorem R198 (hL : LM S R) (hC : I 300 8 = nI m) (hm : m ≤ 128) (h36 : I 200 36 = 0) : xRun xT 198 0 [(0, .ref 200)] [] (S, I, J, D, R) b Q = Q (.ok none) (S, uI (rI I 300 (sF (I 300) (I 200 31) m)) 200 51 0, J, D, R) b := by
  have h := L198_2 (J := J) (D := D) (b := b) (Q := Q) hL hC hm rfl m 0 (by omega)
  rw [sF_0, rI_self, nI_0] at h
  rw [e198_0]
  simp only [B198_0, xSeq, i_push, i_load, i_iload, i_lload, i_dload, i_aload, i_istore, i_astore, i_lstore, i_dstore, i_iinc, i_ii, i_iiz, i_ll, i_llz, i_lli, i_li, i_i, i_l, i_i2l, i_l2i, i_dup, i_dup2, i_dup2w, i_dupx1, i_pop, i_pop2, i_goto, i_ifc, i_icmp, i_getI, i_getL, i_getR, i_putI, i_putZ, i_putL, i_putR, i_aldI, i_aldB, i_aldL, i_aldD, i_astI, i_astL, i_astD, i_alen, i_ret, i_iret, i_zret, i_lret, i_fret, i_dret, i_aret, i_invS0, i_invV0, i_m2, i_m1, i_ml, i_obj, lk, lkp, stf1, stf2, Value.category, rV, xTo, lv_args, xCk, xCat, xRc, xAk, hg_S, hg_I, hg_J, hg_D, hg_R, hs_I, hs_J, hs_D, hs_R, uI_at, uJ_at, uD_at, uR_at, List.take_succ_cons, List.take_zero, List.drop_succ_cons, List.drop_zero, List.reverse_cons, List.reverse_nil, List.nil_append, List.cons_append, List.map_cons, List.map_nil, List.sum_cons, List.sum_nil, List.length_cons, List.length_nil, Option.toList_some, Option.toList_none, true_and, and_true, false_and, and_false, true_implies, false_implies, implies_true, not_true_eq_false, not_false_eq_true, ne_eq, if_true, if_false, Bool.and_true, Bool.true_and, decide_true, decide_false, reduceIte, reduceCtorEq, Bool.and_self, Bool.and_eq_true, decide_eq_true_eq, and_self, true_or, or_true, false_or, or_false, Nat.zero_add, Nat.add_zero, eq_self, Nat.reduceEqDiff, Nat.reduceLeDiff, Nat.reduceLT, Nat.reduceAdd, Nat.reduceSub, Nat.reduceMul, h]
  rw [e198_32]
  simp only [B198_32, xSeq, i_push, i_load, i_iload, i_lload, i_dload, i_aload, i_istore, i_astore, i_lstore, i_dstore, i_iinc, i_ii, i_iiz, i_ll, i_llz, i_lli, i_li, i_i, i_l, i_i2l, i_l2i, i_dup, i_dup2, i_dup2w, i_dupx1, i_pop, i_pop2, i_goto, i_ifc, i_icmp, i_getI, i_getL, i_getR, i_putI, i_putZ, i_putL, i_putR, i_aldI, i_aldB, i_aldL, i_aldD, i_astI, i_astL, i_astD, i_alen, i_ret, i_iret, i_zret, i_lret, i_fret, i_dret, i_aret, i_invS0, i_invV0, i_m2, i_m1, i_ml, i_obj, lk, lkp, stf1, stf2, Value.category, rV, xTo, lv_args, xCk, xCat, xRc, xAk, hg_S, hg_I, hg_J, hg_D, hg_R, hs_I, hs_J, hs_D, hs_R, uI_at, uJ_at, uD_at, uR_at, List.take_succ_cons, List.take_zero, List.drop_succ_cons, List.drop_zero, List.reverse_cons, List.reverse_nil, List.nil_append, List.cons_append, List.map_cons, List.map_nil, List.sum_cons, List.sum_nil, List.length_cons, List.length_nil, Option.toList_some, Option.toList_none, true_and, and_true, false_and, and_false, true_implies, false_implies, implies_true, not_true_eq_false, not_false_eq_true, ne_eq, if_true, if_false, Bool.and_true, Bool.true_and, decide_true, decide_false, reduceIte, reduceCtorEq, Bool.and_self, Bool.and_eq_true, decide_eq_true_eq, and_self, true_or, or_true, false_or, or_false, Nat.zero_add, Nat.add_zero, eq_self, Nat.reduceEqDiff, Nat.reduceLeDiff, Nat.reduceLT, Nat.reduceAdd, Nat.reduceSub, Nat.reduceMul]
  rw [e198_34]
  simp only [B198_34, xSeq, i_push, i_load, i_iload, i_lload, i_dload, i_aload, i_istore, i_astore, i_lstore, i_dstore, i_iinc, i_ii, i_iiz, i_ll, i_llz, i_lli, i_li, i_i, i_l, i_i2l, i_l2i, i_dup, i_dup2, i_dup2w, i_dupx1, i_pop, i_pop2, i_goto, i_ifc, i_icmp, i_getI, i_getL, i_getR, i_putI, i_putZ, i_putL, i_putR, i_aldI, i_aldB, i_aldL, i_aldD, i_astI, i_astL, i_astD, i_alen, i_ret, i_iret, i_zret, i_lret, i_fret, i_dret, i_aret, i_invS0, i_invV0, i_m2, i_m1, i_ml, i_obj, lk, lkp, stf1, stf2, Value.category, rV, xTo, lv_args, xCk, xCat, xRc, xAk, hg_S, hg_I, hg_J, hg_D, hg_R, hs_I, hs_J, hs_D, hs_R, uI_at, uJ_at, uD_at, uR_at, List.take_succ_cons, List.take_zero, List.drop_succ_cons, List.drop_zero, List.reverse_cons, List.reverse_nil, List.nil_append, List.cons_append, List.map_cons, List.map_nil, List.sum_cons, List.sum_nil, List.length_cons, List.length_nil, Option.toList_some, Option.toList_none, true_and, and_true, false_and, and_false, true_implies, false_implies, implies_true, not_true_eq_false, not_false_eq_true, ne_eq, if_true, if_false, Bool.and_true, Bool.true_and, decide_true, decide_false, reduceIte, reduceCtorEq, Bool.and_self, Bool.and_eq_true, decide_eq_true_eq, and_self, true_or, or_true, false_or, or_false, Nat.zero_add, Nat.add_zero, eq_self, Nat.reduceEqDiff, Nat.reduceLeDiff, Nat.reduceLT, Nat.reduceAdd, Nat.reduceSub, Nat.reduceMul, LM_out hL, rI_at, h36, show ((0 : Int32) ≤ 0) = True from eq_true (by decide)]
  rw [e198_68]
  simp only [B198_68, xSeq, i_push, i_load, i_iload, i_lload, i_dload, i_aload, i_istore, i_astore, i_lstore, i_dstore, i_iinc, i_ii, i_iiz, i_ll, i_llz, i_lli, i_li, i_i, i_l, i_i2l, i_l2i, i_dup, i_dup2, i_dup2w, i_dupx1, i_pop, i_pop2, i_goto, i_ifc, i_icmp, i_getI, i_getL, i_getR, i_putI, i_putZ, i_putL, i_putR, i_aldI, i_aldB, i_aldL, i_aldD, i_astI, i_astL, i_astD, i_alen, i_ret, i_iret, i_zret, i_lret, i_fret, i_dret, i_aret, i_invS0, i_invV0, i_m2, i_m1, i_ml, i_obj, lk, lkp, stf1, stf2, Value.category, rV, xTo, lv_args, xCk, xCat, xRc, xAk, hg_S, hg_I, hg_J, hg_D, hg_R, hs_I, hs_J, hs_D, hs_R, uI_at, uJ_at, uD_at, uR_at, List.take_succ_cons, List.take_zero, List.drop_succ_cons, List.drop_zero, List.reverse_cons, List.reverse_nil, List.nil_append, List.cons_append, List.map_cons, List.map_nil, List.sum_cons, List.sum_nil, List.length_cons, List.length_nil, Option.toList_some, Option.toList_none, true_and, and_true, false_and, and_false, true_implies, false_implies, implies_true, not_true_eq_false, not_false_eq_true, ne_eq, if_true, if_false, Bool.and_true, Bool.true_and, decide_true, decide_false, reduceIte, reduceCtorEq, Bool.and_self, Bool.and_eq_true, decide_eq_true_eq, and_self, true_or, or_true, false_or, or_false, Nat.zero_add, Nat.add_zero, eq_self, Nat.reduceEqDiff, Nat.reduceLeDiff, Nat.reduceLT, Nat.reduceAdd, Nat.reduceSub, Nat.reduceMul, LM_out hL]
theorem R199 (hL : LM S R) (hC : I 300 10 = nI n) (hn : n ≤ 64) (h32 : I 200 32 = 0) : xRun xT 199 0 [(0, .ref 200)] [] (S, I, J, D, R) b Q = Q (.ok none) (S, I, uJ (uJ J 200 4 (I 200 33).toInt64) 200 3 (lN (aU n)), D, R) b := by
  rw [e199_0]
  simp only [B199_0, xSeq, i_push, i_load, i_iload, i_lload, i_dload, i_aload, i_istore, i_astore, i_lstore, i_dstore, i_iinc, i_ii, i_iiz, i_ll, i_llz, i_lli, i_li, i_i, i_l, i_i2l, i_l2i, i_dup, i_dup2, i_dup2w, i_dupx1, i_pop, i_pop2, i_goto, i_ifc, i_icmp, i_getI, i_getL, i_getR, i_putI, i_putZ, i_putL, i_putR, i_aldI, i_aldB, i_aldL, i_aldD, i_astI, i_astL, i_astD, i_alen, i_ret, i_iret, i_zret, i_lret, i_fret, i_dret, i_aret, i_invS0, i_invV0, i_m2, i_m1, i_ml, i_obj, lk, lkp, stf1, stf2, Value.category, rV, xTo, lv_args, xCk, xCat, xRc, xAk, hg_S, hg_I, hg_J, hg_D, hg_R, hs_I, hs_J, hs_D, hs_R, uI_at, uJ_at, uD_at, uR_at, List.take_succ_cons, List.take_zero, List.drop_succ_cons, List.drop_zero, List.reverse_cons, List.reverse_nil, List.nil_append, List.cons_append, List.map_cons, List.map_nil, List.sum_cons, List.sum_nil, List.length_cons, List.length_nil, Option.toList_some, Option.toList_none, true_and, and_true, false_and, and_false, true_implies, false_implies, implies_true, not_true_eq_false, not_false_eq_true, ne_eq, if_true, if_false, Bool.and_true, Bool.true_and, decide_true, decide_false, reduceIte, reduceCtorEq, Bool.and_self, Bool.and_eq_true, decide_eq_true_eq, and_self, true_or, or_true, false_or, or_false, Nat.zero_add, Nat.add_zero, eq_self, Nat.reduceEqDiff, Nat.reduceLeDiff, Nat.reduceLT, Nat.reduceAdd, Nat.reduceSub, Nat.reduceMul, LM_out hL, h32, i0_1]
  rw [e199_22]
  simp only [B199_22, xSeq, i_push, i_load, i_iload, i_lload, i_dload, i_aload, i_istore, i_astore, i_lstore, i_dstore, i_iinc, i_ii, i_iiz, i_ll, i_llz, i_lli, i_li, i_i, i_l, i_i2l, i_l2i, i_dup, i_dup2, i_dup2w, i_dupx1, i_pop, i_pop2, i_goto, i_ifc, i_icmp, i_getI, i_getL, i_getR, i_putI, i_putZ, i_putL, i_putR, i_aldI, i_aldB, i_aldL, i_aldD, i_astI, i_astL, i_astD, i_alen, i_ret, i_iret, i_zret, i_lret, i_fret, i_dret, i_aret, i_invS0, i_invV0, i_m2, i_m1, i_ml, i_obj, lk, lkp, stf1, stf2, Value.category, rV, xTo, lv_args, xCk, xCat, xRc, xAk, hg_S, hg_I, hg_J, hg_D, hg_R, hs_I, hs_J, hs_D, hs_R, uI_at, uJ_at, uD_at, uR_at, List.take_succ_cons, List.take_zero, List.drop_succ_cons, List.drop_zero, List.reverse_cons, List.reverse_nil, List.nil_append, List.cons_append, List.map_cons, List.map_nil, List.sum_cons, List.sum_nil, List.length_cons, List.length_nil, Option.toList_some, Option.toList_none, true_and, and_true, false_and, and_false, true_implies, false_implies, implies_true, not_true_eq_false, not_false_eq_true, ne_eq, if_true, if_false, Bool.and_true, Bool.true_and, decide_true, decide_false, reduceIte, reduceCtorEq, Bool.and_self, Bool.and_eq_true, decide_eq_true_eq, and_self, true_or, or_true, false_or, or_false, Nat.zero_add, Nat.add_zero, eq_self, Nat.reduceEqDiff, Nat.reduceLeDiff, Nat.reduceLT, Nat.reduceAdd, Nat.reduceSub, Nat.reduceMul, LM_out hL, R200 hL hC hn]
  rw [e199_26]
  simp only [B199_26, xSeq, i_push, i_load, i_iload, i_lload, i_dload, i_aload, i_istore, i_astore, i_lstore, i_dstore, i_iinc, i_ii, i_iiz, i_ll, i_llz, i_lli, i_li, i_i, i_l, i_i2l, i_l2i, i_dup, i_dup2, i_dup2w, i_dupx1, i_pop, i_pop2, i_goto, i_ifc, i_icmp, i_getI, i_getL, i_getR, i_putI, i_putZ, i_putL, i_putR, i_aldI, i_aldB, i_aldL, i_aldD, i_astI, i_astL, i_astD, i_alen, i_ret, i_iret, i_zret, i_lret, i_fret, i_dret, i_aret, i_invS0, i_invV0, i_m2, i_m1, i_ml, i_obj, lk, lkp, stf1, stf2, Value.category, rV, xTo, lv_args, xCk, xCat, xRc, xAk, hg_S, hg_I, hg_J, hg_D, hg_R, hs_I, hs_J, hs_D, hs_R, uI_at, uJ_at, uD_at, uR_at, List.take_succ_cons, List.take_zero, List.drop_succ_cons, List.drop_zero, List.reverse_cons, List.reverse_nil, List.nil_append, List.cons_append, List.map_cons, List.map_nil, List.sum_cons, List.sum_nil, List.length_cons, List.length_nil, Option.toList_some, Option.toList_none, true_and, and_true, false_and, and_false, true_implies, false_implies, implies_true, not_true_eq_false, not_false_eq_true, ne_eq, if_true, if_false, Bool.and_true, Bool.true_and, decide_true, decide_false, reduceIte, reduceCtorEq, Bool.and_self, Bool.and_eq_true, decide_eq_true_eq, and_self, true_or, or_true, false_or, or_false, Nat.zero_add, Nat.add_zero, eq_self, Nat.reduceEqDiff, Nat.reduceLeDiff, Nat.reduceLT, Nat.reduceAdd, Nat.reduceSub, Nat.reduceMul, LM_out hL, h32, show ((0 : Int32) = 2) = False from eq_false (by decide)]
end
