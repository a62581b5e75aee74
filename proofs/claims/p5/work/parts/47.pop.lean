/-! ===== counting bits ===== -/
section
/-- digits to the base B, the lowest first -/
def val (B : Nat) : Nat → (Nat → Nat) → Nat
  | 0, _ => 0
  | k + 1, d => d 0 + B * val B k (fun j => d (j + 1))
theorem val_congr {B : Nat} : ∀ {k : Nat} {d e : Nat → Nat}, (∀ j, j < k → d j = e j) → val B k d = val B k e
  | 0, _, _, _ => rfl
  | k + 1, d, e, h => by rw [val, val, h 0 (Nat.succ_pos k), val_congr (fun j hj => h (j + 1) (Nat.succ_lt_succ hj))]
theorem val_add {B : Nat} : ∀ (k : Nat) (d e : Nat → Nat), val B k d + val B k e = val B k (fun j => d j + e j)
  | 0, _, _ => rfl
  | k + 1, d, e => by
    rw [val, val, val, ← val_add k, Nat.mul_add]
    omega
theorem val_div {B : Nat} {k : Nat} {d : Nat → Nat} (h : d 0 < B) : val B (k + 1) d / B = val B k (fun j => d (j + 1)) := by
  rw [val, Nat.add_mul_div_left _ _ (by omega), Nat.div_eq_of_lt h, Nat.zero_add]
theorem val_lt {B : Nat} : ∀ {k : Nat} {d : Nat → Nat}, (∀ j, j < k → d j < B) → val B k d < B ^ k
  | 0, _, _ => by simp [val]
  | k + 1, d, h => by
    have h1 := val_lt (B := B) (k := k) (d := fun j => d (j + 1)) (fun j hj => h (j + 1) (Nat.succ_lt_succ hj))
    have h0 := h 0 (Nat.succ_pos k)
    rw [val, Nat.pow_succ, Nat.mul_comm (B ^ k) B]
    have h2 : B * (val B k (fun j => d (j + 1)) + 1) ≤ B * B ^ k := Nat.mul_le_mul_left B h1
    rw [Nat.mul_add, Nat.mul_one] at h2
    omega
theorem land_cat {w a c u v : Nat} (ha : a < 2 ^ w) (hc : c < 2 ^ w) : (a + 2 ^ w * u) &&& (c + 2 ^ w * v) = (a &&& c) + 2 ^ w * (u &&& v) := by
  apply Nat.eq_of_testBit_eq
  intro i
  have hac : a &&& c < 2 ^ w := Nat.and_lt_two_pow _ hc
  rw [Nat.testBit_and, Nat.add_comm a, Nat.add_comm c, Nat.add_comm (a &&& c), Nat.testBit_two_pow_mul_add _ ha, Nat.testBit_two_pow_mul_add _ hc, Nat.testBit_two_pow_mul_add _ hac]
  split <;> rw [Nat.testBit_and]
theorem val_land {w : Nat} : ∀ {k : Nat} {d e : Nat → Nat}, (∀ j, j < k → d j < 2 ^ w) → (∀ j, j < k → e j < 2 ^ w) → val (2 ^ w) k d &&& val (2 ^ w) k e = val (2 ^ w) k (fun j => d j &&& e j)
  | 0, _, _, _, _ => by simp [val]
  | k + 1, d, e, h1, h2 => by
    rw [val, val, val, land_cat (h1 0 (Nat.succ_pos k)) (h2 0 (Nat.succ_pos k)), val_land (fun j hj => h1 (j + 1) (Nat.succ_lt_succ hj)) (fun j hj => h2 (j + 1) (Nat.succ_lt_succ hj))]
theorem val_pair {B : Nat} : ∀ (k : Nat) (d : Nat → Nat), val B (2 * k) d = val (B * B) k (fun j => d (2 * j) + B * d (2 * j + 1))
  | 0, _ => rfl
  | k + 1, d => by
    rw [show 2 * (k + 1) = 2 * k + 1 + 1 by omega, val, val, val, val_pair k]
    rw [Nat.mul_add, ← Nat.add_assoc, ← Nat.mul_assoc]
    rfl
/-- a number's bits -/
def bt (x j : Nat) : Nat := x / 2 ^ j % 2
theorem val_bits : ∀ (k x : Nat), val 2 k (bt x) = x % 2 ^ k
  | 0, x => by simp [val, Nat.mod_one]
  | k + 1, x => by
    have h : (fun j => bt x (j + 1)) = bt (x / 2) := by
      funext j
      unfold bt
      rw [Nat.pow_succ, Nat.mul_comm, ← Nat.div_div_eq_div_mul]
    rw [val, h, val_bits k, Nat.pow_succ, Nat.mul_comm (2 ^ k) 2, Nat.mod_mul]
    unfold bt
    rw [Nat.pow_zero, Nat.div_one]
theorem bt_le (x j : Nat) : bt x j ≤ 1 := by
  unfold bt
  omega
/-- how many bits are set below k -/
def pop : Nat → Nat → Nat
  | 0, _ => 0
  | k + 1, x => pop k x + bt x k
theorem pop_le : ∀ k x, pop k x ≤ k
  | 0, _ => Nat.le_refl _
  | k + 1, x => by
    have h1 := pop_le k x
    have h2 := bt_le x k
    rw [pop]
    omega
/-- pairs, fours, eights: from the bits to sums -/
theorem sw1 {K x : Nat} (hx : x < 2 ^ (2 * K)) {M5 : Nat} (h5 : M5 = val 4 K (fun _ => 1)) : x - ((x / 2) &&& M5) = val 4 K (fun j => bt x (2 * j) + bt x (2 * j + 1)) := by
  have e1 : x = val 4 K (fun j => bt x (2 * j) + 2 * bt x (2 * j + 1)) := by
    rw [← val_pair (B := 2) K, val_bits, Nat.mod_eq_of_lt hx]
  have e2 : x / 2 = val 4 K (fun j => bt (x / 2) (2 * j) + 2 * bt (x / 2) (2 * j + 1)) := by
    rw [← val_pair (B := 2) K, val_bits, Nat.mod_eq_of_lt (Nat.lt_of_le_of_lt (Nat.div_le_self _ _) hx)]
  have e3 : (x / 2) &&& M5 = val 4 K (fun j => bt x (2 * j + 1)) := by
    rw [h5, e2]
    rw [show (4 : Nat) = 2 ^ 2 from rfl, val_land (fun j _ => by have := bt_le (x / 2) (2 * j); have := bt_le (x / 2) (2 * j + 1); omega) (fun j _ => by decide)]
    refine val_congr (fun j _ => ?_)
    have h1 : bt (x / 2) (2 * j) = bt x (2 * j + 1) := by
      unfold bt
      rw [Nat.div_div_eq_div_mul, ← Nat.pow_succ']
    have h2 := bt_le (x / 2) (2 * j)
    have h3 := bt_le (x / 2) (2 * j + 1)
    rw [← h1]
    rcases (show bt (x / 2) (2 * j) = 0 ∨ bt (x / 2) (2 * j) = 1 by omega) with e | e <;> rcases (show bt (x / 2) (2 * j + 1) = 0 ∨ bt (x / 2) (2 * j + 1) = 1 by omega) with f | f <;> rw [e, f] <;> rfl
  have e4 := val_add (B := 4) K (fun j => bt x (2 * j) + bt x (2 * j + 1)) (fun j => bt x (2 * j + 1))
  have e5 : x = val 4 K (fun j => bt x (2 * j) + bt x (2 * j + 1) + bt x (2 * j + 1)) := by
    rw [show (fun j => bt x (2 * j) + bt x (2 * j + 1) + bt x (2 * j + 1)) = (fun j => bt x (2 * j) + 2 * bt x (2 * j + 1)) from funext fun j => by omega]
    exact e1
  rw [e3]
  omega
/-- one folding step: digits p below B, the sums of neighbours below B too -/
theorem sw2 {w K : Nat} {p : Nat → Nat} (hp : ∀ j, j < 2 * K → p j < 2 ^ w) {M : Nat} (hM : M = val (2 ^ w * 2 ^ w) K (fun _ => 2 ^ w - 1)) : val (2 ^ w) (2 * K) p &&& M = val (2 ^ w * 2 ^ w) K (fun j => p (2 * j)) := by
  rw [hM, val_pair, ← Nat.pow_add, val_land (fun j hj => ?_) (fun j hj => ?_)]
  · refine val_congr (fun j hj => ?_)
    have h := land_cat (w := w) (a := p (2 * j)) (c := 2 ^ w - 1) (u := p (2 * j + 1)) (v := 0) (hp _ (by omega)) (by have := Nat.two_pow_pos w; omega)
    rw [Nat.mul_zero, Nat.add_zero, Nat.and_zero, Nat.mul_zero, Nat.add_zero, Nat.and_two_pow_sub_one_eq_mod, Nat.mod_eq_of_lt (hp _ (by omega))] at h
    exact h
  · have h1 := hp (2 * j) (by omega)
    have h2 := hp (2 * j + 1) (by omega)
    rw [Nat.pow_add]
    have h3 : 2 ^ w * (p (2 * j + 1) + 1) ≤ 2 ^ w * 2 ^ w := Nat.mul_le_mul_left _ h2
    rw [Nat.mul_add, Nat.mul_one] at h3
    omega
  · have h1 := Nat.two_pow_pos w
    have h2 : 2 ^ w * 1 ≤ 2 ^ w * 2 ^ w := Nat.mul_le_mul_left _ h1
    rw [Nat.pow_add]
    omega
end
