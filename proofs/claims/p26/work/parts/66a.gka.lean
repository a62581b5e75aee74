/-! ===== all grids: their bonds are good ===== -/
section
def gka (r c e : Nat) : Bool := gk (r * c) (bl r c e (r * c)) && decide ((bl r c e (r * c)).length ≤ 2 * (r * c)) && decide (0 < (bl r c e (r * c)).length)
/-- a bond at a site -/
def pq (t : Nat) (q : Nat × Nat) : Bool := decide (q.1 = t) || decide (q.2 = t)
theorem fl_cnt (l : List (Nat × Nat)) (t : Nat) : ∀ k, k ≤ l.length → (fl (iP l t) k).length = (l.take k).countP (pq t)
  | 0, _ => by rw [fl]; rfl
  | k + 1, h => by
    have hk : k < l.length := h
    have e : iP l t k = pq t l[k] := by
      unfold iP fE sE pq
      rw [← List.getElem_eq_getD (h := hk) (0, 0)]
    rw [fl, ← List.take_append_getElem hk, List.countP_append, ← fl_cnt l t k (by omega), e]
    cases hq : pq t l[k]
    · rw [if_neg (by decide), List.countP_cons_of_neg (by rw [hq]; decide)]; rfl
    · rw [if_pos rfl, List.countP_cons_of_pos hq, List.length_append]; rfl
theorem ic_cnt (l : List (Nat × Nat)) (t : Nat) : (ic l t).length = l.countP (pq t) := by
  unfold ic
  rw [fl_cnt l t _ (Nat.le_refl _), List.take_length]
def gk2 (n : Nat) (l : List (Nat × Nat)) : Bool := decide (0 < n) && decide (n ≤ 64) && decide (l.length ≤ 128) && l.all (fun q => decide (q.1 < n) && decide (q.2 < n) && !decide (q.1 = q.2)) && (List.range n).all (fun t => decide (l.countP (pq t) ≤ 4))
theorem gk2_eq (n : Nat) (l : List (Nat × Nat)) : gk n l = gk2 n l := by
  unfold gk gk2
  simp only [ic_cnt]
theorem de_eq (a b : Nat) : decide (a = b) = Nat.beq a b := by
  cases h : Nat.beq a b
  · exact decide_eq_false (Nat.ne_of_beq_eq_false h)
  · exact decide_eq_true (Nat.eq_of_beq_eq_true h)
theorem de_le (a b : Nat) : decide (a ≤ b) = Nat.ble a b := by
  cases h : Nat.ble a b
  · exact decide_eq_false (Nat.not_le_of_not_ble_eq_true (by rw [h]; exact Bool.false_ne_true))
  · exact decide_eq_true (Nat.le_of_ble_eq_true h)
theorem de_lt (a b : Nat) : decide (a < b) = Nat.ble (a + 1) b := by
  cases h : Nat.ble (a + 1) b
  · exact decide_eq_false (fun k => Nat.not_le_of_not_ble_eq_true (by rw [h]; exact Bool.false_ne_true) (Nat.succ_le_of_lt k))
  · exact decide_eq_true (Nat.lt_of_succ_le (Nat.le_of_ble_eq_true h))
/-- how many bonds a site has: the digits of one sum of powers -/
def dBt : List (Nat × Nat) → Nat
  | [] => 0
  | q :: l => dBt l + 512 ^ q.1 + 512 ^ q.2
def mBt (t : Nat) : List (Nat × Nat) → Nat
  | [] => 0
  | q :: l => mBt t l + (if q.1 = t then 1 else 0) + (if q.2 = t then 1 else 0)
theorem mBt_le (t : Nat) : ∀ l : List (Nat × Nat), mBt t l ≤ 2 * l.length
  | [] => Nat.zero_le _
  | q :: l => by
    have ih := mBt_le t l
    rw [mBt, List.length_cons]
    split <;> split <;> omega
theorem cnt_mBt (t : Nat) : ∀ l : List (Nat × Nat), l.countP (pq t) ≤ mBt t l
  | [] => Nat.le_refl _
  | q :: l => by
    have ih := cnt_mBt t l
    rw [mBt]
    cases hq : pq t q
    · rw [List.countP_cons_of_neg (by rw [hq]; decide)]
      exact Nat.le_trans ih (Nat.le_trans (Nat.le_add_right _ _) (Nat.le_add_right _ _))
    · rw [List.countP_cons_of_pos hq]
      unfold pq at hq
      rw [Bool.or_eq_true, decide_eq_true_eq, decide_eq_true_eq] at hq
      rcases hq with h | h
      · rw [if_pos h]
        exact Nat.le_trans (Nat.succ_le_succ ih) (Nat.le_add_right _ _)
      · rw [if_pos h]
        exact Nat.succ_le_succ (Nat.le_trans ih (Nat.le_add_right _ _))
theorem ad9 (x a t : Nat) (ha : x / 512 ^ a % 512 + 1 < 512) : (x + 512 ^ a) / 512 ^ t % 512 = x / 512 ^ t % 512 + (if a = t then 1 else 0) := by
  have pos : ∀ k, 0 < 512 ^ k := fun k => Nat.pow_pos (by decide)
  have e1 : (x + 512 ^ a) / 512 ^ a = x / 512 ^ a + 1 := by
    have e0 := Nat.add_mul_div_left x 1 (pos a)
    rw [Nat.mul_one] at e0
    exact e0
  rcases Nat.lt_trichotomy a t with h | h | h
  · obtain ⟨k, rfl⟩ : ∃ k, t = a + (1 + k) := ⟨t - a - 1, by omega⟩
    have e : ∀ y : Nat, y / 512 ^ (a + (1 + k)) = y / 512 ^ a / 512 / 512 ^ k := fun y => by
      rw [Nat.div_div_eq_div_mul, Nat.div_div_eq_div_mul, Nat.pow_add, Nat.pow_add, Nat.pow_one]
    rw [if_neg (by omega), e, e, e1]
    generalize x / 512 ^ a = u at ha ⊢
    have e2 : (u + 1) / 512 = u / 512 := by omega
    rw [e2, Nat.add_zero]
  · rw [← h, if_pos rfl, e1]
    generalize x / 512 ^ a = u at ha ⊢
    omega
  · obtain ⟨k, rfl⟩ : ∃ k, a = t + (1 + k) := ⟨a - t - 1, by omega⟩
    have e : (512 : Nat) ^ (t + (1 + k)) = 512 ^ t * (512 * 512 ^ k) := by rw [Nat.pow_add, Nat.pow_add, Nat.pow_one]
    rw [if_neg (by omega), e, Nat.add_mul_div_left _ _ (pos t)]
    generalize (512 : Nat) ^ k = K
    generalize x / 512 ^ t = u
    omega
theorem dBt_dig : ∀ l : List (Nat × Nat), 2 * l.length < 511 → ∀ t, dBt l / 512 ^ t % 512 = mBt t l
  | [], _, t => by
    show 0 / 512 ^ t % 512 = 0
    rw [Nat.zero_div, Nat.zero_mod]
  | q :: l, h, t => by
    rw [List.length_cons] at h
    have ih := dBt_dig l (by omega)
    have m1 := mBt_le q.1 l
    have m2 := mBt_le q.2 l
    have s1 : ∀ t, (dBt l + 512 ^ q.1) / 512 ^ t % 512 = mBt t l + (if q.1 = t then 1 else 0) := fun t => by
      rw [ad9 _ _ _ (by rw [ih]; omega), ih]
    show (dBt l + 512 ^ q.1 + 512 ^ q.2) / 512 ^ t % 512 = mBt t l + (if q.1 = t then 1 else 0) + (if q.2 = t then 1 else 0)
    rw [ad9 _ _ _ (by rw [s1]; split <;> omega), s1]
/-- the bonds from the first one on -/
def bAt (r c e : Nat) : Nat → List (Nat × Nat) → List (Nat × Nat)
  | 0, acc => acc
  | s + 1, acc => bAt r c e s (oR c e s ++ (oD r c e s ++ acc))
theorem bAt_eq (r c e : Nat) : ∀ (s : Nat) (acc : List (Nat × Nat)), bAt r c e s acc = bl r c e s ++ acc
  | 0, _ => rfl
  | s + 1, acc => by rw [bAt, bAt_eq r c e s, bl, List.append_assoc, List.append_assoc]
def gk3 (n : Nat) (l : List (Nat × Nat)) : Bool := Nat.ble (0 + 1) n && Nat.ble n 64 && Nat.ble l.length 128 && l.all (fun q => Nat.ble (q.1 + 1) n && Nat.ble (q.2 + 1) n && !Nat.beq q.1 q.2) && (List.range n).all (fun t => Nat.ble (dBt l / 512 ^ t % 512) 4)
theorem gk3_ok (n : Nat) (l : List (Nat × Nat)) (h : gk3 n l = true) : gk n l = true := by
  rw [gk2_eq]
  unfold gk2
  unfold gk3 at h
  rw [Bool.and_eq_true] at h
  obtain ⟨h, hE⟩ := h
  have hC : Nat.ble l.length 128 = true := by
    rw [Bool.and_eq_true, Bool.and_eq_true] at h
    exact h.1.2
  have hC := Nat.le_of_ble_eq_true hC
  rw [Bool.and_eq_true]
  refine ⟨?_, ?_⟩
  · simp only [de_eq, de_le, de_lt]
    exact h
  · refine List.all_eq_true.mpr (fun t ht => ?_)
    have k : dBt l / 512 ^ t % 512 ≤ 4 := Nat.le_of_ble_eq_true (List.all_eq_true.mp hE t ht)
    rw [dBt_dig l (by omega)] at k
    exact decide_eq_true (Nat.le_trans (cnt_mBt t l) k)
def gkb (r c e : Nat) : Bool := gk3 (r * c) (bAt r c e (r * c) []) && decide ((bAt r c e (r * c) []).length ≤ 2 * (r * c)) && decide (0 < (bAt r c e (r * c) []).length)
theorem gkb_ok {r c e : Nat} (h : gkb r c e = true) : gka r c e = true := by
  have hb : bAt r c e (r * c) [] = bl r c e (r * c) := (bAt_eq r c e (r * c) []).trans (List.append_nil _)
  unfold gkb at h
  rw [hb, Bool.and_eq_true, Bool.and_eq_true] at h
  unfold gka
  rw [Bool.and_eq_true, Bool.and_eq_true]
  exact ⟨⟨gk3_ok _ _ h.1.1, h.1.2⟩, h.2⟩
theorem gkb_2 : ∀ c, c < 9 → 2 ≤ c → ∀ e, e < 3 → gkb 2 c e = true := by decide +kernel
theorem gka_2 : ∀ c, c < 9 → 2 ≤ c → ∀ e, e < 3 → gka 2 c e = true := fun c h1 h2 e h3 => gkb_ok (gkb_2 c h1 h2 e h3)
theorem gkb_3 : ∀ c, c < 9 → 2 ≤ c → ∀ e, e < 3 → gkb 3 c e = true := by decide +kernel
theorem gka_3 : ∀ c, c < 9 → 2 ≤ c → ∀ e, e < 3 → gka 3 c e = true := fun c h1 h2 e h3 => gkb_ok (gkb_3 c h1 h2 e h3)
theorem gkb_4 : ∀ c, c < 9 → 2 ≤ c → ∀ e, e < 3 → gkb 4 c e = true := by decide +kernel
theorem gka_4 : ∀ c, c < 9 → 2 ≤ c → ∀ e, e < 3 → gka 4 c e = true := fun c h1 h2 e h3 => gkb_ok (gkb_4 c h1 h2 e h3)
theorem gkb_5 : ∀ c, c < 9 → 2 ≤ c → ∀ e, e < 3 → gkb 5 c e = true := by decide +kernel
theorem gka_5 : ∀ c, c < 9 → 2 ≤ c → ∀ e, e < 3 → gka 5 c e = true := fun c h1 h2 e h3 => gkb_ok (gkb_5 c h1 h2 e h3)
theorem gkb_6 : ∀ c, c < 9 → 2 ≤ c → ∀ e, e < 3 → gkb 6 c e = true := by decide +kernel
theorem gka_6 : ∀ c, c < 9 → 2 ≤ c → ∀ e, e < 3 → gka 6 c e = true := fun c h1 h2 e h3 => gkb_ok (gkb_6 c h1 h2 e h3)
theorem gkb_7 : ∀ c, c < 9 → 2 ≤ c → ∀ e, e < 3 → gkb 7 c e = true := by decide +kernel
theorem gka_7 : ∀ c, c < 9 → 2 ≤ c → ∀ e, e < 3 → gka 7 c e = true := fun c h1 h2 e h3 => gkb_ok (gkb_7 c h1 h2 e h3)
theorem gkb_8 : ∀ c, c < 9 → 2 ≤ c → ∀ e, e < 3 → gkb 8 c e = true := by decide +kernel
theorem gka_8 : ∀ c, c < 9 → 2 ≤ c → ∀ e, e < 3 → gka 8 c e = true := fun c h1 h2 e h3 => gkb_ok (gkb_8 c h1 h2 e h3)
end
