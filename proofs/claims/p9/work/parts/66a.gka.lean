/-! ===== all grids: their bonds are good ===== -/
section
def gka (r c e : Nat) : Bool := gk (r * c) (bl r c e (r * c)) && decide ((bl r c e (r * c)).length ≤ 2 * (r * c)) && decide (0 < (bl r c e (r * c)).length)
/-- a bond at a site -/
def pq (t : Nat) (q : Nat × Nat) : Bool := decide (q.1 = t) || decide (q.2 = t)
theorem fl_cnt (l : List (Nat × Nat)) (t : Nat) : ∀ k, k ≤ l.length → (fl (iP l t) k).length = (l.take k).countP (pq t)
  | 0, _ => by rw [fl]; rfl
  | k + 1, h => by
    have hk : k < l.length := h
    have e : iP l t k = pq t l[k] := by
      unfold iP fE sE pq
      rw [← List.getElem_eq_getD (h := hk) (0, 0)]
    rw [fl, ← List.take_append_getElem hk, List.countP_append, ← fl_cnt l t k (by omega), e]
    cases hq : pq t l[k]
    · rw [if_neg (by decide), List.countP_cons_of_neg (by rw [hq]; decide)]; rfl
    · rw [if_pos rfl, List.countP_cons_of_pos hq, List.length_append]; rfl
theorem ic_cnt (l : List (Nat × Nat)) (t : Nat) : (ic l t).length = l.countP (pq t) := by
  unfold ic
  rw [fl_cnt l t _ (Nat.le_refl _), List.take_length]
def gk2 (n : Nat) (l : List (Nat × Nat)) : Bool := decide (0 < n) && decide (n ≤ 64) && decide (l.length ≤ 128) && l.all (fun q => decide (q.1 < n) && decide (q.2 < n) && !decide (q.1 = q.2)) && (List.range n).all (fun t => decide (l.countP (pq t) ≤ 4))
theorem gk2_eq (n : Nat) (l : List (Nat × Nat)) : gk n l = gk2 n l := by
  unfold gk gk2
  simp only [ic_cnt]
theorem de_eq (a b : Nat) : decide (a = b) = Nat.beq a b := by
  cases h : Nat.beq a b
  · exact decide_eq_false (Nat.ne_of_beq_eq_false h)
  · exact decide_eq_true (Nat.eq_of_beq_eq_true h)
theorem de_le (a b : Nat) : decide (a ≤ b) = Nat.ble a b := by
  cases h : Nat.ble a b
  · exact decide_eq_false (Nat.not_le_of_not_ble_eq_true (by rw [h]; exact Bool.false_ne_true))
  · exact decide_eq_true (Nat.le_of_ble_eq_true h)
theorem de_lt (a b : Nat) : decide (a < b) = Nat.ble (a + 1) b := by
  cases h : Nat.ble (a + 1) b
  · exact decide_eq_false (fun k => Nat.not_le_of_not_ble_eq_true (by rw [h]; exact Bool.false_ne_true) (Nat.succ_le_of_lt k))
  · exact decide_eq_true (Nat.lt_of_succ_le (Nat.le_of_ble_eq_true h))
/-- how many bonds a site has, counted by truths alone -/
def cBt (t : Nat) : List (Nat × Nat) → Nat
  | [] => 0
  | q :: l => cond (Nat.beq q.1 t || Nat.beq q.2 t) (cBt t l + 1) (cBt t l)
theorem cBt_eq (t : Nat) : ∀ l : List (Nat × Nat), l.countP (pq t) = cBt t l
  | [] => rfl
  | q :: l => by
    have e : pq t q = (Nat.beq q.1 t || Nat.beq q.2 t) := by unfold pq; rw [de_eq, de_eq]
    rw [cBt, ← cBt_eq t l, ← e]
    cases hq : pq t q
    · rw [List.countP_cons_of_neg (by rw [hq]; decide)]; rfl
    · rw [List.countP_cons_of_pos hq]; rfl
def gk3 (n : Nat) (l : List (Nat × Nat)) : Bool := Nat.ble (0 + 1) n && Nat.ble n 64 && Nat.ble l.length 128 && l.all (fun q => Nat.ble (q.1 + 1) n && Nat.ble (q.2 + 1) n && !Nat.beq q.1 q.2) && (List.range n).all (fun t => Nat.ble (cBt t l) 4)
theorem gk3_eq (n : Nat) (l : List (Nat × Nat)) : gk2 n l = gk3 n l := by
  unfold gk2 gk3
  simp only [de_eq, de_le, de_lt, cBt_eq]
def gkb (r c e : Nat) : Bool := gk3 (r * c) (bl r c e (r * c)) && decide ((bl r c e (r * c)).length ≤ 2 * (r * c)) && decide (0 < (bl r c e (r * c)).length)
theorem gkb_eq (r c e : Nat) : gka r c e = gkb r c e := by unfold gka gkb; rw [gk2_eq, gk3_eq]
theorem gkb_2 : ∀ c, c < 9 → 2 ≤ c → ∀ e, e < 3 → gkb 2 c e = true := by decide +kernel
theorem gka_2 : ∀ c, c < 9 → 2 ≤ c → ∀ e, e < 3 → gka 2 c e = true := fun c h1 h2 e h3 => (gkb_eq 2 c e).trans (gkb_2 c h1 h2 e h3)
theorem gkb_3 : ∀ c, c < 9 → 2 ≤ c → ∀ e, e < 3 → gkb 3 c e = true := by decide +kernel
theorem gka_3 : ∀ c, c < 9 → 2 ≤ c → ∀ e, e < 3 → gka 3 c e = true := fun c h1 h2 e h3 => (gkb_eq 3 c e).trans (gkb_3 c h1 h2 e h3)
theorem gkb_4 : ∀ c, c < 9 → 2 ≤ c → ∀ e, e < 3 → gkb 4 c e = true := by decide +kernel
theorem gka_4 : ∀ c, c < 9 → 2 ≤ c → ∀ e, e < 3 → gka 4 c e = true := fun c h1 h2 e h3 => (gkb_eq 4 c e).trans (gkb_4 c h1 h2 e h3)
theorem gkb_5 : ∀ c, c < 9 → 2 ≤ c → ∀ e, e < 3 → gkb 5 c e = true := by decide +kernel
theorem gka_5 : ∀ c, c < 9 → 2 ≤ c → ∀ e, e < 3 → gka 5 c e = true := fun c h1 h2 e h3 => (gkb_eq 5 c e).trans (gkb_5 c h1 h2 e h3)
theorem gkb_6 : ∀ c, c < 9 → 2 ≤ c → ∀ e, e < 3 → gkb 6 c e = true := by decide +kernel
theorem gka_6 : ∀ c, c < 9 → 2 ≤ c → ∀ e, e < 3 → gka 6 c e = true := fun c h1 h2 e h3 => (gkb_eq 6 c e).trans (gkb_6 c h1 h2 e h3)
theorem gkb_7 : ∀ c, c < 9 → 2 ≤ c → ∀ e, e < 3 → gkb 7 c e = true := by decide +kernel
theorem gka_7 : ∀ c, c < 9 → 2 ≤ c → ∀ e, e < 3 → gka 7 c e = true := fun c h1 h2 e h3 => (gkb_eq 7 c e).trans (gkb_7 c h1 h2 e h3)
theorem gkb_8 : ∀ c, c < 9 → 2 ≤ c → ∀ e, e < 3 → gkb 8 c e = true := by decide +kernel
theorem gka_8 : ∀ c, c < 9 → 2 ≤ c → ∀ e, e < 3 → gka 8 c e = true := fun c h1 h2 e h3 => (gkb_eq 8 c e).trans (gkb_8 c h1 h2 e h3)
end
