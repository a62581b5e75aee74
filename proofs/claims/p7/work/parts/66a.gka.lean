/-! ===== all grids: their bonds are good ===== -/
section
def gka (r c e : Nat) : Bool := gk (r * c) (bl r c e (r * c)) && decide ((bl r c e (r * c)).length ≤ 2 * (r * c)) && decide (0 < (bl r c e (r * c)).length)
/-- a bond at a site -/
def pq (t : Nat) (q : Nat × Nat) : Bool := decide (q.1 = t) || decide (q.2 = t)
theorem fl_cnt (l : List (Nat × Nat)) (t : Nat) : ∀ k, k ≤ l.length → (fl (iP l t) k).length = (l.take k).countP (pq t)
  | 0, _ => by rw [fl]; rfl
  | k + 1, h => by
    have hk : k < l.length := h
    have e : iP l t k = pq t l[k] := by
      unfold iP fE sE pq
      rw [← List.getElem_eq_getD (h := hk) (0, 0)]
    rw [fl, ← List.take_append_getElem hk, List.countP_append, ← fl_cnt l t k (by omega), e]
    cases hq : pq t l[k]
    · rw [if_neg (by decide), List.countP_cons_of_neg (by rw [hq]; decide)]; rfl
    · rw [if_pos rfl, List.countP_cons_of_pos hq, List.length_append]; rfl
theorem ic_cnt (l : List (Nat × Nat)) (t : Nat) : (ic l t).length = l.countP (pq t) := by
  unfold ic
  rw [fl_cnt l t _ (Nat.le_refl _), List.take_length]
def gk2 (n : Nat) (l : List (Nat × Nat)) : Bool := decide (0 < n) && decide (n ≤ 64) && decide (l.length ≤ 128) && l.all (fun q => decide (q.1 < n) && decide (q.2 < n) && !decide (q.1 = q.2)) && (List.range n).all (fun t => decide (l.countP (pq t) ≤ 4))
theorem gk2_eq (n : Nat) (l : List (Nat × Nat)) : gk n l = gk2 n l := by
  unfold gk gk2
  simp only [ic_cnt]
def gkb (r c e : Nat) : Bool := gk2 (r * c) (bl r c e (r * c)) && decide ((bl r c e (r * c)).length ≤ 2 * (r * c)) && decide (0 < (bl r c e (r * c)).length)
theorem gkb_eq (r c e : Nat) : gka r c e = gkb r c e := by unfold gka gkb; rw [gk2_eq]
theorem gkb_2 : ∀ c, c < 9 → 2 ≤ c → ∀ e, e < 3 → gkb 2 c e = true := by decide +kernel
theorem gka_2 : ∀ c, c < 9 → 2 ≤ c → ∀ e, e < 3 → gka 2 c e = true := fun c h1 h2 e h3 => (gkb_eq 2 c e).trans (gkb_2 c h1 h2 e h3)
theorem gkb_3 : ∀ c, c < 9 → 2 ≤ c → ∀ e, e < 3 → gkb 3 c e = true := by decide +kernel
theorem gka_3 : ∀ c, c < 9 → 2 ≤ c → ∀ e, e < 3 → gka 3 c e = true := fun c h1 h2 e h3 => (gkb_eq 3 c e).trans (gkb_3 c h1 h2 e h3)
theorem gkb_4 : ∀ c, c < 9 → 2 ≤ c → ∀ e, e < 3 → gkb 4 c e = true := by decide +kernel
theorem gka_4 : ∀ c, c < 9 → 2 ≤ c → ∀ e, e < 3 → gka 4 c e = true := fun c h1 h2 e h3 => (gkb_eq 4 c e).trans (gkb_4 c h1 h2 e h3)
theorem gkb_5 : ∀ c, c < 9 → 2 ≤ c → ∀ e, e < 3 → gkb 5 c e = true := by decide +kernel
theorem gka_5 : ∀ c, c < 9 → 2 ≤ c → ∀ e, e < 3 → gka 5 c e = true := fun c h1 h2 e h3 => (gkb_eq 5 c e).trans (gkb_5 c h1 h2 e h3)
theorem gkb_6 : ∀ c, c < 9 → 2 ≤ c → ∀ e, e < 3 → gkb 6 c e = true := by decide +kernel
theorem gka_6 : ∀ c, c < 9 → 2 ≤ c → ∀ e, e < 3 → gka 6 c e = true := fun c h1 h2 e h3 => (gkb_eq 6 c e).trans (gkb_6 c h1 h2 e h3)
theorem gkb_7 : ∀ c, c < 9 → 2 ≤ c → ∀ e, e < 3 → gkb 7 c e = true := by decide +kernel
theorem gka_7 : ∀ c, c < 9 → 2 ≤ c → ∀ e, e < 3 → gka 7 c e = true := fun c h1 h2 e h3 => (gkb_eq 7 c e).trans (gkb_7 c h1 h2 e h3)
theorem gkb_8 : ∀ c, c < 9 → 2 ≤ c → ∀ e, e < 3 → gkb 8 c e = true := by decide +kernel
theorem gka_8 : ∀ c, c < 9 → 2 ≤ c → ∀ e, e < 3 → gka 8 c e = true := fun c h1 h2 e h3 => (gkb_eq 8 c e).trans (gkb_8 c h1 h2 e h3)
end
