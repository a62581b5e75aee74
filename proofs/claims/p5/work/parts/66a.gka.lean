/-! ===== all grids: their bonds are good ===== -/
section
def gka (r c e : Nat) : Bool := gk (r * c) (bl r c e (r * c)) && decide ((bl r c e (r * c)).length ≤ 2 * (r * c)) && decide (0 < (bl r c e (r * c)).length)
theorem gka_2 : ∀ c, c < 9 → 2 ≤ c → ∀ e, e < 3 → gka 2 c e = true := by decide +kernel
theorem gka_3 : ∀ c, c < 9 → 2 ≤ c → ∀ e, e < 3 → gka 3 c e = true := by decide +kernel
theorem gka_4 : ∀ c, c < 9 → 2 ≤ c → ∀ e, e < 3 → gka 4 c e = true := by decide +kernel
theorem gka_5 : ∀ c, c < 9 → 2 ≤ c → ∀ e, e < 3 → gka 5 c e = true := by decide +kernel
theorem gka_6 : ∀ c, c < 9 → 2 ≤ c → ∀ e, e < 3 → gka 6 c e = true := by decide +kernel
theorem gka_7 : ∀ c, c < 9 → 2 ≤ c → ∀ e, e < 3 → gka 7 c e = true := by decide +kernel
theorem gka_8 : ∀ c, c < 9 → 2 ≤ c → ∀ e, e < 3 → gka 8 c e = true := by decide +kernel
end
