/-! ===== a pair's start (the fresh pair's form is kept for the rows that name it) ===== -/
section
def FP (S : xS) (I : xI) (J : xJ) (R : xR) (xs : Nat → Int32) : Prop := FC S I J R ∧ FM S I J R ∧ S 400 = (101, 1) ∧ S 401 = (102, 1) ∧ S 900600 = (108, 6) ∧ (∀ j, I 900600 j = xs j) ∧ (∀ o, 402 ≤ o → o < 900000 → S o = (0, 0)) ∧ S 900800 = (107, 100) ∧ S 900801 = (107, 100)
theorem xSh_lo {L o : Nat} (h : o < 900000) : xSh L o = (0, 0) := by
  unfold xSh
  rw [if_neg (by omega), if_neg (by omega), if_neg (by omega), if_neg (by omega), if_neg (by omega)]
theorem xSi_lo {xs : Nat → Int32} {o : Nat} (h : o < 900000) : xSi xs o = fun _ => 0 := by
  funext j
  unfold xSi
  rw [if_neg (by omega), if_neg (by omega), if_neg (by omega), if_neg (by omega)]
end
