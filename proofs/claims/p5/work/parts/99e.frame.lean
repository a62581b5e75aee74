/-! ===== shapes behind new things ===== -/
section
variable {S S' : xS} {R R' : xR}
theorem LC_f (hL : LC S R) (hs : ∀ o, o < 402 → S' o = S o) (hr : ∀ o k, o < 402 → ¬ (o = 112 ∧ (k = 1 ∨ k = 2)) → R' o k = R o k) : LC S' R' := by
  unfold LC
  repeat' apply And.intro
  all_goals first
    | (rw [hs _ (by decide)]; simp only [LC_out hL])
    | (rw [hr _ _ (by decide) (by decide)]; simp only [LC_out hL])
theorem LM_f (hL : LM S R) (hs : ∀ o, o < 402 → S' o = S o) (hr : ∀ o k, o < 402 → ¬ (o = 112 ∧ (k = 1 ∨ k = 2)) → R' o k = R o k) : LM S' R' := by
  unfold LM
  repeat' apply And.intro
  all_goals first
    | (rw [hs _ (by decide)]; simp only [LM_out hL])
    | (rw [hr _ _ (by decide) (by decide)]; simp only [LM_out hL])
end
