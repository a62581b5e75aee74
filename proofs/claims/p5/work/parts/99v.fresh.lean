/-! ===== energies of the fresh grid ===== -/
section
theorem en_E4 {F : Int32} {st : Nat → Int32} (h0 : F = 0) (h : ∀ k, k < 32 → st k = 1) : en F st 16 32 (fE B4) (sE B4) = E4 := by
  funext s
  rw [h0]
  exact en_congr s h
theorem E4_B : EB E4 16 := by
  have h := en_EB (fi := fE B4) (se := sE B4) (n := 16) (m := 32) (SB_1 (F := 0) (st := fun _ => 1) rfl (fun _ _ => rfl)) (by decide) (by decide)
  exact h
end
