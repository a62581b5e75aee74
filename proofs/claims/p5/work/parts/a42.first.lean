/-! ===== the first state: printed by a42.first.py ===== -/
section
def z00 : xA := ((4, 4, 0), mkS (fun _ => 1) 0 1 2 0 (65535, 1, 0, 0) 0 (fun _ => 0) (fun _ => 0), none, 0, (fun _ => 0), 0, -1)
variable {S : xS} {I : xI} {J : xJ} {R : xR}
theorem gm00 : (bl 4 4 0 16).length = 32 := by decide +kernel
theorem WA_00 : WA 0 z00 := by
  refine ⟨⟨by decide, by decide, by decide, by decide, by decide⟩, ⟨⟨⟨by decide, fun k _ => ?_⟩, by decide, by decide, by decide, Or.inl rfl⟩, ⟨by decide, by decide, 0, rfl, Nat.le_refl 0⟩, Nat.zero_le _, fun i hi => absurd hi (Nat.not_lt_zero i)⟩, fun y hy => ?_, Nat.zero_le _, fun j hj => absurd hj (Nat.not_lt_zero j)⟩
  · show -3 ≤ (1 : Int32).toInt ∧ (1 : Int32).toInt ≤ 3
    decide
  · cases hy
theorem AA_00 (h : FC S I J R) (hf : ∀ o, 402 ≤ o → o < 900000 → S o = (0, 0)) : AA z00 282794 402 S I J R := by
  obtain ⟨a1, ⟨l1, l2, l3, -⟩, a3, -, a5, a6, a7, a8, a9, ⟨b1, b2, b3, b4, b5, b6, b7, b8⟩, ⟨c1, c2, c3, c4, c5, c6, c7⟩, ⟨d1, d2, d3, d4, d5, d6, d7⟩, ⟨e1, e2, e3, e4⟩, ⟨f1, f2, f3⟩, g1, g2, g3⟩ := h
  rw [aU16] at b7
  refine ⟨a1, ⟨⟨a7, a3⟩, a5, a6, a8⟩, ⟨⟨b1, b2, b3, b4, b5, b6, b7, b8⟩, fun k hk => a9 k ?_, ⟨c1, Nat.zero_le _⟩, fun i hi => absurd hi (Nat.not_lt_zero i)⟩, ⟨e4, fun y hy => ?_⟩, ⟨e1, fun j hj => absurd hj (Nat.not_lt_zero j), e2, e3⟩, Or.inl f1, 20002, 20002, 32769, 200006, 10015, by decide, Or.inl ⟨c2, c5, c3, c6, g2 117 (by decide), g2 118 (by decide), c1, Nat.le_refl _⟩, Or.inl ⟨d1, d4, d2, d5, g2 127 (by decide), g2 128 (by decide), d7, Nat.le_refl _⟩, Or.inl ⟨c4, c7, g2 119 (by decide), Nat.le_refl _⟩, Or.inl ⟨f2, f3, fun o h1 h2 => g2 o (by unfold fC; omega), f1, Nat.le_refl _⟩, ⟨160, 16, 0, l1, l2, l3, g1, Or.inl rfl, Nat.zero_le _, Nat.le_refl _, by decide, fun k _ => ?_, by decide⟩, Nat.le_refl _, by decide, hf⟩
  · have hk : k < (bl 4 4 0 16).length := hk
    rw [gm00] at hk
    omega
  · cases hy
  · rw [g3 k]
    exact bF_0
theorem AB_00 (h : FM S I J R) : ABm z00 S I J R := by
  obtain ⟨a1, a2, ⟨b1, b2, b3, b4, b5, b6, b7, b8, b9, b10, b11⟩, a3, a4, a5, ⟨c1, c2, c3, c4, c5, c6, c7, c8⟩⟩ := h
  rw [aU16] at a4
  refine ⟨a1, ⟨⟨b11, a2⟩, b1, b2, c2⟩, ⟨⟨b3, b4, b5, b6, b7, b8, a4, a5⟩, fun k hk => a3 k ?_, ⟨b10, Nat.zero_le _⟩, fun i hi => absurd hi (Nat.not_lt_zero i)⟩, ⟨c1, fun y hy => ?_⟩, ⟨c4, fun j hj => absurd hj (Nat.not_lt_zero j), c5, c6⟩, Or.inl c7, 0, c8, by decide⟩
  · have hk : k < (bl 4 4 0 16).length := hk
    rw [gm00] at hk
    exact hk
  · cases hy
end
