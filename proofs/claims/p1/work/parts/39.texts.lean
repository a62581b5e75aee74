/-! ===== printed by wip/gen.py: what the start is asked for ===== -/
def xTxs : List (String × Nat × List Int32) := [("IsingLab$SetupReader", 70, [115, 105, 122, 101]), ("IsingLab$SetupReader", 76, [101, 100, 103, 101]), ("IsingLab$SetupReader", 78, [114, 97, 116, 105, 111]), ("IsingLab$SetupReader", 80, [115, 116, 114, 101, 110, 103, 116, 104]), ("IsingLab$SetupReader", 82, [102, 105, 101, 108, 100]), ("IsingLab$SetupReader", 84, [114, 117, 108, 101]), ("IsingLab$SetupReader", 86, [115, 101, 101, 100]), ("IsingLab$SetupReader", 88, [115, 116, 97, 114, 116]), ("IsingLab$SetupReader", 89, [98, 111, 110, 100]), ("IsingLab$SetupReader", 98, [116, 111, 114, 117, 115]), ("IsingLab$SetupReader", 100, [112, 108, 97, 110, 101]), ("IsingLab$SetupReader", 102, [116, 117, 98, 101]), ("IsingLab$SetupReader", 121, [109, 101, 116, 114, 111, 112, 111, 108, 105, 115]), ("IsingLab$SetupReader", 123, [103, 114, 101, 101, 100, 121]), ("IsingLab$SetupReader", 125, [101, 97, 103, 101, 114]), ("IsingLab$SetupReader", 131, [117, 112]), ("IsingLab$SetupReader", 133, [100, 111, 119, 110]), ("IsingLab$SetupReader", 135, [99, 104, 101, 115, 115]), ("IsingLab$SetupReader", 153, [114, 105, 103, 104, 116]), ("IsingLab", 121, [97, 32, 110, 117, 109, 98, 101, 114, 32, 105, 115, 32, 111, 117, 116, 32, 111, 102, 32, 114, 97, 110, 103, 101]), ("IsingLab", 182, [110, 111, 32, 115, 117, 99, 104, 32, 110, 117, 109, 98, 101, 114]), ("IsingLab", 204, [110, 111, 32, 115, 117, 99, 104, 32, 112, 114, 111, 112, 101, 114, 116, 121]), ("IsingLab", 117, [110, 111, 32, 115, 117, 99, 104, 32, 98, 111, 110, 100]), ("IsingLab", 124, [65, 32, 111, 114, 32, 66, 32, 105, 115, 32, 111, 117, 116, 32, 111, 102, 32, 114, 97, 110, 103, 101]), ("IsingLab", 109, [110, 111, 32, 115, 117, 99, 104, 32, 115, 105, 116, 101]), ("IsingLab", 130, [97, 32, 98, 105, 116, 32, 111, 102, 32, 97, 32, 115, 105, 116, 101, 32, 116, 104, 97, 116, 32, 100, 111, 101, 115, 32, 110, 111, 116, 32, 101, 120, 105, 115, 116]), ("IsingLab", 137, [99, 108, 117, 115, 116, 101, 114, 115, 32, 110, 101, 101, 100, 32, 115, 116, 114, 101, 110, 103, 116, 104, 115, 32, 102, 114, 111, 109, 32, 48, 32, 97, 110, 100, 32, 110, 111, 32, 102, 105, 101, 108, 100]), ("IsingLab", 291, [116, 104, 101, 114, 101, 32, 97, 114, 101, 32, 49, 48, 48, 48, 48, 32, 115, 97, 109, 112, 108, 101, 115]), ("IsingLab", 296, [116, 104, 101, 114, 101, 32, 119, 111, 117, 108, 100, 32, 98, 101, 32, 109, 111, 114, 101, 32, 116, 104, 97, 110, 32, 49, 48, 48, 48, 48, 32, 115, 97, 109, 112, 108, 101, 115]), ("IsingLab", 140, [116, 104, 101, 32, 103, 114, 105, 100, 32, 104, 97, 115, 32, 109, 111, 114, 101, 32, 116, 104, 97, 110, 32, 49, 54, 32, 115, 105, 116, 101, 115]), ("IsingLab", 328, [110, 111, 32, 115, 117, 99, 104, 32, 108, 101, 118, 101, 108]), ("IsingLab", 394, [110, 111, 32, 115, 116, 97, 116, 101, 32, 105, 115, 32, 115, 97, 118, 101, 100]), ("IsingLabModel", 288, [115, 105, 122, 101]), ("IsingLabModel", 293, [101, 100, 103, 101]), ("IsingLabModel", 297, [114, 97, 116, 105, 111]), ("IsingLabModel", 302, [115, 116, 114, 101, 110, 103, 116, 104]), ("IsingLabModel", 307, [102, 105, 101, 108, 100]), ("IsingLabModel", 312, [114, 117, 108, 101]), ("IsingLabModel", 317, [115, 101, 101, 100]), ("IsingLabModel", 322, [115, 116, 97, 114, 116]), ("IsingLabModel", 327, [98, 111, 110, 100]), ("IsingLabModel", 253, [116, 111, 114, 117, 115]), ("IsingLabModel", 255, [112, 108, 97, 110, 101]), ("IsingLabModel", 257, [116, 117, 98, 101]), ("IsingLabModel", 270, [109, 101, 116, 114, 111, 112, 111, 108, 105, 115]), ("IsingLabModel", 272, [103, 114, 101, 101, 100, 121]), ("IsingLabModel", 274, [101, 97, 103, 101, 114]), ("IsingLabModel", 276, [117, 112]), ("IsingLabModel", 278, [100, 111, 119, 110]), ("IsingLabModel", 280, [99, 104, 101, 115, 115]), ("IsingLabModel", 282, [114, 105, 103, 104, 116])]
def xLaw : Nat := 375
theorem xLaw_room {q : xQt} : ((xGm q).dat xLaw).2.2.2.2.1 ≤ room_1.frames ∧ 100 * ((xGm q).dat xLaw).2.2.2.2.1 ≤ room_1.locals := ⟨Nat.le_of_ble_eq_true rfl, Nat.le_of_ble_eq_true rfl⟩
theorem xSr_ok : ∀ q ∈ xSr, q.2.2.2 < xTxs.length ∧ (xTxs.getD q.2.2.2 ("", 0, [])).1 = q.1 ∧ (xTxs.getD q.2.2.2 ("", 0, [])).2.1 = q.2.1 ∧ Cond.stringRef q.1 q.2.1 q.2.2.1 ∈ lw_tbl := by decide +kernel
theorem xIn (c : Nat) (h1 : 1 ≤ c) (h2 : c ≤ 10) : ∃ n, Cond.instantiable (xCl c).1 n ∈ lw_tbl := by
  rcases (show c = 1 ∨ c = 2 ∨ c = 3 ∨ c = 4 ∨ c = 5 ∨ c = 6 ∨ c = 7 ∨ c = 8 ∨ c = 9 ∨ c = 10 by omega) with rfl | rfl | rfl | rfl | rfl | rfl | rfl | rfl | rfl | rfl
  · exact ⟨10, by decide +kernel⟩
  · exact ⟨15, by decide +kernel⟩
  · exact ⟨11, by decide +kernel⟩
  · exact ⟨4, by decide +kernel⟩
  · exact ⟨14, by decide +kernel⟩
  · exact ⟨10, by decide +kernel⟩
  · exact ⟨12, by decide +kernel⟩
  · exact ⟨60, by decide +kernel⟩
  · exact ⟨4, by decide +kernel⟩
  · exact ⟨4, by decide +kernel⟩
theorem xHin (c : Nat) (h1 : 1 ≤ c) (h2 : c ≤ 10) : ∀ w ∈ u_ws (xCl c).1 (xCl c).2.1 (xCl c).2.2, w ∈ xTB := by
  rcases (show c = 1 ∨ c = 2 ∨ c = 3 ∨ c = 4 ∨ c = 5 ∨ c = 6 ∨ c = 7 ∨ c = 8 ∨ c = 9 ∨ c = 10 by omega) with rfl | rfl | rfl | rfl | rfl | rfl | rfl | rfl | rfl | rfl
  · exact hin1
  · exact hin2
  · exact hin3
  · exact hin4
  · exact hin5
  · exact hin6
  · exact hin7
  · exact hin8
  · exact hin9
  · exact hin10
theorem xCl_cases (c : Nat) : xCl c = xCl 1 ∨ (2 ≤ c ∧ c ≤ 10) := by
  by_cases h : 2 ≤ c ∧ c ≤ 10
  · exact Or.inr h
  · left
    have e : xCl 1 = (R1, T1, 10) := rfl
    rw [e]
    unfold xCl
    split <;> first | rfl | omega
theorem xArW (c : Nat) (h : xAk c) : Cond.arrayClass (xEt c) ∈ lw_tbl := by
  rcases (show c = 100 ∨ c = 101 ∨ c = 102 ∨ c = 103 ∨ c = 104 ∨ c = 105 ∨ c = 107 ∨ c = 108 by unfold xAk at h; omega) with rfl | rfl | rfl | rfl | rfl | rfl | rfl | rfl <;> decide +kernel
