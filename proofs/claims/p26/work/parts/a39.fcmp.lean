/-! ===== floats of both sides, compared ===== -/
section
theorem fp_n32 (a : UInt32) : isNaN32 a = FP.Core.fIsNaN a := by
  rw [Bool.eq_iff_iff, FP.Core.isNaN_bits32]
  unfold isNaN32
  rw [decide_eq_true_eq, ← FP.Core.mask_toNat32]
  exact UInt32.lt_iff_toNat_lt
theorem al32_n {c w : UInt32} (h : alike32 c w = true) : isNaN32 c = isNaN32 w := by
  unfold alike32 at h
  rw [Bool.or_eq_true, Bool.and_eq_true, decide_eq_true_eq] at h
  rcases h with h | h
  · rw [h]
  · rw [h.1, h.2]
theorem al64_n {c w : UInt64} (h : alike64 c w = true) : isNaN64 c = isNaN64 w := by
  unfold alike64 at h
  rw [Bool.or_eq_true, Bool.and_eq_true, decide_eq_true_eq] at h
  rcases h with h | h
  · rw [h]
  · rw [h.1, h.2]
theorem f2d_n (c : UInt32) : isNaN64 (FP.f2d c) = isNaN32 c := by
  rw [fp_n, fp_n32]
  exact FP.f2d_nan c
theorem cmp_n {c d : UInt64} (h : isNaN64 c = true) : ¬ Op.cmpValue (FP.dcmp c d) .l = 0 := by
  rw [fp_n] at h
  have e : FP.dcmp c d = none := (FP.Core.dcmp_none c d).mpr (Or.inl ((FP.Core.dIsNaN_iff c).mp h))
  rw [e]
  decide
/-- two floats that are alike one: their doubles are one, or both none -/
theorem ff_cmp {c1 c2 w : UInt32} {d1 d2 : UInt64} (h1 : alike32 c1 w = true) (h2 : alike32 c2 w = true) (k1 : alike64 d1 (FP.f2d c1) = true) (k2 : alike64 d2 (FP.f2d c2) = true) : d1 = d2 ∨ (¬ Op.cmpValue (FP.dcmp d1 d2) .l = 0 ∧ ¬ Op.cmpValue (FP.dcmp d1 d1) .l = 0 ∧ ¬ Op.cmpValue (FP.dcmp d2 d2) .l = 0) := by
  have n1 := (al64_n k1).trans ((f2d_n c1).trans (al32_n h1))
  have n2 := (al64_n k2).trans ((f2d_n c2).trans (al32_n h2))
  cases hw : isNaN32 w
  · left
    rw [hw] at n1 n2
    have e1 : c1 = w := by
      unfold alike32 at h1
      rw [hw, Bool.and_false, Bool.or_false, decide_eq_true_eq] at h1
      exact h1
    have e2 : c2 = w := by
      unfold alike32 at h2
      rw [hw, Bool.and_false, Bool.or_false, decide_eq_true_eq] at h2
      exact h2
    rw [e1] at k1
    rw [e2] at k2
    unfold alike64 at k1 k2
    rw [n1, Bool.false_and, Bool.or_false, decide_eq_true_eq] at k1
    rw [n2, Bool.false_and, Bool.or_false, decide_eq_true_eq] at k2
    rw [k1, k2]
  · right
    rw [hw] at n1 n2
    exact ⟨cmp_n n1, cmp_n n1, cmp_n n2⟩
end
