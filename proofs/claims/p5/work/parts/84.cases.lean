/-! ===== cases: printed by 84.cases.py ===== -/
section
theorem dz0 : Op.cmpValue (FP.dcmp FP.dconst0 FP.dconst0) .l = 0 := by decide
theorem dz1 : FP.f2d FP.fconst0 = FP.dconst0 := by decide
theorem alz {v : UInt64} (h : alike64 v FP.dconst0 = true) : v = FP.dconst0 := by
  unfold alike64 at h
  rw [show isNaN64 FP.dconst0 = false from by decide] at h
  simpa using h
end
