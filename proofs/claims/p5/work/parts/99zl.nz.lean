/-! ===== sums that are never -0 ===== -/
section
theorem rp_1 : rp 1 := by
  have h : FP.Core.val64 1 = .fin false 1 FP.Core.b64.qmin := by decide +kernel
  refine rp_val (x := 1) (N := 1) ⟨⟨_, _, _, h⟩, ?_⟩ ?_
  · unfold fz
    rw [h]
    decide +kernel
  · unfold fz
    rw [h]
    decide +kernel
theorem nz_dat {a : UInt64} {s : Bool} {c : Nat} {q : Int} (ea : FP.Core.val64 a = .fin s c q) (hz : a ≠ FP.Core.dzeroNeg) (h0 : c = 0) : s = false := by
  subst h0
  cases s
  · rfl
  · refine absurd (FP.Core.val64_inj (by rw [ea]; exact FP.Core.Datum.noConfusion) ?_) hz
    have hq := FP.Core.fits_zero_q FP.Core.good_b64 (ea ▸ FP.Core.val64_fits a)
    rw [ea, hq, FP.Core.val64_dzeroNeg]
theorem nz_add {N M : Nat} {a b : UInt64} (ha : fb N a) (hz : a ≠ FP.Core.dzeroNeg) (hb : fb M b) : FP.dadd a b ≠ FP.Core.dzeroNeg := by
  obtain ⟨⟨s, c, q, ea⟩, la⟩ := ha
  obtain ⟨⟨t, d, r, eb⟩, lb⟩ := hb
  have fa := FP.Core.val64_fits a
  have f2 := FP.Core.val64_fits b
  rw [ea] at fa
  rw [eb] at f2
  have hq := fa.2.1
  have hr := f2.2.1
  intro e
  have h : FP.Core.val64 (FP.dadd a b) = _ := FP.Core.val64_dadd a b
  rw [e, ea, eb, FP.Core.val64_dzeroNeg] at h
  have h2 : FP.Core.Datum.fin true 0 FP.Core.b64.qmin = FP.Core.roundRatio FP.Core.b64 (FP.Core.sumSign s t (FP.Core.sumUnits s c q t d r (min q r))) (FP.Core.sumUnits s c q t d r (min q r)).natAbs 1 (min q r) := h
  by_cases hu : FP.Core.sumUnits s c q t d r (min q r) = 0
  · rw [hu] at h2
    have h3 : FP.Core.roundRatio FP.Core.b64 (FP.Core.sumSign s t 0) (Int.natAbs 0) 1 (min q r) = .fin (s && t) 0 FP.Core.b64.qmin := rfl
    rw [h3] at h2
    injection h2 with h4
    have h5 : s = true ∧ t = true := by simpa using h4.symm
    have hc : c ≠ 0 := fun h0 => by
      have := nz_dat ea hz h0
      rw [h5.1] at this
      exact absurd this (by decide)
    unfold FP.Core.sumUnits at hu
    rw [h5.1, h5.2] at hu
    have hp : 0 < FP.Core.inUnits c q (min q r) := Nat.mul_pos (by omega) (Nat.two_pow_pos _)
    unfold FP.Core.signed at hu
    simp only [if_true] at hu
    omega
  · have h3 : 1 ≤ FP.Core.zmag FP.Core.b64 (.fin true 0 FP.Core.b64.qmin) := by
      rw [h2]
      refine rr_ge (by decide) rp_1 (Int.le_refl FP.Core.b64.qmin) (by omega) ?_
      rw [Int.sub_self, Nat.mul_one, Nat.one_mul]
      have hn : 0 < (FP.Core.sumUnits s c q t d r (min q r)).natAbs := by omega
      exact Nat.mul_pos hn (Nat.two_pow_pos _)
    exact absurd h3 (by decide +kernel)
theorem gp_zero {x : UInt64} (h : gp 0 0 x) : x = FP.dconst0 := by
  obtain ⟨⟨c, q, e⟩, h1, h2⟩ := h
  have hc : c = 0 := by
    unfold fz at h2
    rw [e] at h2
    refine Classical.byContradiction (fun hc => ?_)
    have : 0 < FP.Core.zmag FP.Core.b64 (.fin false c q) := Nat.mul_pos (by omega) (Nat.two_pow_pos _)
    omega
  subst hc
  have hq := FP.Core.fits_zero_q FP.Core.good_b64 (e ▸ FP.Core.val64_fits x)
  refine FP.Core.val64_inj (by rw [e]; exact FP.Core.Datum.noConfusion) ?_
  rw [e, hq]
  exact FP.Core.val64_dconst0.symm
theorem fb_add0 {N : Nat} {a : UInt64} (ha : fb N a) (hz : a ≠ FP.Core.dzeroNeg) : FP.dadd a FP.dconst0 = a := by
  obtain ⟨⟨s, c, q, ea⟩, la⟩ := ha
  exact FP.Core.dadd_zero (by rw [ea]; exact FP.Core.Datum.noConfusion) hz
theorem gp_nz {L N : Nat} {a : UInt64} (h : gp L N a) : a ≠ FP.Core.dzeroNeg := by
  obtain ⟨⟨c, q, e⟩, -⟩ := h
  intro e2
  rw [e2, FP.Core.val64_dzeroNeg] at e
  injection e with e3
  exact absurd e3 (by decide)
theorem c0_nz : FP.dconst0 ≠ FP.Core.dzeroNeg := gp_nz gp_0
theorem i2d_fb {x : Int32} {K : Nat} (h : x.toInt.natAbs ≤ K) (hK : K < 9007199254740992) : fb (K * uo) (FP.i2d x) := by
  have e : FP.i2d x = FP.l2d x.toInt64 := FP.Core.i2d_l2d x
  rw [e]
  exact l2d_fb (by rw [Int32.toInt_toInt64]; exact h) hK
end
