/-! ===== the mean square of any small grid ===== -/
section
variable {E : Nat → Int32} {n : Nat} {r : UInt64}
theorem v_sq : ∀ n, n < 17 → ∀ p, p < n + 1 → (decide (0 ≤ ((2 * nI p - nI n).toInt64 * (2 * nI p - nI n).toInt64).toInt) && decide (2 * p = n ∨ 1 ≤ ((2 * nI p - nI n).toInt64 * (2 * nI p - nI n).toInt64).toInt)) = true := by decide +kernel
theorem vl_2 {i : Nat} : vl E n 2 i = (2 * nI ((lv E n).getD i 0 % 17) - nI n).toInt64 * (2 * nI ((lv E n).getD i 0 % 17) - nI n).toInt64 := by
  unfold vl vF
  rw [if_neg (by decide), if_neg (by decide), if_pos rfl]
  rfl
theorem vl2_pos (hB : EB E n) {i : Nat} (hi : i < (lv E n).length) : 0 ≤ (vl E n 2 i).toInt ∧ (2 * ((lv E n).getD i 0 % 17) = n ∨ 1 ≤ (vl E n 2 i).toInt) := by
  have hn := hB.1
  have hm := v_sq n (by omega) ((lv E n).getD i 0 % 17) (by have := (lv_get hB hi).2.2; omega)
  rw [Bool.and_eq_true, decide_eq_true_eq, decide_eq_true_eq] at hm
  rw [vl_2]
  exact hm
theorem vl2_gp (hB : EB E n) {i : Nat} (hi : i < (lv E n).length) : gp 0 (65536 * uo) (FP.l2d (vl E n 2 i)) := by
  have h1 := l2d_fb (vl_bd (w := 2) hB hi) (by decide)
  obtain ⟨c, q, h2⟩ := FP.Core.l2d_shape (vl E n 2 i)
  rw [decide_eq_false (by have := (vl2_pos hB hi).1; omega)] at h2
  exact ⟨⟨c, q, h2⟩, Nat.zero_le _, h1.2⟩
theorem vl2_1 (hB : EB E n) {i : Nat} (hi : i < (lv E n).length) (hm : 2 * ((lv E n).getD i 0 % 17) ≠ n) : gp uo (65536 * uo) (FP.l2d (vl E n 2 i)) := by
  have h1 := vl2_gp hB hi
  have h2 := (vl2_pos hB hi).2.resolve_left hm
  have hb := vl_bd (w := 2) hB hi
  have h3 := (l2d_z (a := vl E n 2 i) rfl (by omega)).2
  refine ⟨h1.1, ?_, h1.2.2⟩
  rw [h3]
  exact Nat.le_mul_of_pos_left _ (by omega)
theorem wP_l (hr : gp (2 ^ 1067) uo r) : ∀ i, i ≤ 30 → gp (2 ^ (1074 - 7 * i)) uo (wP r i)
  | 0, _ => gp_1
  | i + 1, h => by
    refine gp_mul (wP_l hr i (by omega)) hr rp_u (Nat.le_refl _) (rp_p (by omega) (by omega)) ?_
    show 2 ^ (1074 - 7 * (i + 1)) * 2 ^ 1074 ≤ 2 ^ (1074 - 7 * i) * 2 ^ 1067
    rw [← Nat.pow_add, ← Nat.pow_add]
    exact Nat.pow_le_pow_right (by decide) (by omega)
theorem wt_l (hB : EB E n) (hr : gp (2 ^ 1067) uo r) {i : Nat} (hi : i < (lv E n).length) (hx : xi (lv E n) i ≤ 30) : gp (2 ^ 864) (65536 * uo) (wt E n r i) := by
  have hc := cL_le (k := (lv E n).getD i 0) hB
  have h0 := (lv_get hB hi).2.1
  have h1 : gp (2 ^ 864) uo (wP r (xi (lv E n) i)) := gp_le (wP_l hr _ hx) (Nat.pow_le_pow_right (by decide) (by omega)) (Nat.le_refl _)
  refine gp_mul (i2d_n (k := cL E n ((lv E n).getD i 0)) (by omega)) h1 (rp_n (by decide)) (Nat.mul_le_mul_right _ (Nat.mul_le_mul_right _ hc)) (rp_p (by decide) (by decide)) ?_
  rw [Nat.mul_comm]
  exact Nat.mul_le_mul_right _ (Nat.le_mul_of_pos_left _ h0)
theorem tm2_gp (hB : EB E n) (hr : gp 0 uo r) {i : Nat} (hi : i < (lv E n).length) : gp 0 (4294967296 * uo) (tm E n r 2 i) :=
  gp_mul (wt_gp hB hr) (vl2_gp hB hi) (rp_n (by decide)) (by decide +kernel) rp_0 (by rw [Nat.zero_mul]; exact Nat.zero_le _)
theorem tm2_l (hB : EB E n) (hr : gp (2 ^ 1067) uo r) {i : Nat} (hi : i < (lv E n).length) (hx : xi (lv E n) i ≤ 30) (hm : 2 * ((lv E n).getD i 0 % 17) ≠ n) : gp (2 ^ 864) (4294967296 * uo) (tm E n r 2 i) :=
  gp_mul (wt_l hB hr hi hx) (vl2_1 hB hi hm) (rp_n (by decide)) (by decide +kernel) (rp_p (by decide) (by decide)) (Nat.le_refl _)
theorem sS2_0 (hB : EB E n) (hr : gp 0 uo r) : ∀ j, j ≤ (lv E n).length → gp 0 (j * 4294967296 * uo) (sS E n r 2 j)
  | 0, h => gp_le gp_0 (Nat.le_refl _) (Nat.zero_le _)
  | j + 1, h => by
    have hl := lv_len E n
    have e : j * 4294967296 * uo + 4294967296 * uo = (j + 1) * 4294967296 * uo := by
      have e2 : (j + 1) * 4294967296 = j * 4294967296 + 4294967296 := Nat.succ_mul _ _
      rw [e2, Nat.add_mul (j * 4294967296)]
    exact gp_add (sS2_0 hB hr j (by omega)) (tm2_gp hB hr (by omega)) (rp_n (by omega)) (Nat.le_of_eq e) rp_0 (Nat.zero_le _)
theorem sS2_l (hB : EB E n) (hr : gp (2 ^ 1067) uo r) {i : Nat} (hi : i < (lv E n).length) (hx : xi (lv E n) i ≤ 30) (hm : 2 * ((lv E n).getD i 0 % 17) ≠ n) : ∀ d, i + 1 + d ≤ (lv E n).length → gp (2 ^ 864) ((i + 1 + d) * 4294967296 * uo) (sS E n r 2 (i + 1 + d))
  | 0, h => by
    have hl := lv_len E n
    have e : i * 4294967296 * uo + 4294967296 * uo = (i + 1) * 4294967296 * uo := by
      have e2 : (i + 1) * 4294967296 = i * 4294967296 + 4294967296 := Nat.succ_mul _ _
      rw [e2, Nat.add_mul (i * 4294967296)]
    exact gp_add (sS2_0 hB (gl0 hr) i (by omega)) (tm2_l hB hr hi hx hm) (rp_n (by omega)) (Nat.le_of_eq e) (rp_p (by decide) (by decide)) (Nat.le_add_left _ _)
  | d + 1, h => by
    have hl := lv_len E n
    have e : (i + 1 + d) * 4294967296 * uo + 4294967296 * uo = (i + 1 + (d + 1)) * 4294967296 * uo := by
      have e2 : (i + 1 + (d + 1)) * 4294967296 = (i + 1 + d) * 4294967296 + 4294967296 := Nat.succ_mul _ _
      rw [e2, Nat.add_mul ((i + 1 + d) * 4294967296)]
    show gp (2 ^ 864) _ (FP.dadd (sS E n r 2 (i + 1 + d)) (tm E n r 2 (i + 1 + d)))
    exact gp_add (sS2_l hB hr hi hx hm d (by omega)) (tm2_gp hB (gl0 hr) (i := i + 1 + d) (by omega)) (rp_n (by omega)) (Nat.le_of_eq e) (rp_p (by decide) (by decide)) (Nat.le_add_right _ _)
/-- a level with a magnetization, not far above the ground: the mean square never vanishes -/
theorem PQ_l (hB : EB E n) {i : Nat} (hi : i < (lv E n).length) (hx : xi (lv E n) i ≤ 30) (hm : 2 * ((lv E n).getD i 0 % 17) ≠ n) : PQ E n := fun r hr => by
  have hl := lv_len E n
  have h1 : gp (2 ^ 864) (4913 * 4294967296 * uo) (sS E n r 2 (lv E n).length) := by
    have h2 := sS2_l hB hr hi hx hm ((lv E n).length - (i + 1)) (by omega)
    rw [show i + 1 + ((lv E n).length - (i + 1)) = (lv E n).length by omega] at h2
    exact gp_le h2 (Nat.le_refl _) (Nat.mul_le_mul_right _ (Nat.mul_le_mul_right _ hl))
  exact gp_div h1 (sA_all hB (gl0 hr)) uo_pos (rp_p (by decide) (by decide)) (by decide +kernel) (rp_p (by decide) (by decide)) (by decide +kernel)
end
