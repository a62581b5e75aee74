/-! ===== the fresh grid's mean square ===== -/
section
theorem E4_0 : E4 0 = -32 := by decide +kernel
theorem E4_ge (c : Nat) : -32 ≤ (E4 c).toInt := by
  have h2 : -((32 : Nat) * 1 : Int) ≤ (ps 32 (fun _ => 1) (fE B4) (sE B4) c).toInt ∧ (ps 32 (fun _ => 1) (fE B4) (sE B4) c).toInt ≤ ((32 : Nat) * 1 : Int) := sm_bd (K := 1) (by decide) 32 (fun k _ => by
    show -1 ≤ (pr 1 _ _).toInt ∧ (pr 1 _ _).toInt ≤ 1
    unfold pr
    split <;> decide) (by decide)
  unfold E4 en
  rw [show (0 : Int32) * mg 16 c = 0 from Int32.zero_mul, Int32.zero_add, i32_negT (by omega)]
  omega
theorem y4_0 : yL E4 16 0 = 1904 := by
  have h : eN E4 0 = 112 := by
    unfold eN
    rw [E4_0]
    decide
  unfold yL
  rw [h]
  decide
theorem lv4_0 : (lv E4 16).getD 0 0 = 1904 := by
  have h0 := lv_pos E4_B
  obtain ⟨h1, h2, h3⟩ := lv_get E4_B h0
  have hge : 1904 ≤ (lv E4 16).getD 0 0 := by
    obtain ⟨c, h4, h5⟩ := cL_pos E4_B h2
    have h6 := E4_ge c
    have h7 : 112 ≤ eN E4 c := by unfold eN; omega
    rw [← h5]
    unfold yL
    omega
  have hmem : 1904 ∈ lv E4 16 := (fl_mem _ _ _).mpr ⟨by decide, decide_eq_true (ct_pos.mpr ⟨0, Nat.two_pow_pos 16, decide_eq_true y4_0⟩)⟩
  obtain ⟨i, hi, he⟩ := List.getElem_of_mem hmem
  have hle := (lv_x E4_B hi).1
  rw [getD_lt hi, he] at hle
  omega
theorem v_sq : ∀ n, n < 17 → ∀ p, p < n + 1 → (decide (0 ≤ ((2 * nI p - nI n).toInt64 * (2 * nI p - nI n).toInt64).toInt)) = true := by decide +kernel
theorem vl2_gp {i : Nat} (hi : i < (lv E4 16).length) : gp 0 (65536 * uo) (FP.l2d (vl E4 16 2 i)) := by
  have h1 := l2d_fb (vl_bd (w := 2) E4_B hi) (by decide)
  obtain ⟨c, q, h2⟩ := FP.Core.l2d_shape (vl E4 16 2 i)
  have hm := of_decide_eq_true (v_sq 16 (by decide) ((lv E4 16).getD i 0 % 17) (by have := (lv_get E4_B hi).2.2; omega))
  have h3 : vl E4 16 2 i = (gM 16 ((lv E4 16).getD i 0)).toInt64 * (gM 16 ((lv E4 16).getD i 0)).toInt64 := by
    unfold vl vF
    rw [if_neg (by decide), if_neg (by decide), if_pos rfl]
  have h4 : 0 ≤ (vl E4 16 2 i).toInt := by
    rw [h3]
    exact hm
  rw [decide_eq_false (by omega)] at h2
  exact ⟨⟨c, q, h2⟩, Nat.zero_le _, h1.2⟩
theorem vl2_0 : gp (256 * uo) (256 * uo) (FP.l2d (vl E4 16 2 0)) := by
  have h3 : vl E4 16 2 0 = (nI 256).toInt64 := by
    unfold vl vF
    rw [if_neg (by decide), if_neg (by decide), if_pos rfl, lv4_0]
    decide
  have h := i2d_n (k := 256) (by decide)
  have e : FP.i2d (nI 256) = FP.l2d (nI 256).toInt64 := FP.Core.i2d_l2d (nI 256)
  rw [e, ← h3] at h
  exact h
variable {r : UInt64}
theorem tm2_gp (hr : gp 0 uo r) {i : Nat} (hi : i < (lv E4 16).length) : gp 0 (4294967296 * uo) (tm E4 16 r 2 i) :=
  gp_mul (wt_gp E4_B hr) (vl2_gp hi) (rp_n (by decide)) (by decide +kernel) rp_0 (by rw [Nat.zero_mul]; exact Nat.zero_le _)
theorem tm2_0 (hr : gp 0 uo r) : gp (256 * uo) (4294967296 * uo) (tm E4 16 r 2 0) :=
  gp_mul (wt_0 E4_B) (gp_le vl2_0 (Nat.le_refl _) (Nat.mul_le_mul_right _ (show 256 ≤ 65536 by decide))) (rp_n (by decide)) (by decide +kernel) (rp_n (by decide)) (by decide +kernel)
theorem sS2_gp (hr : gp 0 uo r) : ∀ j, j + 1 ≤ (lv E4 16).length → gp (256 * uo) ((j + 1) * 4294967296 * uo) (sS E4 16 r 2 (j + 1))
  | 0, h => gp_add gp_0 (tm2_0 hr) (rp_n (by decide)) (by rw [Nat.zero_add, Nat.zero_add, Nat.one_mul]; exact Nat.le_refl _) (rp_n (by decide)) (by rw [Nat.zero_add]; exact Nat.le_refl _)
  | j + 1, h => by
    have hl := lv_len E4 16
    have e : (j + 1) * 4294967296 * uo + 4294967296 * uo = (j + 1 + 1) * 4294967296 * uo := by
      have e2 : (j + 1 + 1) * 4294967296 = (j + 1) * 4294967296 + 4294967296 := Nat.succ_mul _ _
      rw [e2, Nat.add_mul ((j + 1) * 4294967296)]
    exact gp_add (sS2_gp hr j (by omega)) (tm2_gp hr (by omega)) (rp_n (by omega)) (Nat.le_of_eq e) (rp_n (by decide)) (Nat.le_add_right _ _)
theorem E4_PQ : PQ E4 16 := fun r hr => by
  have hl := lv_len E4 16
  have h0 := lv_pos E4_B
  obtain ⟨j', hj⟩ : ∃ j', (lv E4 16).length = j' + 1 := ⟨(lv E4 16).length - 1, by omega⟩
  have h1 : gp (256 * uo) (4913 * 4294967296 * uo) (sS E4 16 r 2 (lv E4 16).length) := by
    rw [hj]
    exact gp_le (sS2_gp hr j' (by omega)) (Nat.le_refl _) (Nat.mul_le_mul_right _ (Nat.mul_le_mul_right _ (by omega)))
  exact gp_div h1 (sA_all E4_B hr) uo_pos (rp_p (by decide) (by decide)) (by decide +kernel) (rp_p (by decide) (by decide)) (by decide +kernel)
end
