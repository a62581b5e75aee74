/-! ===== what states stay so: printed by a34.wf.py ===== -/
section
variable {g : xGd} {x x' y : xSt} {sv : Option xSt} {k : Nat} {by' : Nat → Nat} {N : Nat} {z : xA}
theorem G_up (w : WA N z) : WA (N + 12800) z := WF_up w (by omega)
theorem SOK_w {M : Nat} (h : SOK g N x) (hm : N ≤ M) : SOK g M x := ⟨h.1, ⟨h.2.1.1, h.2.1.2.1, by obtain ⟨ta, a1, a2⟩ := h.2.1.2.2; exact ⟨ta, a1, by omega⟩⟩, h.2.2⟩
theorem G_x (w : WA N z) (h : SOK z.1 (N + 12800) x) : WA (N + 12800) (z.1, x, z.2.2) := ⟨w.1, h, fun y hy => SOK_w (w.2.2.1 y hy) (by omega), w.2.2.2⟩
theorem G23 (w : WA N z) {t : Nat} (ht : t < gn z.1) : WA (N + 12800) (z.1, toZ z.2.1 (zS z.1 z.2.1 t (stZ z.2.1)), z.2.2) := WF_up (WF_z (M := 1) w (zS_k ht (WF_zK w))) (by omega)
theorem G25 (w : WA N z) {K : Nat} (hK : K ≤ 200) : WA (N + 12800) (z.1, toZ z.2.1 (zV z.1 z.2.1 K (stZ z.2.1)), z.2.2) := WF_up (WF_z (M := K * gn z.1) w (zV_k (WF_zK w))) (by
  have : K * gn z.1 ≤ 200 * 64 := Nat.mul_le_mul hK (gn_bd w.1).2.1
  omega)
theorem G24 (w : WA N z) {K : Nat} (hK : K ≤ 1000) : WA (N + 12800) (z.1, toZ z.2.1 (zDD z.1 z.2.1 K (stZ z.2.1)), z.2.2) := WF_up (WF_z (M := K) w (zD_k (gn_bd w.1).1 (WF_zK w))) (by omega)
theorem G9 (w : WA N z) {v : Int32} (hv : rg v (-3) 3 = true) : WA (N + 12800) (z.1, mkS (stS z.2.1) v (stA z.2.1) (stB z.2.1) (stR z.2.1) (stZ z.2.1) (stK z.2.1) (stC z.2.1) (stE z.2.1), z.2.2) :=
  G_x w (by
    have h := SOK_w (M := N + 12800) w.2.1 (by omega)
    exact ⟨⟨⟨rg_T hv, h.1.1.2⟩, h.1.2⟩, h.2⟩)
theorem G10 (w : WA N z) {v : Int32} (hv : rg v (0) 2 = true) : WA (N + 12800) (z.1, mkS (stS z.2.1) (stF z.2.1) (stA z.2.1) (stB z.2.1) v (stZ z.2.1) (stK z.2.1) (stC z.2.1) (stE z.2.1), z.2.2) :=
  G_x w (by
    have h := SOK_w (M := N + 12800) w.2.1 (by omega)
    exact ⟨⟨h.1.1, h.1.2.1, h.1.2.2.1, h.1.2.2.2.1, rg_02 hv⟩, h.2⟩)
theorem G8 (w : WA N z) {a c : Nat} (hA : AB a c) : WA (N + 12800) (z.1, mkS (stS z.2.1) (stF z.2.1) a c (stR z.2.1) (stZ z.2.1) (stK z.2.1) (stC z.2.1) (stE z.2.1), z.2.2) :=
  G_x w (by
    have h := SOK_w (M := N + 12800) w.2.1 (by omega)
    exact ⟨⟨h.1.1, hA.1, hA.2.1, hA.2.2, h.1.2.2.2.2⟩, h.2⟩)
theorem G7 (w : WA N z) {t : Nat} {u : Int32} (hu : rg u (-3) 3 = true) : WA (N + 12800) (z.1, mkS (up (stS z.2.1) t u) (stF z.2.1) (stA z.2.1) (stB z.2.1) (stR z.2.1) (stZ z.2.1) (stK z.2.1) (stC z.2.1) (stE z.2.1), z.2.2) :=
  G_x w (by
    have h := SOK_w (M := N + 12800) w.2.1 (by omega)
    refine ⟨⟨⟨h.1.1.1, fun j hj => ?_⟩, h.1.2⟩, h.2⟩
    show -3 ≤ (up (stS z.2.1) t u j).toInt ∧ (up (stS z.2.1) t u j).toInt ≤ 3
    rw [up_at]
    split
    · exact rg_T hu
    · exact h.1.1.2 j hj)
theorem G13 (w : WA N z) {c : Nat} (hc : c < 2 ^ gn z.1) : WA (N + 12800) (z.1, toS z.2.1 c, z.2.2) := WF_up (WF_spin w hc) (by omega)
theorem G14 (w : WA N z) {t : Nat} (ht : t < gn z.1) : WA (N + 12800) (z.1, toS z.2.1 ((stZ z.2.1).1 ^^^ 2 ^ t), z.2.2) := G13 w (Nat.xor_lt_two_pow w.2.1.2.1.1 (Nat.pow_lt_pow_right (by decide) ht))
theorem G48 (w : WA N z) : WA (N + 12800) (z.1, toS z.2.1 ((stZ z.2.1).1 ^^^ aU (gn z.1)), z.2.2) := G13 w (Nat.xor_lt_two_pow w.2.1.2.1.1 (by
  have := Nat.two_pow_pos (gn z.1)
  unfold aU
  omega))
theorem G33 (w : WA N z) : WA (N + 12800) (z.1, toN z.2.1 0, z.2.2) := G_x w (by
  have h := SOK_w (M := N + 12800) w.2.1 (by omega)
  exact ⟨h.1, h.2.1, Nat.zero_le _, fun i hi => absurd hi (Nat.not_lt_zero i)⟩)
theorem G1 (w : WA N z) {t : Nat} (ht : t ≤ z.2.2.2.1) : WA (N + 12800) (z.1, z.2.1, z.2.2.1, t, z.2.2.2.2) := by
  have h := G_up w
  exact ⟨h.1, h.2.1, h.2.2.1, Nat.le_trans ht h.2.2.2.1, fun j hj => h.2.2.2.2 j (Nat.lt_of_lt_of_le hj ht)⟩
theorem G0 (w : WA N z) {v u x y t : Int32} (hk : z.2.2.2.1 ≤ 580) : WA (N + 12800) (z.1, z.2.1, z.2.2.1, z.2.2.2.1 + 20, bNs z.2.2.2.2.1 z.2.2.2.1 v u x y t, z.2.2.2.2.2) := by
  have h := G_up w
  refine ⟨h.1, h.2.1, h.2.2.1, show z.2.2.2.1 + 20 ≤ 600 by omega, ?_⟩
  exact bN_lt (bN_lt (bN_lt (bN_lt (bN_lt h.2.2.2.2 v) u) x) y) t
theorem G28 (w : WA N z) (hk : stK z.2.1 < 10000) : WA (N + 12800) (z.1, smp z.1 z.2.1, z.2.2) := WF_up (WF_smp w hk) (by omega)
theorem G29 (w : WA N z) {K : Nat} (hK : K ≤ 100) (hk : stK z.2.1 + K ≤ 10000) : WA (N + 12800) (z.1, swN z.1 K z.2.1, z.2.2) := WF_up (WF_swN K N z.2.1 w hk) (by
  have : K * gn z.1 ≤ 100 * 64 := Nat.mul_le_mul hK (gn_bd w.1).2.1
  omega)
theorem G26 (w : WA N z) {t : Nat} (ht : t < gn z.1) : WA (N + 12800) (zC z ((stZ z.2.1).1 ^^^ (clg z.1 z.2.1 t).1) (clg z.1 z.2.1 t).2.2) := by
  have h := clg_ok w ht
  exact WF_up (WF_toC w (Nat.xor_lt_two_pow w.2.1.2.1.1 h.1) h.2.2.2) (by omega)
theorem G27 (w : WA N z) : WA (N + 12800) (zC z ((stZ z.2.1).1 ^^^ (acg z.1 z.2.1).1) (acg z.1 z.2.1).2) := by
  have h := acg_ok w
  exact WF_up (WF_toC w (Nat.xor_lt_two_pow w.2.1.2.1.1 h.1) h.2) (by omega)
theorem G62 (w : WA N z) : WA (N + 12800) (zSv z) := by
  have h := G_up w
  exact ⟨h.1, h.2.1, fun y hy => by cases hy; exact h.2.1, h.2.2.2⟩
theorem G63 (w : WA N z) (hy : z.2.2.1 = some y) : WA (N + 12800) (zRs z y) := by
  have h := G_up w
  exact ⟨h.1, h.2.2.1 y hy, h.2.2⟩
end
