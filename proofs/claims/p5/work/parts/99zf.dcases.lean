/-! ===== cases of domains: printed by 99zf.dcases.py ===== -/
section
theorem aN_congr {n m : Nat} {fi se dg : Nat → Nat} {sb : Nat → Nat → Nat} (hG : GR n m fi se dg sb) {st st' : Nat → Int32} (h : ∀ k, k < m → st k = st' k) (x : Nat) {t : Nat} (ht : t < n) : ∀ i, i ≤ dg t → aN st fi se sb x t i = aN st' fi se sb x t i
  | 0, _ => rfl
  | i + 1, hi => by
    rw [aN, aN, aN_congr hG h x ht i (by omega), h _ (hG.2.2.2.2.2.2 t i ht (by omega))]
theorem dm_congr {nb nb' : Nat → Nat} {n : Nat} (hn : n ≤ 64) (h : ∀ t, t < n → nb t = nb' t) (hl : ∀ t, t < n → nb' t < 2 ^ n) : ∀ (f d p : Nat), p < 2 ^ n → dm nb f d p = dm nb' f d p
  | 0, d, p, _ => rfl
  | f + 1, d, p, hp => by
    rw [dm, dm]
    by_cases h0 : p = 0
    · rw [if_pos h0, if_pos h0]
    · have ht := tzf_lt (by omega) hp hn
      rw [if_neg h0, if_neg h0, h _ ht, dm_congr hn h hl f _ _ (Nat.or_lt_two_pow (Nat.lt_of_le_of_lt Nat.and_le_left hp) (Nat.lt_of_le_of_lt Nat.and_le_left (hl _ ht)))]
theorem dX_congr {n m : Nat} {fi se dg : Nat → Nat} {sb : Nat → Nat → Nat} (hG : GR n m fi se dg sb) {st st' : Nat → Int32} (h : ∀ k, k < m → st k = st' k) (x : Nat) {t : Nat} (ht : t < n) : dX st fi se dg sb x t = dX st' fi se dg sb x t :=
  dm_congr hG.2.1 (fun _ ht => aN_congr hG h x ht _ (Nat.le_refl _)) (fun _ ht => aN_lt hG st' x ht _ (Nat.le_refl _)) 64 _ _ (Nat.pow_lt_pow_right (by decide) ht)
theorem dC_congr {d d' : Nat → Nat} {n : Nat} (h : ∀ t, t < n → d t = d' t) : ∀ i, i ≤ n → dC d i = dC d' i
  | 0, _ => rfl
  | i + 1, hi => by
    rw [dC, dC, dC_congr h i (by omega), h i (by omega)]
theorem ly_congr {n : Nat} {on on' : Nat → Bool} {fi se : Nat → Nat} {m : Nat} (h : ∀ k, k < m → on k = on' k) : ∀ k, k ≤ m → ly n on fi se k = ly n on' fi se k
  | 0, _ => rfl
  | k + 1, hk => by
    rw [ly, ly, ly_congr h k (by omega), h k (by omega)]
theorem dX_B4 : ∀ t, t < 16 → dX (fun _ => 1) (fE B4) (sE B4) (dE B4) (bE B4) 65535 t = 65535 := by decide +kernel
theorem ly_B4 : ly 16 (fun _ => true) (fE B4) (sE B4) 32 = List.replicate 16 0 := by decide +kernel
theorem B4_alike : ∀ k, k < 32 → (Nat.testBit 65535 (fE B4 k) = Nat.testBit 65535 (sE B4 k)) := by decide +kernel
theorem fX {st : Nat → Int32} (g1 : GR 16 32 (fE B4) (sE B4) (dE B4) (bE B4)) (h : ∀ k, k < 32 → st k = 1) {t : Nat} (ht : t < 16) : dX st (fE B4) (sE B4) (dE B4) (bE B4) 65535 t = 65535 := (dX_congr g1 (st' := fun _ => 1) h 65535 ht).trans (dX_B4 t ht)
theorem fDC {st : Nat → Int32} (g1 : GR 16 32 (fE B4) (sE B4) (dE B4) (bE B4)) (h : ∀ k, k < 32 → st k = 1) : dC (dX st (fE B4) (sE B4) (dE B4) (bE B4) 65535) 16 = (65535, 1, 16) := (dC_congr (d' := fun _ => 65535) (fun t ht => fX g1 h ht) 16 (Nat.le_refl _)).trans (by decide +kernel)
theorem fY {st : Nat → Int32} (h : ∀ k, k < 32 → st k = 1) : ly 16 (oD2 st (fE B4) (sE B4) 65535) (fE B4) (sE B4) 32 = List.replicate 16 0 := (ly_congr (on' := fun _ => true) (fun k hk => by
  unfold oD2
  rw [decide_eq_true (B4_alike k hk), h k hk]
  rfl) 32 (Nat.le_refl _)).trans ly_B4
theorem f16 : ∀ k, k < 16 → (List.replicate 16 0).getD k 0 = 0 := by decide
theorem ct16 : ct (fun s => decide ((List.replicate 16 0).getD s 0 = s)) 16 = 1 ∧ (∀ t, t < 16 → ct (fun s => decide ((List.replicate 16 0).getD s 0 = (List.replicate 16 0).getD t 0)) 16 = 16) ∧ mx (fun t => ct (fun s => decide ((List.replicate 16 0).getD s 0 = (List.replicate 16 0).getD t 0)) 16) 16 = 16 := by decide +kernel
theorem f16' : ∀ k, k < 16 → (List.replicate 16 0).getD k 0 < 64 := fun k hk => by rw [f16 k hk]; decide

end
