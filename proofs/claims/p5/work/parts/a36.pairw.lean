/-! ===== both sides of a call, the rest: printed by a36.pairw.py ===== -/
section
variable {N : Nat} {z : xA}
theorem least_of {p : Nat → Prop} : ∀ n, p n → ∃ c, p c ∧ c ≤ n ∧ ∀ j, j < c → ¬ p j := by
  intro n
  induction n using Nat.strongRecOn with
  | _ n ih =>
    intro h
    by_cases hj : ∃ j, j < n ∧ p j
    · obtain ⟨j, h1, h2⟩ := hj
      obtain ⟨c, c1, c2, c3⟩ := ih j h1 h2
      exact ⟨c, c1, by omega, c3⟩
    · exact ⟨n, h, Nat.le_refl n, fun j h1 h2 => hj ⟨j, h1, h2⟩⟩
theorem ground {E : Nat → Int32} {n : Nat} (hB : EB E n) : ∃ c, c < 2 ^ n ∧ E c = gE ((lv E n).getD 0 0) ∧ ∀ j, j < c → ¬ E j = gE ((lv E n).getD 0 0) := by
  obtain ⟨h1, h2, h3⟩ := lv_get hB (lv_pos hB)
  obtain ⟨c, c1, c2⟩ := ct_pos.mp h2
  have c2 := decide_eq_true_iff.mp c2
  have e : E c = gE ((lv E n).getD 0 0) := by rw [← c2, gE_yL hB c1]
  obtain ⟨d, d1, d2, d3⟩ := least_of (p := fun c => E c = gE ((lv E n).getD 0 0)) c e
  exact ⟨d, by omega, d1, d3⟩
/-- both sides, each with some int; some float -/
def PWi (a N : Nat) (z : xA) (yc : Nat) (lc : xL) (ym : Nat) (lm : xL) : Prop := ∃ z', WA (N + 12800) z' ∧ CC a yc lc z z' (fun r _ _ => ∃ c, r = some (.int c)) ∧ MC ym lm z z' (fun r _ _ _ => ∃ c, r = some (.int c))
def PWf (a N : Nat) (z : xA) (yc : Nat) (lc : xL) (ym : Nat) (lm : xL) : Prop := ∃ z' w, WA (N + 12800) z' ∧ CC a yc lc z z' (fun r _ _ => ∃ c, r = some (.float c) ∧ alike32 c w = true) ∧ MC ym lm z z' (fun r I _ _ => (∃ c, r = some (.float c) ∧ alike32 c w = true) ∧ I 200 19 = 0)
theorem P35 (w : WA N z) (v u : Int32) : PI N z 354 [(0, .ref 100), (1, .int v), (2, .int u), (3, .ref 400)] 305 [(0, .ref 200), (1, .int v), (2, .int u)] := by
  have bd := gn_bd w.1
  by_cases hu : rg u 0 2 = true
  · by_cases hn : gn z.1 ≤ 16
    · have hl : (lvs z.1 z.2.1).length ≤ 4913 := lv_len _ _
      rcases pk_ix v (n := (lvs z.1 z.2.1).length) (by omega) with h | h | ⟨i, hi, rfl⟩
      · exact ⟨z, _, _, G_up w, CC_post (KC35c w hn hu (Or.inl h)) (fun _ _ _ e => ⟨e, fun h => absurd h (by decide)⟩), KM35c w hn hu (Or.inl h)⟩
      · exact ⟨z, _, _, G_up w, CC_post (KC35c w hn hu (Or.inr h)) (fun _ _ _ e => ⟨e, fun h => absurd h (by decide)⟩), KM35c w hn hu (Or.inr h)⟩
      · exact ⟨z, _, _, G_up w, CC_post (KC35d w hn hu hi) (fun _ _ _ e => ⟨e.1, fun _ => e.2⟩), KM35d w hn hu hi⟩
    · exact ⟨z, _, _, G_up w, CC_post (KC35b w hn hu) (fun _ _ _ e => ⟨e, fun h => absurd h (by decide)⟩), KM35b w hn hu⟩
  · exact ⟨z, _, _, G_up w, CC_post (KC35a w hu) (fun _ _ _ e => ⟨e, fun h => absurd h (by decide)⟩), KM35a w hu⟩
theorem P39 (w : WA N z)  : PI N z 358 [(0, .ref 100), (1, .ref 400)] 310 [(0, .ref 200)] := by
  have bd := gn_bd w.1
  by_cases hn : gn z.1 ≤ 16
  · obtain ⟨c, g1, g2, g3⟩ := ground (eG_B w hn)
    exact ⟨z, _, _, G_up w, CC_post (KC39b w hn g1 g2 g3) (fun _ _ _ e => ⟨e.1, fun _ => e.2⟩), KM39b w hn g1 g2 g3⟩
  · exact ⟨z, _, _, G_up w, CC_post (KC39a w hn) (fun _ _ _ e => ⟨e, fun h => absurd h (by decide)⟩), KM39a w hn⟩
theorem P20 (w : WA N z)  : PWi 0 N z 133 [(0, .ref 100)] 285 [(0, .ref 200)] := by
  have bd := gn_bd w.1
  exact ⟨z, G_up w, CC_post (KC20 w) (fun _ _ _ e => ⟨_, e⟩), MC_post (KM20 w) (fun _ _ _ _ e => ⟨_, e.1⟩)⟩
theorem P22 (w : WA N z)  : PWi 0 N z 134 [(0, .ref 100)] 289 [(0, .ref 200)] := by
  have bd := gn_bd w.1
  exact ⟨z, G_up w, CC_post (KC22 w) (fun _ _ _ e => ⟨_, e⟩), MC_post (KM22 w) (fun _ _ _ _ e => ⟨_, e.1⟩)⟩
theorem P61 (w : WA N z) (v : Int32) : PWi 0 N z 144 [(0, .ref 100), (1, .int v)] 330 [(0, .ref 200), (1, .int v)] := by
  have bd := gn_bd w.1
  exact ⟨z, G_up w, KC61 w, KM61 w⟩
theorem P21 (w : WA N z) (v : Int32) : PWi 1 N z 344 [(0, .ref 100), (1, .int v), (2, .ref 400)] 287 [(0, .ref 200), (1, .int v)] := by
  have bd := gn_bd w.1
  rcases pk_ix v (n := gn z.1) (by omega) with h | h | ⟨t, ht, rfl⟩
  · exact ⟨z, G_up w, CC_post (KC21a w (Or.inl h)) (fun _ _ _ e => ⟨_, e⟩), MC_post (KM21a w (Or.inl h)) (fun _ _ _ _ e => ⟨_, e.1⟩)⟩
  · exact ⟨z, G_up w, CC_post (KC21a w (Or.inr h)) (fun _ _ _ e => ⟨_, e⟩), MC_post (KM21a w (Or.inr h)) (fun _ _ _ _ e => ⟨_, e.1⟩)⟩
  · exact ⟨z, G_up w, CC_post (KC21b w ht) (fun _ _ _ e => ⟨_, e.1⟩), MC_post (KM21b w ht) (fun _ _ _ _ e => ⟨_, e.1⟩)⟩
theorem P46 (w : WA N z)  : PWi 1 N z 365 [(0, .ref 100), (1, .ref 400)] 313 [(0, .ref 200)] := by
  have bd := gn_bd w.1
  by_cases hn : gn z.1 ≤ 16
  · exact ⟨z, G_up w, CC_post (KC46b w hn) (fun _ _ _ e => ⟨_, e.1⟩), MC_post (KM46b w hn) (fun _ _ _ _ e => ⟨_, e.1⟩)⟩
  · exact ⟨z, G_up w, CC_post (KC46a w hn) (fun _ _ _ e => ⟨_, e⟩), MC_post (KM46a w hn) (fun _ _ _ _ e => ⟨_, e.1⟩)⟩
theorem P57 (w : WA N z)  : PWf 0 N z 131 [(0, .ref 100)] 263 [(0, .ref 200)] := by
  have bd := gn_bd w.1
  exact ⟨z, _, G_up w, KC57 w, KM57 w⟩
theorem P58 (w : WA N z) (hN : N < 2147483648) : PWf 0 N z 135 [(0, .ref 100)] 264 [(0, .ref 200)] := by
  have bd := gn_bd w.1
  exact ⟨z, _, G_up w, KC58 w hN, KM58 w⟩
end
