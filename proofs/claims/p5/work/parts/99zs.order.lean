/-! ===== configurations in order ===== -/
section
theorem ct_or {p q : Nat → Bool} (h : ∀ k, p k = true → q k = false) : ∀ n, ct (fun k => p k || q k) n = ct p n + ct q n
  | 0 => rfl
  | n + 1 => by
    rw [ct, ct, ct, ct_or h n]
    cases h1 : p n
    · cases q n <;> simp <;> omega
    · rw [h n h1]
      simp
      omega
theorem ct_cut {q : Nat → Bool} {c : Nat} : ∀ n, c ≤ n → ct (fun k => q k && decide (k < c)) n = ct q c
  | 0, h => by
    rw [show c = 0 by omega]
    rfl
  | n + 1, h => by
    by_cases e : c = n + 1
    · subst e
      refine ct_congr (fun k hk => ?_)
      rw [decide_eq_true hk, Bool.and_true]
    · rw [ct, ct_cut n (by omega), decide_eq_false (show ¬ n < c by omega), Bool.and_false]
      rfl
theorem ct_mono {p q : Nat → Bool} : ∀ {n : Nat}, (∀ k, k < n → p k = true → q k = true) → ct p n ≤ ct q n
  | 0, _ => Nat.le_refl _
  | n + 1, h => by
    have ih := ct_mono (p := p) (q := q) (n := n) (fun k hk => h k (by omega))
    have h2 := h n (Nat.lt_succ_self n)
    rw [ct, ct]
    cases h1 : p n
    · simp
      omega
    · rw [h2 h1]
      simp
      exact ih
theorem ct_more {p q : Nat → Bool} {n o : Nat} (h : ∀ k, k < n → p k = true → q k = true) (ho : o < n) (h1 : p o = false) (h2 : q o = true) : ct p n < ct q n := by
  have h3 := ct_set h1 (n := n)
  rw [if_pos ho] at h3
  have h4 : ct (fun k => p k || decide (o = k)) n ≤ ct q n := ct_mono (fun k hk hp => by
    simp only [Bool.or_eq_true, decide_eq_true_eq] at hp
    rcases hp with hp | hp
    · exact h k hk hp
    · rw [← hp]; exact h2)
  omega
theorem inj_ct {g : Nat → Nat} {N : Nat} : ∀ (M : Nat) (p : Nat → Bool), (∀ i, i < M → g i < N ∧ p (g i) = true) → (∀ i j, i < M → j < M → g i = g j → i = j) → M ≤ ct p N
  | 0, _, _, _ => Nat.zero_le _
  | M + 1, p, h, hi => by
    obtain ⟨h1, h2⟩ := h M (Nat.lt_succ_self M)
    have ih := inj_ct M (fun k => p k && !decide (g M = k)) (fun i hk => by
      obtain ⟨h3, h4⟩ := h i (by omega)
      refine ⟨h3, ?_⟩
      have : ¬ g M = g i := fun e => by
        have := hi M i (by omega) (by omega) e
        omega
      show (p (g i) && !decide (g M = g i)) = true
      rw [h4, decide_eq_false this]
      rfl) (fun i j a b => hi i j (by omega) (by omega))
    have h5 : (fun k => p k && !decide (g M = k)) (g M) = false := by
      show (p (g M) && !decide (g M = g M)) = false
      rw [decide_eq_true rfl]
      simp
    have h6 := ct_set (p := fun k => p k && !decide (g M = k)) (o := g M) h5 (n := N)
    rw [if_pos h1] at h6
    have h7 : ct (fun k => (p k && !decide (g M = k)) || decide (g M = k)) N = ct p N := ct_congr (fun k _ => by
      by_cases e : g M = k
      · rw [← e, h2, decide_eq_true rfl]
        rfl
      · rw [decide_eq_false e]
        simp)
    rw [h7] at h6
    omega
theorem inj_sur {g : Nat → Nat} {N : Nat} (h : ∀ i, i < N → g i < N) (hi : ∀ i j, i < N → j < N → g i = g j → i = j) {k : Nat} (hk : k < N) : ∃ i, i < N ∧ g i = k := by
  refine Classical.byContradiction (fun hn => ?_)
  have h1 := inj_ct N (fun x => !decide (x = k)) (fun i hlt => ⟨h i hlt, by
    have : ¬ g i = k := fun e => hn ⟨i, hlt, e⟩
    show (!decide (g i = k)) = true
    rw [decide_eq_false this]
    rfl⟩) hi
  have h2 := ct_lt (p := fun x => !decide (x = k)) (o := k) (n := N) (by
    show (!decide (k = k)) = false
    rw [decide_eq_true rfl]
    rfl) hk
  omega
/-- a place in the order: by energy, then by number -/
def bf (f : Nat → Nat) (d c : Nat) : Bool := decide (f d < f c) || (decide (f d = f c) && decide (d < c))
def ps2 (f : Nat → Nat) (N c : Nat) : Nat := ct (fun d => bf f d c) N
theorem bf_self (f : Nat → Nat) (c : Nat) : bf f c c = false := by
  unfold bf
  rw [decide_eq_false (Nat.lt_irrefl _), decide_eq_false (Nat.lt_irrefl c), Bool.and_false]
  rfl
theorem bf_iff {f : Nat → Nat} {d c : Nat} : bf f d c = true ↔ f d < f c ∨ (f d = f c ∧ d < c) := by
  unfold bf
  simp
theorem ps2_lt {f : Nat → Nat} {N c : Nat} (hc : c < N) : ps2 f N c < N := ct_lt (bf_self f c) hc
theorem ps2_mono {f : Nat → Nat} {N d c : Nat} (hd : d < N) (h : bf f d c = true) : ps2 f N d < ps2 f N c := by
  refine ct_more (fun k _ hk => ?_) hd (bf_self f d) h
  have h1 := bf_iff.mp hk
  have h2 := bf_iff.mp h
  exact bf_iff.mpr (by omega)
theorem ps2_inj {f : Nat → Nat} {N d c : Nat} (hd : d < N) (hc : c < N) (h : ps2 f N d = ps2 f N c) : d = c := by
  refine Classical.byContradiction (fun hn => ?_)
  by_cases h1 : bf f d c = true
  · have := ps2_mono hd h1
    omega
  · have h2 : bf f c d = true := by
      have h3 : ¬ (f d < f c ∨ (f d = f c ∧ d < c)) := fun e => h1 (bf_iff.mpr e)
      exact bf_iff.mpr (by omega)
    have := ps2_mono hc h2
    omega
theorem ps2_sur {f : Nat → Nat} {N k : Nat} (hk : k < N) : ∃ c, c < N ∧ ps2 f N c = k := inj_sur (fun i hi => ps2_lt hi) (fun i j hi hj h => ps2_inj hi hj h) hk
theorem ps2_le {f : Nat → Nat} {N d c : Nat} (hc : c < N) (h : ps2 f N d ≤ ps2 f N c) : f d ≤ f c := by
  refine Nat.le_of_not_lt (fun hlt => ?_)
  have := ps2_mono (N := N) hc (bf_iff.mpr (Or.inl hlt))
  omega
/-- the counts from which places are taken -/
theorem ps2_eq {f : Nat → Nat} {N c : Nat} (hc : c ≤ N) : ps2 f N c = ct (fun d => decide (f d < f c)) N + ct (fun d => decide (f d = f c)) c := by
  unfold ps2 bf
  rw [ct_or (fun k hk => by
    have := of_decide_eq_true hk
    rw [decide_eq_false (show ¬ f k = f c by omega)]
    rfl), ct_cut N hc]
theorem ct_step {f : Nat → Nat} {N k : Nat} : ct (fun d => decide (f d < k + 1)) N = ct (fun d => decide (f d + 1 = k + 1)) N + ct (fun d => decide (f d < k)) N := by
  rw [← ct_or (fun d hd => by
    have := of_decide_eq_true hd
    exact decide_eq_false (by omega))]
  refine ct_congr (fun d _ => ?_)
  by_cases h1 : f d = k
  · rw [h1, decide_eq_true (Nat.lt_succ_self k), decide_eq_true rfl]
    rfl
  · by_cases h2 : f d < k
    · rw [decide_eq_true (show f d < k + 1 by omega), decide_eq_true h2, Bool.or_true]
    · rw [decide_eq_false (show ¬ f d < k + 1 by omega), decide_eq_false (show ¬ f d + 1 = k + 1 by omega), decide_eq_false h2]
      rfl
end
