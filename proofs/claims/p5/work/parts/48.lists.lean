/-! ===== rising lists, counts ===== -/
section
theorem srt_eq : ∀ {a b : List Nat}, a.Pairwise (· < ·) → b.Pairwise (· < ·) → (∀ x, x ∈ a ↔ x ∈ b) → a = b
  | [], [], _, _, _ => rfl
  | [], y :: b, _, _, h => absurd ((h y).mpr List.mem_cons_self) List.not_mem_nil
  | x :: a, [], _, _, h => absurd ((h x).mp List.mem_cons_self) List.not_mem_nil
  | x :: a, y :: b, h1, h2, h => by
    rw [List.pairwise_cons] at h1 h2
    have hx := (h x).mp List.mem_cons_self
    have hy := (h y).mpr List.mem_cons_self
    have e : x = y := by
      rcases List.mem_cons.mp hx with e | e
      · exact e
      · rcases List.mem_cons.mp hy with f | f
        · exact f.symm
        · exact absurd (h1.1 y f) (Nat.not_lt.mpr (Nat.le_of_lt (h2.1 x e)))
    subst e
    rw [srt_eq h1.2 h2.2 (fun z => ⟨fun hz => ?_, fun hz => ?_⟩)]
    · rcases List.mem_cons.mp ((h z).mp (List.mem_cons_of_mem _ hz)) with e | e
      · subst e
        exact absurd (h1.1 z hz) (Nat.lt_irrefl z)
      · exact e
    · rcases List.mem_cons.mp ((h z).mpr (List.mem_cons_of_mem _ hz)) with e | e
      · subst e
        exact absurd (h2.1 z hz) (Nat.lt_irrefl z)
      · exact e
/-- those below k that pass -/
def fl (p : Nat → Bool) : Nat → List Nat
  | 0 => []
  | k + 1 => if p k = true then fl p k ++ [k] else fl p k
theorem fl_mem (p : Nat → Bool) : ∀ (k x : Nat), x ∈ fl p k ↔ x < k ∧ p x = true
  | 0, x => by simp [fl]
  | k + 1, x => by
    rw [fl]
    split
    · rename_i h
      rw [List.mem_append, fl_mem p k, List.mem_singleton]
      constructor
      · rintro (⟨h1, h2⟩ | rfl)
        · exact ⟨by omega, h2⟩
        · exact ⟨by omega, h⟩
      · rintro ⟨h1, h2⟩
        by_cases e : x = k
        · exact Or.inr e
        · exact Or.inl ⟨by omega, h2⟩
    · rename_i h
      rw [fl_mem p k]
      constructor
      · rintro ⟨h1, h2⟩
        exact ⟨by omega, h2⟩
      · rintro ⟨h1, h2⟩
        by_cases e : x = k
        · subst e
          exact absurd h2 h
        · exact ⟨by omega, h2⟩
theorem fl_srt (p : Nat → Bool) : ∀ k, (fl p k).Pairwise (· < ·)
  | 0 => List.Pairwise.nil
  | k + 1 => by
    rw [fl]
    split
    · rw [List.pairwise_append]
      refine ⟨fl_srt p k, List.pairwise_singleton _ _, fun a ha c hc => ?_⟩
      rw [List.mem_singleton.mp hc]
      exact ((fl_mem p k a).mp ha).1
    · exact fl_srt p k
theorem fl_len (p : Nat → Bool) : ∀ k, (fl p k).length ≤ k
  | 0 => Nat.le_refl _
  | k + 1 => by
    have := fl_len p k
    rw [fl]
    split
    · rw [List.length_append, List.length_singleton]
      omega
    · omega
theorem srt_map {f : Nat → Nat} : ∀ {l : List Nat}, l.Pairwise (· < ·) → (∀ a, a ∈ l → ∀ c, c ∈ l → a < c → f a < f c) → (l.map f).Pairwise (· < ·)
  | [], _, _ => List.Pairwise.nil
  | a :: l, h, hf => by
    rw [List.map_cons]
    rw [List.pairwise_cons] at h ⊢
    refine ⟨fun y hy => ?_, srt_map h.2 (fun a ha c hc => hf a (List.mem_cons_of_mem _ ha) c (List.mem_cons_of_mem _ hc))⟩
    obtain ⟨c, hc, rfl⟩ := List.mem_map.mp hy
    exact hf a List.mem_cons_self c (List.mem_cons_of_mem _ hc) (h.1 c hc)
/-- the same levels, counted by other numbers -/
theorem fl_map {p q : Nat → Bool} {f : Nat → Nat} {M M' : Nat} (h1 : ∀ i, i < M → p i = true → f i < M' ∧ q (f i) = true) (h2 : ∀ k, k < M' → q k = true → ∃ i, i < M ∧ p i = true ∧ f i = k) (h3 : ∀ i j, i < M → j < M → p i = true → p j = true → i < j → f i < f j) : fl q M' = (fl p M).map f := by
  refine srt_eq (fl_srt q M') (srt_map (fl_srt p M) (fun a ha c hc h => ?_)) (fun x => ⟨fun hx => ?_, fun hx => ?_⟩)
  · have ha := (fl_mem p M a).mp ha
    have hc := (fl_mem p M c).mp hc
    exact h3 a c ha.1 hc.1 ha.2 hc.2 h
  · have hx := (fl_mem q M' x).mp hx
    obtain ⟨i, i1, i2, rfl⟩ := h2 x hx.1 hx.2
    exact List.mem_map.mpr ⟨i, (fl_mem p M i).mpr ⟨i1, i2⟩, rfl⟩
  · obtain ⟨i, hi, rfl⟩ := List.mem_map.mp hx
    have hi := (fl_mem p M i).mp hi
    exact (fl_mem q M' _).mpr (h1 i hi.1 hi.2)
/-- how many below n -/
def ct (p : Nat → Bool) : Nat → Nat
  | 0 => 0
  | n + 1 => ct p n + (if p n = true then 1 else 0)
theorem ct_le (p : Nat → Bool) : ∀ n, ct p n ≤ n
  | 0 => Nat.le_refl _
  | n + 1 => by
    have := ct_le p n
    rw [ct]
    split <;> omega
theorem ct_congr {p q : Nat → Bool} : ∀ {n : Nat}, (∀ k, k < n → p k = q k) → ct p n = ct q n
  | 0, _ => rfl
  | n + 1, h => by rw [ct, ct, ct_congr (fun k hk => h k (Nat.lt_succ_of_lt hk)), h n (Nat.lt_succ_self n)]
theorem ct_pos {p : Nat → Bool} : ∀ {n : Nat}, 0 < ct p n ↔ ∃ k, k < n ∧ p k = true
  | 0 => ⟨fun h => absurd h (Nat.lt_irrefl 0), fun ⟨k, h, _⟩ => absurd h (Nat.not_lt_zero k)⟩
  | n + 1 => by
    rw [ct]
    constructor
    · intro h
      by_cases hp : p n = true
      · exact ⟨n, Nat.lt_succ_self n, hp⟩
      · rw [if_neg hp, Nat.add_zero] at h
        obtain ⟨k, h1, h2⟩ := ct_pos.mp h
        exact ⟨k, by omega, h2⟩
    · rintro ⟨k, h1, h2⟩
      by_cases e : k = n
      · subst e
        rw [if_pos h2]
        omega
      · have := ct_pos.mpr ⟨k, (by omega : k < n), h2⟩
        omega
end
