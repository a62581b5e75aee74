/-! ===== domains: both sides count the same ===== -/
section
variable {n m : Nat} {fi se : Nat → Nat} {on : Nat → Bool}
/-- what groups are: labels are least members, joined sites are alike, nothing else is -/
def LY (n : Nat) (on : Nat → Bool) (fi se : Nat → Nat) (k : Nat) (G : Nat → Nat) : Prop := (∀ s, s < n → G s ≤ s) ∧ (∀ s, s < n → G (G s) = G s) ∧ (∀ j, j < k → on j = true → G (fi j) = G (se j)) ∧ ∀ A : Nat → Prop, (∀ j, j < k → on j = true → (A (fi j) ↔ A (se j))) → ∀ s t, s < n → t < n → G s = G t → (A s ↔ A t)
theorem LY_0 : LY n on fi se 0 (fun s => (ly n on fi se 0).getD s 0) := by
  have e : ∀ s, s < n → (ly n on fi se 0).getD s 0 = s := fun s hs => by
    rw [ly, ← List.getElem_eq_getD (h := by rw [List.length_range]; exact hs) 0, List.getElem_range]
  refine ⟨fun s hs => by show (ly n on fi se 0).getD s 0 ≤ s; rw [e s hs]; exact Nat.le_refl _, fun s hs => ?_, fun j hj => absurd hj (Nat.not_lt_zero j), fun A _ s t hs ht h => ?_⟩
  · show (ly n on fi se 0).getD ((ly n on fi se 0).getD s 0) 0 = (ly n on fi se 0).getD s 0
    rw [e s hs, e s hs]
  · have h : (ly n on fi se 0).getD s 0 = (ly n on fi se 0).getD t 0 := h
    rw [e s hs, e t ht] at h
    rw [h]
theorem LY_e {k : Nat} {G G' : Nat → Nat} (h : LY n on fi se k G) (e : ∀ s, s < n → G' s = G s) (hf : ∀ j, j < k → fi j < n ∧ se j < n) : LY n on fi se k G' := by
  obtain ⟨h1, h2, h3, h4⟩ := h
  refine ⟨fun s hs => by rw [e s hs]; exact h1 s hs, fun s hs => ?_, fun j hj ho => ?_, fun A hA s t hs ht he => ?_⟩
  · have := h1 s hs
    rw [e s hs, e (G s) (by omega)]
    exact h2 s hs
  · rw [e _ (hf j hj).1, e _ (hf j hj).2]
    exact h3 j hj ho
  · rw [e s hs, e t ht] at he
    exact h4 A hA s t hs ht he
theorem LY_j {k : Nat} {G : Nat → Nat} (h : LY n on fi se k G) (h1 : fi k < n) (h2 : se k < n) (ho : on k = true) : LY n on fi se (k + 1) (jn G (fi k) (se k)) := by
  obtain ⟨p1, p2, p3, p4⟩ := h
  obtain ⟨a, ha⟩ : ∃ a, a = G (fi k) := ⟨_, rfl⟩
  obtain ⟨b, hb⟩ : ∃ b, b = G (se k) := ⟨_, rfl⟩
  have ea : G a = a := by rw [ha]; exact p2 _ h1
  have eb : G b = b := by rw [hb]; exact p2 _ h2
  have la : a ≤ fi k := by rw [ha]; exact p1 _ h1
  have lb : b ≤ se k := by rw [hb]; exact p1 _ h2
  have ej : ∀ s, jn G (fi k) (se k) s = if G s = max a b then min a b else G s := fun s => by unfold jn; rw [← ha, ← hb]
  have hm : (min a b = a ∨ min a b = b) ∧ (max a b = a ∨ max a b = b) ∧ min a b ≤ max a b ∧ (a = min a b ∨ a = max a b) ∧ (b = min a b ∨ b = max a b) := by omega
  have em : G (min a b) = min a b := by
    rcases hm.1 with q | q <;> rw [q]
    · exact ea
    · exact eb
  refine ⟨fun s hs => ?_, fun s hs => ?_, fun j hj hoj => ?_, fun A hA s t hs ht he => ?_⟩
  · have := p1 s hs
    rw [ej]
    split <;> omega
  · rw [ej s]
    by_cases q : G s = max a b
    · rw [if_pos q, ej, em]
      split <;> rfl
    · rw [if_neg q, ej, p2 s hs, if_neg q]
  · by_cases e : j = k
    · subst e
      rw [ej, ej, ← ha, ← hb]
      by_cases q : a = max a b
      · rw [if_pos q]
        by_cases q2 : b = max a b
        · rw [if_pos q2]
        · rw [if_neg q2]; omega
      · rw [if_neg q]
        by_cases q2 : b = max a b
        · rw [if_pos q2]; omega
        · omega
    · rw [ej, ej, p3 j (by omega) hoj]
  · have hA' : ∀ j, j < k → on j = true → (A (fi j) ↔ A (se j)) := fun j hj => hA j (by omega)
    have hk := hA k (Nat.lt_succ_self k) ho
    -- members of the two groups that are joined
    have two : ∀ u, u < n → (G u = a ∨ G u = b) → (A u ↔ A (fi k)) := fun u hu hq => by
      rcases hq with q | q
      · exact p4 A hA' u (fi k) hu h1 (q.trans ha)
      · exact (p4 A hA' u (se k) hu h2 (q.trans hb)).trans hk.symm
    have mx2 : ∀ u, u < n → G u = max a b → (A u ↔ A (fi k)) := fun u hu q => two u hu (hm.2.1.imp (fun e => q.trans e) (fun e => q.trans e))
    have mn2 : ∀ u, u < n → G u = min a b → (A u ↔ A (fi k)) := fun u hu q => two u hu (hm.1.imp (fun e => q.trans e) (fun e => q.trans e))
    rw [ej, ej] at he
    by_cases q : G s = max a b
    · rw [if_pos q] at he
      by_cases q2 : G t = max a b
      · exact (mx2 s hs q).trans (mx2 t ht q2).symm
      · rw [if_neg q2] at he
        exact (mx2 s hs q).trans (mn2 t ht he.symm).symm
    · rw [if_neg q] at he
      by_cases q2 : G t = max a b
      · rw [if_pos q2] at he
        exact (mn2 s hs he).trans (mx2 t ht q2).symm
      · rw [if_neg q2] at he
        exact p4 A hA' s t hs ht he
theorem LY_all (h1 : ∀ k, k < m → fi k < n) (h2 : ∀ k, k < m → se k < n) : ∀ k, k ≤ m → LY n on fi se k (fun s => (ly n on fi se k).getD s 0)
  | 0, _ => LY_0
  | k + 1, hk => by
    have ih := LY_all h1 h2 k (by omega)
    have hl := ly_len n on fi se k
    by_cases ho : on k = true
    · refine LY_e (LY_j ih (h1 k (by omega)) (h2 k (by omega)) ho) (fun s hs => ?_) (fun j hj => ⟨h1 j (by omega), h2 j (by omega)⟩)
      show (ly n on fi se (k + 1)).getD s 0 = _
      rw [ly, if_pos ho]
      exact jl_at (by omega)
    · obtain ⟨p1, p2, p3, p4⟩ := ih
      have e : ly n on fi se (k + 1) = ly n on fi se k := by rw [ly, if_neg ho]
      rw [e]
      refine ⟨p1, p2, fun j hj hoj => ?_, fun A hA => p4 A (fun j hj => hA j (by omega))⟩
      by_cases q : j = k
      · rw [q] at hoj; exact absurd hoj ho
      · exact p3 j (by omega) hoj
/-- the lowest bit goes -/
theorem low_b {p : Nat} (h0 : 0 < p) (hp : p < 2 ^ 64) (s : Nat) : (p &&& (p - 1)).testBit s = (p.testBit s && !decide (s = tzf 64 p)) := by
  obtain ⟨t, q, ht, e⟩ := tz_ex 64 p h0 hp
  have et : tzf 64 p = t := by rw [e]; exact tz_u t 64 q ht
  have hpos := Nat.two_pow_pos t
  have h2 : 2 ^ (t + 1) = 2 * 2 ^ t := by rw [Nat.pow_succ, Nat.mul_comm]
  have e1 : p = 2 ^ (t + 1) * q + 2 ^ t := by
    rw [e, h2, Nat.mul_add, Nat.mul_one]
    congr 1
    rw [← Nat.mul_assoc, Nat.mul_comm (2 ^ t) 2]
  have e2 : p - 1 = 2 ^ (t + 1) * q + (2 ^ t - 1) := by omega
  have b1 : p.testBit s = if s < t + 1 then (2 ^ t).testBit s else q.testBit (s - (t + 1)) := by
    rw [e1]
    exact Nat.testBit_two_pow_mul_add q (by omega) s
  have b2 : (p - 1).testBit s = if s < t + 1 then (2 ^ t - 1).testBit s else q.testBit (s - (t + 1)) := by
    rw [e2]
    exact Nat.testBit_two_pow_mul_add q (by omega) s
  rw [Nat.testBit_and, b1, b2, et]
  by_cases c : s < t + 1
  · rw [if_pos c, if_pos c, Nat.testBit_two_pow, Nat.testBit_two_pow_sub_one]
    by_cases c2 : s = t
    · subst c2; simp
    · have : ¬ t = s := fun n => c2 n.symm
      simp [this]
  · rw [if_neg c, if_neg c]
    have : ¬ s = t := by omega
    simp [this]
theorem new_b {r d s : Nat} (hs : s < 64) : (r &&& (d ^^^ 18446744073709551615)).testBit s = (r.testBit s && !d.testBit s) := by
  rw [show (18446744073709551615 : Nat) = 2 ^ 64 - 1 from by decide, Nat.testBit_and, Nat.testBit_xor, Nat.testBit_two_pow_sub_one]
  simp [hs]
theorem tb_n {p s : Nat} (hp : p < 2 ^ n) (h : p.testBit s = true) : s < n := Nat.lt_of_not_le (fun q => by
  rw [Nat.testBit_lt_two_pow (Nat.lt_of_lt_of_le hp (Nat.pow_le_pow_right (by decide) q))] at h
  cases h)
theorem tz_in {p : Nat} (h0 : 0 < p) (hp : p < 2 ^ 64) : p.testBit (tzf 64 p) = true := by
  obtain ⟨t, q, ht, e⟩ := tz_ex 64 p h0 hp
  have et : tzf 64 p = t := by rw [e]; exact tz_u t 64 q ht
  have hpos := Nat.two_pow_pos t
  have h2 : 2 ^ (t + 1) = 2 * 2 ^ t := by rw [Nat.pow_succ, Nat.mul_comm]
  have e1 : p = 2 ^ (t + 1) * q + 2 ^ t := by
    rw [e, h2, Nat.mul_add, Nat.mul_one]
    congr 1
    rw [← Nat.mul_assoc, Nat.mul_comm (2 ^ t) 2]
  rw [et, e1, Nat.testBit_two_pow_mul_add q (by omega), if_pos (by omega), Nat.testBit_two_pow]
  exact decide_eq_true rfl
/-- the flood ends closed -/
theorem dm_ok {nb : Nat → Nat} (hn : n ≤ 64) (h : ∀ t, t < n → nb t < 2 ^ n) {G : Nat → Nat} {t0 : Nat} (hG : ∀ s o, s < n → (nb s).testBit o = true → G o = G s) : ∀ (f d p : Nat), d < 2 ^ n → p < 2 ^ n → (∀ s, p.testBit s = true → d.testBit s = true) → (∀ s, d.testBit s = true → p.testBit s = false → ∀ o, (nb s).testBit o = true → d.testBit o = true) → (∀ s, d.testBit s = true → G s = G t0) → d.testBit t0 = true → n ≤ ct (fun s => d.testBit s && !p.testBit s) n + f → (dm nb f d p).testBit t0 = true ∧ (∀ s, (dm nb f d p).testBit s = true → G s = G t0) ∧ (∀ s, (dm nb f d p).testBit s = true → ∀ o, (nb s).testBit o = true → (dm nb f d p).testBit o = true)
  | 0, d, p, hd, hp, h1, h2, h3, h4, h5 => by
    refine ⟨h4, h3, fun s hs o ho => h2 s hs ?_ o ho⟩
    -- all sites are done with
    have hc := ct_le (fun s => d.testBit s && !p.testBit s) n
    cases q : p.testBit s
    · rfl
    · have hsn := tb_n hp q
      have := ct_lt (p := fun s => d.testBit s && !p.testBit s) (o := s) (n := n) (by simp [q]) hsn
      omega
  | f + 1, d, p, hd, hp, h1, h2, h3, h4, h5 => by
    rw [dm]
    by_cases h0 : p = 0
    · rw [if_pos h0]
      exact ⟨h4, h3, fun s hs o ho => h2 s hs (by rw [h0]; exact Nat.zero_testBit s) o ho⟩
    · rw [if_neg h0]
      have hp64 : p < 2 ^ 64 := Nat.lt_of_lt_of_le hp (Nat.pow_le_pow_right (by decide) hn)
      have hu := tz_in (by omega) hp64
      obtain ⟨u, eu⟩ : ∃ u, u = tzf 64 p := ⟨_, rfl⟩
      have hlb := low_b (p := p) (by omega) hp64
      rw [← eu] at hu hlb ⊢
      have un := tb_n hp hu
      have hr : nb u &&& (d ^^^ 18446744073709551615) < 2 ^ n := Nat.lt_of_le_of_lt Nat.and_le_left (h _ un)
      have hnb : ∀ s, s < n → (nb u &&& (d ^^^ 18446744073709551615)).testBit s = ((nb u).testBit s && !d.testBit s) := fun s hs => new_b (by omega)
      obtain ⟨r, er⟩ : ∃ r, r = nb u &&& (d ^^^ 18446744073709551615) := ⟨_, rfl⟩
      rw [← er] at hr hnb ⊢
      obtain ⟨y, ey⟩ : ∃ y, y = p &&& (p - 1) := ⟨_, rfl⟩
      rw [← ey] at hlb ⊢
      have hy : y < 2 ^ n := by rw [ey]; exact Nat.lt_of_le_of_lt Nat.and_le_left hp
      have bd : ∀ s, (d ||| r).testBit s = (d.testBit s || r.testBit s) := fun s => Nat.testBit_or d r s
      have bp : ∀ s, (y ||| r).testBit s = ((p.testBit s && !decide (s = u)) || r.testBit s) := fun s => by rw [Nat.testBit_or, hlb]
      have du := h1 u hu
      refine dm_ok hn h hG f (d ||| r) (y ||| r) (Nat.or_lt_two_pow hd hr) (Nat.or_lt_two_pow hy hr) (fun s hs => ?_) (fun s hs hs2 o ho => ?_) (fun s hs => ?_) ?_ ?_
      · rw [bp] at hs
        rw [bd]
        simp only [Bool.or_eq_true, Bool.and_eq_true] at hs ⊢
        exact hs.imp (fun q => h1 s q.1) id
      · rw [bd] at hs ⊢
        rw [bp] at hs2
        simp only [Bool.or_eq_false_iff, Bool.and_eq_false_iff, Bool.not_eq_false', decide_eq_true_eq] at hs2
        rw [hs2.2, Bool.or_false] at hs
        simp only [Bool.or_eq_true]
        rcases hs2.1 with q | q
        · exact Or.inl (h2 s hs q o ho)
        · subst q
          have on_ := tb_n (h s un) ho
          cases qd : d.testBit o
          · right
            rw [hnb o on_, ho, qd]
            rfl
          · exact Or.inl rfl
      · rw [bd] at hs
        simp only [Bool.or_eq_true] at hs
        rcases hs with q | q
        · exact h3 s q
        · have hsn := tb_n hr q
          rw [hnb s hsn] at q
          simp only [Bool.and_eq_true] at q
          rw [hG u s un q.1]
          exact h3 u du
      · rw [bd, h4]; rfl
      · have hm := ct_more (p := fun s => d.testBit s && !p.testBit s) (q := fun s => (d ||| r).testBit s && !(y ||| r).testBit s) (n := n) (o := u) (fun s hs q => ?_) un (by simp [hu]) ?_
        · omega
        · simp only [Bool.and_eq_true, Bool.not_eq_true'] at q
          show ((d ||| r).testBit s && !(y ||| r).testBit s) = true
          rw [bd, bp, hnb s hs, q.1, q.2]
          simp
        · show ((d ||| r).testBit u && !(y ||| r).testBit u) = true
          rw [bd, bp, hnb u un, du]
          simp
theorem pop_ct : ∀ (k x : Nat), pop k x = ct (fun s => x.testBit s) k
  | 0, _ => rfl
  | k + 1, x => by
    have e2 : bt x k = if x.testBit k = true then 1 else 0 := by
      unfold bt
      rw [Nat.testBit_eq_decide_div_mod_eq]
      rcases Nat.mod_two_eq_zero_or_one (x / 2 ^ k) with e | e <;> rw [e] <;> simp
    rw [pop, ct, pop_ct k x, e2]
end
section
variable {z : xA} {N : Nat} {g : xGd}
theorem adj (hg : GOK g) {t k : Nat} (hk : k < gm g) (h : gf g k = t ∨ gs g k = t) : ∃ i, i < gdd g t ∧ gb g t i = k := by
  have hm : k ∈ ic (gll g) t := by
    unfold ic
    refine (fl_mem _ _ _).mpr ⟨hk, ?_⟩
    unfold iP
    simp only [Bool.or_eq_true, decide_eq_true_eq]
    exact h
  obtain ⟨i, hi, e⟩ := List.mem_iff_getElem.mp hm
  refine ⟨i, hi, ?_⟩
  show (ic (gll g) t).getD i 0 = k
  rw [← List.getElem_eq_getD (h := hi) 0]
  exact e
/-- neighbours in the same domain -/
theorem aN_iff (st : Nat → Int32) (fi se : Nat → Nat) (sb : Nat → Nat → Nat) (x t s : Nat) : ∀ i, (aN st fi se sb x t i).testBit s = true ↔ ∃ j, j < i ∧ oD2 st fi se x (sb t j) = true ∧ s = (if fi (sb t j) = t then se (sb t j) else fi (sb t j))
  | 0 => ⟨fun h => (by rw [aN, Nat.zero_testBit] at h; cases h), fun ⟨j, hj, _⟩ => absurd hj (Nat.not_lt_zero j)⟩
  | i + 1 => by
    have ih := aN_iff st fi se sb x t s i
    have eo : oD2 st fi se x (sb t i) = true ↔ st (sb t i) ≠ 0 ∧ x.testBit (fi (sb t i)) = x.testBit (se (sb t i)) := by
      unfold oD2
      simp only [Bool.and_eq_true, decide_eq_true_eq, Bool.not_eq_true', decide_eq_false_iff_not]
      exact And.comm
    rw [aN]
    by_cases c : st (sb t i) ≠ 0 ∧ x.testBit (fi (sb t i)) = x.testBit (se (sb t i))
    · rw [if_pos c, Nat.testBit_or, Bool.or_eq_true, ih, Nat.testBit_two_pow, decide_eq_true_eq]
      constructor
      · rintro (⟨j, h1, h2⟩ | h)
        · exact ⟨j, by omega, h2⟩
        · exact ⟨i, Nat.lt_succ_self i, eo.mpr c, h.symm⟩
      · rintro ⟨j, h1, h2, h3⟩
        by_cases q : j = i
        · subst q; exact Or.inr h3.symm
        · exact Or.inl ⟨j, by omega, h2, h3⟩
    · rw [if_neg c, ih]
      constructor
      · rintro ⟨j, h1, h2⟩
        exact ⟨j, by omega, h2⟩
      · rintro ⟨j, h1, h2, h3⟩
        by_cases q : j = i
        · subst q; exact absurd (eo.mp h2) c
        · exact ⟨j, by omega, h2, h3⟩
theorem nb_iff (hg : GOK g) (st : Nat → Int32) (x : Nat) {t s : Nat} (ht : t < gn g) : (aN st (gf g) (gs g) (gb g) x t (gdd g t)).testBit s = true ↔ ∃ k, k < gm g ∧ oD2 st (gf g) (gs g) x k = true ∧ ((gf g k = t ∧ gs g k = s) ∨ (gs g k = t ∧ gf g k = s)) := by
  obtain ⟨hG, hN, hI⟩ := gG hg
  rw [aN_iff]
  constructor
  · rintro ⟨j, h1, h2, h3⟩
    refine ⟨gb g t j, hG.2.2.2.2.2.2 t j ht h1, h2, ?_⟩
    by_cases q : gf g (gb g t j) = t
    · rw [if_pos q] at h3
      exact Or.inl ⟨q, h3.symm⟩
    · rw [if_neg q] at h3
      exact Or.inr ⟨(hI t ht j h1).resolve_left q, h3.symm⟩
  · rintro ⟨k, h1, h2, h3⟩
    obtain ⟨i, hi, e⟩ := adj hg h1 (t := t) (h3.imp (fun q => q.1) (fun q => q.1))
    refine ⟨i, hi, by rw [e]; exact h2, ?_⟩
    rw [e]
    rcases h3 with ⟨q1, q2⟩ | ⟨q1, q2⟩
    · rw [if_pos q1]; exact q2.symm
    · rw [if_neg (fun q => hN.1 k h1 (q.trans q1.symm))]; exact q2.symm
def lyG (g : xGd) (x : xSt) (s : Nat) : Nat := (lyg g x).getD s 0
theorem lyG_ok (hg : GOK g) (x : xSt) : LY (gn g) (oD2 (stS x) (gf g) (gs g) (stZ x).1) (gf g) (gs g) (gm g) (lyG g x) := LY_all (gG hg).1.2.2.2.1 (gG hg).1.2.2.2.2.1 _ (Nat.le_refl _)
/-- a domain is a group -/
theorem dX_iff (hg : GOK g) (x : xSt) {t s : Nat} (ht : t < gn g) (hs : s < gn g) : (dXg g x t).testBit s = true ↔ lyG g x s = lyG g x t := by
  obtain ⟨p1, p2, p3, p4⟩ := lyG_ok hg x
  have hG := (gG hg).1
  have hn := (gn_bd hg).2.1
  have hnl : ∀ t, t < gn g → aN (stS x) (gf g) (gs g) (gb g) (stZ x).1 t (gdd g t) < 2 ^ gn g := fun t ht => aN_lt hG _ _ ht _ (Nat.le_refl _)
  have key : (dXg g x t).testBit t = true ∧ (∀ s, (dXg g x t).testBit s = true → lyG g x s = lyG g x t) ∧ (∀ s, (dXg g x t).testBit s = true → ∀ o, (aN (stS x) (gf g) (gs g) (gb g) (stZ x).1 s (gdd g s)).testBit o = true → (dXg g x t).testBit o = true) := by
    refine dm_ok (G := lyG g x) hn hnl (fun s o hs ho => ?_) 64 (2 ^ t) (2 ^ t) (Nat.pow_lt_pow_right (by decide) ht) (Nat.pow_lt_pow_right (by decide) ht) (fun s q => q) (fun s q1 q2 => by rw [q1] at q2; cases q2) (fun s q => ?_) ?_ (by omega)
    · obtain ⟨k, h1, h2, h3⟩ := (nb_iff hg _ _ hs).mp ho
      have := p3 k h1 h2
      rcases h3 with ⟨q1, q2⟩ | ⟨q1, q2⟩
      · rw [q1, q2] at this; exact this.symm
      · rw [q1, q2] at this; exact this
    · rw [Nat.testBit_two_pow, decide_eq_true_eq] at q
      rw [q]
    · rw [Nat.testBit_two_pow]; exact decide_eq_true rfl
  refine ⟨key.2.1 s, fun e => ?_⟩
  refine (p4 (fun u => (dXg g x t).testBit u = true) (fun k hk ho => ?_) s t hs ht e).mpr key.1
  have f1 := hG.2.2.2.1 k hk
  have f2 := hG.2.2.2.2.1 k hk
  exact ⟨fun q => key.2.2 _ q _ ((nb_iff hg _ _ f1).mpr ⟨k, hk, ho, Or.inl ⟨rfl, rfl⟩⟩), fun q => key.2.2 _ q _ ((nb_iff hg _ _ f2).mpr ⟨k, hk, ho, Or.inr ⟨rfl, rfl⟩⟩)⟩
/-- its size -/
theorem dX_pop (hg : GOK g) (x : xSt) {t : Nat} (ht : t < gn g) : pop 64 (dXg g x t) = ct (fun s => decide ((lyg g x).getD s 0 = (lyg g x).getD t 0)) (gn g) := by
  have hl : dXg g x t < 2 ^ gn g := dX_lt (gG hg).1 _ _ ht
  rw [pop_64 (gn_bd hg).2.1 hl, pop_ct]
  refine ct_congr (fun s hs => ?_)
  have h := dX_iff hg x ht hs
  cases q : (dXg g x t).testBit s
  · exact (decide_eq_false (fun e => by rw [h.mpr e] at q; cases q)).symm
  · exact (decide_eq_true (h.mp q)).symm
theorem mx_ge {f : Nat → Nat} {j : Nat} : ∀ i, j < i → f j ≤ mx f i
  | 0, h => absurd h (Nat.not_lt_zero j)
  | i + 1, h => by
    rw [mx]
    by_cases e : j = i
    · subst e; exact Nat.le_max_right _ _
    · exact Nat.le_trans (mx_ge i (by omega)) (Nat.le_max_left _ _)
/-- counting them -/
theorem dC_ok (hg : GOK g) (x : xSt) : ∀ i, i ≤ gn g → (∀ s, s < gn g → ((dC (dXg g x) i).1.testBit s = true ↔ ∃ j, j < i ∧ lyG g x j = lyG g x s)) ∧ (dC (dXg g x) i).2.1 = ct (fun s => decide ((lyg g x).getD s 0 = s)) i ∧ (dC (dXg g x) i).2.2 = mx (fun t => ct (fun s => decide ((lyg g x).getD s 0 = (lyg g x).getD t 0)) (gn g)) i
  | 0, _ => ⟨fun s _ => ⟨fun h => (by rw [dC, Nat.zero_testBit] at h; cases h), fun ⟨j, hj, _⟩ => absurd hj (Nat.not_lt_zero j)⟩, rfl, rfl⟩
  | i + 1, hi => by
    obtain ⟨i1, i2, i3⟩ := dC_ok hg x i (by omega)
    obtain ⟨p1, p2, p3, p4⟩ := lyG_ok hg x
    have si := i1 i (by omega)
    have hpi := dX_pop hg x (t := i) (by omega)
    rw [dC, ct, mx]
    by_cases c : (dC (dXg g x) i).1.testBit i = true
    · obtain ⟨j, hj, ej⟩ := si.mp c
      have l1 := p1 j (by omega)
      have ng : ¬ (lyg g x).getD i 0 = i := fun e => by
        have e : lyG g x i = i := e
        omega
      rw [if_pos c, decide_eq_false ng]
      refine ⟨fun s hs => (i1 s hs).trans ⟨fun ⟨q, h1, h2⟩ => ⟨q, by omega, h2⟩, fun ⟨q, h1, h2⟩ => ?_⟩, by rw [i2]; rfl, ?_⟩
      · by_cases e : q = i
        · exact ⟨j, hj, by rw [ej, ← e]; exact h2⟩
        · exact ⟨q, by omega, h2⟩
      · rw [i3]
        have hle := mx_ge (f := fun t => ct (fun s => decide ((lyg g x).getD s 0 = (lyg g x).getD t 0)) (gn g)) i hj
        have e : (lyg g x).getD j 0 = (lyg g x).getD i 0 := ej
        have hle : ct (fun s => decide ((lyg g x).getD s 0 = (lyg g x).getD j 0)) (gn g) ≤ _ := hle
        rw [e] at hle
        exact (Nat.max_eq_left hle).symm
    · have ge : (lyg g x).getD i 0 = i := by
        have l1 := p1 i (by omega)
        have l1' : (lyg g x).getD i 0 ≤ i := l1
        by_cases e : (lyg g x).getD i 0 = i
        · exact e
        · exact absurd (si.mpr ⟨lyG g x i, by show (lyg g x).getD i 0 < i; omega, p2 i (by omega)⟩) c
      rw [if_neg c, decide_eq_true ge]
      refine ⟨fun s hs => ?_, by show _ + 1 = _; rw [i2]; rfl, by show max _ _ = _; rw [i3, hpi]⟩
      show ((dC (dXg g x) i).1 ||| dXg g x i).testBit s = true ↔ _
      rw [Nat.testBit_or, Bool.or_eq_true, i1 s hs, dX_iff hg x (t := i) (by omega) hs]
      constructor
      · rintro (⟨q, h1, h2⟩ | h)
        · exact ⟨q, by omega, h2⟩
        · exact ⟨i, Nat.lt_succ_self i, h.symm⟩
      · rintro ⟨q, h1, h2⟩
        by_cases e : q = i
        · subst e; exact Or.inr h2.symm
        · exact Or.inl ⟨q, by omega, h2⟩
theorem P20e (w : WA N z) : PQn 0 N z 133 [(0, .ref 100)] 285 [(0, .ref 200)] := by
  refine ⟨z, _, G_up w, KC20 w, ?_⟩
  have h := KM20 w
  rw [← (dC_ok w.1 z.2.1 (gn z.1) (Nat.le_refl _)).2.1] at h
  exact h
theorem P22e (w : WA N z) : PQn 0 N z 134 [(0, .ref 100)] 289 [(0, .ref 200)] := by
  refine ⟨z, _, G_up w, KC22 w, ?_⟩
  have h := KM22 w
  rw [← (dC_ok w.1 z.2.1 (gn z.1) (Nat.le_refl _)).2.2] at h
  exact h
theorem P21e (w : WA N z) (v : Int32) : PI N z 344 [(0, .ref 100), (1, .int v), (2, .ref 400)] 287 [(0, .ref 200), (1, .int v)] := by
  have bd := gn_bd w.1
  rcases pk_ix v (n := gn z.1) (by omega) with h | h | ⟨t, ht, rfl⟩
  · exact ⟨z, _, _, G_up w, CC_post (KC21a w (Or.inl h)) (fun _ _ _ e => ⟨e, fun h => absurd h (by decide)⟩), KM21a w (Or.inl h)⟩
  · exact ⟨z, _, _, G_up w, CC_post (KC21a w (Or.inr h)) (fun _ _ _ e => ⟨e, fun h => absurd h (by decide)⟩), KM21a w (Or.inr h)⟩
  · refine ⟨z, _, _, G_up w, CC_post (KC21b w ht) (fun _ _ _ e => ⟨e.1, fun _ => e.2⟩), ?_⟩
    have hm := KM21b w ht
    rw [← dX_pop w.1 z.2.1 ht] at hm
    exact hm
/-- an attempt: 0 or 1 -/
theorem P23e (w : WA N z) (v : Int32) : ∃ z' c u, (u = 0 ∨ u = 1) ∧ WA (N + 12800) z' ∧ CC 1 345 [(0, .ref 100), (1, .int v), (2, .ref 400)] z z' (fun r J _ => r = some (.int c) ∧ (c = 0 → J 400 0 = Int32.toInt64 u)) ∧ MC 270 [(0, .ref 200), (1, .int v)] z z' (fun r I _ _ => r = some (.int u) ∧ I 200 19 = c) := by
  have bd := gn_bd w.1
  rcases pk_ix v (n := gn z.1) (by omega) with h | h | ⟨t, ht, rfl⟩
  · exact ⟨z, _, _, Or.inl rfl, G_up w, CC_post (KC23a w (Or.inl h)) (fun _ _ _ e => ⟨e, fun h => absurd h (by decide)⟩), KM23a w (Or.inl h)⟩
  · exact ⟨z, _, _, Or.inl rfl, G_up w, CC_post (KC23a w (Or.inr h)) (fun _ _ _ e => ⟨e, fun h => absurd h (by decide)⟩), KM23a w (Or.inr h)⟩
  · cases hf : fS z.1 z.2.1 t (stZ z.2.1)
    · exact ⟨_, _, _, Or.inl rfl, G23 w ht, CC_post (KC23c w ht hf) (fun _ _ _ e => ⟨e.1, fun _ => e.2.trans rfl⟩), KM23c w ht hf⟩
    · exact ⟨_, _, _, Or.inr rfl, G23 w ht, CC_post (KC23b w ht hf) (fun _ _ _ e => ⟨e.1, fun _ => e.2.trans rfl⟩), KM23b w ht hf⟩
end
