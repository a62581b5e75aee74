/-! ===== the flood of the lab ===== -/
section
/-- reached over heights up to h -/
def RK (e : Nat → Nat) (n h a : Nat) : Nat → Nat → Prop
  | 0, c => c = a ∧ e a ≤ h
  | k + 1, c => ∃ d t, RK e n h a k d ∧ t < n ∧ c = d ^^^ 2 ^ t ∧ e c ≤ h
def RC (e : Nat → Nat) (n h a c : Nat) : Prop := ∃ k, RK e n h a k c
theorem RC.refl {e : Nat → Nat} {n h a : Nat} (h1 : e a ≤ h) : RC e n h a a := ⟨0, rfl, h1⟩
theorem RC.step {e : Nat → Nat} {n h a c t : Nat} (r : RC e n h a c) (h2 : t < n) (h3 : e (c ^^^ 2 ^ t) ≤ h) : RC e n h a (c ^^^ 2 ^ t) := by
  obtain ⟨k, r⟩ := r
  exact ⟨k + 1, c, t, r, h2, rfl, h3⟩
theorem RC_ind {e : Nat → Nat} {n h a : Nat} {P : Nat → Prop} (h0 : e a ≤ h → P a) (hs : ∀ c t, RC e n h a c → P c → t < n → e (c ^^^ 2 ^ t) ≤ h → P (c ^^^ 2 ^ t)) {c : Nat} (r : RC e n h a c) : P c := by
  obtain ⟨k, r⟩ := r
  have key : ∀ k c, RK e n h a k c → P c := by
    intro k
    induction k with
    | zero =>
      intro c r
      obtain ⟨e1, e2⟩ := r
      rw [e1]
      exact h0 e2
    | succ k ih =>
      intro c r
      obtain ⟨d, t, r1, h2, h3, h4⟩ := r
      rw [h3] at h4 ⊢
      exact hs d t ⟨k, r1⟩ (ih d r1) h2 h4
  exact key k c r
theorem RC_mono {e : Nat → Nat} {n h h' a c : Nat} (hh : h ≤ h') (r : RC e n h a c) : RC e n h' a c :=
  RC_ind (fun h1 => .refl (Nat.le_trans h1 hh)) (fun _ _ _ ih h2 h3 => .step ih h2 (Nat.le_trans h3 hh)) r
theorem RC_lt {e : Nat → Nat} {n h a c : Nat} (ha : a < 2 ^ n) (r : RC e n h a c) : c < 2 ^ n :=
  RC_ind (P := fun c => c < 2 ^ n) (fun _ => ha) (fun _ _ _ ih h2 _ => Nat.xor_lt_two_pow ih (Nat.pow_lt_pow_right (by decide) h2)) r
theorem RC_le {e : Nat → Nat} {n h a c : Nat} (r : RC e n h a c) : e c ≤ h :=
  RC_ind (P := fun c => e c ≤ h) (fun h1 => h1) (fun _ _ _ _ _ h3 => h3) r
/-- all are reached over the greatest height -/
theorem RC_top {e : Nat → Nat} {n H a c : Nat} (ha : a < 2 ^ n) (hc : c < 2 ^ n) (he : ∀ k, k < 2 ^ n → e k ≤ H) : RC e n H a c := by
  have key : ∀ k, k ≤ n → ∃ m, RC e n H a m ∧ (∀ i, i < k → m.testBit i = c.testBit i) ∧ ∀ i, k ≤ i → m.testBit i = a.testBit i := by
    intro k
    induction k with
    | zero => intro _; exact ⟨a, .refl (he a ha), fun i hi => absurd hi (Nat.not_lt_zero _), fun _ _ => rfl⟩
    | succ k ih =>
      intro hk
      obtain ⟨m, r, h1, h2⟩ := ih (by omega)
      by_cases hb : m.testBit k = c.testBit k
      · refine ⟨m, r, fun i hi => ?_, fun i hi => h2 i (by omega)⟩
        by_cases e1 : i = k
        · rw [e1]; exact hb
        · exact h1 i (by omega)
      · have hm := RC_lt ha r
        have hx : m ^^^ 2 ^ k < 2 ^ n := Nat.xor_lt_two_pow hm (Nat.pow_lt_pow_right (by decide) (by omega))
        refine ⟨m ^^^ 2 ^ k, .step r (by omega) (he _ hx), fun i hi => ?_, fun i hi => ?_⟩
        · rw [bit_x]
          by_cases e1 : k = i
          · subst e1
            rw [decide_eq_true rfl]
            cases h3 : m.testBit k <;> cases h4 : c.testBit k <;> rw [h3, h4] at hb <;> first | rfl | exact absurd rfl hb
          · rw [decide_eq_false e1, Bool.xor_false]
            exact h1 i (by omega)
        · rw [bit_x, decide_eq_false (by omega), Bool.xor_false]
          exact h2 i (by omega)
  obtain ⟨m, r, h1, h2⟩ := key n (Nat.le_refl n)
  have e1 : m = c := by
    apply Nat.eq_of_testBit_eq
    intro i
    by_cases hi : i < n
    · exact h1 i hi
    · rw [h2 i (by omega), Nat.testBit_lt_two_pow (Nat.lt_of_lt_of_le ha (Nat.pow_le_pow_right (by decide) (by omega))), Nat.testBit_lt_two_pow (Nat.lt_of_lt_of_le hc (Nat.pow_le_pow_right (by decide) (by omega)))]
  rw [← e1]
  exact r
/-- the least height over which one comes to the other -/
def bar (e : Nat → Nat) (n a c h : Nat) : Prop := RC e n h a c ∧ ∀ h', RC e n h' a c → h ≤ h'
theorem bar_one {e : Nat → Nat} {n a c h h' : Nat} (h1 : bar e n a c h) (h2 : bar e n a c h') : h = h' := Nat.le_antisymm (h1.2 _ h2.1) (h2.2 _ h1.1)
/-- visited, done, the height of each, what waits at each height, the height now; u is under way -/
def FS (e : Nat → Nat) (n a u : Nat) (vis done : Nat → Bool) (L : Nat → Nat) (B : Nat → List Nat) (ht : Nat) : Prop :=
  (∀ c, vis c = true → c < 2 ^ n ∧ e c ≤ L c ∧ L c ≤ 288 ∧ RC e n (L c) a c ∧ L c ≤ max ht (e c)) ∧
  (∀ c, vis c = true → done c = false → c ≠ u → c ∈ B (L c)) ∧
  (∀ l, l < ht → B l = []) ∧
  (∀ l c, c ∈ B l → vis c = true ∧ done c = false ∧ L c = l ∧ c ≠ u) ∧
  (∀ l, (B l).Nodup) ∧
  (∀ c, done c = true → vis c = true ∧ ∀ t, t < n → vis (c ^^^ 2 ^ t) = true ∧ L (c ^^^ 2 ^ t) ≤ max (L c) (e (c ^^^ 2 ^ t))) ∧
  vis a = true ∧ L a = e a
variable {e : Nat → Nat} {n a u : Nat} {vis done : Nat → Bool} {L : Nat → Nat} {B : Nat → List Nat} {ht : Nat}
theorem FS.v1 (h : FS e n a u vis done L B ht) : ∀ c, vis c = true → c < 2 ^ n ∧ e c ≤ L c ∧ L c ≤ 288 ∧ RC e n (L c) a c ∧ L c ≤ max ht (e c) := h.1
theorem FS.v2 (h : FS e n a u vis done L B ht) : ∀ c, vis c = true → done c = false → c ≠ u → c ∈ B (L c) := h.2.1
theorem FS.v3 (h : FS e n a u vis done L B ht) : ∀ l, l < ht → B l = [] := h.2.2.1
theorem FS.v4 (h : FS e n a u vis done L B ht) : ∀ l c, c ∈ B l → vis c = true ∧ done c = false ∧ L c = l ∧ c ≠ u := h.2.2.2.1
theorem FS.v5 (h : FS e n a u vis done L B ht) : ∀ l, (B l).Nodup := h.2.2.2.2.1
theorem FS.v6 (h : FS e n a u vis done L B ht) : ∀ c, done c = true → vis c = true ∧ ∀ t, t < n → vis (c ^^^ 2 ^ t) = true ∧ L (c ^^^ 2 ^ t) ≤ max (L c) (e (c ^^^ 2 ^ t)) := h.2.2.2.2.2.1
theorem FS.v7 (h : FS e n a u vis done L B ht) : vis a = true ∧ L a = e a := h.2.2.2.2.2.2
theorem FS_path (h : FS e n a (2 ^ n) vis done L B ht) {x c : Nat} (hx : x < ht) (r : RC e n x a c) : vis c = true ∧ L c ≤ x := by
  have dn : ∀ c, vis c = true → L c ≤ x → done c = true := fun c h1 h2 => by
    cases hd : done c
    · have h3 := h.v2 c h1 hd (Nat.ne_of_lt (h.v1 c h1).1)
      rw [h.v3 (L c) (by omega)] at h3
      exact absurd h3 (List.not_mem_nil)
    · rfl
  refine RC_ind (P := fun c => vis c = true ∧ L c ≤ x) (fun h1 => ⟨h.v7.1, by rw [h.v7.2]; exact h1⟩) (fun d t _ ih h2 h3 => ?_) r
  obtain ⟨i1, i2⟩ := ih
  obtain ⟨j1, j2⟩ := (h.v6 _ (dn _ i1 i2)).2 _ h2
  exact ⟨j1, Nat.le_trans j2 (Nat.max_le.mpr ⟨i2, h3⟩)⟩
theorem FS_dn (h : FS e n a (2 ^ n) vis done L B ht) {x c : Nat} (hx : x < ht) (r : RC e n x a c) : done c = true := by
  obtain ⟨h1, h2⟩ := FS_path h hx r
  cases hd : done c
  · have h3 := h.v2 c h1 hd (Nat.ne_of_lt (h.v1 c h1).1)
    rw [h.v3 (L c) (by omega)] at h3
    exact absurd h3 (List.not_mem_nil)
  · rfl
theorem FS_bar (h : FS e n a (2 ^ n) vis done L B ht) {c : Nat} (hc : c ∈ B ht) : bar e n a c ht := by
  obtain ⟨h1, h2, h3, -⟩ := h.v4 ht c hc
  refine ⟨by rw [← h3]; exact (h.v1 c h1).2.2.2.1, fun x r => Nat.le_of_not_lt (fun hx => ?_)⟩
  have := FS_dn h hx r
  rw [h2] at this
  exact absurd this (by decide)
theorem FS_up (h : FS e n a (2 ^ n) vis done L B ht) (hb : B ht = []) : FS e n a (2 ^ n) vis done L B (ht + 1) := by
  refine ⟨fun c hc => ?_, h.v2, fun l hl => ?_, h.v4, h.v5, h.v6, h.v7⟩
  · obtain ⟨a1, a2, a3, a4, a5⟩ := h.v1 c hc
    exact ⟨a1, a2, a3, a4, by omega⟩
  · by_cases hh : l = ht
    · rw [hh]; exact hb
    · exact h.v3 l (by omega)
theorem FS_pop (h : FS e n a (2 ^ n) vis done L B ht) {c : Nat} {q : List Nat} (hb : B ht = c :: q) : FS e n a c vis done L (fun l => if l = ht then q else B l) ht ∧ vis c = true ∧ L c = ht ∧ done c = false := by
  have hm : c ∈ B ht := by rw [hb]; exact List.mem_cons_self
  obtain ⟨m1, m2, m3, m4⟩ := h.v4 ht c hm
  have hnd := h.v5 ht
  rw [hb] at hnd
  have hq : c ∉ q := (List.nodup_cons.mp hnd).1
  refine ⟨⟨h.v1, fun d h1 h2 h3 => ?_, fun l hl => ?_, fun l d hd => ?_, fun l => ?_, h.v6, h.v7⟩, m1, m3, m2⟩
  · have h4 := h.v2 d h1 h2 (Nat.ne_of_lt (h.v1 d h1).1)
    by_cases hl : L d = ht
    · rw [hl, hb] at h4
      simp only [hl, if_true]
      rcases List.mem_cons.mp h4 with h5 | h5
      · exact absurd h5 h3
      · exact h5
    · simp only [hl, if_false]
      exact h4
  · simp only [show ¬ l = ht by omega, if_false]
    exact h.v3 l hl
  · by_cases hl : l = ht
    · subst hl
      simp only [if_true] at hd
      have h4 : d ∈ B l := by rw [hb]; exact List.mem_cons_of_mem _ hd
      obtain ⟨p1, p2, p3, p4⟩ := h.v4 l d h4
      exact ⟨p1, p2, p3, fun e2 => hq (e2 ▸ hd)⟩
    · simp only [hl, if_false] at hd
      obtain ⟨p1, p2, p3, p4⟩ := h.v4 l d hd
      exact ⟨p1, p2, p3, fun e2 => hl (by rw [← p3, e2, m3])⟩
  · by_cases hl : l = ht
    · simp only [hl, if_true]
      exact (List.nodup_cons.mp hnd).2
    · simp only [hl, if_false]
      exact h.v5 l
theorem FS_new (h : FS e n a u vis done L B ht) (hu : vis u = true) (hL : L u = ht) {t : Nat} (ht' : t < n) (he : ∀ k, k < 2 ^ n → e k ≤ 288) (hv : vis (u ^^^ 2 ^ t) = false) :
    FS e n a u (fun k => if k = u ^^^ 2 ^ t then true else vis k) done (fun k => if k = u ^^^ 2 ^ t then max ht (e k) else L k) (fun l => if l = max ht (e (u ^^^ 2 ^ t)) then (u ^^^ 2 ^ t) :: B l else B l) ht := by
  obtain ⟨u1, u2, u3, u4, u5⟩ := h.v1 u hu
  have hx : u ^^^ 2 ^ t < 2 ^ n := Nat.xor_lt_two_pow u1 (Nat.pow_lt_pow_right (by decide) ht')
  have hex := he _ hx
  obtain ⟨o, ho⟩ : ∃ o, o = u ^^^ 2 ^ t := ⟨_, rfl⟩
  have rc : RC e n (max ht (e o)) a o := by
    rw [ho]
    exact .step (RC_mono (by rw [hL]; exact Nat.le_max_left _ _) u4) ht' (Nat.le_max_right _ _)
  rw [← ho] at hv hx hex ⊢
  have hou : o ≠ u := fun e2 => by rw [e2, hu] at hv; exact absurd hv (by decide)
  have hdo : done o = false := by
    cases hd : done o
    · rfl
    · have := (h.v6 o hd).1
      rw [hv] at this
      exact absurd this (by decide)
  have nb : ∀ l, o ∉ B l := fun l hm => by
    have := (h.v4 l o hm).1
    rw [hv] at this
    exact absurd this (by decide)
  refine ⟨fun c hc => ?_, fun d h1 h2 h3 => ?_, fun l hl => ?_, fun l d hd => ?_, fun l => ?_, fun c hd => ?_, ?_⟩
  · by_cases ec : c = o
    · subst ec
      simp only [if_true]
      exact ⟨hx, Nat.le_max_right _ _, Nat.max_le.mpr ⟨by omega, hex⟩, rc, Nat.le_refl _⟩
    · simp only [ec, if_false] at hc ⊢
      exact h.v1 c hc
  · by_cases ec : d = o
    · subst ec
      simp only [if_true]
      exact List.mem_cons_self
    · simp only [ec, if_false] at h1 ⊢
      have h4 := h.v2 d h1 h2 h3
      split
      · exact List.mem_cons_of_mem _ h4
      · exact h4
  · have : ¬ l = max ht (e o) := by have := Nat.le_max_left ht (e o); omega
    simp only [this, if_false]
    exact h.v3 l hl
  · by_cases ed : d = o
    · subst ed
      by_cases el : l = max ht (e d)
      · simp only [if_true]
        exact ⟨trivial, hdo, el.symm, hou⟩
      · simp only [el, if_false] at hd
        exact absurd hd (nb l)
    · have hd2 : d ∈ B l := by
        by_cases el : l = max ht (e o)
        · simp only [el, if_true] at hd
          rcases List.mem_cons.mp hd with h5 | h5
          · exact absurd h5 ed
          · rw [el]; exact h5
        · simp only [el, if_false] at hd
          exact hd
      simp only [ed, if_false]
      exact h.v4 l d hd2
  · by_cases el : l = max ht (e o)
    · simp only [el, if_true]
      exact List.nodup_cons.mpr ⟨nb _, h.v5 _⟩
    · simp only [el, if_false]
      exact h.v5 l
  · obtain ⟨c1, c2⟩ := h.v6 c hd
    have hco : c ≠ o := fun e2 => by rw [e2, hdo] at hd; exact absurd hd (by decide)
    simp only [hco, if_false]
    refine ⟨c1, fun t ht2 => ?_⟩
    obtain ⟨c3, c4⟩ := c2 t ht2
    have hne : c ^^^ 2 ^ t ≠ o := fun e2 => by rw [e2, hv] at c3; exact absurd c3 (by decide)
    simp only [hne, if_false]
    exact ⟨c3, c4⟩
  · have hao : a ≠ o := fun e2 => by have := h.v7.1; rw [e2, hv] at this; exact absurd this (by decide)
    simp only [hao, if_false]
    exact h.v7
theorem FS_end (h : FS e n a u vis done L B ht) (hu : vis u = true) (hL : L u = ht) (hn : ∀ t, t < n → vis (u ^^^ 2 ^ t) = true) (hd : done u = false) : FS e n a (2 ^ n) vis (fun k => done k || decide (u = k)) L B ht := by
  refine ⟨h.v1, fun d h1 h2 _ => ?_, h.v3, fun l d hm => ?_, h.v5, fun c hc => ?_, h.v7⟩
  · simp only [Bool.or_eq_false_iff, decide_eq_false_iff_not] at h2
    exact h.v2 d h1 h2.1 (fun e2 => h2.2 e2.symm)
  · obtain ⟨p1, p2, p3, p4⟩ := h.v4 l d hm
    refine ⟨p1, ?_, p3, Nat.ne_of_lt (h.v1 d p1).1⟩
    show (done d || decide (u = d)) = false
    rw [p2, decide_eq_false (fun e2 => p4 e2.symm)]
    rfl
  · simp only [Bool.or_eq_true, decide_eq_true_eq] at hc
    rcases hc with hc | hc
    · exact h.v6 c hc
    · subst hc
      refine ⟨hu, fun t ht2 => ⟨hn t ht2, ?_⟩⟩
      have := (h.v1 _ (hn t ht2)).2.2.2.2
      rw [hL]
      exact this
end
