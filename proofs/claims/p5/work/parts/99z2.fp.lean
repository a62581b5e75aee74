/-! ===== doubles within bounds ===== -/
section
theorem fp_n (a : UInt64) : isNaN64 a = FP.Core.dIsNaN a := by
  rw [Bool.eq_iff_iff, FP.Core.isNaN_bits]
  unfold isNaN64
  rw [decide_eq_true_eq, ← FP.Core.mask_toNat]
  exact UInt64.lt_iff_toNat_lt
/-- a double's magnitude, in units of the least one -/
def fz (x : UInt64) : Nat := FP.Core.zmag FP.Core.b64 (FP.Core.val64 x)
/-- finite, at most N units -/
def fb (N : Nat) (x : UInt64) : Prop := (∃ s c q, FP.Core.val64 x = .fin s c q) ∧ fz x ≤ N
/-- not negative, finite, from L to N units -/
def gp (L N : Nat) (x : UInt64) : Prop := (∃ c q, FP.Core.val64 x = .fin false c q) ∧ L ≤ fz x ∧ fz x ≤ N
/-- a number of the format -/
def rp (N : Nat) : Prop := ∃ s c q, FP.Core.fits FP.Core.b64 (.fin s c q) ∧ FP.Core.zmag FP.Core.b64 (.fin s c q) = N
theorem gp_fb {L N : Nat} {x : UInt64} (h : gp L N x) : fb N x := by
  obtain ⟨⟨c, q, h1⟩, h2, h3⟩ := h
  exact ⟨⟨false, c, q, h1⟩, h3⟩
theorem fb_n {N : Nat} {x : UInt64} (h : fb N x) : isNaN64 x = false := by
  rw [fp_n, FP.Core.notNaN_iff]
  obtain ⟨⟨s, c, q, h1⟩, -⟩ := h
  rw [h1]
  exact FP.Core.Datum.noConfusion
theorem fb_le {N M : Nat} {x : UInt64} (h : fb N x) (hM : N ≤ M) : fb M x := ⟨h.1, Nat.le_trans h.2 hM⟩
theorem gp_le {L N L' N' : Nat} {x : UInt64} (h : gp L N x) (h1 : L' ≤ L) (h2 : N ≤ N') : gp L' N' x := ⟨h.1, Nat.le_trans h1 h.2.1, Nat.le_trans h.2.2 h2⟩
theorem rp_val {x : UInt64} {N : Nat} (h : fb N x) (e : fz x = N) : rp N := by
  obtain ⟨⟨s, c, q, h1⟩, -⟩ := h
  have hf := FP.Core.val64_fits x
  unfold fz at e
  rw [h1] at hf e
  exact ⟨s, c, q, hf, e⟩
theorem rr_le {s : Bool} {A B N : Nat} {e e0 : Int} (hB : 0 < B) (hN : rp N) (h0 : e0 ≤ FP.Core.b64.qmin) (h0e : e0 ≤ e) (h : FP.Core.inUnits A e e0 ≤ N * 2 ^ (FP.Core.b64.qmin - e0).toNat * B) :
    (∃ c q, FP.Core.roundRatio FP.Core.b64 s A B e = .fin s c q) ∧ FP.Core.zmag FP.Core.b64 (FP.Core.roundRatio FP.Core.b64 s A B e) ≤ N := by
  obtain ⟨t, c', q', h1, h2⟩ := hN
  have h3 := FP.Core.zmag_roundRatio_le FP.Core.good_b64 (s := s) hB h1 FP.Core.Datum.noConfusion h0 h0e (by rw [h2]; exact h)
  rw [h2] at h3
  refine ⟨?_, h3⟩
  rcases FP.Core.roundRatio_cases FP.Core.b64 s A B e with h4 | h4
  · exact h4
  · exfalso
    have h5 := FP.Core.zmag_lt_top FP.Core.good_b64 h1
    rw [h4] at h3
    have h6 : FP.Core.zmag FP.Core.b64 (.fin t c' q') = FP.Core.inUnits c' q' FP.Core.b64.qmin := rfl
    rw [← h6, h2] at h5
    exact absurd h5 (Nat.not_lt.mpr h3)
theorem rr_ge {s : Bool} {A B L : Nat} {e e0 : Int} (hB : 0 < B) (hL : rp L) (h0 : e0 ≤ FP.Core.b64.qmin) (h0e : e0 ≤ e) (h : L * 2 ^ (FP.Core.b64.qmin - e0).toNat * B ≤ FP.Core.inUnits A e e0) :
    L ≤ FP.Core.zmag FP.Core.b64 (FP.Core.roundRatio FP.Core.b64 s A B e) := by
  obtain ⟨t, c', q', h1, h2⟩ := hL
  have h3 := FP.Core.zmag_roundRatio_ge FP.Core.good_b64 (s := s) (e := e) (A := A) hB h1 h0 h0e (by rw [h2]; exact h)
  rw [h2] at h3
  exact h3
theorem fb_add {A B N : Nat} {a b : UInt64} (ha : fb A a) (hb : fb B b) (hN : rp N) (h : A + B ≤ N) : fb N (FP.dadd a b) := by
  obtain ⟨⟨s, c, q, ea⟩, la⟩ := ha
  obtain ⟨⟨t, d, r, eb⟩, lb⟩ := hb
  have fa := FP.Core.val64_fits a
  have f2 := FP.Core.val64_fits b
  unfold fz at la lb
  rw [ea] at fa la
  rw [eb] at f2 lb
  obtain ⟨sg, n, e, h1, h2, h3⟩ := FP.Core.sum_units fa f2
  have h4 : FP.Core.inUnits n e FP.Core.b64.qmin ≤ N := by
    have h5 := FP.Core.natAbs_signed sg (FP.Core.inUnits n e FP.Core.b64.qmin)
    rw [h3] at h5
    have h6 := Int.natAbs_add_le (FP.Core.zval FP.Core.b64 (.fin s c q)) (FP.Core.zval FP.Core.b64 (.fin t d r))
    have h7 : (FP.Core.zval FP.Core.b64 (.fin s c q)).natAbs = FP.Core.zmag FP.Core.b64 (.fin s c q) := FP.Core.natAbs_signed _ _
    have h8 : (FP.Core.zval FP.Core.b64 (.fin t d r)).natAbs = FP.Core.zmag FP.Core.b64 (.fin t d r) := FP.Core.natAbs_signed _ _
    omega
  have h9 : FP.Core.val64 (FP.dadd a b) = FP.Core.roundRatio FP.Core.b64 sg n 1 e := by
    have := FP.Core.val64_dadd a b
    rw [ea, eb, h1] at this
    exact this
  obtain ⟨⟨c2, q2, k1⟩, k2⟩ := rr_le (s := sg) (A := n) (B := 1) (e := e) (e0 := FP.Core.b64.qmin) (by decide) hN (Int.le_refl _) h2 (by rw [Int.sub_self, Nat.mul_one, show (2 : Nat) ^ (0 : Int).toNat = 1 from rfl, Nat.mul_one]; exact h4)
  refine ⟨⟨sg, c2, q2, by rw [h9]; exact k1⟩, ?_⟩
  unfold fz
  rw [h9]
  exact k2
theorem fb_neg {A : Nat} {a : UInt64} (ha : fb A a) : fb A (FP.Core.dneg a) := by
  obtain ⟨⟨s, c, q, ea⟩, la⟩ := ha
  have e : FP.Core.val64 (FP.Core.dneg a) = FP.Core.negate (FP.Core.val64 a) := FP.Core.val64_dneg a
  unfold fz at la
  rw [ea] at e la
  refine ⟨⟨!s, c, q, e⟩, ?_⟩
  unfold fz
  rw [e]
  exact la
theorem fb_sub {A B N : Nat} {a b : UInt64} (ha : fb A a) (hb : fb B b) (hN : rp N) (h : A + B ≤ N) : fb N (FP.dsub a b) := by
  have e : FP.dsub a b = FP.dadd a (FP.Core.dneg b) := FP.Core.dsub_eq a b
  rw [e]
  exact fb_add ha (fb_neg hb) hN h
/-- one, in units -/
def uo : Nat := 2 ^ 1074
theorem uo_pos : 0 < uo := Nat.two_pow_pos _
theorem uo_e : (2 : Nat) ^ (FP.Core.b64.qmin - 2 * FP.Core.b64.qmin).toNat = uo := by
  have : (FP.Core.b64.qmin - 2 * FP.Core.b64.qmin).toNat = 1074 := by decide
  rw [this]
  rfl
theorem mul_v {a b : UInt64} {s t : Bool} {c d : Nat} {q r : Int} (ea : FP.Core.val64 a = .fin s c q) (eb : FP.Core.val64 b = .fin t d r) : FP.Core.val64 (FP.dmul a b) = FP.Core.roundRatio FP.Core.b64 (s != t) (c * d) 1 (q + r) ∧ 2 * FP.Core.b64.qmin ≤ q + r ∧ FP.Core.inUnits (c * d) (q + r) (2 * FP.Core.b64.qmin) = fz a * fz b := by
  have fa := FP.Core.val64_fits a
  have f2 := FP.Core.val64_fits b
  unfold fz
  rw [ea] at fa ⊢
  rw [eb] at f2 ⊢
  obtain ⟨h1, h2, h3⟩ := FP.Core.product_units fa f2
  refine ⟨?_, h2, h3⟩
  have := FP.Core.val64_dmul a b
  rw [ea, eb, h1] at this
  exact this
theorem fb_mul {A B N : Nat} {a b : UInt64} (ha : fb A a) (hb : fb B b) (hN : rp N) (h : A * B ≤ N * uo) : fb N (FP.dmul a b) := by
  obtain ⟨⟨s, c, q, ea⟩, la⟩ := ha
  obtain ⟨⟨t, d, r, eb⟩, lb⟩ := hb
  obtain ⟨h1, h2, h3⟩ := mul_v ea eb
  obtain ⟨⟨c2, q2, k1⟩, k2⟩ := rr_le (s := s != t) (A := c * d) (B := 1) (e := q + r) (e0 := 2 * FP.Core.b64.qmin) (by decide) hN (by decide) h2 (by rw [h3, uo_e, Nat.mul_one]; exact Nat.le_trans (Nat.mul_le_mul la lb) h)
  refine ⟨⟨_, c2, q2, by rw [h1]; exact k1⟩, ?_⟩
  unfold fz
  rw [h1]
  exact k2
theorem gp_mul {L L' l A B N : Nat} {a b : UInt64} (ha : gp L A a) (hb : gp L' B b) (hN : rp N) (h : A * B ≤ N * uo) (hl : rp l) (h' : l * uo ≤ L * L') : gp l N (FP.dmul a b) := by
  obtain ⟨⟨c, q, ea⟩, ga, la⟩ := ha
  obtain ⟨⟨d, r, eb⟩, gb, lb⟩ := hb
  obtain ⟨h1, h2, h3⟩ := mul_v ea eb
  obtain ⟨⟨c2, q2, k1⟩, k2⟩ := rr_le (s := false != false) (A := c * d) (B := 1) (e := q + r) (e0 := 2 * FP.Core.b64.qmin) (by decide) hN (by decide) h2 (by rw [h3, uo_e, Nat.mul_one]; exact Nat.le_trans (Nat.mul_le_mul la lb) h)
  have k3 := rr_ge (s := false != false) (A := c * d) (B := 1) (e := q + r) (e0 := 2 * FP.Core.b64.qmin) (by decide) hl (by decide) h2 (by rw [h3, uo_e, Nat.mul_one]; exact Nat.le_trans h' (Nat.mul_le_mul ga gb))
  refine ⟨⟨c2, q2, by rw [h1]; exact k1⟩, ?_, ?_⟩
  · unfold fz
    rw [h1]
    exact k3
  · unfold fz
    rw [h1]
    exact k2
theorem gp_add {L L' l A B N : Nat} {a b : UInt64} (ha : gp L A a) (hb : gp L' B b) (hN : rp N) (h : A + B ≤ N) (hl : rp l) (h' : l ≤ L + L') : gp l N (FP.dadd a b) := by
  have hfb := fb_add (gp_fb ha) (gp_fb hb) hN h
  obtain ⟨⟨c, q, ea⟩, ga, la⟩ := ha
  obtain ⟨⟨d, r, eb⟩, gb, lb⟩ := hb
  have fa := FP.Core.val64_fits a
  have f2 := FP.Core.val64_fits b
  unfold fz at ga gb
  rw [ea] at fa ga
  rw [eb] at f2 gb
  obtain ⟨sg, n, e, h1, h2, h3⟩ := FP.Core.sum_units fa f2
  have h9 : FP.Core.val64 (FP.dadd a b) = FP.Core.roundRatio FP.Core.b64 sg n 1 e := by
    have := FP.Core.val64_dadd a b
    rw [ea, eb, h1] at this
    exact this
  have hz : FP.Core.zval FP.Core.b64 (.fin false c q) + FP.Core.zval FP.Core.b64 (.fin false d r) = ((FP.Core.zmag FP.Core.b64 (.fin false c q) + FP.Core.zmag FP.Core.b64 (.fin false d r) : Nat) : Int) := rfl
  have hsg : sg = false := by
    have e1 : FP.Core.exactSum (.fin false c q) (.fin false d r) = .fin (FP.Core.sumSign false false (FP.Core.sumUnits false c q false d r (min q r))) (FP.Core.sumUnits false c q false d r (min q r)).natAbs (min q r) := rfl
    rw [h1] at e1
    have e2 := (FP.Core.Datum.fin.inj e1).1
    rw [e2]
    unfold FP.Core.sumSign
    split
    · rfl
    · refine decide_eq_false (fun hlt => ?_)
      have e3 : FP.Core.sumUnits false c q false d r (min q r) = ((FP.Core.inUnits c q (min q r) + FP.Core.inUnits d r (min q r) : Nat) : Int) := rfl
      rw [e3] at hlt
      omega
  subst hsg
  have h4 : l ≤ FP.Core.inUnits n e FP.Core.b64.qmin := by
    rw [hz] at h3
    have h5 : FP.Core.signed false (FP.Core.inUnits n e FP.Core.b64.qmin) = (FP.Core.inUnits n e FP.Core.b64.qmin : Int) := rfl
    rw [h5] at h3
    omega
  have k3 := rr_ge (s := false) (A := n) (B := 1) (e := e) (e0 := FP.Core.b64.qmin) (by decide) hl (Int.le_refl _) h2 (by rw [Int.sub_self, Nat.mul_one, show (2 : Nat) ^ (0 : Int).toNat = 1 from rfl, Nat.mul_one]; exact h4)
  obtain ⟨⟨s2, c2, q2, k1⟩, k2⟩ := hfb
  refine ⟨⟨c2, q2, ?_⟩, ?_, k2⟩
  · have := FP.Core.sgn_roundRatio FP.Core.b64 false n 1 e
    rw [← h9, k1] at this
    have e4 : s2 = false := this
    rw [k1, e4]
  · unfold fz
    rw [h9]
    exact k3
theorem div_v {a b : UInt64} {s t : Bool} {c d : Nat} {q r : Int} (ea : FP.Core.val64 a = .fin s c q) (eb : FP.Core.val64 b = .fin t d r) (hd : 0 < fz b) : 0 < d ∧ FP.Core.val64 (FP.ddiv a b) = FP.Core.roundRatio FP.Core.b64 (s != t) c d (q - r) ∧ FP.Core.b64.qmin - 971 ≤ q - r - 1074 + 1074 ∧ ∃ P, 0 < P ∧ FP.Core.inUnits c (q - r) (FP.Core.b64.qmin - 2000) * P = fz a * 2 ^ 2000 * uo ∧ d * P = fz b := by
  have fa := FP.Core.val64_fits a
  have f2 := FP.Core.val64_fits b
  unfold fz at hd ⊢
  rw [ea] at fa ⊢
  rw [eb] at f2 hd ⊢
  have hd0 : 0 < d := by
    rcases Nat.eq_zero_or_pos d with h | h
    · subst h
      have : FP.Core.zmag FP.Core.b64 (.fin t 0 r) = 0 * 2 ^ (r - FP.Core.b64.qmin).toNat := rfl
      rw [this, Nat.zero_mul] at hd
      exact absurd hd (Nat.lt_irrefl 0)
    · exact h
  have q1 : (-1074 : Int) ≤ q := by have := fa.2.1; rw [FP.Core.qmin_b64] at this; exact this
  have q3 : (-1074 : Int) ≤ r := by have := f2.2.1; rw [FP.Core.qmin_b64] at this; exact this
  have q2 : q ≤ 971 := by have := fa.2.2.1; exact Int.le_trans this (by decide)
  have q4 : r ≤ 971 := by have := f2.2.2.1; exact Int.le_trans this (by decide)
  refine ⟨hd0, ?_, by rw [FP.Core.qmin_b64]; omega, 2 ^ (r - FP.Core.b64.qmin).toNat, Nat.two_pow_pos _, ?_, rfl⟩
  · have := FP.Core.val64_ddiv a b
    rw [ea, eb] at this
    have e1 : FP.Core.quotient FP.Core.b64 (.fin s c q) (.fin t d r) = if d = 0 then (if c = 0 then .nan else .inf (s != t)) else FP.Core.roundRatio FP.Core.b64 (s != t) c d (q - r) := rfl
    rw [e1, if_neg (by omega)] at this
    exact this
  · show c * 2 ^ (q - r - (FP.Core.b64.qmin - 2000)).toNat * 2 ^ (r - FP.Core.b64.qmin).toNat = c * 2 ^ (q - FP.Core.b64.qmin).toNat * 2 ^ 2000 * uo
    unfold uo
    rw [FP.Core.qmin_b64, Nat.mul_assoc, ← Nat.pow_add, Nat.mul_assoc, Nat.mul_assoc, ← Nat.pow_add, ← Nat.pow_add]
    congr 2
    omega
theorem gp_div {L L' l A B N : Nat} {a b : UInt64} (ha : gp L A a) (hb : gp L' B b) (h0 : 0 < L') (hN : rp N) (h : A * uo ≤ N * L') (hl : rp l) (h' : l * B ≤ L * uo) : gp l N (FP.ddiv a b) := by
  obtain ⟨⟨c, q, ea⟩, ga, la⟩ := ha
  obtain ⟨⟨d, r, eb⟩, gb, lb⟩ := hb
  obtain ⟨h1, h2, h3, P, p0, p1, p2⟩ := div_v ea eb (Nat.lt_of_lt_of_le h0 gb)
  have e0 : (FP.Core.b64.qmin - (FP.Core.b64.qmin - 2000)).toNat = 2000 := by decide
  have hq : FP.Core.b64.qmin - 2000 ≤ q - r := by
    rw [FP.Core.qmin_b64] at h3 ⊢
    omega
  obtain ⟨⟨c2, q2, k1⟩, k2⟩ := rr_le (s := false != false) (A := c) (B := d) (e := q - r) (e0 := FP.Core.b64.qmin - 2000) h1 hN (by decide) hq (by
    rw [e0]
    refine Nat.le_of_mul_le_mul_right (c := P) ?_ p0
    rw [p1, Nat.mul_assoc (N * 2 ^ 2000), p2]
    have k : fz a * uo ≤ N * fz b := Nat.le_trans (Nat.mul_le_mul_right _ la) (Nat.le_trans h (Nat.mul_le_mul_left _ gb))
    calc fz a * 2 ^ 2000 * uo = fz a * uo * 2 ^ 2000 := by rw [Nat.mul_right_comm]
      _ ≤ N * fz b * 2 ^ 2000 := Nat.mul_le_mul_right _ k
      _ = N * 2 ^ 2000 * fz b := by rw [Nat.mul_right_comm])
  have k3 := rr_ge (s := false != false) (A := c) (B := d) (e := q - r) (e0 := FP.Core.b64.qmin - 2000) h1 hl (by decide) hq (by
    rw [e0]
    refine Nat.le_of_mul_le_mul_right (c := P) ?_ p0
    rw [p1, Nat.mul_assoc (l * 2 ^ 2000), p2]
    have k : l * fz b ≤ fz a * uo := Nat.le_trans (Nat.mul_le_mul_left _ lb) (Nat.le_trans h' (Nat.mul_le_mul_right _ ga))
    calc l * 2 ^ 2000 * fz b = l * fz b * 2 ^ 2000 := by rw [Nat.mul_right_comm]
      _ ≤ fz a * uo * 2 ^ 2000 := Nat.mul_le_mul_right _ k
      _ = fz a * 2 ^ 2000 * uo := by rw [Nat.mul_right_comm])
  refine ⟨⟨c2, q2, by rw [h2]; exact k1⟩, ?_, ?_⟩
  · unfold fz
    rw [h2]
    exact k3
  · unfold fz
    rw [h2]
    exact k2
theorem fb_div {L' A B N : Nat} {a b : UInt64} (ha : fb A a) (hb : gp L' B b) (h0 : 0 < L') (hN : rp N) (h : A * uo ≤ N * L') : fb N (FP.ddiv a b) := by
  obtain ⟨⟨s, c, q, ea⟩, la⟩ := ha
  obtain ⟨⟨d, r, eb⟩, gb, lb⟩ := hb
  obtain ⟨h1, h2, h3, P, p0, p1, p2⟩ := div_v ea eb (Nat.lt_of_lt_of_le h0 gb)
  have e0 : (FP.Core.b64.qmin - (FP.Core.b64.qmin - 2000)).toNat = 2000 := by decide
  have hq : FP.Core.b64.qmin - 2000 ≤ q - r := by
    rw [FP.Core.qmin_b64] at h3 ⊢
    omega
  obtain ⟨⟨c2, q2, k1⟩, k2⟩ := rr_le (s := s != false) (A := c) (B := d) (e := q - r) (e0 := FP.Core.b64.qmin - 2000) h1 hN (by decide) hq (by
    rw [e0]
    refine Nat.le_of_mul_le_mul_right (c := P) ?_ p0
    rw [p1, Nat.mul_assoc (N * 2 ^ 2000), p2]
    have k : fz a * uo ≤ N * fz b := Nat.le_trans (Nat.mul_le_mul_right _ la) (Nat.le_trans h (Nat.mul_le_mul_left _ gb))
    calc fz a * 2 ^ 2000 * uo = fz a * uo * 2 ^ 2000 := by rw [Nat.mul_right_comm]
      _ ≤ N * fz b * 2 ^ 2000 := Nat.mul_le_mul_right _ k
      _ = N * 2 ^ 2000 * fz b := by rw [Nat.mul_right_comm])
  refine ⟨⟨_, c2, q2, by rw [h2]; exact k1⟩, ?_⟩
  unfold fz
  rw [h2]
  exact k2
theorem gp_0 : gp 0 0 FP.dconst0 := ⟨⟨0, _, FP.Core.val64_dconst0⟩, Nat.zero_le _, by
  unfold fz
  have e : FP.Core.val64 FP.dconst0 = .fin false 0 FP.Core.b64.qmin := FP.Core.val64_dconst0
  rw [e]
  show 0 * _ ≤ 0
  rw [Nat.zero_mul]
  exact Nat.le_refl 0⟩
/-- a whole number as a double -/
theorem l2d_z {a : Int64} {k : Nat} (h : a.toInt.natAbs = k) (hk : k < 9007199254740992) : fb (k * uo) (FP.l2d a) ∧ fz (FP.l2d a) = k * uo := by
  have hw : FP.Core.Whole a.toInt (FP.Core.val64 (FP.l2d a)) := FP.Core.l2d_whole (a := a) ⟨by omega, by omega⟩
  have h1 := FP.Core.whole_zval FP.Core.good_b64 (FP.Core.val64_fits (FP.l2d a)) hw
  have h2 : (FP.Core.zval FP.Core.b64 (FP.Core.val64 (FP.l2d a))).natAbs = fz (FP.l2d a) := FP.Core.natAbs_signed _ _
  have h3 : fz (FP.l2d a) = k * uo := by
    have e : (2 : Nat) ^ (-FP.Core.b64.qmin).toNat = uo := by
      have : (-FP.Core.b64.qmin).toNat = 1074 := by decide
      rw [this]
      rfl
    rw [← h2, h1, Int.natAbs_mul, Int.natAbs_natCast, h, e]
  obtain ⟨c, q, h4⟩ := FP.Core.l2d_shape a
  exact ⟨⟨⟨_, c, q, h4⟩, Nat.le_of_eq h3⟩, h3⟩
theorem rp_n {k : Nat} (hk : k < 9007199254740992) : rp (k * uo) := by
  have h := l2d_z (a := lN k) (k := k) (by
    rw [pk_lT (by omega)]
    exact Int.natAbs_natCast k) hk
  exact rp_val h.1 h.2
theorem rp_0 : rp 0 := by
  have := rp_n (k := 0) (by decide)
  rw [Nat.zero_mul] at this
  exact this
theorem i2d_n {k : Nat} (hk : k < 2147483648) : gp (k * uo) (k * uo) (FP.i2d (nI k)) := by
  have e : FP.i2d (nI k) = FP.l2d (nI k).toInt64 := FP.Core.i2d_l2d (nI k)
  have e2 : (nI k).toInt64 = lN k := nI_l hk
  have hT : (lN k).toInt = (k : Int) := pk_lT (by omega)
  rw [e, e2]
  obtain ⟨h1, h2⟩ := l2d_z (a := lN k) (k := k) (by rw [hT]; exact Int.natAbs_natCast k) (by omega)
  obtain ⟨c, q, h3⟩ := FP.Core.l2d_shape (lN k)
  rw [hT, decide_eq_false (by omega)] at h3
  exact ⟨⟨c, q, h3⟩, Nat.le_of_eq h2.symm, Nat.le_of_eq h2⟩
theorem gp_1 : gp uo uo FP.dconst1 := by
  have h := i2d_n (k := 1) (by decide)
  rw [Nat.one_mul] at h
  have e : FP.i2d (nI 1) = FP.dconst1 := by decide +kernel
  rw [e] at h
  exact h
/-- greater than nothing -/
theorem gp_cmp {L N : Nat} {x : UInt64} (h : gp L N x) (h0 : 0 < L) : FP.dcmp x FP.dconst0 = some .gt := by
  obtain ⟨⟨c, q, h1⟩, h2, h3⟩ := h
  refine FP.Core.dcmp_gt.mpr ⟨by rw [h1]; exact FP.Core.Datum.noConfusion, by decide +kernel, ?_⟩
  have e1 : FP.Core.zval FP.Core.b64 (FP.Core.val64 FP.dconst0) = 0 := by decide +kernel
  have e2 : FP.Core.zval FP.Core.b64 (FP.Core.val64 x) = (fz x : Int) := by
    unfold FP.Core.zval fz
    rw [h1]
    rfl
  rw [e1, e2]
  omega
end
