/-! ===== levels: both ways of listing them ===== -/
section
theorem fl_skip {p : Nat → Bool} : ∀ (d a : Nat), (∀ k, a ≤ k → k < a + d → p k = false) → fl p (a + d) = fl p a
  | 0, _, _ => rfl
  | d + 1, a, h => by
    show fl p (a + d + 1) = fl p a
    rw [fl, h (a + d) (by omega) (by omega)]
    exact fl_skip d a (fun k h1 h2 => h k h1 (by omega))
/-- an energy, from 0 -/
def eN (E : Nat → Int32) (c : Nat) : Nat := ((E c).toInt + 144).toNat
/-- energies as small grids have them -/
def EB (E : Nat → Int32) (n : Nat) : Prop := n ≤ 16 ∧ ∀ c, c < 2 ^ n → -144 ≤ (E c).toInt ∧ (E c).toInt ≤ 144
variable {E : Nat → Int32} {n : Nat}
theorem eN_ok (h : EB E n) {c : Nat} (hc : c < 2 ^ n) : E c + 144 = nI (eN E c) ∧ E c + 200 = nI (eN E c + 56) ∧ eN E c ≤ 288 ∧ E c = nI (eN E c) - 144 := by
  have h1 := h.2 c hc
  have h2 : eN E c ≤ 288 := by unfold eN; omega
  have e : E c + 144 = nI (eN E c) := by
    apply Int32.toInt_inj.mp
    rw [i32_addT (x := 144) (y := 144) h1 (by decide) (by decide), nI_toInt (by omega)]
    unfold eN
    have : (144 : Int32).toInt = 144 := rfl
    omega
  refine ⟨e, ?_, h2, ?_⟩
  · rw [← nI_add, ← e, show nI 56 = 56 from rfl]
    grind
  · rw [← e]
    grind
/-- the lab's place of a configuration among 289 times 17, the model's among 401 times 33 -/
def yL (E : Nat → Int32) (n c : Nat) : Nat := eN E c * 17 + pop n c
def yM (E : Nat → Int32) (n c : Nat) : Nat := 33 * (eN E c + 56) + (2 * pop n c + 16 - n)
def fM (n k : Nat) : Nat := 33 * (k / 17 + 56) + (2 * (k % 17) + 16 - n)
def cL (E : Nat → Int32) (n k : Nat) : Nat := ct (fun c => decide (yL E n c = k)) (2 ^ n)
def cM (E : Nat → Int32) (n k : Nat) : Nat := ct (fun c => decide (yM E n c = k)) (2 ^ n)
/-- the levels -/
def lv (E : Nat → Int32) (n : Nat) : List Nat := fl (fun k => decide (0 < cL E n k)) 4913
theorem yL_ok (h : EB E n) {c : Nat} (hc : c < 2 ^ n) : yL E n c < 4913 ∧ yL E n c / 17 = eN E c ∧ yL E n c % 17 = pop n c ∧ pop n c ≤ n := by
  have h1 := (eN_ok h hc).2.2.1
  have h2 := pop_le n c
  have h3 := h.1
  unfold yL
  omega
theorem yM_ok (h : EB E n) {c : Nat} (hc : c < 2 ^ n) : yM E n c = fM n (yL E n c) ∧ yM E n c < 13233 := by
  obtain ⟨h1, h2, h3, h4⟩ := yL_ok h hc
  have h5 := (eN_ok h hc).2.2.1
  have h6 := h.1
  unfold fM
  rw [h2, h3]
  unfold yM
  refine ⟨rfl, ?_⟩
  omega
theorem cL_pos (h : EB E n) {k : Nat} (hk : 0 < cL E n k) : ∃ c, c < 2 ^ n ∧ yL E n c = k := by
  obtain ⟨c, h1, h2⟩ := ct_pos.mp hk
  exact ⟨c, h1, of_decide_eq_true h2⟩
theorem cL_mod (h : EB E n) {k : Nat} (hk : 0 < cL E n k) : k % 17 ≤ n ∧ k < 4913 := by
  obtain ⟨c, h1, h2⟩ := cL_pos h hk
  obtain ⟨h3, h4, h5, h6⟩ := yL_ok h h1
  rw [← h2, h5]
  exact ⟨h6, h3⟩
theorem fM_inj {i j : Nat} (h : n ≤ 16) (hi : i % 17 ≤ n) (hj : j % 17 ≤ n) (e : fM n i = fM n j) : i = j := by
  unfold fM at e
  omega
theorem cM_eq (h : EB E n) {k : Nat} (hk : k % 17 ≤ n) : cM E n (fM n k) = cL E n k := by
  refine ct_congr (fun c hc => ?_)
  obtain ⟨h1, h2, h3, h4⟩ := yL_ok h hc
  have h5 := (yM_ok h hc).1
  apply decide_eq_decide.mpr
  constructor
  · intro e
    rw [h5] at e
    exact fM_inj h.1 (by omega) hk e
  · intro e
    rw [h5, e]
theorem lv_map (h : EB E n) : fl (fun k => decide (0 < cM E n k)) 13233 = (lv E n).map (fM n) := by
  have hn := h.1
  refine fl_map (fun i hi hp => ?_) (fun k hk hq => ?_) (fun i j hi hj hpi hpj hij => ?_)
  · have hp := of_decide_eq_true hp
    have h1 := cL_mod h hp
    refine ⟨?_, ?_⟩
    · unfold fM
      omega
    · rw [cM_eq h h1.1]
      exact decide_eq_true hp
  · have hq := of_decide_eq_true hq
    obtain ⟨c, h1, h2⟩ := ct_pos.mp hq
    have h2 := of_decide_eq_true h2
    obtain ⟨h3, h4, h5, h6⟩ := yL_ok h h1
    refine ⟨yL E n c, h3, decide_eq_true (ct_pos.mpr ⟨c, h1, decide_eq_true rfl⟩), ?_⟩
    rw [← (yM_ok h h1).1, h2]
  · have h1 := cL_mod h (of_decide_eq_true hpi)
    have h2 := cL_mod h (of_decide_eq_true hpj)
    unfold fM
    omega
/-- a level's energy, magnetization, number -/
def gE (k : Nat) : Int32 := nI (k / 17) - 144
def gM (n k : Nat) : Int32 := 2 * nI (k % 17) - nI n
def gN (E : Nat → Int32) (n k : Nat) : Int32 := nI (cL E n k)
theorem fM_33 {k : Nat} (hn : n ≤ 16) (h : k % 17 ≤ n) : fM n k / 33 = k / 17 + 56 ∧ fM n k % 33 = 2 * (k % 17) + 16 - n := by
  unfold fM
  omega
theorem hE_ok {k : Nat} (hn : n ≤ 16) (h : k % 17 ≤ n) : nI (fM n k / 33) - 200 = gE k := by
  rw [(fM_33 hn h).1, ← nI_add, show nI 56 = 56 from rfl]
  unfold gE
  grind
theorem hM_ok {k : Nat} (hn : n ≤ 16) (h : k % 17 ≤ n) : nI (fM n k % 33) - 16 = gM n k := by
  have e : nI (2 * (k % 17) + 16 - n) + nI n = 2 * nI (k % 17) + 16 := by
    rw [nI_add, show 2 * (k % 17) + 16 - n + n = 2 * (k % 17) + 16 by omega, ← nI_add, ← pk_mul]
    rfl
  rw [(fM_33 hn h).2]
  unfold gM
  grind
/-- rows that hold what a list's things have -/
def GL (l : List Nat) (a b c w4 w5 w6 : Nat → Int32) : Prop := ∀ i, i < l.length → w4 i = a (l.getD i 0) ∧ w5 i = b (l.getD i 0) ∧ w6 i = c (l.getD i 0)
theorem GL_0 {a b c w4 w5 w6 : Nat → Int32} : GL [] a b c w4 w5 w6 := fun i hi => absurd hi (Nat.not_lt_zero i)
theorem GL_add {l : List Nat} {a b c w4 w5 w6 : Nat → Int32} (h : GL l a b c w4 w5 w6) (k : Nat) : GL (l ++ [k]) a b c (up w4 l.length (a k)) (up w5 l.length (b k)) (up w6 l.length (c k)) := by
  intro i hi
  rw [List.length_append, List.length_singleton] at hi
  rw [up_at, up_at, up_at]
  by_cases e : i = l.length
  · rw [if_pos e, if_pos e, if_pos e, e, getD_app2]
    exact ⟨rfl, rfl, rfl⟩
  · rw [if_neg e, if_neg e, if_neg e, getD_app1 _ _ _ (by omega)]
    exact h i (by omega)
theorem getD_lt {l : List Nat} {i : Nat} (h : i < l.length) : l.getD i 0 = l[i] := by
  rw [List.getD_eq_getElem?_getD, List.getElem?_eq_getElem h]
  rfl
theorem getD_map {l : List Nat} {f : Nat → Nat} {i : Nat} (h : i < l.length) : (l.map f).getD i 0 = f (l.getD i 0) := by
  rw [getD_lt (by rw [List.length_map]; exact h), getD_lt h, List.getElem_map]
theorem lv_get (h : EB E n) {i : Nat} (hi : i < (lv E n).length) : (lv E n).getD i 0 < 4913 ∧ 0 < cL E n ((lv E n).getD i 0) ∧ (lv E n).getD i 0 % 17 ≤ n := by
  have h1 : (lv E n).getD i 0 ∈ lv E n := by
    rw [getD_lt hi]
    exact List.getElem_mem hi
  have h2 := (fl_mem _ _ _).mp h1
  have h3 := of_decide_eq_true h2.2
  exact ⟨h2.1, h3, (cL_mod h h3).1⟩
theorem lv_len (E : Nat → Int32) (n : Nat) : (lv E n).length ≤ 4913 := fl_len _ _
theorem ct_all {p : Nat → Bool} : ∀ {n k : Nat}, k < n → p k = true → 0 < ct p n := fun {n k} h1 h2 => ct_pos.mpr ⟨k, h1, h2⟩
theorem lv_pos (h : EB E n) : 0 < (lv E n).length := by
  have h1 := yL_ok h (Nat.two_pow_pos n)
  have h2 : yL E n 0 ∈ lv E n := (fl_mem _ _ _).mpr ⟨h1.1, decide_eq_true (ct_pos.mpr ⟨0, Nat.two_pow_pos n, decide_eq_true rfl⟩)⟩
  exact List.length_pos_of_mem h2
theorem GL_map (h : EB E n) {w4 w5 w6 : Nat → Int32} (hw : GL (fl (fun k => decide (0 < cM E n k)) 13233) (fun k => nI (k / 33) - 200) (fun k => nI (k % 33) - 16) (fun k => nI (cM E n k)) w4 w5 w6) : GL (lv E n) gE (gM n) (gN E n) w4 w5 w6 := by
  intro i hi
  rw [lv_map h] at hw
  obtain ⟨h1, h2, h3⟩ := hw i (by rw [List.length_map]; exact hi)
  obtain ⟨h4, h5, h6⟩ := lv_get h hi
  rw [getD_map hi] at h1 h2 h3
  refine ⟨h1.trans (hE_ok h.1 h6), h2.trans (hM_ok h.1 h6), h3.trans ?_⟩
  show nI (cM E n (fM n _)) = _
  rw [cM_eq h h6]
  rfl
end
