/-! ===== setup texts: what stays so while they are read ===== -/
section
variable {f : Nat → Nat} {k : Nat} {T T' T2 : pSt}
/-- the token is one -/
def TK (f : Nat → Nat) (k : Nat) (T : pSt) : Prop := qS T ≤ qP T ∧ qP T ≤ k ∧ qK T ≤ 6 ∧ qK T ≠ 5 ∧ (qK T = 2 → qP T ≤ qS T + 4 ∧ ∀ j, qS T ≤ j → j < qP T → pD (f j) = true)
/-- it goes on -/
def PG (T T' : pSt) : Prop := qP T ≤ qP T' ∧ (qK T' ≠ 0 → qP T < qP T')
theorem TK_e (e : T'.1 = T.1) (h : TK f k T) : TK f k T' := by
  obtain ⟨a, b⟩ := T
  obtain ⟨a', b'⟩ := T'
  have e : a' = a := e
  subst e
  exact h
theorem PG_e {A : pSt} (e : T'.1 = T.1) (h : PG A T) : PG A T' := by
  obtain ⟨a, b⟩ := T
  obtain ⟨a', b'⟩ := T'
  have e : a' = a := e
  subst e
  exact h
theorem PG_l {A : pSt} (e : T'.1 = T.1) (h : PG T A) : PG T' A := by
  obtain ⟨a, b⟩ := T
  obtain ⟨a', b'⟩ := T'
  have e : a' = a := e
  subst e
  exact h
theorem PG_tr (h1 : PG T T') (h2 : PG T' T2) : PG T T2 := ⟨Nat.le_trans h1.1 h2.1, fun h => Nat.lt_of_le_of_lt h1.1 (h2.2 h)⟩
theorem pTk_in {p : Nat} (h : p ≤ k) (h2 : pBg f k p < k) : pTk f k p = (pE f k (pBg f k p), pBg f k p, pX f k (pBg f k p)) := if_pos h2
theorem pTk_out {p : Nat} (h2 : ¬ pBg f k p < k) : pTk f k p = (pBg f k p, pBg f k p, 0) := if_neg h2
theorem pX_cs {s : Nat} : (pX f k s = pK (f s) ∧ ¬ (pK (f s) = 2 ∧ s + 4 < pE f k s)) ∨ (pX f k s = 6 ∧ pK (f s) = 2 ∧ s + 4 < pE f k s) := by
  unfold pX
  by_cases h : pK (f s) = 2 ∧ s + 4 < pE f k s
  · rw [if_pos h]; exact Or.inr ⟨rfl, h⟩
  · rw [if_neg h]; exact Or.inl ⟨rfl, h⟩
theorem TK_adv (h : qP T ≤ k) : TK f k (pAdv f k T) ∧ PG T (pAdv f k T) := by
  have b := pBg_le (f := f) h
  by_cases h2 : pBg f k (qP T) < k
  · have e := pE_le (f := f) h2
    have hn := pBg_no h h2
    have hl := pK_le (f (pBg f k (qP T)))
    have eq : (pAdv f k T).1 = (pE f k (pBg f k (qP T)), pBg f k (qP T), pX f k (pBg f k (qP T))) := pTk_in h h2
    have e1 : qP (pAdv f k T) = pE f k (pBg f k (qP T)) := congrArg (fun t => t.1) eq
    have e2 : qS (pAdv f k T) = pBg f k (qP T) := congrArg (fun t => t.2.1) eq
    have e3 : qK (pAdv f k T) = pX f k (pBg f k (qP T)) := congrArg (fun t => t.2.2) eq
    unfold TK PG
    rw [e1, e2, e3]
    refine ⟨⟨by omega, e.2, ?_, ?_, fun h3 => ?_⟩, by omega, fun _ => by omega⟩
    · rcases pX_cs (f := f) (k := k) (s := pBg f k (qP T)) with q | q <;> rw [q.1] <;> omega
    · rcases pX_cs (f := f) (k := k) (s := pBg f k (qP T)) with q | q <;> rw [q.1]
      · exact hn
      · decide
    · rcases pX_cs (f := f) (k := k) (s := pBg f k (qP T)) with q | q
      · rw [q.1] at h3
        refine ⟨Nat.le_of_not_lt (fun h9 => q.2 ⟨h3, h9⟩), fun j h4 h5 => ?_⟩
        unfold pE at h5
        rw [if_neg (by rw [h3]; decide), if_pos h3] at h5
        exact pR_all pD f _ _ j h4 h5
      · rw [q.1] at h3
        cases h3
  · have eq : (pAdv f k T).1 = (pBg f k (qP T), pBg f k (qP T), 0) := pTk_out h2
    have e1 : qP (pAdv f k T) = pBg f k (qP T) := congrArg (fun t => t.1) eq
    have e2 : qS (pAdv f k T) = pBg f k (qP T) := congrArg (fun t => t.2.1) eq
    have e3 : qK (pAdv f k T) = 0 := congrArg (fun t => t.2.2) eq
    unfold TK PG
    rw [e1, e2, e3]
    exact ⟨⟨Nat.le_refl _, b.2, by decide, by decide, fun h => by cases h⟩, b.1, fun h => absurd rfl h⟩
/-- a number's value fits -/
theorem qVl_lt (h : TK f k T) (h2 : qK T = 2) : qVl f T < 10000 := by
  have h3 := h.2.2.2.2 h2
  have h4 := pV_lt (f := f) (s := qS T) (j := qP T - qS T) (fun i hi => h3.2 _ (by omega) (by omega))
  have h5 : 10 ^ (qP T - qS T) ≤ 10 ^ 4 := Nat.pow_le_pow_right (by decide) (by omega)
  unfold qVl
  omega
/-- what reading a number, a word leaves -/
def pWl {α : Type} (f : Nat → Nat) (k : Nat) (o : pO α) (T : pSt) : Prop := o.1 = 0 → TK f k o.2.2 ∧ o.2.2.2 = T.2 ∧ PG T o.2.2
theorem pNum_ok {lo hi : Nat} (h : TK f k T) : pWl f k (pNum f k lo hi T) T ∧ ((pNum f k lo hi T).1 = 0 → lo ≤ (pNum f k lo hi T).2.1 ∧ (pNum f k lo hi T).2.1 ≤ hi) := by
  unfold pWl pNum
  by_cases h1 : ¬ qK T = 2
  · rw [if_pos h1]
    exact ⟨fun e => (by cases e), fun e => (by cases e)⟩
  · rw [if_neg h1]
    by_cases h2 : qVl f T < lo ∨ hi < qVl f T
    · rw [if_pos h2]
      exact ⟨fun e => (by cases e), fun e => (by cases e)⟩
    · rw [if_neg h2]
      have a := TK_adv (f := f) h.2.1
      exact ⟨fun _ => ⟨a.1, rfl, a.2⟩, fun _ => by show lo ≤ qVl f T ∧ qVl f T ≤ hi; omega⟩
theorem pCh_ok {a b c : Nat} (h : TK f k T) : pWl f k (pCh f k a b c T) T ∧ ((pCh f k a b c T).1 = 0 → (pCh f k a b c T).2.1 < 3) := by
  have a := TK_adv (f := f) h.2.1
  unfold pWl pCh
  split
  · exact ⟨fun _ => ⟨a.1, rfl, a.2⟩, fun _ => (by decide : (0 : Nat) < 3)⟩
  · split
    · exact ⟨fun _ => ⟨a.1, rfl, a.2⟩, fun _ => (by decide : (1 : Nat) < 3)⟩
    · split
      · exact ⟨fun _ => ⟨a.1, rfl, a.2⟩, fun _ => (by decide : (2 : Nat) < 3)⟩
      · exact ⟨fun e => (by cases e), fun e => (by cases e)⟩
theorem TK_pM (h : TK f k T) : TK f k (pM f k T) ∧ (pM f k T).2 = T.2 ∧ qP T ≤ qP (pM f k T) := by
  unfold pM
  split
  · have a := TK_adv (f := f) h.2.1
    exact ⟨a.1, rfl, a.2.1⟩
  · exact ⟨h, rfl, Nat.le_refl _⟩
theorem sg3 : ∀ v, v ≤ 3 → (-3 ≤ (nI v).toInt ∧ (nI v).toInt ≤ 3) ∧ -3 ≤ (- nI v).toInt ∧ (- nI v).toInt ≤ 3 := by decide +kernel
def i33 (v : Int32) : Prop := -3 ≤ v.toInt ∧ v.toInt ≤ 3
theorem pSig_ok (h : TK f k T) : pWl f k (pSig f k T) T ∧ ((pSig f k T).1 = 0 → i33 (pSig f k T).2.1) := by
  obtain ⟨h1, h2, h3⟩ := TK_pM h
  obtain ⟨n1, n2⟩ := pNum_ok (lo := 0) (hi := 3) h1
  refine ⟨fun e => ?_, fun e => ?_⟩
  · obtain ⟨m1, m2, m3⟩ := n1 e
    exact ⟨m1, m2.trans h2, Nat.le_trans h3 m3.1, fun q => Nat.lt_of_le_of_lt h3 (m3.2 q)⟩
  · have := sg3 _ (n2 e).2
    show i33 (if qK T = 3 then _ else _)
    split
    · exact this.2
    · exact this.1
theorem pBd_0 {α : Type} {o : pO α} {g : α → pSt → Nat × pSt} (h : (pBd o g).1 = 0) : o.1 = 0 ∧ pBd o g = g o.2.1 o.2.2 := by
  unfold pBd at h ⊢
  by_cases e : o.1 = 0
  · rw [if_pos e]; exact ⟨e, rfl⟩
  · rw [if_neg e] at h; exact absurd h e
/-- a bond of the grid -/
def GB (u : Nat → Nat) (a : Nat) (d : Bool) : Prop := a < u 0 * u 1 ∧ (if d = true then bD (u 0) (u 2) (a / u 1) else bR (u 1) (u 2) (a % u 1)) = true
/-- the grid -/
def TG (T : pSt) : Prop := qN T < 512 ∧ qB T ≤ 12 ∧ 2 ≤ qU T 0 ∧ qU T 0 ≤ 8 ∧ 2 ≤ qU T 1 ∧ qU T 1 ≤ 8 ∧ qU T 2 < 3
/-- all -/
def TF (T : pSt) : Prop := TG T ∧ (0 < qU T 3 ∧ qU T 3 < qU T 4 ∧ qU T 4 ≤ 99) ∧ i33 (qF T) ∧ i33 (qG T) ∧ qU T 7 < 3 ∧ qU T 8 ≤ 9999 ∧ qU T 9 < 3 ∧ ∀ j, j < qB T → GB (qU T) (qA T j) (qD T j) ∧ i33 (qV T j)
theorem TF_e (e : T'.2 = T.2) (h : TF T) : TF T' := by
  obtain ⟨a, b⟩ := T
  obtain ⟨a', b'⟩ := T'
  have e : b' = b := e
  subst e
  exact h
theorem TF_pe {i v : Nat} (e : T'.2 = T.2) (h : TF (pU T i v)) : TF (pU T' i v) := by
  obtain ⟨a, b⟩ := T
  obtain ⟨a', b'⟩ := T'
  have e : b' = b := e
  subst e
  exact h
theorem TG_e (e : T'.2 = T.2) (h : TG T) : TG T' := by
  obtain ⟨a, b⟩ := T
  obtain ⟨a', b'⟩ := T'
  have e : b' = b := e
  subst e
  exact h
theorem pU_q (T : pSt) (i v : Nat) : qU (pU T i v) = upn (qU T) i v ∧ qN (pU T i v) = qN T ∧ qB (pU T i v) = qB T ∧ qF (pU T i v) = qF T ∧ qG (pU T i v) = qG T ∧ qA (pU T i v) = qA T ∧ qD (pU T i v) = qD T ∧ qV (pU T i v) = qV T := ⟨rfl, rfl, rfl, rfl, rfl, rfl, rfl, rfl⟩
theorem upn_ne {u : Nat → Nat} {i v j : Nat} (h : j ≠ i) : upn u i v j = u j := if_neg h
theorem upn_eq {u : Nat → Nat} {i v : Nat} : upn u i v i = v := if_pos rfl
theorem TF_sz {v w : Nat} (h : TF T) (hb : qB T = 0) (v1 : 2 ≤ v ∧ v ≤ 8) (w1 : 2 ≤ w ∧ w ≤ 8) : TF (pU (pU T 0 v) 1 w) := by
  obtain ⟨⟨a1, a2, a3, a4, a5, a6, a7⟩, ⟨b1, b2, b3⟩, c1, c2, c3, c4, c5, c6⟩ := h
  exact ⟨⟨a1, a2, v1.1, v1.2, w1.1, w1.2, a7⟩, ⟨b1, b2, b3⟩, c1, c2, c3, c4, c5, fun j hj => absurd (show j < qB T from hj) (by omega)⟩
theorem TG_u0 {v : Nat} (h : TG T) (v1 : 2 ≤ v ∧ v ≤ 8) : TG (pU T 0 v) := by
  obtain ⟨a1, a2, a3, a4, a5, a6, a7⟩ := h
  exact ⟨a1, a2, v1.1, v1.2, a5, a6, a7⟩
theorem TG_u3 {v : Nat} (h : TG T) : TG (pU T 3 v) := by
  obtain ⟨a1, a2, a3, a4, a5, a6, a7⟩ := h
  exact ⟨a1, a2, a3, a4, a5, a6, a7⟩
theorem TF_ed {v : Nat} (h : TF T) (hb : qB T = 0) (v1 : v < 3) : TF (pU T 2 v) := by
  obtain ⟨⟨a1, a2, a3, a4, a5, a6, a7⟩, ⟨b1, b2, b3⟩, c1, c2, c3, c4, c5, c6⟩ := h
  exact ⟨⟨a1, a2, a3, a4, a5, a6, v1⟩, ⟨b1, b2, b3⟩, c1, c2, c3, c4, c5, fun j hj => absurd (show j < qB T from hj) (by omega)⟩
theorem TF_ra {v w : Nat} (h : TF T) (v1 : 1 ≤ v) (w1 : v + 1 ≤ w ∧ w ≤ 99) : TF (pU (pU T 3 v) 4 w) := by
  obtain ⟨⟨a1, a2, a3, a4, a5, a6, a7⟩, ⟨b1, b2, b3⟩, c1, c2, c3, c4, c5, c6⟩ := h
  exact ⟨⟨a1, a2, a3, a4, a5, a6, a7⟩, ⟨v1, w1.1, w1.2⟩, c1, c2, c3, c4, c5, c6⟩
theorem TF_pF {v : Int32} (h : TF T) (v1 : i33 v) : TF (pF T v) := by
  obtain ⟨⟨a1, a2, a3, a4, a5, a6, a7⟩, ⟨b1, b2, b3⟩, c1, c2, c3, c4, c5, c6⟩ := h
  exact ⟨⟨a1, a2, a3, a4, a5, a6, a7⟩, ⟨b1, b2, b3⟩, v1, c2, c3, c4, c5, c6⟩
theorem TF_pG {v : Int32} (h : TF T) (v1 : i33 v) : TF (pG T v) := by
  obtain ⟨⟨a1, a2, a3, a4, a5, a6, a7⟩, ⟨b1, b2, b3⟩, c1, c2, c3, c4, c5, c6⟩ := h
  exact ⟨⟨a1, a2, a3, a4, a5, a6, a7⟩, ⟨b1, b2, b3⟩, c1, v1, c3, c4, c5, c6⟩
theorem TF_u7 {v : Nat} (h : TF T) (v1 : v < 3) : TF (pU T 7 v) := by
  obtain ⟨⟨a1, a2, a3, a4, a5, a6, a7⟩, ⟨b1, b2, b3⟩, c1, c2, c3, c4, c5, c6⟩ := h
  exact ⟨⟨a1, a2, a3, a4, a5, a6, a7⟩, ⟨b1, b2, b3⟩, c1, c2, v1, c4, c5, c6⟩
theorem TF_u8 {v : Nat} (h : TF T) (v1 : v ≤ 9999) : TF (pU T 8 v) := by
  obtain ⟨⟨a1, a2, a3, a4, a5, a6, a7⟩, ⟨b1, b2, b3⟩, c1, c2, c3, c4, c5, c6⟩ := h
  exact ⟨⟨a1, a2, a3, a4, a5, a6, a7⟩, ⟨b1, b2, b3⟩, c1, c2, c3, v1, c5, c6⟩
theorem TF_u9 {v : Nat} (h : TF T) (v1 : v < 3) : TF (pU T 9 v) := by
  obtain ⟨⟨a1, a2, a3, a4, a5, a6, a7⟩, ⟨b1, b2, b3⟩, c1, c2, c3, c4, c5, c6⟩ := h
  exact ⟨⟨a1, a2, a3, a4, a5, a6, a7⟩, ⟨b1, b2, b3⟩, c1, c2, c3, c4, v1, c6⟩
theorem TF_pN {n : Nat} (h : TF T) (v1 : n < 512) : TF (pN T n) := by
  obtain ⟨⟨a1, a2, a3, a4, a5, a6, a7⟩, ⟨b1, b2, b3⟩, c1, c2, c3, c4, c5, c6⟩ := h
  exact ⟨⟨v1, a2, a3, a4, a5, a6, a7⟩, ⟨b1, b2, b3⟩, c1, c2, c3, c4, c5, c6⟩
theorem TF_pAb {a : Nat} {d : Bool} {v : Int32} (h : TF T) (hb : qB T < 12) (ha : GB (qU T) a d) (hv : i33 v) : TF (pAb T a d v) := by
  obtain ⟨⟨a1, a2, a3, a4, a5, a6, a7⟩, ⟨b1, b2, b3⟩, c1, c2, c3, c4, c5, c6⟩ := h
  refine ⟨⟨a1, hb, a3, a4, a5, a6, a7⟩, ⟨b1, b2, b3⟩, c1, c2, c3, c4, c5, fun j hj => ?_⟩
  have hj : j < qB T + 1 := hj
  show GB (qU T) (upn (qA T) (qB T) a j) (if j = qB T then d else qD T j) ∧ i33 (if j = qB T then v else qV T j)
  unfold upn
  by_cases e : j = qB T
  · rw [if_pos e, if_pos e, if_pos e]; exact ⟨ha, hv⟩
  · rw [if_neg e, if_neg e, if_neg e]; exact c6 j (by omega)
/-- a statement's body leaves all well -/
def pGd (f : Nat → Nat) (k : Nat) (T : pSt) (o : Nat × pSt) : Prop := o.1 = 0 → TK f k o.2 ∧ PG T o.2 ∧ TF o.2
theorem GB_at {u : Nat → Nat} {y x : Nat} {d : Bool} (hy : y < u 0) (hx : x < u 1) (h : (if d = true then bD (u 0) (u 2) y else bR (u 1) (u 2) x) = true) : GB u (y * u 1 + x) d := by
  have e1 : (y * u 1 + x) / u 1 = y := by
    rw [Nat.mul_comm, Nat.mul_add_div (by omega), Nat.div_eq_of_lt hx, Nat.add_zero]
  have e2 : (y * u 1 + x) % u 1 = x := by
    rw [Nat.mul_comm, Nat.mul_add_mod, Nat.mod_eq_of_lt hx]
  refine ⟨?_, by rw [e1, e2]; exact h⟩
  have h2 : (y + 1) * u 1 ≤ u 0 * u 1 := Nat.mul_le_mul_right _ hy
  rw [Nat.succ_mul] at h2
  omega
theorem pSize_ok (hk : TK f k T) (h : TF T) (hb : qB T = 0) : pGd f k T (pSize f k T) := by
  intro e
  unfold pSize at e ⊢
  obtain ⟨e1, q1⟩ := pBd_0 e
  rw [q1] at e ⊢
  obtain ⟨n1, n2⟩ := pNum_ok (lo := 2) (hi := 8) hk
  obtain ⟨m1, m2, m3⟩ := n1 e1
  obtain ⟨e2, q2⟩ := pBd_0 e
  rw [q2]
  obtain ⟨n3, n4⟩ := pNum_ok (lo := 2) (hi := 8) (TK_e (T' := pU (pNum f k 2 8 T).2.2 0 (pNum f k 2 8 T).2.1) rfl m1)
  obtain ⟨m4, m5, m6⟩ := n3 e2
  refine ⟨TK_e rfl m4, PG_e rfl (PG_tr m3 (PG_l rfl m6)), ?_⟩
  have h5 := TF_sz (TF_e m2 h) ((congrArg (fun t : Nat × (Nat → Nat) × Int32 × Int32 × Nat × (Nat → Nat) × (Nat → Bool) × (Nat → Int32) => t.2.2.2.2.1) m2).trans hb) (n2 e1) (n4 e2)
  exact TF_pe m5 h5
theorem pEdge_ok (hk : TK f k T) (h : TF T) (hb : qB T = 0) : pGd f k T (pEdge f k T) := by
  intro e
  unfold pEdge at e ⊢
  obtain ⟨e1, q1⟩ := pBd_0 e
  rw [q1]
  obtain ⟨n1, n2⟩ := pCh_ok (a := 9) (b := 10) (c := 11) hk
  obtain ⟨m1, m2, m3⟩ := n1 e1
  exact ⟨TK_e rfl m1, PG_e rfl m3, TF_ed (TF_e m2 h) ((congrArg (fun t : Nat × (Nat → Nat) × Int32 × Int32 × Nat × (Nat → Nat) × (Nat → Bool) × (Nat → Int32) => t.2.2.2.2.1) m2).trans hb) (n2 e1)⟩
theorem pRat_ok (hk : TK f k T) (h : TF T) : pGd f k T (pRat f k T) := by
  intro e
  unfold pRat at e ⊢
  obtain ⟨e1, q1⟩ := pBd_0 e
  rw [q1] at e ⊢
  obtain ⟨n1, n2⟩ := pNum_ok (lo := 1) (hi := 98) hk
  obtain ⟨m1, m2, m3⟩ := n1 e1
  obtain ⟨e2, q2⟩ := pBd_0 e
  rw [q2]
  obtain ⟨n3, n4⟩ := pNum_ok (lo := (pNum f k 1 98 T).2.1 + 1) (hi := 99) (TK_e (T' := pU (pNum f k 1 98 T).2.2 3 (pNum f k 1 98 T).2.1) rfl m1)
  obtain ⟨m4, m5, m6⟩ := n3 e2
  refine ⟨TK_e rfl m4, PG_e rfl (PG_tr m3 (PG_l rfl m6)), ?_⟩
  have h5 := TF_ra (TF_e m2 h) (n2 e1).1 (n4 e2)
  exact TF_pe m5 h5
theorem pStr_ok (hk : TK f k T) (h : TF T) : pGd f k T (pStr f k T) := by
  intro e
  unfold pStr at e ⊢
  obtain ⟨e1, q1⟩ := pBd_0 e
  rw [q1]
  obtain ⟨n1, n2⟩ := pSig_ok hk
  obtain ⟨m1, m2, m3⟩ := n1 e1
  exact ⟨TK_e rfl m1, PG_e rfl m3, TF_pF (TF_e m2 h) (n2 e1)⟩
theorem pFld_ok (hk : TK f k T) (h : TF T) : pGd f k T (pFld f k T) := by
  intro e
  unfold pFld at e ⊢
  obtain ⟨e1, q1⟩ := pBd_0 e
  rw [q1]
  obtain ⟨n1, n2⟩ := pSig_ok hk
  obtain ⟨m1, m2, m3⟩ := n1 e1
  exact ⟨TK_e rfl m1, PG_e rfl m3, TF_pG (TF_e m2 h) (n2 e1)⟩
theorem pRul_ok (hk : TK f k T) (h : TF T) : pGd f k T (pRul f k T) := by
  intro e
  unfold pRul at e ⊢
  obtain ⟨e1, q1⟩ := pBd_0 e
  rw [q1]
  obtain ⟨n1, n2⟩ := pCh_ok (a := 12) (b := 13) (c := 14) hk
  obtain ⟨m1, m2, m3⟩ := n1 e1
  exact ⟨TK_e rfl m1, PG_e rfl m3, TF_u7 (TF_e m2 h) (n2 e1)⟩
theorem pSd_ok (hk : TK f k T) (h : TF T) : pGd f k T (pSd f k T) := by
  intro e
  unfold pSd at e ⊢
  obtain ⟨e1, q1⟩ := pBd_0 e
  rw [q1]
  obtain ⟨n1, n2⟩ := pNum_ok (lo := 0) (hi := 9999) hk
  obtain ⟨m1, m2, m3⟩ := n1 e1
  exact ⟨TK_e rfl m1, PG_e rfl m3, TF_u8 (TF_e m2 h) (n2 e1).2⟩
theorem pSrt_ok (hk : TK f k T) (h : TF T) : pGd f k T (pSrt f k T) := by
  intro e
  unfold pSrt at e ⊢
  obtain ⟨e1, q1⟩ := pBd_0 e
  rw [q1]
  obtain ⟨n1, n2⟩ := pCh_ok (a := 15) (b := 16) (c := 17) hk
  obtain ⟨m1, m2, m3⟩ := n1 e1
  exact ⟨TK_e rfl m1, PG_e rfl m3, TF_u9 (TF_e m2 h) (n2 e1)⟩
theorem pDir_ok {y x : Nat} (hk : TK f k T) (h : TF T) (hb : qB T < 12) (hy : y < qU T 0) (hx : x < qU T 1) : pGd f k T (pDir f k y x T) := by
  intro e
  unfold pDir at e ⊢
  by_cases c1 : ¬ wQ f (xTb 16) T = true ∧ ¬ wQ f (xTb 18) T = true
  · rw [if_pos c1] at e; cases e
  · rw [if_neg c1] at e ⊢
    by_cases c2 : ¬ pEx T y x (wQ f (xTb 16) T) = true
    · rw [if_pos c2] at e; cases e
    · rw [if_neg c2] at e ⊢
      have c3 : pEx T y x (wQ f (xTb 16) T) = true := Decidable.not_not.mp c2
      obtain ⟨e1, q1⟩ := pBd_0 e
      rw [q1]
      obtain ⟨a1, a2⟩ := TK_adv (f := f) hk.2.1
      obtain ⟨n1, n2⟩ := pSig_ok a1
      obtain ⟨m1, m2, m3⟩ := n1 e1
      have hU : qU (pSig f k (pAdv f k T)).2.2 = qU T := congrArg (fun t : Nat × (Nat → Nat) × Int32 × Int32 × Nat × (Nat → Nat) × (Nat → Bool) × (Nat → Int32) => t.2.1) m2
      have hB : qB (pSig f k (pAdv f k T)).2.2 = qB T := congrArg (fun t : Nat × (Nat → Nat) × Int32 × Int32 × Nat × (Nat → Nat) × (Nat → Bool) × (Nat → Int32) => t.2.2.2.2.1) m2
      refine ⟨TK_e rfl m1, PG_e rfl (PG_tr a2 m3), TF_pAb (TF_e (m2.trans rfl) h) (by rw [hB]; exact hb) ?_ (n2 e1)⟩
      rw [hU]
      exact GB_at hy hx c3
theorem pBond_ok (hk : TK f k T) (h : TF T) (hb : qB T < 12) : pGd f k T (pBond f k T) := by
  intro e
  unfold pBond at e ⊢
  obtain ⟨e1, q1⟩ := pBd_0 e
  rw [q1] at e ⊢
  obtain ⟨n1, n2⟩ := pNum_ok (lo := 0) (hi := qU T 0 - 1) hk
  obtain ⟨m1, m2, m3⟩ := n1 e1
  obtain ⟨e2, q2⟩ := pBd_0 e
  rw [q2] at e ⊢
  obtain ⟨n3, n4⟩ := pNum_ok (lo := 0) (hi := qU (pNum f k 0 (qU T 0 - 1) T).2.2 1 - 1) m1
  obtain ⟨m4, m5, m6⟩ := n3 e2
  have h1 := TF_e m2 h
  have h2 := TF_e m5 h1
  have b1 : qB (pNum f k 0 (qU (pNum f k 0 (qU T 0 - 1) T).2.2 1 - 1) (pNum f k 0 (qU T 0 - 1) T).2.2).2.2 = qB T := congrArg (fun t : Nat × (Nat → Nat) × Int32 × Int32 × Nat × (Nat → Nat) × (Nat → Bool) × (Nat → Int32) => t.2.2.2.2.1) (m5.trans m2)
  have u0 : qU (pNum f k 0 (qU T 0 - 1) T).2.2 = qU T := congrArg (fun t : Nat × (Nat → Nat) × Int32 × Int32 × Nat × (Nat → Nat) × (Nat → Bool) × (Nat → Int32) => t.2.1) m2
  have u1 : qU (pNum f k 0 (qU (pNum f k 0 (qU T 0 - 1) T).2.2 1 - 1) (pNum f k 0 (qU T 0 - 1) T).2.2).2.2 = qU T := congrArg (fun t : Nat × (Nat → Nat) × Int32 × Int32 × Nat × (Nat → Nat) × (Nat → Bool) × (Nat → Int32) => t.2.1) (m5.trans m2)
  have hg := h.1
  unfold TG at hg
  have y2 := (n2 e1).2
  have x2 := (n4 e2).2
  rw [u0] at x2
  have hd := pDir_ok (y := (pNum f k 0 (qU T 0 - 1) T).2.1) (x := (pNum f k 0 (qU (pNum f k 0 (qU T 0 - 1) T).2.2 1 - 1) (pNum f k 0 (qU T 0 - 1) T).2.2).2.1) m4 h2 (by rw [b1]; exact hb) (by rw [u1]; omega) (by rw [u1, u0]; omega) e
  exact ⟨hd.1, PG_tr m3 (PG_tr m6 hd.2.1), hd.2.2⟩
theorem pWh_le (f : Nat → Nat) (T : pSt) : pWh f T ≤ 9 := by
  unfold pWh
  repeat (split; · decide)
  decide
theorem or9 : ∀ n, n < 512 → ∀ s, s < 9 → n ||| 2 ^ s < 512 := fun n hn s hs => Nat.or_lt_two_pow (n := 9) hn (Nat.pow_lt_pow_right (by decide) hs)
theorem pAdm_0 {s : Nat} (h : pAdm T s = 0) : s ≠ 9 ∧ (s = 8 → qB T < 12) ∧ (s = 0 ∨ s = 1 → qB T = 0) := by
  unfold pAdm at h
  by_cases h9 : s = 9
  · rw [if_pos h9] at h; cases h
  · rw [if_neg h9] at h
    by_cases c : (if s = 8 then decide (12 ≤ qB T) else (qN T).testBit s) = true ∨ ((s = 0 ∨ s = 1) ∧ 0 < qB T)
    · rw [if_pos c] at h; cases h
    · refine ⟨h9, fun e => Nat.lt_of_not_le (fun q => c (Or.inl ?_)), fun e => Nat.le_zero.mp (Nat.le_of_not_lt (fun q => c (Or.inr ⟨e, q⟩)))⟩
      rw [if_pos e]
      exact decide_eq_true q
theorem pBody_ok {s : Nat} (hk : TK f k T) (h : TF T) (h8 : s = 8 → qB T < 12) (h01 : s = 0 ∨ s = 1 → qB T = 0) (h9 : s < 9) : pGd f k T (pBody f k s T) := by
  unfold pBody
  by_cases e0 : s = 0
  · rw [if_pos e0]; exact pSize_ok hk h (h01 (Or.inl e0))
  rw [if_neg e0]
  by_cases e1 : s = 1
  · rw [if_pos e1]; exact pEdge_ok hk h (h01 (Or.inr e1))
  rw [if_neg e1]
  by_cases e2 : s = 2
  · rw [if_pos e2]; exact pRat_ok hk h
  rw [if_neg e2]
  by_cases e3 : s = 3
  · rw [if_pos e3]; exact pStr_ok hk h
  rw [if_neg e3]
  by_cases e4 : s = 4
  · rw [if_pos e4]; exact pFld_ok hk h
  rw [if_neg e4]
  by_cases e5 : s = 5
  · rw [if_pos e5]; exact pRul_ok hk h
  rw [if_neg e5]
  by_cases e6 : s = 6
  · rw [if_pos e6]; exact pSd_ok hk h
  rw [if_neg e6]
  by_cases e7 : s = 7
  · rw [if_pos e7]; exact pSrt_ok hk h
  rw [if_neg e7]
  exact pBond_ok hk h (h8 (by omega))
theorem pStm_ok (hk : TK f k T) (h : TF T) : pGd f k T (pStm f k T) := by
  intro e
  unfold pStm at e ⊢
  by_cases c : pAdm T (pWh f T) = 0
  · rw [if_pos c] at e ⊢
    obtain ⟨q1, q2, q3⟩ := pAdm_0 c
    have q4 := pWh_le f T
    have hN := h.1.1
    have h1 : TF (pN T (qN T ||| 2 ^ pWh f T)) := TF_pN h (or9 _ hN _ (by omega))
    obtain ⟨a1, a2⟩ := TK_adv (f := f) (T := pN T (qN T ||| 2 ^ pWh f T)) (k := k) hk.2.1
    have hb := pBody_ok (s := pWh f T) a1 (TF_e (T' := pAdv f k (pN T (qN T ||| 2 ^ pWh f T))) rfl h1) q2 q3 (by omega) e
    exact ⟨hb.1, PG_tr (PG_l rfl a2) hb.2.1, hb.2.2⟩
  · rw [if_neg c] at e
    exact absurd e c
theorem pLab_ok : ∀ (j : Nat) (T : pSt), TK f k T → TF T → (pLab f k j T).1 = 0 → TF (pLab f k j T).2
  | 0, T, _, h, _ => h
  | j + 1, T, hk, h, e => by
    rw [pLab] at e ⊢
    by_cases c0 : qK T = 0
    · rw [if_pos c0]; exact h
    · rw [if_neg c0] at e ⊢
      by_cases c1 : (pStm f k T).1 = 0
      · rw [if_pos c1] at e ⊢
        have hs := pStm_ok hk h c1
        by_cases c2 : qK (pStm f k T).2 = 4
        · rw [if_pos c2] at e ⊢
          exact pLab_ok j _ (TK_adv hs.1.2.1).1 (TF_e rfl hs.2.2) e
        · rw [if_neg c2] at e; cases e
      · rw [if_neg c1] at e
        exact absurd e c1
theorem TF_00 : TF p00 := ⟨⟨by decide, by decide, by decide, by decide, by decide, by decide, by decide⟩, ⟨by decide, by decide, by decide⟩, ⟨by decide, by decide⟩, ⟨by decide, by decide⟩, by decide, by decide, by decide, fun j hj => absurd (show j < 0 from hj) (Nat.not_lt_zero j)⟩
end
