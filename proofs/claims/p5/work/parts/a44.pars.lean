/-! ===== setup texts, as both sides read them ===== -/
section
/-- bytes: blanks, letters, digits, kinds -/
def pB (v : Nat) : Bool := decide (v = 32) || decide (v = 10)
def pL (v : Nat) : Bool := decide (97 ≤ v) && decide (v ≤ 122)
def pD (v : Nat) : Bool := decide (48 ≤ v) && decide (v ≤ 57)
def pK (v : Nat) : Nat := if pL v = true then 1 else if pD v = true then 2 else if pB v = true then 5 else if v = 45 then 3 else if v = 59 then 4 else 6
/-- from p on, over at most j bytes, as long as they are such -/
def pR (P : Nat → Bool) (f : Nat → Nat) : Nat → Nat → Nat
  | 0, p => p
  | j + 1, p => if P (f p) = true then pR P f j (p + 1) else p
theorem pR_le (P : Nat → Bool) (f : Nat → Nat) : ∀ j p, p ≤ pR P f j p ∧ pR P f j p ≤ p + j
  | 0, p => ⟨Nat.le_refl _, Nat.le_refl _⟩
  | j + 1, p => by
    have h := pR_le P f j (p + 1)
    rw [pR]
    split <;> omega
theorem pR_all (P : Nat → Bool) (f : Nat → Nat) : ∀ j p i, p ≤ i → i < pR P f j p → P (f i) = true
  | 0, p, i, h1, h2 => absurd h2 (by rw [pR]; omega)
  | j + 1, p, i, h1, h2 => by
    rw [pR] at h2
    by_cases h : P (f p) = true
    · rw [if_pos h] at h2
      by_cases e : i = p
      · rw [e]; exact h
      · exact pR_all P f j (p + 1) i (by omega) h2
    · rw [if_neg h] at h2
      omega
theorem pR_end (P : Nat → Bool) (f : Nat → Nat) : ∀ j p, pR P f j p < p + j → ¬ P (f (pR P f j p)) = true
  | 0, p, h => absurd h (by rw [pR]; omega)
  | j + 1, p, h => by
    by_cases e : P (f p) = true
    · rw [pR, if_pos e] at h ⊢
      exact pR_end P f j (p + 1) (by omega)
    · rw [pR, if_neg e]
      exact e
theorem pR_up {P : Nat → Bool} {f : Nat → Nat} {p k : Nat} (hp : p < k) (h : P (f p) = true) : pR P f (k - p) p = pR P f (k - (p + 1)) (p + 1) := by
  rw [show k - p = (k - (p + 1)) + 1 by omega, pR, if_pos h]
theorem pR_no {P : Nat → Bool} {f : Nat → Nat} {p k : Nat} (h : ¬ P (f p) = true) : pR P f (k - p) p = p := by
  cases k - p with
  | zero => rfl
  | succ j => rw [pR, if_neg h]
theorem pR_k {P : Nat → Bool} {f : Nat → Nat} {p k : Nat} (h : k ≤ p) : pR P f (k - p) p = p := by
  rw [show k - p = 0 by omega, pR]
/-- where the next token begins, where it ends, its kind -/
def pBg (f : Nat → Nat) (k p : Nat) : Nat := pR pB f (k - p) p
def pE (f : Nat → Nat) (k s : Nat) : Nat := if pK (f s) = 1 then pR pL f (k - s) s else if pK (f s) = 2 then pR pD f (k - s) s else s + 1
def pX (f : Nat → Nat) (k s : Nat) : Nat := if pK (f s) = 2 ∧ s + 4 < pE f k s then 6 else pK (f s)
def pTk (f : Nat → Nat) (k p : Nat) : Nat × Nat × Nat := if pBg f k p < k then (pE f k (pBg f k p), pBg f k p, pX f k (pBg f k p)) else (pBg f k p, pBg f k p, 0)
theorem pK_1 {v : Nat} : pK v = 1 ↔ pL v = true := by
  unfold pK
  by_cases h : pL v = true
  · rw [if_pos h]; exact ⟨fun _ => h, fun _ => rfl⟩
  · rw [if_neg h]
    refine ⟨fun e => ?_, fun e => absurd e h⟩
    repeat (split at e; · cases e)
    cases e
theorem pLD {v : Nat} (h : pD v = true) : ¬ pL v = true := by
  unfold pD at h
  unfold pL
  simp only [Bool.and_eq_true, decide_eq_true_eq] at h ⊢
  omega
theorem pLB {v : Nat} (h : pB v = true) : ¬ pL v = true ∧ ¬ pD v = true := by
  unfold pB at h
  unfold pL pD
  simp only [Bool.and_eq_true, Bool.or_eq_true, decide_eq_true_eq] at h ⊢
  omega
theorem pK_2 {v : Nat} : pK v = 2 ↔ pD v = true := by
  unfold pK
  by_cases h : pD v = true
  · rw [if_neg (pLD h), if_pos h]; exact ⟨fun _ => h, fun _ => rfl⟩
  · rw [if_neg h]
    refine ⟨fun e => ?_, fun e => absurd e h⟩
    repeat (split at e; · cases e)
    cases e
theorem pK_5 {v : Nat} : pK v = 5 ↔ pB v = true := by
  unfold pK
  by_cases h : pB v = true
  · rw [if_neg (pLB h).1, if_neg (pLB h).2, if_pos h]; exact ⟨fun _ => h, fun _ => rfl⟩
  · rw [if_neg h]
    refine ⟨fun e => ?_, fun e => absurd e h⟩
    repeat (split at e; · cases e)
    cases e
theorem pK_le (v : Nat) : 1 ≤ pK v ∧ pK v ≤ 6 := by
  unfold pK
  repeat (split; · decide)
  decide
theorem pBg_le {f : Nat → Nat} {k p : Nat} (h : p ≤ k) : p ≤ pBg f k p ∧ pBg f k p ≤ k := by
  have := pR_le pB f (k - p) p
  unfold pBg
  omega
theorem pBg_no {f : Nat → Nat} {k p : Nat} (h : p ≤ k) (h2 : pBg f k p < k) : pK (f (pBg f k p)) ≠ 5 := fun e => pR_end pB f (k - p) p (by unfold pBg at h2; omega) (pK_5.mp e)
theorem pE_le {f : Nat → Nat} {k s : Nat} (h : s < k) : s < pE f k s ∧ pE f k s ≤ k := by
  unfold pE
  have h1 := pR_le pL f (k - (s + 1)) (s + 1)
  have h2 := pR_le pD f (k - (s + 1)) (s + 1)
  split
  · rw [pR_up h (pK_1.mp (by assumption))]; omega
  · split
    · rw [pR_up h (pK_2.mp (by assumption))]; omega
    · omega
/-- a reader's state: where it is, where its token begins, what kind; what it has seen; rows, columns, edge, A, B, rule, seed, start by their numbers; strength, field; bonds -/
abbrev pSt : Type := (Nat × Nat × Nat) × Nat × (Nat → Nat) × Int32 × Int32 × Nat × (Nat → Nat) × (Nat → Bool) × (Nat → Int32)
def qP (T : pSt) : Nat := T.1.1
def qS (T : pSt) : Nat := T.1.2.1
def qK (T : pSt) : Nat := T.1.2.2
def qN (T : pSt) : Nat := T.2.1
def qU (T : pSt) : Nat → Nat := T.2.2.1
def qF (T : pSt) : Int32 := T.2.2.2.1
def qG (T : pSt) : Int32 := T.2.2.2.2.1
def qB (T : pSt) : Nat := T.2.2.2.2.2.1
def qA (T : pSt) : Nat → Nat := T.2.2.2.2.2.2.1
def qD (T : pSt) : Nat → Bool := T.2.2.2.2.2.2.2.1
def qV (T : pSt) : Nat → Int32 := T.2.2.2.2.2.2.2.2
def pAdv (f : Nat → Nat) (k : Nat) (T : pSt) : pSt := (pTk f k (qP T), T.2)
def pU (T : pSt) (i v : Nat) : pSt := (T.1, T.2.1, upn (qU T) i v, T.2.2.2)
def pF (T : pSt) (v : Int32) : pSt := (T.1, T.2.1, T.2.2.1, v, T.2.2.2.2)
def pG (T : pSt) (v : Int32) : pSt := (T.1, T.2.1, T.2.2.1, T.2.2.2.1, v, T.2.2.2.2.2)
def pN (T : pSt) (n : Nat) : pSt := (T.1, n, T.2.2)
def pAb (T : pSt) (a : Nat) (d : Bool) (v : Int32) : pSt := (T.1, T.2.1, T.2.2.1, T.2.2.2.1, T.2.2.2.2.1, qB T + 1, upn (qA T) (qB T) a, (fun j => if j = qB T then d else qD T j), fun j => if j = qB T then v else qV T j)
/-- a number's value -/
def pV (f : Nat → Nat) (s : Nat) : Nat → Nat
  | 0 => 0
  | j + 1 => 10 * pV f s j + (f (s + j) - 48)
theorem pV_lt {f : Nat → Nat} {s : Nat} : ∀ {j : Nat}, (∀ i, i < j → pD (f (s + i)) = true) → pV f s j < 10 ^ j
  | 0, _ => show (0 : Nat) < 1 from by decide
  | j + 1, h => by
    have h1 := pV_lt (f := f) (s := s) (j := j) (fun i hi => h i (by omega))
    have h2 := h j (by omega)
    unfold pD at h2
    simp only [Bool.and_eq_true, decide_eq_true_eq] at h2
    rw [pV, Nat.pow_succ]
    omega
/-- the value of the token -/
def qVl (f : Nat → Nat) (T : pSt) : Nat := pV f (qS T) (qP T - qS T)
/-- the token is this word -/
def wqP (f : Nat → Nat) (l : List Int32) (T : pSt) : Prop := qK T = 1 ∧ qP T - qS T = l.length ∧ ∀ j, j < l.length → nI (f (qS T + j)) = l.getD j 0
def wQ (f : Nat → Nat) (l : List Int32) (T : pSt) : Bool := decide (qK T = 1) && decide (qP T - qS T = l.length) && (List.range l.length).all (fun j => decide (nI (f (qS T + j)) = l.getD j 0))
theorem wQ_iff {f : Nat → Nat} {l : List Int32} {T : pSt} : wQ f l T = true ↔ wqP f l T := by
  unfold wQ wqP
  simp only [Bool.and_eq_true, decide_eq_true_eq, List.all_eq_true, List.mem_range]
  exact ⟨fun h => ⟨h.1.1, h.1.2, h.2⟩, fun h => ⟨⟨h.1, h.2.1⟩, h.2.2⟩⟩
/-- what is read: an error (0: none) and the state where it stands -/
abbrev pO (α : Type) : Type := Nat × α × pSt
def pNum (f : Nat → Nat) (k lo hi : Nat) (T : pSt) : pO Nat := if ¬ qK T = 2 then (1, 0, T) else if qVl f T < lo ∨ hi < qVl f T then (2, 0, T) else (0, qVl f T, pAdv f k T)
def pM (f : Nat → Nat) (k : Nat) (T : pSt) : pSt := if qK T = 3 then pAdv f k T else T
def pSig (f : Nat → Nat) (k : Nat) (T : pSt) : pO Int32 := ((pNum f k 0 3 (pM f k T)).1, (if qK T = 3 then - nI (pNum f k 0 3 (pM f k T)).2.1 else nI (pNum f k 0 3 (pM f k T)).2.1), (pNum f k 0 3 (pM f k T)).2.2)
def pCh (f : Nat → Nat) (k a b c : Nat) (T : pSt) : pO Nat := if wQ f (xTb a) T = true then (0, 0, pAdv f k T) else if wQ f (xTb b) T = true then (0, 1, pAdv f k T) else if wQ f (xTb c) T = true then (0, 2, pAdv f k T) else (1, 0, T)
def pBd {α : Type} (o : pO α) (g : α → pSt → Nat × pSt) : Nat × pSt := if o.1 = 0 then g o.2.1 o.2.2 else (o.1, o.2.2)
def pSize (f : Nat → Nat) (k : Nat) (T : pSt) : Nat × pSt := pBd (pNum f k 2 8 T) (fun v T => pBd (pNum f k 2 8 (pU T 0 v)) (fun w T => (0, pU T 1 w)))
def pEdge (f : Nat → Nat) (k : Nat) (T : pSt) : Nat × pSt := pBd (pCh f k 9 10 11 T) (fun v T => (0, pU T 2 v))
def pRat (f : Nat → Nat) (k : Nat) (T : pSt) : Nat × pSt := pBd (pNum f k 1 98 T) (fun v T => pBd (pNum f k (v + 1) 99 (pU T 3 v)) (fun w T => (0, pU T 4 w)))
def pStr (f : Nat → Nat) (k : Nat) (T : pSt) : Nat × pSt := pBd (pSig f k T) (fun v T => (0, pF T v))
def pFld (f : Nat → Nat) (k : Nat) (T : pSt) : Nat × pSt := pBd (pSig f k T) (fun v T => (0, pG T v))
def pRul (f : Nat → Nat) (k : Nat) (T : pSt) : Nat × pSt := pBd (pCh f k 12 13 14 T) (fun v T => (0, pU T 7 v))
def pSd (f : Nat → Nat) (k : Nat) (T : pSt) : Nat × pSt := pBd (pNum f k 0 9999 T) (fun v T => (0, pU T 8 v))
def pSrt (f : Nat → Nat) (k : Nat) (T : pSt) : Nat × pSt := pBd (pCh f k 15 16 17 T) (fun v T => (0, pU T 9 v))
/-- is there such a bond? -/
def pEx (T : pSt) (y x : Nat) (d : Bool) : Bool := if d = true then bD (qU T 0) (qU T 2) y else bR (qU T 1) (qU T 2) x
/-- a bond, from its direction on -/
def pDir (f : Nat → Nat) (k y x : Nat) (T : pSt) : Nat × pSt := if ¬ wQ f (xTb 16) T = true ∧ ¬ wQ f (xTb 18) T = true then (1, T) else if ¬ pEx T y x (wQ f (xTb 16) T) = true then (3, T) else pBd (pSig f k (pAdv f k T)) (fun v T' => (0, pAb T' (y * qU T' 1 + x) (wQ f (xTb 16) T) v))
def pBond (f : Nat → Nat) (k : Nat) (T : pSt) : Nat × pSt := pBd (pNum f k 0 (qU T 0 - 1) T) (fun y T => pBd (pNum f k 0 (qU T 1 - 1) T) (fun x T => pDir f k y x T))
/-- which statement begins: its number, 9 if none -/
def pWh (f : Nat → Nat) (T : pSt) : Nat := if wQ f (xTb 0) T = true then 0 else if wQ f (xTb 1) T = true then 1 else if wQ f (xTb 2) T = true then 2 else if wQ f (xTb 3) T = true then 3 else if wQ f (xTb 4) T = true then 4 else if wQ f (xTb 5) T = true then 5 else if wQ f (xTb 6) T = true then 6 else if wQ f (xTb 7) T = true then 7 else if wQ f (xTb 8) T = true then 8 else 9
def pAdm (T : pSt) (s : Nat) : Nat := if s = 9 then 1 else if (if s = 8 then decide (12 ≤ qB T) else (qN T).testBit s) = true ∨ ((s = 0 ∨ s = 1) ∧ 0 < qB T) then 3 else 0
def pBody (f : Nat → Nat) (k s : Nat) (T : pSt) : Nat × pSt := if s = 0 then pSize f k T else if s = 1 then pEdge f k T else if s = 2 then pRat f k T else if s = 3 then pStr f k T else if s = 4 then pFld f k T else if s = 5 then pRul f k T else if s = 6 then pSd f k T else if s = 7 then pSrt f k T else pBond f k T
def pStm (f : Nat → Nat) (k : Nat) (T : pSt) : Nat × pSt := if pAdm T (pWh f T) = 0 then pBody f k (pWh f T) (pAdv f k (pN T (qN T ||| 2 ^ pWh f T))) else (pAdm T (pWh f T), T)
def pLab (f : Nat → Nat) (k : Nat) : Nat → pSt → Nat × pSt
  | 0, T => (0, T)
  | j + 1, T => if qK T = 0 then (0, T) else if (pStm f k T).1 = 0 then (if qK (pStm f k T).2 = 4 then pLab f k j (pAdv f k (pStm f k T).2) else (1, (pStm f k T).2)) else pStm f k T
/-- what an empty text asks for -/
def pU0 : Nat → Nat := fun j => if j = 0 then 4 else if j = 1 then 4 else if j = 3 then 1 else if j = 4 then 2 else if j = 8 then 1 else 0
def p00 : pSt := ((0, 0, 0), 0, pU0, 1, 0, 0, (fun _ => 0), (fun _ => false), fun _ => 0)
def pLoad (f : Nat → Nat) (k : Nat) : Nat × pSt := pLab f k (k + 1) (pAdv f k p00)
end
