/-! ===== the bonds of a grid ===== -/
section
def bR (c e x : Nat) : Bool := decide (x + 1 < c) || !decide (e = 1)
def bD (r e y : Nat) : Bool := decide (y + 1 < r) || decide (e = 0)
def nR (c x : Nat) : Nat := if x + 1 < c then x + 1 else 0
def oR (c e s : Nat) : List (Nat × Nat) := if bR c e (s % c) = true then [(s, s / c * c + nR c (s % c))] else []
def oD (r c e s : Nat) : List (Nat × Nat) := if bD r e (s / c) = true then [(s, nR r (s / c) * c + s % c)] else []
/-- the bonds whose first sites are below s, by number -/
def bl (r c e : Nat) : Nat → List (Nat × Nat)
  | 0 => []
  | s + 1 => bl r c e s ++ oR c e s ++ oD r c e s
def fE (l : List (Nat × Nat)) (k : Nat) : Nat := (l.getD k (0, 0)).1
def sE (l : List (Nat × Nat)) (k : Nat) : Nat := (l.getD k (0, 0)).2
def iP (l : List (Nat × Nat)) (t k : Nat) : Bool := decide (fE l k = t) || decide (sE l k = t)
/-- the bonds of a site, by number -/
def ic (l : List (Nat × Nat)) (t : Nat) : List Nat := fl (iP l t) l.length
def dE (l : List (Nat × Nat)) (t : Nat) : Nat := (ic l t).length
def bE (l : List (Nat × Nat)) (t i : Nat) : Nat := (ic l t).getD i 0
theorem fl_congr {p q : Nat → Bool} : ∀ {k : Nat}, (∀ j, j < k → p j = q j) → fl p k = fl q k
  | 0, _ => rfl
  | k + 1, h => by rw [fl, fl, h k (Nat.lt_succ_self k), fl_congr (fun j hj => h j (Nat.lt_succ_of_lt hj))]
theorem getD_app1 {α : Type} (l : List α) (q d : α) {k : Nat} (h : k < l.length) : (l ++ [q]).getD k d = l.getD k d := by
  rw [List.getD_eq_getElem?_getD, List.getD_eq_getElem?_getD, List.getElem?_append_left h]
theorem getD_app2 {α : Type} (l : List α) (q d : α) : (l ++ [q]).getD l.length d = q := by
  rw [List.getD_eq_getElem?_getD, List.getElem?_append_right (Nat.le_refl _), Nat.sub_self]
  rfl
theorem ic_app (l : List (Nat × Nat)) (q : Nat × Nat) (t : Nat) : ic (l ++ [q]) t = if q.1 = t ∨ q.2 = t then ic l t ++ [l.length] else ic l t := by
  unfold ic
  rw [List.length_append, List.length_singleton, fl]
  have h1 : fl (iP (l ++ [q]) t) l.length = fl (iP l t) l.length := fl_congr (fun j hj => by
    unfold iP fE sE
    rw [getD_app1 l q _ hj])
  have h2 : iP (l ++ [q]) t l.length = (decide (q.1 = t) || decide (q.2 = t)) := by
    unfold iP fE sE
    rw [getD_app2]
  rw [h1, h2]
  by_cases h : q.1 = t ∨ q.2 = t
  · rw [if_pos h, if_pos (by simpa using h)]
  · rw [if_neg h, if_neg (by simpa using h)]
theorem sm_fl (p : Nat → Bool) (f : Nat → Int32) : ∀ k, sm (fun i => f ((fl p k).getD i 0)) (fl p k).length = sm (fun j => if p j = true then f j else 0) k
  | 0 => rfl
  | k + 1 => by
    rw [sm, ← sm_fl p f k, fl]
    by_cases h : p k = true
    · rw [if_pos h, if_pos h, List.length_append, List.length_singleton, sm, getD_app2]
      congr 1
      exact sm_congr (fun j hj => by rw [getD_app1 _ _ _ hj])
    · rw [if_neg h, if_neg h, Int32.add_zero]
/-- all that is asked of a grid's bonds, by computing -/
def gk (n : Nat) (l : List (Nat × Nat)) : Bool := decide (0 < n) && decide (n ≤ 64) && decide (l.length ≤ 128) && l.all (fun q => decide (q.1 < n) && decide (q.2 < n) && !decide (q.1 = q.2)) && (List.range n).all (fun t => decide ((ic l t).length ≤ 4))
theorem gk_at {l : List (Nat × Nat)} {p : Nat × Nat → Bool} (h : l.all p = true) {k : Nat} (hk : k < l.length) : p (l.getD k (0, 0)) = true := by
  rw [List.getD_eq_getElem?_getD, List.getElem?_eq_getElem hk]
  exact List.all_eq_true.mp h _ (List.getElem_mem hk)
theorem bE_mem {l : List (Nat × Nat)} {t i : Nat} (h : i < dE l t) : bE l t i < l.length ∧ iP l t (bE l t i) = true := by
  unfold bE
  unfold dE at h
  rw [List.getD_eq_getElem?_getD, List.getElem?_eq_getElem h]
  exact (fl_mem _ _ _).mp (List.getElem_mem h)
theorem gk_ok {n : Nat} {l : List (Nat × Nat)} (h : gk n l = true) : GR n l.length (fE l) (sE l) (dE l) (bE l) ∧ GN n l.length (fE l) (sE l) (dE l) (bE l) ∧ GI n (fE l) (sE l) (dE l) (bE l) := by
  unfold gk at h
  simp only [Bool.and_eq_true, decide_eq_true_eq] at h
  obtain ⟨⟨⟨⟨h0, h1⟩, h2⟩, h3⟩, h4⟩ := h
  have hq : ∀ k, k < l.length → fE l k < n ∧ sE l k < n ∧ fE l k ≠ sE l k := fun k hk => by
    have := gk_at h3 hk
    simp only [Bool.and_eq_true, decide_eq_true_eq, Bool.not_eq_true', decide_eq_false_iff_not] at this
    exact ⟨this.1.1, this.1.2, this.2⟩
  refine ⟨⟨h0, h1, h2, fun k hk => (hq k hk).1, fun k hk => (hq k hk).2.1, fun s hs => ?_, fun s i _ hi => (bE_mem hi).1⟩, ⟨fun k hk => (hq k hk).2.2, fun t _ f => ?_⟩, fun t _ i hi => ?_⟩
  · have := List.all_eq_true.mp h4 s (List.mem_range.mpr hs)
    exact of_decide_eq_true this
  · unfold dE bE ic
    rw [sm_fl]
    refine sm_congr (fun k _ => ?_)
    unfold iP
    by_cases h : fE l k = t ∨ sE l k = t
    · rw [if_pos h, if_pos (by simpa using h)]
    · rw [if_neg h, if_neg (by simpa using h)]
  · have := (bE_mem hi).2
    unfold iP at this
    simpa using this
end
