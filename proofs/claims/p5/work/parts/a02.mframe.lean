/-! ===== frames of the model: printed by a02.mframe.py ===== -/
section
variable {g : xGd} {x x' : xSt} {sv : Option xSt} {k : Nat} {by' : Nat → Nat} {e1 e2 : Int32} {S S' : xS} {I I' : xI} {J J' : xJ} {R R' : xR}
theorem MS_e {o j p n m : Nat} {y : xSt} (h : MS o j p n m y I J) (h0 : I' o = I o) (h1 : I' p = I p) (h2 : I' (p + 1) = I (p + 1)) (j0 : J' 200 j = J 200 j) (j1 : J' 200 (j + 1) = J 200 (j + 1)) (j2 : J' (p + 2) = J (p + 2)) : MS o j p n m y I' J' := by
  unfold MS at *
  rw [h0, h1, h2, j0, j1, j2]
  exact h
theorem XM_e {n : Nat} {E : Nat → Int32} (h : XM n E I) (h1 : ∀ j, 49 ≤ j → j ≤ 51 → I' 200 j = I 200 j) (h2 : I' 346 = I 346) (h3 : I' 347 = I 347) (h4 : I' 348 = I 348) (h5 : I' 343 = I 343) : XM n E I' := by
  unfold XM at *
  rw [h1 49 (by decide) (by decide), h1 50 (by decide) (by decide), h1 51 (by decide) (by decide), h2, h3, h4, h5]
  exact h
/-- rows of the model that a call may change without a word; fields -/
abbrev kr (o : Nat) : Prop := (o = 300 ∨ o = 302 ∨ (308 ≤ o ∧ o ≤ 317) ∨ o = 320 ∨ o = 343 ∨ (346 ≤ o ∧ o ≤ 348))
abbrev kf (j : Nat) : Prop := j = 7 ∨ j = 18 ∨ j = 21 ∨ j = 22 ∨ j = 23 ∨ (49 ≤ j ∧ j ≤ 51) ∨ j = 59
/-- .. the state's own -/
abbrev kt (o : Nat) : Prop := o ≠ 300 ∧ o ≠ 308 ∧ o ≠ 309
theorem AM_mk (h : AM g x sv k by' e1 e2 S I J R) (hS : ∀ o, 200 ≤ o → o < 400 → S' o = S o) (hR : ∀ o, 200 ≤ o → o < 400 → R' o = R o)
    (hI : ∀ o, kr o → kt o → I' o = I o) (hf : ∀ j, kf j → j ≠ 51 → I' 200 j = I 200 j) (hw : ∀ j, j = 0 ∨ j = 1 ∨ j = 8 ∨ j = 10 → I' 300 j = I 300 j) (hJ : ∀ j, j = 5 ∨ j = 6 → J' 200 j = J 200 j) (hJ2 : J' 313 = J 313)
    (hx : I' 200 51 = 0 ∨ (I' 200 51 = I 200 51 ∧ eG g x' = eG g x)) (hc : MS 300 3 308 (gn g) (gm g) x' I' J') : AM g x' sv k by' e1 e2 S' I' J' R' := by
  obtain ⟨a1, ⟨a2, a3, a4, a5⟩, a6, ⟨a7, a8⟩, ⟨a9, a10, a11, a12⟩, a13, u, a14, a15⟩ := h
  have i (o : Nat) (h1 : kr o) (h2 : kt o) := hI o h1 h2
  refine ⟨LM_e a1 hS hR, ⟨?_, ?_, ?_, ?_⟩, hc, ⟨?_, fun y hy => ?_⟩, ⟨?_, ?_, ?_, ?_⟩, ?_, u, ?_, a15⟩
  · exact CM_k2 a2 (hw 10 (by decide)) (hw 8 (by decide)) (fun o j h1 h2 => by rw [i o (by unfold kr; omega) (by unfold kt; omega)])
  · rw [hw 0 (by decide)]; exact a3
  · rw [hw 1 (by decide)]; exact a4
  · rw [hf 18 (by decide) (by decide)]; exact a5
  · rw [hf 7 (by decide) (by decide)]; exact a7
  · rw [i 302 (by decide) (by decide)]
    exact ⟨MS_e (a8 y hy).1 (i 302 (by decide) (by decide)) (i 311 (by decide) (by decide)) (i 312 (by decide) (by decide)) (hJ 5 (by decide)) (hJ 6 (by decide)) hJ2, (a8 y hy).2⟩
  · rw [hf 21 (by decide) (by decide)]; exact a9
  · rw [i 320 (by decide) (by decide)]; exact a10
  · rw [hf 22 (by decide) (by decide)]; exact a11
  · rw [hf 23 (by decide) (by decide)]; exact a12
  · rcases hx with hx | ⟨hx, he⟩
    · exact Or.inl hx
    · rcases a13 with a13 | a13
      · left; rw [hx]; exact a13
      · right
        rw [he]
        exact XM_e a13 (fun j h1 h2 => if e : j = 51 then by rw [e]; exact hx else hf j (by unfold kf; omega) e) (i 346 (by decide) (by decide)) (i 347 (by decide) (by decide)) (i 348 (by decide) (by decide)) (i 343 (by decide) (by decide))
  · rw [hf 59 (by decide) (by decide)]; exact a14
theorem AM_fr (h : AM g x sv k by' e1 e2 S I J R) (hS : ∀ o, 200 ≤ o → o < 400 → S' o = S o) (hR : ∀ o, 200 ≤ o → o < 400 → R' o = R o)
    (hI : ∀ o, kr o → I' o = I o) (hf : ∀ j, kf j → I' 200 j = I 200 j) (hJ : ∀ j, j = 3 ∨ j = 4 ∨ j = 5 ∨ j = 6 → J' 200 j = J 200 j) (hJ2 : ∀ o, o = 310 ∨ o = 313 → J' o = J o) : AM g x sv k by' e1 e2 S' I' J' R' :=
  AM_mk h hS hR (fun o h1 _ => hI o h1) (fun j h1 _ => hf j h1) (fun j _ => by rw [hI 300 (by decide)]) (fun j h1 => hJ j (by omega)) (hJ2 313 (by decide)) (Or.inr ⟨hf 51 (by decide), rfl⟩)
    (MS_e h.2.2.1 (hI 300 (by decide)) (hI 308 (by decide)) (hI 309 (by decide)) (hJ 3 (by decide)) (hJ 4 (by decide)) (hJ2 310 (by decide)))
/-- what a call of the class leaves alone -/
def frC (S : xS) (I : xI) (J : xJ) (R : xR) (S' : xS) (I' : xI) (J' : xJ) (R' : xR) : Prop := ∀ o, (200 ≤ o ∧ o < 402 ∨ 900000 ≤ o) → S' o = S o ∧ I' o = I o ∧ R' o = R o ∧ (o ≠ 400 → J' o = J o)
/-- what a call of the model leaves alone -/
def frM (I : xI) (J : xJ) (I' : xI) (J' : xJ) : Prop := ∀ o, (o < 200 ∨ 400 ≤ o) → I' o = I o ∧ J' o = J o
theorem AM_frC (h : AM g x sv k by' e1 e2 S I J R) (hf : frC S I J R S' I' J' R') : AM g x sv k by' e1 e2 S' I' J' R' := by
  have a (o : Nat) (h1 : 200 ≤ o) (h2 : o < 400) := hf o (Or.inl ⟨h1, by omega⟩)
  exact AM_fr h (fun o h1 h2 => (a o h1 h2).1) (fun o h1 h2 => (a o h1 h2).2.2.1) (fun o h1 => (a o (by unfold kr at h1; omega) (by unfold kr at h1; omega)).2.1) (fun j _ => by rw [(a 200 (by decide) (by decide)).2.1]) (fun j _ => by rw [(a 200 (by decide) (by decide)).2.2.2 (by decide)]) (fun o h1 => (a o (by omega) (by omega)).2.2.2 (by omega))
theorem AC_frM {P f : Nat} (h : AC g x sv k by' e1 e2 P f S I J R) (hf : frM I J I' J') : AC g x sv k by' e1 e2 P f S I' J' R :=
  AC_fr h (fun _ _ => rfl) (fun _ _ _ => rfl) (fun _ _ => rfl) (fun o h1 _ => (hf o (Or.inl h1)).1) (fun o h1 _ => (hf o (Or.inr (by omega))).1) (fun o h1 => (hf o (Or.inl h1)).2)
theorem frC_rfl : frC S I J R S I J R := fun _ _ => ⟨rfl, rfl, rfl, fun _ => rfl⟩
theorem frC_out {v : Int64} : frC S I J R S I (uJ J 400 0 v) R := fun o _ => ⟨rfl, rfl, rfl, fun h => by funext j; rw [uJ_at, if_neg (fun e => h e.1)]⟩
theorem frM_rfl : frM I J I J := fun _ _ => ⟨rfl, rfl⟩
end
