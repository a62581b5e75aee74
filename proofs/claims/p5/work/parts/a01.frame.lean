/-! ===== frames of both sides: printed by a01.frame.py ===== -/
section
variable {g : xGd} {x x' : xSt} {sv : Option xSt} {k : Nat} {by' : Nat → Nat} {e1 e2 : Int32} {P f : Nat} {S S' : xS} {I I' : xI} {J J' : xJ} {R R' : xR}
theorem LC_e (h : LC S R) (hS : ∀ o, o < 200 → S' o = S o) (hR : ∀ o, o < 200 → R' o = R o) : LC S' R' := by
  unfold LC at *
  rw [hS 100 (by decide), hS 101 (by decide), hS 102 (by decide), hS 103 (by decide), hS 104 (by decide), hS 105 (by decide), hS 106 (by decide), hS 107 (by decide), hS 108 (by decide), hS 110 (by decide), hS 111 (by decide), hS 112 (by decide), hS 116 (by decide), hS 120 (by decide), hS 121 (by decide), hS 122 (by decide), hS 126 (by decide), hS 130 (by decide), hS 137 (by decide), hS 138 (by decide), hS 139 (by decide), hS 140 (by decide), hR 100 (by decide), hR 102 (by decide), hR 110 (by decide), hR 120 (by decide), hR 130 (by decide)]
  exact h
theorem LE_e (h : LE S R) (hS : ∀ o, o < 200 → S' o = S o) (hR : ∀ o, o < 200 → R' o = R o) : LE S' R' := by
  unfold LE at *
  rw [hS 151 (by decide), hS 152 (by decide), hS 153 (by decide), hS 154 (by decide), hS 155 (by decide), hS 156 (by decide), hR 130 (by decide)]
  exact h
theorem LM_e (h : LM S R) (hS : ∀ o, 200 ≤ o → o < 400 → S' o = S o) (hR : ∀ o, 200 ≤ o → o < 400 → R' o = R o) : LM S' R' := by
  unfold LM at *
  rw [hS 200 (by decide) (by decide), hS 300 (by decide) (by decide), hS 301 (by decide) (by decide), hS 302 (by decide) (by decide), hS 308 (by decide) (by decide), hS 309 (by decide) (by decide), hS 310 (by decide) (by decide), hS 311 (by decide) (by decide), hS 312 (by decide) (by decide), hS 313 (by decide) (by decide), hS 314 (by decide) (by decide), hS 315 (by decide) (by decide), hS 316 (by decide) (by decide), hS 317 (by decide) (by decide), hS 320 (by decide) (by decide), hS 334 (by decide) (by decide), hS 335 (by decide) (by decide), hS 340 (by decide) (by decide), hS 341 (by decide) (by decide), hS 342 (by decide) (by decide), hS 343 (by decide) (by decide), hS 344 (by decide) (by decide), hS 345 (by decide) (by decide), hS 346 (by decide) (by decide), hS 347 (by decide) (by decide), hS 348 (by decide) (by decide), hS 352 (by decide) (by decide), hS 353 (by decide) (by decide), hS 354 (by decide) (by decide), hS 355 (by decide) (by decide), hS 356 (by decide) (by decide), hS 357 (by decide) (by decide), hS 358 (by decide) (by decide), hR 200 (by decide) (by decide)]
  exact h
theorem CS_e {o m : Nat} {y : xSt} (h : CS o m y I J) (h0 : I' o = I o) (h1 : I' (o + 1) = I (o + 1)) (h2 : I' (o + 2) = I (o + 2)) (h8 : I' (o + 8) = I (o + 8)) (j0 : J' o = J o) (j7 : J' (o + 7) = J (o + 7)) : CS o m y I' J' := by
  unfold CS at *
  rw [h0, h1, h2, h8, j0, j7]
  exact h
theorem SH_e {o p : Nat} (h : SH o p S I R) (hs : ∀ a, a = o + 3 ∨ a = o + 4 ∨ a = o + 7 ∨ a = o + 8 → S' a = S a) (hr : R' (o + 2) = R (o + 2)) (hi : R (o + 2) 1 = some (o + 3) → I (o + 2) 0 = 0 → I' (o + 2) 0 = 0) : SH o p S' I' R' := by
  unfold SH at *
  rw [hs (o + 3) (by omega), hs (o + 4) (by omega), hs (o + 7) (by omega), hs (o + 8) (by omega), hr]
  rcases h with ⟨a1, a2, a3, a4, a5, a6, a7, a8⟩ | h
  · exact Or.inl ⟨a1, a2, a3, a4, a5, a6, hi a1 a7, a8⟩
  · exact Or.inr h
theorem ST_e {p : Nat} (h : ST p S R) (hS : ∀ o, o < 200 → S' o = S o) (hR : ∀ o, o < 200 → R' o = R o) : ST p S' R' := by
  unfold ST at *
  rw [hS 115 (by decide), hS 119 (by decide), hR 112 (by decide)]
  exact h
theorem SX_e {p : Nat} (h : SX p S I R) (hS : ∀ o, o < 200 → S' o = S o) (hR : ∀ o, o < 200 → R' o = R o) (hi : R 130 6 = some 131 → I 130 1 = 0 → I' 130 1 = 0) : SX p S' I' R' := by
  unfold SX at *
  rcases h with ⟨a1, a2, a3, a4, a5⟩ | h
  · left
    rw [hS 131 (by decide), hR 130 (by decide)]
    exact ⟨a1, a2, fun o h1 h2 => by rw [hS o (by omega)]; exact a3 o h1 h2, hi a1 a4, a5⟩
  · exact Or.inr (LE_e h hS hR)
theorem OU_e {p : Nat} (h : OU f p S I R) (hS : ∀ o, o < 200 → S' o = S o) (hS2 : ∀ o, 402 ≤ o → o < 900000 → S' o = S o) (hR : R' 140 = R 140) (hI : I' 140 = I 140) (hI1 : I' 160 = I 160) (hI2 : ∀ o, 402 ≤ o → o < 900000 → I' o = I o) : OU f p S' I' R' := by
  obtain ⟨⟨v, cap, cnt, a1, a2, a3, a4, a5, a6⟩, b1, b2, b3⟩ := h
  have ev : S' v = S v ∧ I' v = I v := by
    rcases a5 with rfl | a5
    · exact ⟨hS 160 (by decide), hI1⟩
    · exact ⟨hS2 v a5.1 (by omega), hI2 v a5.1 (by omega)⟩
  refine ⟨⟨v, cap, cnt, ?_, ?_, ?_, ?_, a5, ?_⟩, b1, b2, fun o h1 h2 => ?_⟩
  · rw [hR]; exact a1
  · rw [ev.1]; exact a2
  · rw [hI]; exact a3
  · rw [hI]; exact a4
  · rw [ev.2]; exact a6
  · rw [hS2 o (by omega) h2]; exact b3 o h1 h2
theorem XL_e {n : Nat} {E : Nat → Int32} (h : XL n E S I R) (hS : ∀ o, o < 200 → S' o = S o) (hR : ∀ o, o < 200 → R' o = R o) (h1 : ∀ j, 1 ≤ j → j ≤ 5 → I' 130 j = I 130 j) (h2 : I' 151 = I 151) (h3 : I' 154 = I 154) (h4 : I' 155 = I 155) (h5 : I' 156 = I 156) : XL n E S' I' R' := by
  unfold XL at *
  rw [h1 1 (by decide) (by decide), h1 2 (by decide) (by decide), h1 3 (by decide) (by decide), h1 4 (by decide) (by decide), h1 5 (by decide) (by decide), h2, h3, h4, h5]
  exact ⟨LE_e h.1 hS hR, h.2⟩
/-- what a call may change without a word -/
abbrev kp (o : Nat) : Prop := o ≠ 116 ∧ o ≠ 126 ∧ o ≠ 137 ∧ o ≠ 138 ∧ o ≠ 139 ∧ o ≠ 152 ∧ o ≠ 153
/-- .. and with one: the state's own rows -/
abbrev kq (o : Nat) : Prop := o ≠ 110 ∧ o ≠ 111 ∧ o ≠ 112 ∧ o ≠ 118 ∧ o ≠ 130
theorem AC_mk (h : AC g x sv k by' e1 e2 P f S I J R) (hS : ∀ o, o < 200 → S' o = S o) (hS2 : ∀ o, 402 ≤ o → o < 900000 → S' o = S o) (hR : ∀ o, o < 200 → R' o = R o)
    (hI : ∀ o, o < 200 → kp o → kq o → I' o = I o) (hI2 : ∀ o, 402 ≤ o → o < 900000 → I' o = I o) (hJ : ∀ o, o < 200 → o ≠ 110 → o ≠ 117 → J' o = J o)
    (h130 : ∀ j, j ≠ 1 → I' 130 j = I 130 j) (hx : I' 130 1 = 0 ∨ (I' 130 1 = I 130 1 ∧ eG g x' = eG g x)) (hc : CS 110 (gm g) x' I' J') (hk : stK x' = 0 ∨ R 112 1 = some 117) : AC g x' sv k by' e1 e2 P f S' I' J' R' := by
  obtain ⟨a1, ⟨a2, a3, a4, a5⟩, a6, ⟨a7, a8⟩, ⟨a9, a10, a11, a12⟩, a13, p1, p2, p3, p4, p5, q0, q1, q2, q3, q4, q5⟩ := h
  have i (o : Nat) (h1 : o < 200) (h2 : kp o) (h3 : kq o) := hI o h1 h2 h3
  refine ⟨LC_e a1 hS hR, ⟨?_, ?_, ?_, ?_⟩, hc, ⟨?_, fun y hy => ?_⟩, ⟨?_, ?_, ?_, ?_⟩, ?_, p1, p2, p3, p4, p5, q0, SH_e q1 (fun a ha => hS a (by omega)) (hR 112 (by decide)) (fun h1 h2 => ?_), SH_e q2 (fun a ha => hS a (by omega)) (hR 122 (by decide)) (fun h1 h2 => ?_), ST_e q3 hS hR, SX_e q4 hS hR (fun h1 h2 => ?_), OU_e q5 hS hS2 (hR 140 (by decide)) (i 140 (by decide) (by decide) (by decide)) (i 160 (by decide) (by decide) (by decide)) hI2⟩
  · exact CL_k a2 (fun o j h1 h2 => by rw [i o (by omega) (by unfold kp; omega) (by unfold kq; omega)])
  · rw [i 102 (by decide) (by decide) (by decide)]; exact a3
  · rw [i 102 (by decide) (by decide) (by decide)]; exact a4
  · rw [hJ 102 (by decide) (by decide) (by decide)]; exact a5
  · rw [i 100 (by decide) (by decide) (by decide)]; exact a7
  · exact CS_e (a8 y hy) (i 120 (by decide) (by decide) (by decide)) (i 121 (by decide) (by decide) (by decide)) (i 122 (by decide) (by decide) (by decide)) (i 128 (by decide) (by decide) (by decide)) (hJ 120 (by decide) (by decide) (by decide)) (hJ 127 (by decide) (by decide) (by decide))
  · rw [i 100 (by decide) (by decide) (by decide)]; exact a9
  · rw [i 101 (by decide) (by decide) (by decide)]; exact a10
  · rw [i 100 (by decide) (by decide) (by decide)]; exact a11
  · rw [i 100 (by decide) (by decide) (by decide)]; exact a12
  · rcases hx with hx | ⟨hx, he⟩
    · exact Or.inl hx
    · rcases a13 with a13 | a13
      · left; rw [hx]; exact a13
      · right
        rw [he]
        exact XL_e a13 hS hR (fun j _ _ => if e : j = 1 then by rw [e]; exact hx else h130 j e) (i 151 (by decide) (by decide) (by decide)) (i 154 (by decide) (by decide) (by decide)) (i 155 (by decide) (by decide) (by decide)) (i 156 (by decide) (by decide) (by decide))
  · rcases hk with hk | hk
    · rw [hc.2.2.1.1, hk]; rfl
    · rw [hk] at h1; cases h1
  · rw [i 122 (by decide) (by decide) (by decide)]; exact h2
  · rcases hx with hx | ⟨hx, he⟩
    · exact hx
    · rw [hx]; exact h2
/-- nothing changes that the lab's words speak of -/
theorem AC_fr (h : AC g x sv k by' e1 e2 P f S I J R) (hS : ∀ o, o < 200 → S' o = S o) (hS2 : ∀ o, 402 ≤ o → o < 900000 → S' o = S o) (hR : ∀ o, o < 200 → R' o = R o)
    (hI : ∀ o, o < 200 → kp o → I' o = I o) (hI2 : ∀ o, 402 ≤ o → o < 900000 → I' o = I o) (hJ : ∀ o, o < 200 → J' o = J o) : AC g x sv k by' e1 e2 P f S' I' J' R' := by
  have hc : CS 110 (gm g) x I' J' := CS_e h.2.2.1 (hI 110 (by decide) (by decide)) (hI 111 (by decide) (by decide)) (hI 112 (by decide) (by decide)) (hI 118 (by decide) (by decide)) (hJ 110 (by decide)) (hJ 117 (by decide))
  refine AC_mk h hS hS2 hR (fun o h1 h2 _ => hI o h1 h2) hI2 (fun o h1 _ _ => hJ o h1) (fun j _ => by rw [hI 130 (by decide) (by decide)]) (Or.inr ⟨by rw [hI 130 (by decide) (by decide)], rfl⟩) hc ?_
  obtain ⟨a1, ⟨a2, a3, a4, a5⟩, a6, ⟨a7, a8⟩, ⟨a9, a10, a11, a12⟩, a13, p1, p2, p3, p4, p5, q0, q1, q2, q3, q4, q5⟩ := h
  rcases q1 with q1 | q1
  · left
    have e1 := a6.2.2.1.1
    rw [q1.2.2.2.2.2.2.1, show (0 : Int32) = nI 0 from rfl] at e1
    exact ((nI_eq (by decide) (by have := a6.2.2.1.2; omega)).mp e1).symm
  · exact Or.inr q1.1
end
