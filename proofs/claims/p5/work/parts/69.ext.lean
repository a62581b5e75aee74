/-! ===== fresh things look at their own rows alone ===== -/
section
theorem FC_ext {S S' : xS} {I I' : xI} {J J' : xJ} {R R' : xR} (e : ∀ o, o < 200 → S' o = S o ∧ I' o = I o ∧ J' o = J o ∧ R' o = R o) (h : FC S I J R) : FC S' I' J' R' := by
  unfold FC LC LO HB PB at *
  have eS : ∀ o, o < 200 → S' o = S o := fun o ho => (e o ho).1
  have eI : ∀ o, o < 200 → I' o = I o := fun o ho => (e o ho).2.1
  have eJ : ∀ o, o < 200 → J' o = J o := fun o ho => (e o ho).2.2.1
  have eR : ∀ o, o < 200 → R' o = R o := fun o ho => (e o ho).2.2.2
  have eF : (∀ o, fC o → S' o = (0, 0)) = (∀ o, fC o → S o = (0, 0)) := propext ⟨fun h o ho => by rw [← eS o (by unfold fC at ho; omega)]; exact h o ho, fun h o ho => by rw [eS o (by unfold fC at ho; omega)]; exact h o ho⟩
  rw [eF]
  rw [eS 100 (by decide), eS 101 (by decide), eS 102 (by decide), eS 103 (by decide), eS 104 (by decide), eS 105 (by decide), eS 106 (by decide), eS 107 (by decide), eS 108 (by decide), eS 110 (by decide), eS 111 (by decide), eS 112 (by decide), eS 113 (by decide), eS 114 (by decide), eS 115 (by decide), eS 116 (by decide), eS 120 (by decide), eS 121 (by decide), eS 122 (by decide), eS 123 (by decide), eS 124 (by decide), eS 125 (by decide), eS 126 (by decide), eS 130 (by decide), eS 131 (by decide), eS 137 (by decide), eS 138 (by decide), eS 139 (by decide), eS 140 (by decide), eS 160 (by decide), eI 100 (by decide), eI 102 (by decide), eI 103 (by decide), eI 104 (by decide), eI 105 (by decide), eI 106 (by decide), eI 107 (by decide), eI 108 (by decide), eI 110 (by decide), eI 111 (by decide), eI 112 (by decide), eI 122 (by decide), eI 130 (by decide), eI 140 (by decide), eI 160 (by decide), eJ 102 (by decide), eJ 110 (by decide), eR 100 (by decide), eR 102 (by decide), eR 110 (by decide), eR 112 (by decide), eR 120 (by decide), eR 122 (by decide), eR 130 (by decide), eR 140 (by decide)]
  exact h
theorem FM_ext {S S' : xS} {I I' : xI} {J J' : xJ} {R R' : xR} (e : ∀ o, 200 ≤ o → o < 359 → S' o = S o ∧ I' o = I o ∧ J' o = J o ∧ R' o = R o) (h : FM S I J R) : FM S' I' J' R' := by
  unfold FM LM HM at *
  have eS : ∀ o, 200 ≤ o → o < 359 → S' o = S o := fun o h1 h2 => (e o h1 h2).1
  have eI : ∀ o, 200 ≤ o → o < 359 → I' o = I o := fun o h1 h2 => (e o h1 h2).2.1
  have eJ : ∀ o, 200 ≤ o → o < 359 → J' o = J o := fun o h1 h2 => (e o h1 h2).2.2.1
  have eR : ∀ o, 200 ≤ o → o < 359 → R' o = R o := fun o h1 h2 => (e o h1 h2).2.2.2
  rw [eS 200 (by decide) (by decide), eS 300 (by decide) (by decide), eS 301 (by decide) (by decide), eS 302 (by decide) (by decide), eS 308 (by decide) (by decide), eS 309 (by decide) (by decide), eS 310 (by decide) (by decide), eS 311 (by decide) (by decide), eS 312 (by decide) (by decide), eS 313 (by decide) (by decide), eS 314 (by decide) (by decide), eS 315 (by decide) (by decide), eS 316 (by decide) (by decide), eS 317 (by decide) (by decide), eS 320 (by decide) (by decide), eS 334 (by decide) (by decide), eS 335 (by decide) (by decide), eS 340 (by decide) (by decide), eS 341 (by decide) (by decide), eS 342 (by decide) (by decide), eS 343 (by decide) (by decide), eS 344 (by decide) (by decide), eS 345 (by decide) (by decide), eS 346 (by decide) (by decide), eS 347 (by decide) (by decide), eS 348 (by decide) (by decide), eS 352 (by decide) (by decide), eS 353 (by decide) (by decide), eS 354 (by decide) (by decide), eS 355 (by decide) (by decide), eS 356 (by decide) (by decide), eS 357 (by decide) (by decide), eS 358 (by decide) (by decide), eI 200 (by decide) (by decide), eI 300 (by decide) (by decide), eI 314 (by decide) (by decide), eI 315 (by decide) (by decide), eI 316 (by decide) (by decide), eI 317 (by decide) (by decide), eJ 200 (by decide) (by decide), eR 200 (by decide) (by decide)]
  exact h
end
