/-! ===== a fresh pair, enumerated ===== -/
section
/-- the lab behind its first enumeration, the model as it was -/
def FX (S : xS) (I : xI) (J : xJ) (R : xR) (xs : Nat → Int32) : Prop := (LC S R ∧ LM S R) ∧ (XL 16 E4 S I R ∧ CL I 16 32 (fE B4) (sE B4) (dE B4) (bE B4) ∧ CM I 16 32 (fE B4) (sE B4) (dE B4) (bE B4)) ∧ (J 110 4 = lN 65535 ∧ J 200 3 = lN 65535 ∧ J 110 5 = lN 1 ∧ J 200 4 = lN 1 ∧ J 102 4 = lN 65535) ∧
    (I 200 51 = 0 ∧ I 300 4 = 0 ∧ (∀ k, k < 32 → I 300 (16 + k) = 1) ∧ I 300 5 = 0 ∧ I 110 9 = 0) ∧ (S 400 = (101, 1) ∧ S 401 = (102, 1) ∧ S 900600 = (108, 6) ∧ ∀ j, I 900600 j = xs j) ∧ (R 140 0 = some 160 ∧ S 160 = (103, 16) ∧ I 140 1 = 0 ∧ I 140 3 = 0 ∧ I 200 59 = 0 ∧ (∀ k, I 160 k = 0) ∧ (∀ o, 402 ≤ o → o < 900000 → S o = (0, 0)) ∧ S 900800 = (107, 100) ∧ S 900801 = (107, 100))
theorem en_E4 {F : Int32} {st : Nat → Int32} (h0 : F = 0) (h : ∀ k, k < 32 → st k = 1) : en F st 16 32 (fE B4) (sE B4) = E4 := by
  funext s
  rw [h0]
  exact en_congr s h
theorem E4_B : EB E4 16 := by
  have h := en_EB (fi := fE B4) (se := sE B4) (n := 16) (m := 32) (SB_1 (F := 0) (st := fun _ => 1) rfl (fun _ _ => rfl)) (by decide) (by decide)
  exact h
theorem FX_q {xs : Nat → Int32} {S : xS} {I : xI} {J : xJ} {D : xDb} {R : xR} {b : Nat × Nat} {Q : xQ} (hP : FP S I J R xs) (b1 : 6 ≤ b.1) (b2 : 200000 ≤ b.2)
    (kk : ∀ S' I' J' D' R' b', FX S' I' J' R' xs → Q (.ok (some (.ref 130))) (S', I', J', D', R') b') : xRun xT 170 0 [(0, .ref 100)] [] (S, I, J, D, R) b Q := by
  obtain ⟨⟨hL, hM⟩, ⟨hC, hD⟩, ⟨j1, j2, j3, j4, j5⟩, ⟨i1, i2, i3, i4⟩, s4, s5, s6, x6⟩ := FP_out hP
  obtain ⟨g1, g2, g3⟩ := g4
  obtain ⟨-, ⟨o1, o2, o3, -⟩, -, -, -, -, -, -, -, ⟨f6, f7, f8, f9, f10, f11, -, -⟩, -, -, -, ⟨z1, z2, z3⟩, z4, z5, z6⟩ := hP.1
  obtain ⟨-, -, ⟨m0, m1, m2, m3, m4, m5, m6, m7, m8, m9, m10⟩, -, -, -, ⟨p1, p2, p3, p4, p5, p6, p7, p8⟩⟩ := hP.2.1
  have fr : ∀ o, 402 ≤ o → o < 900000 → S o = (0, 0) := hP.2.2.2.2.2.2.1
  refine L170 (n := 16) (m := 32) (u := 131) hL g1 g2 g3 hC (by decide) (by decide) (SB_1 i1 i3) z1 z2 z3 (by decide) (fun o ho => by rw [z5 o (by unfold fC; omega)]) b1 b2 (fun S' I' J' D' R' b' hL' hX a1 a2 a3 a4 => ?_)
  rw [en_E4 i1 i3] at hX
  have hM' : LM S' R' := by
    unfold LM
    repeat' apply And.intro
    all_goals first
      | (rw [a1 _ (by decide)]; simp only [LM_out hM])
      | (rw [a4 _ _ (by decide) (by decide)]; simp only [LM_out hM])
  refine kk S' I' J' D' R' b' ⟨⟨hL', hM'⟩, ⟨hX, CL_k hC (fun o k h1 h2 => a2 o k (by omega)), CM_k hD (fun o k h => a2 o k (by omega))⟩, ⟨?_, ?_, ?_, ?_, ?_⟩, ⟨?_, ?_, fun k hk => ?_, ?_, ?_⟩, ⟨?_, ?_, ?_, fun j => ?_⟩, ?_, ?_, ?_, ?_, ?_, fun k => ?_, fun o h1 h2 => ?_, ?_, ?_⟩
  · rw [a3 _ _ (by decide)]; exact j1
  · rw [a3 _ _ (by decide)]; exact j2
  · rw [a3 _ _ (by decide)]; exact j3
  · rw [a3 _ _ (by decide)]; exact j4
  · rw [a3 _ _ (by decide)]; exact j5
  · rw [a2 _ _ (by decide)]; exact p7
  · rw [a2 _ _ (by decide)]; exact i2
  · rw [a2 _ _ (by omega)]; exact i4 k hk
  · rw [a2 _ _ (by decide)]; exact m5
  · rw [a2 _ _ (by decide)]; exact f9
  · rw [a1 _ (by decide)]; exact s4
  · rw [a1 _ (by decide)]; exact s5
  · rw [a1 _ (by decide)]; exact s6
  · rw [a2 _ _ (by omega)]; exact x6 j
  · rw [a4 _ _ (by decide) (by decide)]; exact o1
  · rw [a1 _ (by decide)]; exact o2
  · rw [a2 _ _ (by decide)]; exact o3
  · rw [a2 _ _ (by decide)]; exact z4
  · rw [a2 _ _ (by decide)]; exact p8
  · rw [a2 _ _ (by omega)]; exact z6 k
  · rw [a1 _ (by omega)]; exact fr o h1 h2
  · rw [a1 _ (by decide)]; exact hP.2.2.2.2.2.2.2.1
  · rw [a1 _ (by decide)]; exact hP.2.2.2.2.2.2.2.2
theorem FK_q {S : xS} {I : xI} {J : xJ} {D : xDb} {R : xR} {b : Nat × Nat} {Q : xQ} (hM : LM S R) (hD : CM I 16 32 (fE B4) (sE B4) (dE B4) (bE B4)) (h51 : I 200 51 = 0) (h4 : I 300 4 = 0) (hst : ∀ k, k < 32 → I 300 (16 + k) = 1)
    (kk : ∀ I', XM 16 E4 I' → (∀ o k, ¬ nm o k → I' o k = I o k) → Q (.ok none) (S, I', J, D, R) b) : xRun xT 302 0 [(0, .ref 200)] [] (S, I, J, D, R) b Q := by
  obtain ⟨g1, g2, g3⟩ := g4
  refine L302 (n := 16) (m := 32) hM g1 g2 hD (by decide) (by decide) (SB_1 h4 hst) h51 (fun I' hX hf => ?_)
  rw [en_E4 h4 hst] at hX
  exact kk I' hX hf
end
