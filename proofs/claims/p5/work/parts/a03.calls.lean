/-! ===== calls of both sides, as contracts over states ===== -/
section
abbrev xA : Type := xGd × xSt × Option xSt × Nat × (Nat → Nat) × Int32 × Int32
def AA (z : xA) (P f : Nat) (S : xS) (I : xI) (J : xJ) (R : xR) : Prop := AC z.1 z.2.1 z.2.2.1 z.2.2.2.1 z.2.2.2.2.1 z.2.2.2.2.2.1 z.2.2.2.2.2.2 P f S I J R
def ABm (z : xA) (S : xS) (I : xI) (J : xJ) (R : xR) : Prop := AM z.1 z.2.1 z.2.2.1 z.2.2.2.1 z.2.2.2.2.1 z.2.2.2.2.2.1 z.2.2.2.2.2.2 S I J R
def WA (N : Nat) (z : xA) : Prop := WF N z.1 z.2.1 z.2.2.1 z.2.2.2.1 z.2.2.2.2.1
/-- the law's own things -/
def LW (S : xS) : Prop := S 400 = (101, 1) ∧ S 401 = (102, 1) ∧ S 900800 = (107, 100) ∧ S 900801 = (107, 100)
/-- a call of the class, from one state to another, with an answer; a: 1 where it may make things -/
def CC (a y : Nat) (l : xL) (z z' : xA) (post : Option Value → xJ → xDb → Prop) : Prop := ∀ P f S I J D R, AA z P f S I J R → LW S → f ≤ 800000 → ∃ P', P' ≤ P ∧ (a = 0 → P' = P) ∧ ∀ b Q, 100 * a + (P - P') ≤ b.1 → 5000 * a + (P - P') ≤ b.2 →
  (∀ v S' I' J' D' R' f' b', post v J' D' → AA z' P' f' S' I' J' R' → frC S I J R S' I' J' R' → f' ≤ f + 1000 → Q (.ok v) (S', I', J', D', R') b') → xRun xT y 0 l [] (S, I, J, D, R) b Q
/-- a call of the model -/
def MC (y : Nat) (l : xL) (z z' : xA) (post : Option Value → xI → xJ → xDb → Prop) : Prop := ∀ S I J D R b Q, ABm z S I J R →
  (∀ v I' J' D', post v I' J' D' → ABm z' S I' J' R → frM I J I' J' → Q (.ok v) (S, I', J', D', R) b) → xRun xT y 0 l [] (S, I, J, D, R) b Q
theorem CC_post {a y : Nat} {l : xL} {z z' : xA} {p q : Option Value → xJ → xDb → Prop} (h : CC a y l z z' p) (hq : ∀ v J D, p v J D → q v J D) : CC a y l z z' q := by
  intro P f S I J D R h1 h2 h3
  obtain ⟨P', h4, h6, h5⟩ := h P f S I J D R h1 h2 h3
  exact ⟨P', h4, h6, fun b Q b1 b2 kk => h5 b Q b1 b2 (fun v S' I' J' D' R' f' b' k1 k2 k3 k4 => kk v S' I' J' D' R' f' b' (hq _ _ _ k1) k2 k3 k4)⟩
theorem MC_post {y : Nat} {l : xL} {z z' : xA} {p q : Option Value → xI → xJ → xDb → Prop} (h : MC y l z z' p) (hq : ∀ v I J D, p v I J D → q v I J D) : MC y l z z' q :=
  fun S I J D R b Q h1 kk => h S I J D R b Q h1 (fun v I' J' D' k1 k2 k3 => kk v I' J' D' (hq _ _ _ _ k1) k2 k3)
variable {g : xGd} {x x' : xSt} {sv : Option xSt} {k : Nat} {by' : Nat → Nat} {e1 e2 : Int32} {N P f : Nat} {S : xS} {I : xI} {J : xJ} {D : xDb} {R : xR}
/-- a question that changes nothing -/
theorem CC_q {y : Nat} {l : xL} {z : xA} {v : Option Value} {post : Option Value → xJ → xDb → Prop} (hp : ∀ J D, post v J D)
    (h : ∀ P f S I J D R b (Q : xQ), AA z P f S I J R → xRun xT y 0 l [] (S, I, J, D, R) b Q = Q (.ok v) (S, I, J, D, R) b) : CC 0 y l z z post :=
  fun P f S I J D R h1 h2 h3 => ⟨P, Nat.le_refl P, fun _ => rfl, fun b Q _ _ kk => by
    rw [h P f S I J D R b Q h1]
    exact kk v S I J D R f b (hp _ _) h1 frC_rfl (by omega)⟩
/-- what the lab's words give -/
theorem AC_o (h : AC g x sv k by' e1 e2 P f S I J R) (w : WF N g x sv k by') : LC S R ∧ CL I (gn g) (gm g) (gf g) (gs g) (gdd g) (gb g) ∧ GR (gn g) (gm g) (gf g) (gs g) (gdd g) (gb g) ∧ (I 110 6 = stF x ∧ I 110 7 = nI (stA x) ∧ I 110 8 = nI (stB x) ∧ I 110 9 = stR x ∧ I 110 10 = (stZ x).2.2.1 ∧ I 110 11 = (stZ x).2.2.2 ∧ J 110 4 = lN (stZ x).1 ∧ J 110 5 = lN (stZ x).2.1) ∧ J 102 4 = lN (aU (gn g)) ∧ (∀ j, j < gm g → I 111 j = stS x j) ∧ ((stZ x).1 < 2 ^ gn g ∧ (stZ x).1 < 2 ^ 64 ∧ (stZ x).2.1 < 2147483648) ∧ (0 < gn g ∧ gn g ≤ 64 ∧ gm g ≤ 128 ∧ 0 < gm g) := by
  have b := gn_bd w.1
  refine ⟨h.1, h.2.1.1, (gG w.1).1, h.2.2.1.1, h.2.1.2.2.2, h.2.2.1.2.1, ⟨w.2.1.2.1.1, Nat.lt_of_lt_of_le w.2.1.2.1.1 (Nat.pow_le_pow_right (by decide) b.2.1), w.2.1.2.1.2.1⟩, b⟩
theorem AM_o (h : AM g x sv k by' e1 e2 S I J R) (w : WF N g x sv k by') : LM S R ∧ CM I (gn g) (gm g) (gf g) (gs g) (gdd g) (gb g) ∧ GR (gn g) (gm g) (gf g) (gs g) (gdd g) (gb g) ∧ (I 300 2 = nI (stA x) ∧ I 300 3 = nI (stB x) ∧ I 300 4 = stF x ∧ I 300 5 = stR x ∧ I 300 6 = (stZ x).2.2.1 ∧ I 300 7 = (stZ x).2.2.2 ∧ J 200 3 = lN (stZ x).1 ∧ J 200 4 = lN (stZ x).2.1) ∧ (∀ j, j < gm g → I 300 (16 + j) = stS x j) ∧ ((stZ x).1 < 2 ^ gn g ∧ (stZ x).1 < 2 ^ 64 ∧ (stZ x).2.1 < 2147483648) ∧ (0 < gn g ∧ gn g ≤ 64 ∧ gm g ≤ 128 ∧ 0 < gm g) := by
  have b := gn_bd w.1
  refine ⟨h.1, h.2.1.1, (gG w.1).1, h.2.2.1.1, h.2.2.1.2.1, ⟨w.2.1.2.1.1, Nat.lt_of_lt_of_le w.2.1.2.1.1 (Nat.pow_le_pow_right (by decide) b.2.1), w.2.1.2.1.2.1⟩, b⟩
theorem AC_en (h : AC g x sv k by' e1 e2 P f S I J R) : en (I 110 6) (I 111) (gn g) (gm g) (gf g) (gs g) = eG g x := by
  funext s
  unfold eG
  rw [h.2.2.1.1.1]
  exact en_congr s (fun j hj => h.2.2.1.2.1 j hj)
theorem AM_en (h : AM g x sv k by' e1 e2 S I J R) : en (I 300 4) (fun j => I 300 (16 + j)) (gn g) (gm g) (gf g) (gs g) = eG g x := by
  funext s
  unfold eG
  rw [h.2.2.1.1.2.2.1]
  exact en_congr s (fun j hj => h.2.2.1.2.1 j hj)
theorem AC_dl (h : AC g x sv k by' e1 e2 P f S I J R) (w : WF N g x sv k by') (s : Nat) {t : Nat} (ht : t < gn g) : dl (I 110 6) (I 111) (gf g) (gs g) (gdd g) (gb g) s t = dG g x s t := by
  unfold dG
  rw [h.2.2.1.1.1]
  exact dl_congr (gG w.1).1 s ht (fun j hj => h.2.2.1.2.1 j hj)
theorem AM_dl (h : AM g x sv k by' e1 e2 S I J R) (w : WF N g x sv k by') (s : Nat) {t : Nat} (ht : t < gn g) : dl (I 300 4) (fun j => I 300 (16 + j)) (gf g) (gs g) (gdd g) (gb g) s t = dG g x s t := by
  unfold dG
  rw [h.2.2.1.1.2.2.1]
  exact dl_congr (gG w.1).1 s ht (fun j hj => h.2.2.1.2.1 j hj)
/-- the model has asked: only its thrown code is new -/
theorem AM_19 (h : AM g x sv k by' e1 e2 S I J R) (v : Int32) : AM g x sv k by' e1 e2 S (uI I 200 19 v) J R :=
  AM_fr h (fun _ _ _ => rfl) (fun _ _ _ => rfl) (fun o h1 => by funext j; rw [uI_at, if_neg (fun e => by rw [e.1] at h1; exact absurd h1 (by decide))]) (fun j h1 => by rw [uI_at, if_neg (fun e => by rw [e.2] at h1; exact absurd h1 (by decide))]) (fun _ _ => rfl) (fun _ _ => rfl)
theorem frM_19 (v : Int32) : frM I J (uI I 200 19 v) J := fun o h1 => ⟨by funext j; rw [uI_at, if_neg (fun e => by omega)], rfl⟩
/-- a question to the model -/
theorem MC_q {y : Nat} {l : xL} {z : xA} {v : Option Value} {c : Int32} {post : Option Value → xI → xJ → xDb → Prop} (hp : ∀ I J D, I 200 19 = c → post v I J D)
    (h : ∀ S I J D R b (Q : xQ), ABm z S I J R → xRun xT y 0 l [] (S, I, J, D, R) b Q = Q (.ok v) (S, uI I 200 19 c, J, D, R) b) : MC y l z z post :=
  fun S I J D R b Q h1 kk => by
    rw [h S I J D R b Q h1]
    exact kk v _ J D (hp _ _ _ (by rw [uI_at, if_pos ⟨rfl, rfl⟩])) (AM_19 h1 c) (frM_19 c)
/-- the lab has answered into the law's row -/
theorem AC_out (h : AC g x sv k by' e1 e2 P f S I J R) (v : Int64) : AC g x sv k by' e1 e2 P f S I (uJ J 400 0 v) R :=
  AC_fr h (fun _ _ => rfl) (fun _ _ _ => rfl) (fun _ _ => rfl) (fun _ _ _ => rfl) (fun _ _ _ => rfl) (fun o h1 => by funext j; rw [uJ_at, if_neg (fun e => by omega)])
end
