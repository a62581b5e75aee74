/-! ===== what both sides hold: any grid, any settings, any samples ===== -/
section
abbrev xGd : Type := Nat × Nat × Nat
def gn (g : xGd) : Nat := g.1 * g.2.1
def gll (g : xGd) : List (Nat × Nat) := bl g.1 g.2.1 g.2.2 (gn g)
def gm (g : xGd) : Nat := (gll g).length
def gf (g : xGd) : Nat → Nat := fE (gll g)
def gs (g : xGd) : Nat → Nat := sE (gll g)
def gdd (g : xGd) : Nat → Nat := dE (gll g)
def gb (g : xGd) : Nat → Nat → Nat := bE (gll g)
/-- rows, columns, edge as texts may give them -/
def GOK (g : xGd) : Prop := 2 ≤ g.1 ∧ g.1 ≤ 8 ∧ 2 ≤ g.2.1 ∧ g.2.1 ≤ 8 ∧ g.2.2 < 3
theorem GOK_gka {g : xGd} (h : GOK g) : gka g.1 g.2.1 g.2.2 = true := by
  obtain ⟨r, c, e⟩ := g
  obtain ⟨h1, h2, h3, h4, h5⟩ := h
  have h1 : 2 ≤ r := h1
  have h2 : r ≤ 8 := h2
  have h3 : 2 ≤ c := h3
  have h4 : c ≤ 8 := h4
  have h5 : e < 3 := h5
  show gka r c e = true
  rcases (show r = 2 ∨ r = 3 ∨ r = 4 ∨ r = 5 ∨ r = 6 ∨ r = 7 ∨ r = 8 by omega) with rfl | rfl | rfl | rfl | rfl | rfl | rfl
  · exact gka_2 c (by omega) h3 e h5
  · exact gka_3 c (by omega) h3 e h5
  · exact gka_4 c (by omega) h3 e h5
  · exact gka_5 c (by omega) h3 e h5
  · exact gka_6 c (by omega) h3 e h5
  · exact gka_7 c (by omega) h3 e h5
  · exact gka_8 c (by omega) h3 e h5
theorem GOK_gk {g : xGd} (h : GOK g) : gk (gn g) (gll g) = true ∧ gm g ≤ 2 * gn g ∧ 0 < gm g := by
  have h1 := GOK_gka h
  unfold gka at h1
  simp only [Bool.and_eq_true, decide_eq_true_eq] at h1
  exact ⟨h1.1.1, h1.1.2, h1.2⟩
theorem gG {g : xGd} (h : GOK g) : GR (gn g) (gm g) (gf g) (gs g) (gdd g) (gb g) ∧ GN (gn g) (gm g) (gf g) (gs g) (gdd g) (gb g) ∧ GI (gn g) (gf g) (gs g) (gdd g) (gb g) := gk_ok (GOK_gk h).1
theorem gn_bd {g : xGd} (h : GOK g) : 0 < gn g ∧ gn g ≤ 64 ∧ gm g ≤ 128 ∧ 0 < gm g := ⟨(gG h).1.1, (gG h).1.2.1, (gG h).1.2.2.1, (GOK_gk h).2.2⟩
/-- strengths, field, A, B, rule; spins, generator, attempts, flips; samples: how many, their configurations, their energies -/
abbrev xSt : Type := (Nat → Int32) × Int32 × Nat × Nat × Int32 × xG × Nat × (Nat → Nat) × (Nat → Int32)
def mkS (st : Nat → Int32) (F : Int32) (a b : Nat) (ru : Int32) (z : xG) (k : Nat) (c : Nat → Nat) (e : Nat → Int32) : xSt := (st, F, a, b, ru, z, k, c, e)
def stS (x : xSt) : Nat → Int32 := x.1
def stF (x : xSt) : Int32 := x.2.1
def stA (x : xSt) : Nat := x.2.2.1
def stB (x : xSt) : Nat := x.2.2.2.1
def stR (x : xSt) : Int32 := x.2.2.2.2.1
def stZ (x : xSt) : xG := x.2.2.2.2.2.1
def stK (x : xSt) : Nat := x.2.2.2.2.2.2.1
def stC (x : xSt) : Nat → Nat := x.2.2.2.2.2.2.2.1
def stE (x : xSt) : Nat → Int32 := x.2.2.2.2.2.2.2.2
section
variable (st : Nat → Int32) (F : Int32) (a b : Nat) (ru : Int32) (z : xG) (k : Nat) (c : Nat → Nat) (e : Nat → Int32)
theorem mk_S : stS (mkS st F a b ru z k c e) = st := rfl
theorem mk_F : stF (mkS st F a b ru z k c e) = F := rfl
theorem mk_A : stA (mkS st F a b ru z k c e) = a := rfl
theorem mk_B : stB (mkS st F a b ru z k c e) = b := rfl
theorem mk_R : stR (mkS st F a b ru z k c e) = ru := rfl
theorem mk_Z : stZ (mkS st F a b ru z k c e) = z := rfl
theorem mk_K : stK (mkS st F a b ru z k c e) = k := rfl
theorem mk_C : stC (mkS st F a b ru z k c e) = c := rfl
theorem mk_E : stE (mkS st F a b ru z k c e) = e := rfl
end
/-- the state with other spins, generator, counts -/
def toZ (x : xSt) (z : xG) : xSt := mkS (stS x) (stF x) (stA x) (stB x) (stR x) z (stK x) (stC x) (stE x)
/-- the state with another sample -/
def toK (x : xSt) (k : Nat) (c : Nat → Nat) (e : Nat → Int32) : xSt := mkS (stS x) (stF x) (stA x) (stB x) (stR x) (stZ x) k c e
/-- the energy, the change by a flip -/
def eG (g : xGd) (x : xSt) : Nat → Int32 := en (stF x) (stS x) (gn g) (gm g) (gf g) (gs g)
def dG (g : xGd) (x : xSt) : Nat → Nat → Int32 := dl (stF x) (stS x) (gf g) (gs g) (gdd g) (gb g)
/-- a state as it may be -/
def SOK (g : xGd) (N : Nat) (x : xSt) : Prop := (SB (stF x) (stS x) (gm g) ∧ 0 < stA x ∧ stA x < stB x ∧ stB x ≤ 99 ∧ (stR x = 0 ∨ stR x = 1 ∨ stR x = 2)) ∧ ((stZ x).1 < 2 ^ gn g ∧ (stZ x).2.1 < 2147483648 ∧ ∃ ta, (stZ x).2.2.1 = nI ta ∧ ta ≤ N) ∧ stK x ≤ 10000 ∧ ∀ i, i < stK x → stC x i < 2 ^ gn g ∧ -576 ≤ (stE x i).toInt ∧ (stE x i).toInt ≤ 576
/-- a byte as the lab holds it -/
def sB8 (v : Nat) : Int32 := if v < 128 then nI v else nI v - 256
def WF (N : Nat) (g : xGd) (x : xSt) (sv : Option xSt) (k : Nat) (by' : Nat → Nat) : Prop := GOK g ∧ SOK g N x ∧ (∀ y, sv = some y → SOK g N y) ∧ k ≤ 600 ∧ ∀ j, j < k → by' j < 256
/-- the lab's state at o -/
def CS (o m : Nat) (y : xSt) (I : xI) (J : xJ) : Prop := (I o 6 = stF y ∧ I o 7 = nI (stA y) ∧ I o 8 = nI (stB y) ∧ I o 9 = stR y ∧ I o 10 = (stZ y).2.2.1 ∧ I o 11 = (stZ y).2.2.2 ∧ J o 4 = lN (stZ y).1 ∧ J o 5 = lN (stZ y).2.1) ∧ (∀ k, k < m → I (o + 1) k = stS y k) ∧ (I (o + 2) 0 = nI (stK y) ∧ stK y ≤ 10000) ∧ ∀ i, i < stK y → J (o + 7) i = lN (stC y i) ∧ I (o + 8) i = stE y i
/-- rows for samples: none yet, or there -/
def SH (o p : Nat) (S : xS) (I : xI) (R : xR) : Prop := (R (o + 2) 1 = some (o + 3) ∧ S (o + 3) = (101, 0) ∧ R (o + 2) 2 = some (o + 4) ∧ S (o + 4) = (100, 0) ∧ S (o + 7) = (0, 0) ∧ S (o + 8) = (0, 0) ∧ I (o + 2) 0 = 0 ∧ 20002 ≤ p) ∨ (R (o + 2) 1 = some (o + 7) ∧ S (o + 7) = (101, 10000) ∧ R (o + 2) 2 = some (o + 8) ∧ S (o + 8) = (100, 10000))
/-- the table of the samples -/
def ST (p : Nat) (S : xS) (R : xR) : Prop := (R 112 3 = some 115 ∧ S 115 = (100, 0) ∧ S 119 = (0, 0) ∧ 32769 ≤ p) ∨ (R 112 3 = some 119 ∧ S 119 = (100, 32768))
/-- the rows of the enumeration -/
def SX (p : Nat) (S : xS) (I : xI) (R : xR) : Prop := (R 130 6 = some 131 ∧ S 131 = (104, 0) ∧ (∀ o, 151 ≤ o → o ≤ 156 → S o = (0, 0)) ∧ I 130 1 = 0 ∧ 200006 ≤ p) ∨ LE S R
/-- how often the output may grow yet -/
def gw (cap : Nat) : Nat := if cap < 32 then 5 else if cap < 64 then 4 else if cap < 128 then 3 else if cap < 256 then 2 else if cap < 512 then 1 else 0
/-- the output, and what lies behind it: all free from f on -/
def OU (f p : Nat) (S : xS) (I : xI) (R : xR) : Prop := (∃ v cap cnt, R 140 0 = some v ∧ S v = (103, cap) ∧ I 140 1 = 0 ∧ I 140 3 = nI cnt ∧ (v = 160 ∨ 402 ≤ v ∧ v < f) ∧ cnt ≤ cap ∧ 16 ≤ cap ∧ cap ≤ 2002 ∧ (∀ k, k < cap → bF (I v k)) ∧ 2003 * gw cap ≤ p) ∧ 402 ≤ f ∧ f ≤ 900000 ∧ ∀ o, f ≤ o → o < 900000 → S o = (0, 0)
/-- all rows -/
def RM (P f : Nat) (S : xS) (I : xI) (R : xR) : Prop := ∃ p1 p2 p3 p4 p5, p1 + p2 + p3 + p4 + p5 ≤ P ∧ SH 110 p1 S I R ∧ SH 120 p2 S I R ∧ ST p3 S R ∧ SX p4 S I R ∧ OU f p5 S I R
/-- the lab -/
def AC (g : xGd) (x : xSt) (sv : Option xSt) (k : Nat) (by' : Nat → Nat) (e1 e2 : Int32) (P f : Nat) (S : xS) (I : xI) (J : xJ) (R : xR) : Prop :=
  LC S R ∧ (CL I (gn g) (gm g) (gf g) (gs g) (gdd g) (gb g) ∧ I 102 0 = nI g.1 ∧ I 102 1 = nI g.2.1 ∧ J 102 4 = lN (aU (gn g))) ∧ CS 110 (gm g) x I J ∧
  (I 100 7 = (if sv.isSome = true then 1 else 0) ∧ ∀ y, sv = some y → CS 120 (gm g) y I J) ∧ (I 100 1 = nI k ∧ (∀ j, j < k → I 101 j = sB8 (by' j)) ∧ I 100 2 = e1 ∧ I 100 3 = e2) ∧
  (I 130 1 = 0 ∨ XL (gn g) (eG g x) S I R) ∧ RM P f S I R
/-- the model's state: in row o, its longs from j on, its samples from row p on -/
def MS (o j p n m : Nat) (y : xSt) (I : xI) (J : xJ) : Prop := (I o 2 = nI (stA y) ∧ I o 3 = nI (stB y) ∧ I o 4 = stF y ∧ I o 5 = stR y ∧ I o 6 = (stZ y).2.2.1 ∧ I o 7 = (stZ y).2.2.2 ∧ J 200 j = lN (stZ y).1 ∧ J 200 (j + 1) = lN (stZ y).2.1) ∧ (∀ k, k < m → I o (16 + k) = stS y k) ∧ (I o 9 = nI (stK y) ∧ stK y ≤ 10000) ∧ ∀ i, i < stK y → I p i = stE y i ∧ I (p + 1) i = mg n (stC y i) ∧ J (p + 2) i = lN (stC y i)
/-- the model -/
def AM (g : xGd) (x : xSt) (sv : Option xSt) (k : Nat) (by' : Nat → Nat) (e1 e2 : Int32) (S : xS) (I : xI) (J : xJ) (R : xR) : Prop :=
  LM S R ∧ (CM I (gn g) (gm g) (gf g) (gs g) (gdd g) (gb g) ∧ I 300 0 = nI g.1 ∧ I 300 1 = nI g.2.1 ∧ I 200 18 = nI g.2.2) ∧ MS 300 3 308 (gn g) (gm g) x I J ∧
  (I 200 7 = (if sv.isSome = true then 1 else 0) ∧ ∀ y, sv = some y → MS 302 5 311 (gn g) (gm g) y I J ∧ I 302 0 = nI g.1 ∧ I 302 1 = nI g.2.1 ∧ I 302 8 = nI (gm g) ∧ I 302 10 = nI (gn g)) ∧
  (I 200 21 = nI k ∧ (∀ j, j < k → I 320 j = nI (by' j)) ∧ I 200 22 = e1 ∧ I 200 23 = e2) ∧ (I 200 51 = 0 ∨ XM (gn g) (eG g x) I) ∧ ∃ u, I 200 59 = nI u ∧ u ≤ 800
end
