/-! ===== heaps as five functions; runs by rewriting ===== -/
abbrev xI : Type := Nat → Nat → Int32
abbrev xJ : Type := Nat → Nat → Int64
abbrev xDb : Type := Nat → Nat → UInt64
abbrev xS : Type := Nat → Nat × Nat
abbrev xR : Type := Nat → Nat → Option Nat
def uI (I : xI) (o k : Nat) (v : Int32) : xI := fun a b => if a = o ∧ b = k then v else I a b
def uJ (J : xJ) (o k : Nat) (v : Int64) : xJ := fun a b => if a = o ∧ b = k then v else J a b
def uD (D : xDb) (o k : Nat) (v : UInt64) : xDb := fun a b => if a = o ∧ b = k then v else D a b
def uR (R : xR) (o k : Nat) (v : Option Nat) : xR := fun a b => if a = o ∧ b = k then v else R a b
theorem hg_S (S : xS) (I : xI) (J : xJ) (D : xDb) (R : xR) (o : Nat) : gS (S, I, J, D, R) o = S o := rfl
theorem hg_I (S : xS) (I : xI) (J : xJ) (D : xDb) (R : xR) (o k : Nat) : gI (S, I, J, D, R) o k = I o k := rfl
theorem hg_J (S : xS) (I : xI) (J : xJ) (D : xDb) (R : xR) (o k : Nat) : gL (S, I, J, D, R) o k = J o k := rfl
theorem hg_D (S : xS) (I : xI) (J : xJ) (D : xDb) (R : xR) (o k : Nat) : gD (S, I, J, D, R) o k = D o k := rfl
theorem hg_R (S : xS) (I : xI) (J : xJ) (D : xDb) (R : xR) (o k : Nat) : gR (S, I, J, D, R) o k = R o k := rfl
theorem hs_I (S : xS) (I : xI) (J : xJ) (D : xDb) (R : xR) (o k : Nat) (v : Int32) : sI (S, I, J, D, R) o k v = (S, uI I o k v, J, D, R) := rfl
theorem hs_J (S : xS) (I : xI) (J : xJ) (D : xDb) (R : xR) (o k : Nat) (v : Int64) : sL (S, I, J, D, R) o k v = (S, I, uJ J o k v, D, R) := rfl
theorem hs_D (S : xS) (I : xI) (J : xJ) (D : xDb) (R : xR) (o k : Nat) (v : UInt64) : sD (S, I, J, D, R) o k v = (S, I, J, uD D o k v, R) := rfl
theorem hs_R (S : xS) (I : xI) (J : xJ) (D : xDb) (R : xR) (o k : Nat) (v : Option Nat) : sR (S, I, J, D, R) o k v = (S, I, J, D, uR R o k v) := rfl
theorem uI_at (I : xI) (o k : Nat) (v : Int32) (a b : Nat) : uI I o k v a b = if a = o ∧ b = k then v else I a b := rfl
theorem uJ_at (I : xJ) (o k : Nat) (v : Int64) (a b : Nat) : uJ I o k v a b = if a = o ∧ b = k then v else I a b := rfl
theorem uD_at (I : xDb) (o k : Nat) (v : UInt64) (a b : Nat) : uD I o k v a b = if a = o ∧ b = k then v else I a b := rfl
theorem uR_at (I : xR) (o k : Nat) (v : Option Nat) (a b : Nat) : uR I o k v a b = if a = o ∧ b = k then v else I a b := rfl
theorem uI_uI (I : xI) (o k : Nat) (v w : Int32) : uI (uI I o k v) o k w = uI I o k w := by
  funext a b
  simp only [uI_at]
  split <;> rfl
theorem uJ_uJ (I : xJ) (o k : Nat) (v w : Int64) : uJ (uJ I o k v) o k w = uJ I o k w := by
  funext a b
  simp only [uJ_at]
  split <;> rfl
theorem uI_same {I : xI} {o k : Nat} {v : Int32} (h : I o k = v) : uI I o k v = I := by
  funext a b
  simp only [uI_at]
  split
  · rename_i h1
    rw [h1.1, h1.2, h]
  · rfl
theorem uJ_same {I : xJ} {o k : Nat} {v : Int64} (h : I o k = v) : uJ I o k v = I := by
  funext a b
  simp only [uJ_at]
  split
  · rename_i h1
    rw [h1.1, h1.2, h]
  · rfl
/-- the class's own things, at their places -/
def LC (S : xS) (R : xR) : Prop := S 100 = (1, 0) ∧ R 100 0 = some 101 ∧ R 100 4 = some 102 ∧ R 100 5 = some 110 ∧ R 100 6 = some 120 ∧ R 100 8 = some 130 ∧ R 100 9 = some 140 ∧
  S 101 = (103, 600) ∧ S 102 = (3, 0) ∧ R 102 5 = some 103 ∧ R 102 6 = some 104 ∧ R 102 7 = some 105 ∧ R 102 8 = some 106 ∧ R 102 9 = some 107 ∧ R 102 10 = some 108 ∧
  S 103 = (100, 128) ∧ S 104 = (100, 128) ∧ S 105 = (100, 64) ∧ S 106 = (100, 64) ∧ S 107 = (100, 64) ∧ S 108 = (100, 256) ∧
  S 110 = (7, 0) ∧ R 110 0 = some 102 ∧ R 110 1 = some 111 ∧ R 110 2 = some 112 ∧ R 110 3 = some 116 ∧ S 111 = (100, 128) ∧ S 112 = (4, 0) ∧ S 116 = (100, 64) ∧
  S 120 = (7, 0) ∧ R 120 0 = some 102 ∧ R 120 1 = some 121 ∧ R 120 2 = some 122 ∧ R 120 3 = some 126 ∧ S 121 = (100, 128) ∧ S 122 = (4, 0) ∧ S 126 = (100, 64) ∧
  S 130 = (2, 0) ∧ R 130 0 = some 110 ∧ R 130 12 = some 137 ∧ R 130 13 = some 138 ∧ R 130 14 = some 139 ∧ S 137 = (100, 289) ∧ S 138 = (100, 289) ∧ S 139 = (102, 289) ∧
  S 140 = (9, 0)
theorem LC_out {S : xS} {R : xR} (h : LC S R) : S 100 = (1, 0) ∧ R 100 0 = some 101 ∧ R 100 4 = some 102 ∧ R 100 5 = some 110 ∧ R 100 6 = some 120 ∧ R 100 8 = some 130 ∧ R 100 9 = some 140 ∧
  S 101 = (103, 600) ∧ S 102 = (3, 0) ∧ R 102 5 = some 103 ∧ R 102 6 = some 104 ∧ R 102 7 = some 105 ∧ R 102 8 = some 106 ∧ R 102 9 = some 107 ∧ R 102 10 = some 108 ∧
  S 103 = (100, 128) ∧ S 104 = (100, 128) ∧ S 105 = (100, 64) ∧ S 106 = (100, 64) ∧ S 107 = (100, 64) ∧ S 108 = (100, 256) ∧
  S 110 = (7, 0) ∧ R 110 0 = some 102 ∧ R 110 1 = some 111 ∧ R 110 2 = some 112 ∧ R 110 3 = some 116 ∧ S 111 = (100, 128) ∧ S 112 = (4, 0) ∧ S 116 = (100, 64) ∧
  S 120 = (7, 0) ∧ R 120 0 = some 102 ∧ R 120 1 = some 121 ∧ R 120 2 = some 122 ∧ R 120 3 = some 126 ∧ S 121 = (100, 128) ∧ S 122 = (4, 0) ∧ S 126 = (100, 64) ∧
  S 130 = (2, 0) ∧ R 130 0 = some 110 ∧ R 130 12 = some 137 ∧ R 130 13 = some 138 ∧ R 130 14 = some 139 ∧ S 137 = (100, 289) ∧ S 138 = (100, 289) ∧ S 139 = (102, 289) ∧
  S 140 = (9, 0) := h
/-- the model's own things: the row of field f lies at 300 + f -/
def LM (S : xS) (R : xR) : Prop := S 200 = (8, 0) ∧ R 200 0 = some 300 ∧ S 300 = (100, 144) ∧ R 200 1 = some 301 ∧ S 301 = (100, 144) ∧ R 200 2 = some 302 ∧ S 302 = (100, 144) ∧ R 200 8 = some 308 ∧ S 308 = (100, 10000) ∧ R 200 9 = some 309 ∧ S 309 = (100, 10000) ∧ R 200 10 = some 310 ∧ S 310 = (101, 10000) ∧ R 200 11 = some 311 ∧ S 311 = (100, 10000) ∧ R 200 12 = some 312 ∧ S 312 = (100, 10000) ∧ R 200 13 = some 313 ∧ S 313 = (101, 10000) ∧ R 200 14 = some 314 ∧ S 314 = (100, 128) ∧ R 200 15 = some 315 ∧ S 315 = (100, 128) ∧ R 200 16 = some 316 ∧ S 316 = (100, 256) ∧ R 200 17 = some 317 ∧ S 317 = (100, 64) ∧ R 200 20 = some 320 ∧ S 320 = (100, 600) ∧ R 200 34 = some 334 ∧ S 334 = (100, 12) ∧ R 200 35 = some 335 ∧ S 335 = (100, 12) ∧ R 200 40 = some 340 ∧ S 340 = (100, 64) ∧ R 200 41 = some 341 ∧ S 341 = (100, 64) ∧ R 200 42 = some 342 ∧ S 342 = (100, 32768) ∧ R 200 43 = some 343 ∧ S 343 = (100, 65536) ∧ R 200 44 = some 344 ∧ S 344 = (100, 65536) ∧ R 200 45 = some 345 ∧ S 345 = (100, 13233) ∧ R 200 46 = some 346 ∧ S 346 = (100, 6000) ∧ R 200 47 = some 347 ∧ S 347 = (100, 6000) ∧ R 200 48 = some 348 ∧ S 348 = (100, 6000) ∧ R 200 52 = some 352 ∧ S 352 = (102, 401) ∧ R 200 53 = some 353 ∧ S 353 = (100, 401) ∧ R 200 54 = some 354 ∧ S 354 = (100, 401) ∧ R 200 55 = some 355 ∧ S 355 = (100, 65536) ∧ R 200 56 = some 356 ∧ S 356 = (100, 65536) ∧ R 200 57 = some 357 ∧ S 357 = (100, 402) ∧ R 200 58 = some 358 ∧ S 358 = (100, 800)
theorem LM_out {S : xS} {R : xR} (h : LM S R) : S 200 = (8, 0) ∧ R 200 0 = some 300 ∧ S 300 = (100, 144) ∧ R 200 1 = some 301 ∧ S 301 = (100, 144) ∧ R 200 2 = some 302 ∧ S 302 = (100, 144) ∧ R 200 8 = some 308 ∧ S 308 = (100, 10000) ∧ R 200 9 = some 309 ∧ S 309 = (100, 10000) ∧ R 200 10 = some 310 ∧ S 310 = (101, 10000) ∧ R 200 11 = some 311 ∧ S 311 = (100, 10000) ∧ R 200 12 = some 312 ∧ S 312 = (100, 10000) ∧ R 200 13 = some 313 ∧ S 313 = (101, 10000) ∧ R 200 14 = some 314 ∧ S 314 = (100, 128) ∧ R 200 15 = some 315 ∧ S 315 = (100, 128) ∧ R 200 16 = some 316 ∧ S 316 = (100, 256) ∧ R 200 17 = some 317 ∧ S 317 = (100, 64) ∧ R 200 20 = some 320 ∧ S 320 = (100, 600) ∧ R 200 34 = some 334 ∧ S 334 = (100, 12) ∧ R 200 35 = some 335 ∧ S 335 = (100, 12) ∧ R 200 40 = some 340 ∧ S 340 = (100, 64) ∧ R 200 41 = some 341 ∧ S 341 = (100, 64) ∧ R 200 42 = some 342 ∧ S 342 = (100, 32768) ∧ R 200 43 = some 343 ∧ S 343 = (100, 65536) ∧ R 200 44 = some 344 ∧ S 344 = (100, 65536) ∧ R 200 45 = some 345 ∧ S 345 = (100, 13233) ∧ R 200 46 = some 346 ∧ S 346 = (100, 6000) ∧ R 200 47 = some 347 ∧ S 347 = (100, 6000) ∧ R 200 48 = some 348 ∧ S 348 = (100, 6000) ∧ R 200 52 = some 352 ∧ S 352 = (102, 401) ∧ R 200 53 = some 353 ∧ S 353 = (100, 401) ∧ R 200 54 = some 354 ∧ S 354 = (100, 401) ∧ R 200 55 = some 355 ∧ S 355 = (100, 65536) ∧ R 200 56 = some 356 ∧ S 356 = (100, 65536) ∧ R 200 57 = some 357 ∧ S 357 = (100, 402) ∧ R 200 58 = some 358 ∧ S 358 = (100, 800) := h
theorem xi144_0 : xIn 0 144 = True := eq_true (show ¬ ((0 : Int32) < 0 ∨ 144 ≤ (0 : Int32).toNatClampNeg) by decide)
theorem ix_0 : ix 0 = 0 := by decide
theorem xi144_1 : xIn 1 144 = True := eq_true (show ¬ ((1 : Int32) < 0 ∨ 144 ≤ (1 : Int32).toNatClampNeg) by decide)
theorem ix_1 : ix 1 = 1 := by decide
theorem xi144_2 : xIn 2 144 = True := eq_true (show ¬ ((2 : Int32) < 0 ∨ 144 ≤ (2 : Int32).toNatClampNeg) by decide)
theorem ix_2 : ix 2 = 2 := by decide
theorem xi144_3 : xIn 3 144 = True := eq_true (show ¬ ((3 : Int32) < 0 ∨ 144 ≤ (3 : Int32).toNatClampNeg) by decide)
theorem ix_3 : ix 3 = 3 := by decide
theorem xi144_4 : xIn 4 144 = True := eq_true (show ¬ ((4 : Int32) < 0 ∨ 144 ≤ (4 : Int32).toNatClampNeg) by decide)
theorem ix_4 : ix 4 = 4 := by decide
theorem xi144_5 : xIn 5 144 = True := eq_true (show ¬ ((5 : Int32) < 0 ∨ 144 ≤ (5 : Int32).toNatClampNeg) by decide)
theorem ix_5 : ix 5 = 5 := by decide
theorem xi144_6 : xIn 6 144 = True := eq_true (show ¬ ((6 : Int32) < 0 ∨ 144 ≤ (6 : Int32).toNatClampNeg) by decide)
theorem ix_6 : ix 6 = 6 := by decide
theorem xi144_7 : xIn 7 144 = True := eq_true (show ¬ ((7 : Int32) < 0 ∨ 144 ≤ (7 : Int32).toNatClampNeg) by decide)
theorem ix_7 : ix 7 = 7 := by decide
theorem xi144_8 : xIn 8 144 = True := eq_true (show ¬ ((8 : Int32) < 0 ∨ 144 ≤ (8 : Int32).toNatClampNeg) by decide)
theorem ix_8 : ix 8 = 8 := by decide
theorem xi144_9 : xIn 9 144 = True := eq_true (show ¬ ((9 : Int32) < 0 ∨ 144 ≤ (9 : Int32).toNatClampNeg) by decide)
theorem ix_9 : ix 9 = 9 := by decide
theorem xi144_10 : xIn 10 144 = True := eq_true (show ¬ ((10 : Int32) < 0 ∨ 144 ≤ (10 : Int32).toNatClampNeg) by decide)
theorem ix_10 : ix 10 = 10 := by decide
theorem nI_c16 (k : Nat) : (16 : Int32) + nI k = nI (16 + k) := by rw [show (16 : Int32) = nI 16 from rfl, nI_add]
theorem nI_m4 (k : Nat) : nI k * 4 = nI (k * 4) := by rw [show (4 : Int32) = nI 4 from rfl, pk_mul]
theorem nI_4m (k : Nat) : 4 * nI k = nI (k * 4) := by rw [show (4 : Int32) = nI 4 from rfl, pk_mul, Nat.mul_comm]
theorem i1_0 : ((1 : Int32) = 0) = False := eq_false (by decide)
theorem i0_1 : ((0 : Int32) = 1) = False := eq_false (by decide)
