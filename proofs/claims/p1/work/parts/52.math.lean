/-! ===== the energy and the flip of one spin ===== -/
section
variable {n m : Nat} {fi se dg : Nat → Nat} {sb : Nat → Nat → Nat}
theorem sm_add (f g : Nat → Int32) : ∀ n, sm (fun k => f k + g k) n = sm f n + sm g n
  | 0 => rfl
  | n + 1 => by
    rw [sm, sm, sm, sm_add f g n]
    grind
theorem sm_mul (c : Int32) (f : Nat → Int32) : ∀ n, sm (fun k => c * f k) n = c * sm f n
  | 0 => by simp [sm]
  | n + 1 => by
    rw [sm, sm, sm_mul c f n]
    grind
theorem sm_zero : ∀ n, sm (fun _ => 0) n = 0
  | 0 => rfl
  | n + 1 => by rw [sm, sm_zero n]; rfl
theorem sm_one (c : Int32) (t : Nat) : ∀ n, sm (fun k => if k = t then c else 0) n = if t < n then c else 0
  | 0 => by simp [sm]
  | n + 1 => by
    rw [sm, sm_one c t n]
    by_cases h : t < n
    · rw [if_pos h, if_neg (by omega), if_pos (by omega), Int32.add_zero]
    · by_cases h2 : n = t
      · rw [if_neg h, if_pos h2, if_pos (by omega), Int32.zero_add]
      · rw [if_neg h, if_neg h2, if_neg (by omega), Int32.add_zero]
/-- the bonds of each site are the incident ones -/
def GN (n m : Nat) (fi se dg : Nat → Nat) (sb : Nat → Nat → Nat) : Prop := (∀ k, k < m → fi k ≠ se k) ∧ ∀ t, t < n → ∀ f : Nat → Int32, sm (fun i => f (sb t i)) (dg t) = sm (fun k => if fi k = t ∨ se k = t then f k else 0) m
/-- the energy -/
def en (F : Int32) (st : Nat → Int32) (n m : Nat) (fi se : Nat → Nat) (s : Nat) : Int32 := -(F * mg n s + ps m st fi se s)
theorem tb_x (s t i : Nat) : (s ^^^ 2 ^ t).testBit i = (s.testBit i ^^ decide (t = i)) := by
  rw [Nat.testBit_xor, Nat.testBit_two_pow]
theorem sg_not (b : Bool) : sg (!b) = - sg b := by cases b <;> rfl
theorem mg_x (n s t : Nat) (ht : t < n) : mg n (s ^^^ 2 ^ t) = mg n s + -2 * sg (s.testBit t) := by
  unfold mg
  have h1 : sm (fun i => sg ((s ^^^ 2 ^ t).testBit i)) n = sm (fun i => sg (s.testBit i) + (if i = t then -2 * sg (s.testBit t) else 0)) n := sm_congr (fun i hi => by
    rw [tb_x]
    by_cases h : i = t
    · subst h
      simp only [decide_true, Bool.xor_true, if_true, sg_not]
      grind
    · rw [if_neg h, decide_eq_false (fun e => h e.symm), Bool.xor_false, Int32.add_zero])
  rw [h1, sm_add, sm_one, if_pos ht]
theorem pr_n1 (st : Int32) (a b : Bool) : pr st (!a) b = - pr st a b := by
  cases a <;> cases b <;> simp [pr]
theorem pr_n2 (st : Int32) (a b : Bool) : pr st a (!b) = - pr st a b := by
  cases a <;> cases b <;> simp [pr]
theorem ps_x (hN : GN n m fi se dg sb) (st : Nat → Int32) (s t : Nat) (ht : t < n) : ps m st fi se (s ^^^ 2 ^ t) = ps m st fi se s + -2 * sm (fun i => pr (st (sb t i)) (s.testBit (fi (sb t i))) (s.testBit (se (sb t i)))) (dg t) := by
  rw [hN.2 t ht (fun k => pr (st k) (s.testBit (fi k)) (s.testBit (se k)))]
  rw [← sm_mul]
  unfold ps
  rw [← sm_add]
  refine sm_congr (fun k hk => ?_)
  rw [tb_x, tb_x]
  have hne := hN.1 k hk
  by_cases h1 : fi k = t
  · have h2 : ¬ se k = t := fun e => hne (h1.trans e.symm)
    rw [if_pos (Or.inl h1), decide_eq_true h1.symm, decide_eq_false (fun e => h2 e.symm), Bool.xor_true, Bool.xor_false, pr_n1]
    grind
  · by_cases h2 : se k = t
    · rw [if_pos (Or.inr h2), decide_eq_false (fun e => h1 e.symm), decide_eq_true h2.symm, Bool.xor_true, Bool.xor_false, pr_n2]
      grind
    · rw [if_neg (fun e => e.elim h1 h2), decide_eq_false (fun e => h1 e.symm), decide_eq_false (fun e => h2 e.symm), Bool.xor_false, Bool.xor_false]
      grind
theorem en_x (hN : GN n m fi se dg sb) (F : Int32) (st : Nat → Int32) (s t : Nat) (ht : t < n) : en F st n m fi se (s ^^^ 2 ^ t) = en F st n m fi se s + dl F st fi se dg sb s t := by
  unfold en dl
  rw [mg_x n s t ht, ps_x hN st s t ht]
  grind
end
