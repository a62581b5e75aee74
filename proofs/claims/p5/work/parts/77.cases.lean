/-! ===== cases: printed by 77.cases.py ===== -/
section
def swf (x : Int32) : List (Int32 × Nat) → Nat → Nat
  | [], d => d
  | q :: r, d => if x = q.1 then q.2 else swf x r d
theorem xSw_eq (F : Nat → Prop) (x : Int32) : ∀ (ps : List (Int32 × Nat)) (d : Nat), xSw F x ps d = F (swf x ps d)
  | [], d => rfl
  | q :: r, d => by
    rw [xSw, swf, xSw_eq F x r d]
    by_cases h : x = q.1
    · simp [h]
    · simp [h]
theorem i_sw_eq (ps : List (Int32 × Nat)) (y t : Nat) (ks : List Nat) (P : xP) (Q : xQ) (K : xK) (l : xL) (x : Int32) (r : List Value) (h : xH) (b : Nat × Nat) : i_sw ps y t ks P Q K l (.int x :: r) h b = P y (swf x ps t) (lkp l ks) r h b Q := xSw_eq _ _ _ _
theorem swf_no {x : Int32} : ∀ {ps : List (Int32 × Nat)} {d : Nat}, (∀ q ∈ ps, x ≠ q.1) → swf x ps d = d
  | [], _, _ => rfl
  | q :: r, d, h => by
    rw [swf, if_neg (h q List.mem_cons_self)]
    exact swf_no (fun q hq => h q (List.mem_cons_of_mem _ hq))
theorem out_of {x : Int32} {n : Nat} (hn : n < 2147483648) (h : x < 0 ∨ nI n ≤ x) {k : Nat} (hk : k < n) : x ≠ nI k := fun e => by
  subst e
  rcases h with h | h
  · exact nI_pos (by omega) h
  · exact nI_ge hk hn h
end
