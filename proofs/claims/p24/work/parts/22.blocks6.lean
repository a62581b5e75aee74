/-! ===== printed by wip/gen.py: blocks ===== -/
def M201 : List (Nat × List xSem) := []
theorem N201 (q : xQt) : ∀ p ∈ M201, xOkB (xGm q) d_201 p.1 p.2 := fun _ h => absurd h List.not_mem_nil
