/-! ===== descents: printed by 99h.dcases.py ===== -/
section
theorem bs_congr {d e : Nat → Int32} {c : Nat} : ∀ {i : Nat}, (∀ k, k < i → d k = e k) → bs d c i = bs e c i
  | 0, _ => rfl
  | i + 1, h => by rw [bs, bs, bs_congr (fun k hk => h k (Nat.lt_succ_of_lt hk)), h i (Nat.lt_succ_self i)]
theorem nc_congr {F : Int32} {st st' : Nat → Int32} {n m : Nat} {fi se dg : Nat → Nat} {sb : Nat → Nat → Nat} (hG : GR n m fi se dg sb) (h : ∀ k, k < m → st k = st' k) : nc F st n fi se dg sb = nc F st' n fi se dg sb := by
  funext c
  unfold nc
  rw [bs_congr (fun k hk => dl_congr hG c hk h)]
end
