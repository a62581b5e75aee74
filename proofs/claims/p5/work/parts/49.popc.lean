/-! ===== the JDK's counting of bits ===== -/
section
theorem val_ext {B k : Nat} {d : Nat → Nat} (h : d k = 0) : val B (k + 1) d = val B k d := by
  induction k generalizing d with
  | zero => rw [val, val, h]; rfl
  | succ k ih =>
    rw [val, ih (d := fun j => d (j + 1)) h]
    rfl
/-- one digit to the right, as many digits as before -/
theorem val_shr {B k : Nat} {d : Nat → Nat} (h : d 0 < B) : val B (k + 1) d / B = val B (k + 1) (fun j => if j < k then d (j + 1) else 0) := by
  rw [val_div h, val_ext (by simp)]
  exact val_congr (fun j hj => by rw [if_pos hj])
/-- the eighths of the count -/
def pe (x j : Nat) : Nat := (bt x (8 * j) + bt x (8 * j + 1)) + (bt x (8 * j + 2) + bt x (8 * j + 3)) + ((bt x (8 * j + 4) + bt x (8 * j + 5)) + (bt x (8 * j + 6) + bt x (8 * j + 7)))
theorem pe_le (x j : Nat) : pe x j ≤ 8 := by
  have := bt_le x (8 * j)
  have := bt_le x (8 * j + 1)
  have := bt_le x (8 * j + 2)
  have := bt_le x (8 * j + 3)
  have := bt_le x (8 * j + 4)
  have := bt_le x (8 * j + 5)
  have := bt_le x (8 * j + 6)
  have := bt_le x (8 * j + 7)
  unfold pe
  omega
theorem pop_8 (x j : Nat) : pop (8 * j + 8) x = pop (8 * j) x + pe x j := by
  unfold pe
  show pop (8 * j) x + bt x (8 * j) + bt x (8 * j + 1) + bt x (8 * j + 2) + bt x (8 * j + 3) + bt x (8 * j + 4) + bt x (8 * j + 5) + bt x (8 * j + 6) + bt x (8 * j + 7) = _
  omega
theorem pop64 (x : Nat) : pop 64 x = pe x 0 + pe x 1 + pe x 2 + pe x 3 + pe x 4 + pe x 5 + pe x 6 + pe x 7 := by
  have h0 := pop_8 x 0
  have h1 := pop_8 x 1
  have h2 := pop_8 x 2
  have h3 := pop_8 x 3
  have h4 := pop_8 x 4
  have h5 := pop_8 x 5
  have h6 := pop_8 x 6
  have h7 := pop_8 x 7
  simp only [Nat.mul_zero, Nat.zero_add, Nat.mul_one, Nat.reduceMul, Nat.reduceAdd] at h0 h1 h2 h3 h4 h5 h6 h7
  rw [h7, h6, h5, h4, h3, h2, h1, h0, show pop 0 x = 0 from rfl, Nat.zero_add]
theorem swar {K x : Nat} {M5 M3 MF : Nat} (hx : x < 2 ^ (8 * (K + 1))) (h5 : M5 = val 4 (4 * (K + 1)) (fun _ => 1)) (h3 : M3 = val 16 (2 * (K + 1)) (fun _ => 3)) (hF : MF = val 256 (K + 1) (fun _ => 15)) :
    ∃ y z : Nat, y = x - ((x / 2) &&& M5) ∧ z = (y &&& M3) + ((y / 4) &&& M3) ∧ (z + z / 16) &&& MF = val 256 (K + 1) (pe x) ∧ y ≤ x ∧ (x / 2) &&& M5 ≤ x ∧ z < 2 ^ (8 * (K + 1)) ∧ z + z / 16 < 2 ^ (8 * (K + 1)) := by
  have ey := sw1 (K := 4 * (K + 1)) (x := x) (by rw [show 2 * (4 * (K + 1)) = 8 * (K + 1) by omega]; exact hx) h5
  have hle : (x / 2) &&& M5 ≤ x := Nat.le_trans Nat.and_le_left (Nat.div_le_self _ _)
  have b2 : ∀ j, bt x (2 * j) + bt x (2 * j + 1) ≤ 2 := fun j => by have := bt_le x (2 * j); have := bt_le x (2 * j + 1); omega
  have e3 : (4 : Nat) * (K + 1) = 2 * (2 * (K + 1)) := by omega
  have f1 : val 4 (4 * (K + 1)) (fun j => bt x (2 * j) + bt x (2 * j + 1)) &&& M3 = val 16 (2 * (K + 1)) (fun j => bt x (4 * j) + bt x (4 * j + 1)) := by
    rw [e3]
    have h := sw2 (w := 2) (K := 2 * (K + 1)) (p := fun j => bt x (2 * j) + bt x (2 * j + 1)) (fun j _ => by have := b2 j; omega) h3
    rw [show (2 : Nat) ^ 2 = 4 from rfl] at h
    rw [h]
    exact val_congr (fun j _ => by rw [show 2 * (2 * j) = 4 * j by omega])
  have f2 : val 4 (4 * (K + 1)) (fun j => bt x (2 * j) + bt x (2 * j + 1)) / 4 &&& M3 = val 16 (2 * (K + 1)) (fun j => bt x (4 * j + 2) + bt x (4 * j + 3)) := by
    rw [show 4 * (K + 1) = 4 * K + 3 + 1 by omega, val_shr (by have := b2 0; omega), show 4 * K + 3 + 1 = 2 * (2 * (K + 1)) by omega]
    have h := sw2 (w := 2) (K := 2 * (K + 1)) (p := fun j => if j < 4 * K + 3 then bt x (2 * (j + 1)) + bt x (2 * (j + 1) + 1) else 0) (fun j _ => by
      have := b2 (j + 1)
      show (if j < 4 * K + 3 then bt x (2 * (j + 1)) + bt x (2 * (j + 1) + 1) else 0) < 4
      split <;> omega) h3
    rw [show (2 : Nat) ^ 2 = 4 from rfl] at h
    rw [h]
    exact val_congr (fun j hj => by rw [if_pos (show 2 * j < 4 * K + 3 by omega), show 2 * (2 * j + 1) = 4 * j + 2 by omega])
  have b4 : ∀ j, bt x (4 * j) + bt x (4 * j + 1) + (bt x (4 * j + 2) + bt x (4 * j + 3)) ≤ 4 := fun j => by
    have := bt_le x (4 * j)
    have := bt_le x (4 * j + 1)
    have := bt_le x (4 * j + 2)
    have := bt_le x (4 * j + 3)
    omega
  have f3 : val 16 (2 * (K + 1)) (fun j => bt x (4 * j) + bt x (4 * j + 1) + (bt x (4 * j + 2) + bt x (4 * j + 3))) + val 16 (2 * (K + 1)) (fun j => bt x (4 * j) + bt x (4 * j + 1) + (bt x (4 * j + 2) + bt x (4 * j + 3))) / 16 = val 16 (2 * (K + 1)) (fun j => bt x (4 * j) + bt x (4 * j + 1) + (bt x (4 * j + 2) + bt x (4 * j + 3)) + (if j < 2 * K + 1 then bt x (4 * (j + 1)) + bt x (4 * (j + 1) + 1) + (bt x (4 * (j + 1) + 2) + bt x (4 * (j + 1) + 3)) else 0)) := by
    rw [show 2 * (K + 1) = 2 * K + 1 + 1 by omega, val_shr (by have := b4 0; omega), val_add]
  refine ⟨_, _, rfl, rfl, ?_, Nat.sub_le _ _, hle, ?_⟩
  all_goals rw [ey, f1, f2, val_add]
  · rw [f3]
    have h := sw2 (w := 4) (K := K + 1) (p := fun j => bt x (4 * j) + bt x (4 * j + 1) + (bt x (4 * j + 2) + bt x (4 * j + 3)) + (if j < 2 * K + 1 then bt x (4 * (j + 1)) + bt x (4 * (j + 1) + 1) + (bt x (4 * (j + 1) + 2) + bt x (4 * (j + 1) + 3)) else 0)) (fun j _ => by
      have := b4 j
      have := b4 (j + 1)
      show bt x (4 * j) + bt x (4 * j + 1) + (bt x (4 * j + 2) + bt x (4 * j + 3)) + (if j < 2 * K + 1 then bt x (4 * (j + 1)) + bt x (4 * (j + 1) + 1) + (bt x (4 * (j + 1) + 2) + bt x (4 * (j + 1) + 3)) else 0) < 16
      split <;> omega) hF
    rw [show (2 : Nat) ^ 4 = 16 from rfl] at h
    rw [h]
    refine val_congr (fun j hj => ?_)
    rw [if_pos (show 2 * j < 2 * K + 1 by omega)]
    unfold pe
    rw [show 4 * (2 * j) = 8 * j by omega, show 4 * (2 * j + 1) = 8 * j + 4 by omega]
  · have hz : val 16 (2 * (K + 1)) (fun j => bt x (4 * j) + bt x (4 * j + 1) + (bt x (4 * j + 2) + bt x (4 * j + 3))) < 16 ^ (2 * (K + 1)) := val_lt (fun j _ => by have := b4 j; omega)
    have hs : val 16 (2 * (K + 1)) (fun j => bt x (4 * j) + bt x (4 * j + 1) + (bt x (4 * j + 2) + bt x (4 * j + 3)) + (if j < 2 * K + 1 then bt x (4 * (j + 1)) + bt x (4 * (j + 1) + 1) + (bt x (4 * (j + 1) + 2) + bt x (4 * (j + 1) + 3)) else 0)) < 16 ^ (2 * (K + 1)) := val_lt (fun j _ => by
      have := b4 j
      have := b4 (j + 1)
      split <;> omega)
    rw [show (16 : Nat) = 2 ^ 4 from rfl, ← Nat.pow_mul, show 4 * (2 * (K + 1)) = 8 * (K + 1) by omega] at hz hs
    exact ⟨hz, by rw [f3]; exact hs⟩
/-- the eight eighths, folded together -/
theorem fold8 {r0 r1 r2 r3 r4 r5 r6 r7 R1 R2 R3 R4 R5 R6 R7 w : Nat} (h0 : r0 ≤ 8) (h1 : r1 ≤ 8) (h2 : r2 ≤ 8) (h3 : r3 ≤ 8) (h4 : r4 ≤ 8) (h5 : r5 ≤ 8) (h6 : r6 ≤ 8) (h7 : r7 ≤ 8)
    (e7 : R7 = r7) (e6 : R6 = r6 + 256 * R7) (e5 : R5 = r5 + 256 * R6) (e4 : R4 = r4 + 256 * R5) (e3 : R3 = r3 + 256 * R4) (e2 : R2 = r2 + 256 * R3) (e1 : R1 = r1 + 256 * R2) (hw : w = r0 + 256 * R1) :
    w / 256 = R1 ∧ (w + R1) / 65536 = R2 + R3 ∧ (w + R1 + (R2 + R3)) / 4294967296 = R4 + R5 + R6 + R7 ∧ (w + R1 + (R2 + R3) + (R4 + R5 + R6 + R7)) % 128 = r0 + r1 + r2 + r3 + r4 + r5 + r6 + r7 ∧ w + R1 + (R2 + R3) + (R4 + R5 + R6 + R7) < 18446744073709551616 := by
  have b7 : R7 ≤ 8 := by omega
  have b6 : R6 ≤ 2056 := by omega
  have b5 : R5 ≤ 526344 := by omega
  have b4 : R4 ≤ 134744072 := by omega
  have b3 : R3 ≤ 34494482440 := by omega
  have b2 : R2 ≤ 8830587504648 := by omega
  have b1 : R1 ≤ 2260630401189896 := by omega
  have b0 : w ≤ 578721382704613384 := by omega
  have d1 : w / 256 = R1 := by
    clear e1 e2 e3 e4 e5 e6 e7
    omega
  have c1 : w + R1 = (r0 + r1) + 256 * (r1 + r2) + 65536 * (R2 + R3) := by
    clear e3 e4 e5 e6 e7
    omega
  have c2 : R2 + R3 = (r2 + r3) + 256 * (r3 + r4) + 65536 * (R4 + R5) := by
    clear e1 e5 e6 e7 hw c1
    omega
  have c3 : R4 + R5 = (r4 + r5) + 256 * (r5 + r6) + 65536 * (R6 + R7) := by
    clear e1 e2 e3 e7 hw c1 c2
    omega
  have c4 : R4 + R5 + R6 + R7 = (r4 + r5 + r6 + r7) + 256 * (R5 + R6 + R7) := by
    clear e1 e2 e3 hw c1 c2 c3
    omega
  clear e1 e2 e3 e4 e5 e6 e7 hw
  have d2 : (w + R1) / 65536 = R2 + R3 := by
    clear c2 c3 c4
    omega
  obtain ⟨V, hV⟩ : ∃ V, V = R2 + R3 + (R4 + R5) := ⟨_, rfl⟩
  have c5 : w + R1 + (R2 + R3) = (r0 + r1 + r2 + r3) + 256 * (r1 + r2 + r3 + r4) + 65536 * V := by
    clear c3 c4
    omega
  have c6 : V = (r2 + r3 + r4 + r5) + 256 * (r3 + r4 + r5 + r6) + 65536 * (R4 + R5 + R6 + R7) := by
    clear c1 c5 c4
    omega
  obtain ⟨Y, hY⟩ : ∃ Y, Y = R4 + R5 + R6 + R7 := ⟨_, rfl⟩
  rw [← hY] at c6 c4 ⊢
  have d3 : (w + R1 + (R2 + R3)) / 4294967296 = Y := by
    rw [c5]
    clear c1 c2 c3 c4 c5 hV hY d1 d2
    omega
  refine ⟨d1, d2, d3, ?_, ?_⟩
  · rw [c5]
    clear c1 c2 c3 c5 c6 hV hY d1 d2 d3
    omega
  · clear c1 c2 c3 c4 c5 c6 hV d1 d2 d3
    omega
end
section
variable {S : xS} {I : xI} {J : xJ} {D : xDb} {R : xR} {b : Nat × Nat} {Q : xQ}
theorem lN_subP {a c : Nat} (h : c ≤ a) : lN a - lN c = lN (a - c) := lN_sub h
theorem q_mod32 {a : Nat} : (lN a).toInt32 = nI a := lN_i a
theorem q_and127 {a : Nat} : nI a &&& 127 = nI (a % 128) := by
  apply Int32.toBitVec_inj.mp
  apply BitVec.eq_of_toNat_eq
  show (nI a).toBitVec.toNat &&& 127 = (nI (a % 128)).toBitVec.toNat
  show a % 2 ^ 32 &&& 127 = (a % 128) % 2 ^ 32
  rw [show (127 : Nat) = 2 ^ 7 - 1 from rfl, Nat.and_two_pow_sub_one_eq_mod]
  omega
theorem Y2 {x : Nat} (hx : x < 2 ^ 64) : xRun xT 2 0 [(0, .long (lN x))] [] (S, I, J, D, R) b Q = Q (.ok (some (.int (nI (pop 64 x))))) (S, I, J, D, R) b := by
  obtain ⟨y, z, ey, ez, ew, by1, by2, bz, bzz⟩ := swar (K := 7) (x := x) (M5 := 6148914691236517205) (M3 := 3689348814741910323) (MF := 1085102592571150095) hx (by decide +kernel) (by decide +kernel) (by decide +kernel)
  obtain ⟨w, hw⟩ : ∃ w, w = val 256 8 (pe x) := ⟨_, rfl⟩
  have hv : w = pe x 0 + 256 * (pe x 1 + 256 * (pe x 2 + 256 * (pe x 3 + 256 * (pe x 4 + 256 * (pe x 5 + 256 * (pe x 6 + 256 * (pe x 7))))))) := hw
  obtain ⟨d1, d2, d3, f0, f4⟩ := fold8 (pe_le x 0) (pe_le x 1) (pe_le x 2) (pe_le x 3) (pe_le x 4) (pe_le x 5) (pe_le x 6) (pe_le x 7) rfl rfl rfl rfl rfl rfl rfl hv
  rw [← d3, ← d2, ← d1] at f0 f4
  have hp : pop 64 x = pe x 0 + pe x 1 + pe x 2 + pe x 3 + pe x 4 + pe x 5 + pe x 6 + pe x 7 := pop64 x
  rw [← hp] at f0
  have hq : x < 18446744073709551616 := hx
  have k1 : lN x - (jLushr (lN x) 1 &&& 6148914691236517205) = lN y := by
    rw [show (1 : Int32) = nI 1 from rfl, q_ushr hx (by decide), show (6148914691236517205 : Int64) = lN 6148914691236517205 from rfl, q_and (by omega) (by decide), lN_sub (by rw [Nat.pow_one]; exact by2), ey]
  have k2 : (lN y &&& 3689348814741910323) + (jLushr (lN y) 2 &&& 3689348814741910323) = lN z := by
    rw [show (2 : Int32) = nI 2 from rfl, q_ushr (by omega) (by decide), show (3689348814741910323 : Int64) = lN 3689348814741910323 from rfl, q_and (by omega) (by decide), q_and (by omega) (by decide), lN_add, ez]
  have k3 : (lN z + jLushr (lN z) 4) &&& 1085102592571150095 = lN w := by
    rw [show (4 : Int32) = nI 4 from rfl, q_ushr (by omega) (by decide), show (1085102592571150095 : Int64) = lN 1085102592571150095 from rfl, lN_add, q_and (by exact bzz) (by decide), hw, ← ew]
  have k4 : lN w + jLushr (lN w) 8 = lN (w + w / 256) := by
    rw [show (8 : Int32) = nI 8 from rfl, q_ushr (by omega) (by decide), lN_add]
  have k5 : lN (w + w / 256) + jLushr (lN (w + w / 256)) 16 = lN (w + w / 256 + (w + w / 256) / 65536) := by
    rw [show (16 : Int32) = nI 16 from rfl, q_ushr (by omega) (by decide), lN_add]
  have k6 : lN (w + w / 256 + (w + w / 256) / 65536) + jLushr (lN (w + w / 256 + (w + w / 256) / 65536)) 32 = lN (w + w / 256 + (w + w / 256) / 65536 + (w + w / 256 + (w + w / 256) / 65536) / 4294967296) := by
    rw [show (32 : Int32) = nI 32 from rfl, q_ushr (by omega) (by decide), lN_add]
  rw [e2_0]
  simp only [B2_0, xSeq, i_push, i_load, i_iload, i_lload, i_dload, i_aload, i_istore, i_astore, i_lstore, i_dstore, i_iinc, i_ii, i_iiz, i_ll, i_llz, i_lli, i_li, i_i, i_l, i_i2l, i_l2i, i_dup, i_dup2, i_dup2w, i_dupx1, i_pop, i_pop2, i_goto, i_ifc, i_icmp, i_getI, i_getL, i_getR, i_putI, i_putZ, i_putL, i_putR, i_aldI, i_aldB, i_aldL, i_aldD, i_astI, i_astL, i_astD, i_alen, i_ret, i_iret, i_zret, i_lret, i_fret, i_dret, i_aret, i_invS0, i_invV0, i_m2, i_m1, i_ml, i_obj, lk, lkp, stf1, stf2, Value.category, rV, xTo, lv_args, xCk, xCat, xRc, xAk, hg_S, hg_I, hg_J, hg_D, hg_R, hs_I, hs_J, hs_D, hs_R, uI_at, uJ_at, uD_at, uR_at, List.take_succ_cons, List.take_zero, List.drop_succ_cons, List.drop_zero, List.reverse_cons, List.reverse_nil, List.nil_append, List.cons_append, List.map_cons, List.map_nil, List.sum_cons, List.sum_nil, List.length_cons, List.length_nil, Option.toList_some, Option.toList_none, true_and, and_true, false_and, and_false, true_implies, false_implies, implies_true, not_true_eq_false, not_false_eq_true, ne_eq, if_true, if_false, Bool.and_true, Bool.true_and, decide_true, decide_false, reduceIte, reduceCtorEq, Bool.and_self, Bool.and_eq_true, decide_eq_true_eq, and_self, true_or, or_true, false_or, or_false, Nat.zero_add, Nat.add_zero, eq_self, Nat.reduceEqDiff, Nat.reduceLeDiff, Nat.reduceLT, Nat.reduceAdd, Nat.reduceSub, Nat.reduceMul, k1, k2, k3, k4, k5, k6, q_mod32, q_and127, f0]
end
