/-! ===== steps of the model ===== -/
section
variable {S : xS} {I : xI} {J : xJ} {D : xDb} {R : xR} {b : Nat × Nat} {Q : xQ} {n m : Nat} {fi se dg : Nat → Nat} {sb : Nat → Nat → Nat}
theorem R274_t (hL : LM S R) (hG : GR n m fi se dg sb) (hC : CM I n m fi se dg sb) {a bb : Nat} (hA : I 300 2 = nI a) (hB : I 300 3 = nI bb) (ha : a < 2147483648) (h0 : 0 < bb) (hb : bb < 2147483648) (hr : I 300 5 = 0 ∨ I 300 5 = 1 ∨ I 300 5 = 2) {K i t' : Nat} {v : Int32} {z z' : xG} (hK : K < 2147483648) (hi : i < K) (hg : z.2.1 < 2147483648) (ez : uJ (mJ J z) 200 4 (lN (nx z.2.1)) = mJ J z') (eI : mI I z = mI I z') (et : dw z.2.1 n = t') (ht : t' < n) (hs : z'.1 < 2 ^ 64) (hg2 : z'.2.1 < 2147483648) (ew : z.2.2.2 = z'.2.2.2) :
    xRun xT 274 36 [(0, .ref 200), (1, .int (nI K)), (2, .int (z.2.2.2 - v)), (3, .int (nI i))] [] (S, mI I z, mJ J z, D, R) b Q = xRun xT 274 36 [(0, .ref 200), (1, .int (nI K)), (2, .int ((tS (I 300 4) (fun k => I 300 (16 + k)) fi se dg sb (I 300 5) a bb t' z').2.2.2 - v)), (3, .int (nI (i + 1)))] [] (S, mI I (tS (I 300 4) (fun k => I 300 (16 + k)) fi se dg sb (I 300 5) a bb t' z'), mJ J (tS (I 300 4) (fun k => I 300 (16 + k)) fi se dg sb (I 300 5) a bb t' z'), D, R) b Q := by
  rw [R274_s hL hG hC hA hB ha h0 hb hr hK hi hg ez eI et ht hs hg2, ew]
  have k := tS_fl (F := I 300 4) (st := fun k => I 300 (16 + k)) (fi := fi) (se := se) (dg := dg) (sb := sb) (rule := I 300 5) (a := a) (bb := bb) (z := z') (t := t')
  have h : (tS (I 300 4) (fun k => I 300 (16 + k)) fi se dg sb (I 300 5) a bb t' z').2.2.2 - v = z'.2.2.2 - v + (if (tR (I 300 5) (dl (I 300 4) (fun k => I 300 (16 + k)) fi se dg sb z'.1 t') a bb z'.2.1).1 = true then 1 else 0) := by
    rw [k, i32_ac]
  rw [h]
end
