/-! ===== the plain machine: cells by numbers, a step as a transformer of conditions ===== -/
abbrev xH : Type := (Nat → Nat × Nat) × (Nat → Nat → Int32) × (Nat → Nat → Int64) × (Nat → Nat → UInt64) × (Nat → Nat → Option Nat)
/-- kind and length of the cell o: kind 0: none; 1..99: an object of that class; 100: int[], 101: long[], 102: double[], 103: byte[], 104: short[], 105: boolean[], 106: char[] -/
def gS (h : xH) (o : Nat) : Nat × Nat := h.1 o
def gI (h : xH) (o k : Nat) : Int32 := h.2.1 o k
def gL (h : xH) (o k : Nat) : Int64 := h.2.2.1 o k
def gD (h : xH) (o k : Nat) : UInt64 := h.2.2.2.1 o k
def gR (h : xH) (o k : Nat) : Option Nat := h.2.2.2.2 o k
def sI (h : xH) (o k : Nat) (v : Int32) : xH := (h.1, fun a b => if a = o ∧ b = k then v else h.2.1 a b, h.2.2.1, h.2.2.2.1, h.2.2.2.2)
def sL (h : xH) (o k : Nat) (v : Int64) : xH := (h.1, h.2.1, fun a b => if a = o ∧ b = k then v else h.2.2.1 a b, h.2.2.2.1, h.2.2.2.2)
def sD (h : xH) (o k : Nat) (v : UInt64) : xH := (h.1, h.2.1, h.2.2.1, fun a b => if a = o ∧ b = k then v else h.2.2.2.1 a b, h.2.2.2.2)
def sR (h : xH) (o k : Nat) (v : Option Nat) : xH := (h.1, h.2.1, h.2.2.1, h.2.2.2.1, fun a b => if a = o ∧ b = k then v else h.2.2.2.2 a b)
/-- a new cell, all nought -/
def nS (h : xH) (o : Nat) (s : Nat × Nat) : xH := (fun a => if a = o then s else h.1 a, fun a b => if a = o then 0 else h.2.1 a b, fun a b => if a = o then 0 else h.2.2.1 a b, fun a b => if a = o then 0 else h.2.2.2.1 a b, fun a b => if a = o then none else h.2.2.2.2 a b)
theorem gI_sI (h : xH) (o k : Nat) (v : Int32) (a b : Nat) : gI (sI h o k v) a b = if a = o ∧ b = k then v else gI h a b := rfl
theorem gL_sI (h : xH) (o k : Nat) (v : Int32) (a b : Nat) : gL (sI h o k v) a b = gL h a b := rfl
theorem gD_sI (h : xH) (o k : Nat) (v : Int32) (a b : Nat) : gD (sI h o k v) a b = gD h a b := rfl
theorem gR_sI (h : xH) (o k : Nat) (v : Int32) (a b : Nat) : gR (sI h o k v) a b = gR h a b := rfl
theorem gS_sI (h : xH) (o k : Nat) (v : Int32) (a : Nat) : gS (sI h o k v) a = gS h a := rfl
theorem gL_sL (h : xH) (o k : Nat) (v : Int64) (a b : Nat) : gL (sL h o k v) a b = if a = o ∧ b = k then v else gL h a b := rfl
theorem gI_sL (h : xH) (o k : Nat) (v : Int64) (a b : Nat) : gI (sL h o k v) a b = gI h a b := rfl
theorem gD_sL (h : xH) (o k : Nat) (v : Int64) (a b : Nat) : gD (sL h o k v) a b = gD h a b := rfl
theorem gR_sL (h : xH) (o k : Nat) (v : Int64) (a b : Nat) : gR (sL h o k v) a b = gR h a b := rfl
theorem gS_sL (h : xH) (o k : Nat) (v : Int64) (a : Nat) : gS (sL h o k v) a = gS h a := rfl
theorem gD_sD (h : xH) (o k : Nat) (v : UInt64) (a b : Nat) : gD (sD h o k v) a b = if a = o ∧ b = k then v else gD h a b := rfl
theorem gI_sD (h : xH) (o k : Nat) (v : UInt64) (a b : Nat) : gI (sD h o k v) a b = gI h a b := rfl
theorem gL_sD (h : xH) (o k : Nat) (v : UInt64) (a b : Nat) : gL (sD h o k v) a b = gL h a b := rfl
theorem gR_sD (h : xH) (o k : Nat) (v : UInt64) (a b : Nat) : gR (sD h o k v) a b = gR h a b := rfl
theorem gS_sD (h : xH) (o k : Nat) (v : UInt64) (a : Nat) : gS (sD h o k v) a = gS h a := rfl
theorem gR_sR (h : xH) (o k : Nat) (v : Option Nat) (a b : Nat) : gR (sR h o k v) a b = if a = o ∧ b = k then v else gR h a b := rfl
theorem gI_sR (h : xH) (o k : Nat) (v : Option Nat) (a b : Nat) : gI (sR h o k v) a b = gI h a b := rfl
theorem gL_sR (h : xH) (o k : Nat) (v : Option Nat) (a b : Nat) : gL (sR h o k v) a b = gL h a b := rfl
theorem gD_sR (h : xH) (o k : Nat) (v : Option Nat) (a b : Nat) : gD (sR h o k v) a b = gD h a b := rfl
theorem gS_sR (h : xH) (o k : Nat) (v : Option Nat) (a : Nat) : gS (sR h o k v) a = gS h a := rfl
theorem gS_nS (h : xH) (o : Nat) (s : Nat × Nat) (a : Nat) : gS (nS h o s) a = if a = o then s else gS h a := rfl
theorem gI_nS (h : xH) (o : Nat) (s : Nat × Nat) (a b : Nat) : gI (nS h o s) a b = if a = o then 0 else gI h a b := rfl
theorem gL_nS (h : xH) (o : Nat) (s : Nat × Nat) (a b : Nat) : gL (nS h o s) a b = if a = o then 0 else gL h a b := rfl
theorem gD_nS (h : xH) (o : Nat) (s : Nat × Nat) (a b : Nat) : gD (nS h o s) a b = if a = o then 0 else gD h a b := rfl
theorem gR_nS (h : xH) (o : Nat) (s : Nat × Nat) (a b : Nat) : gR (nS h o s) a b = if a = o then none else gR h a b := rfl
abbrev xL : Type := List (Nat × Value)
abbrev xK : Type := xL → List Value → xH → Nat × Nat → Prop
abbrev xQ : Type := Except String (Option Value) → xH → Nat × Nat → Prop
/-- the method, the place in it where to go on -/
abbrev xP : Type := Nat → Nat → xL → List Value → xH → Nat × Nat → xQ → Prop
abbrev xSem : Type := xP → xQ → xK → xK
def lk : xL → Nat → Option Value
  | [], _ => none
  | q :: r, n => if q.1 = n then some q.2 else lk r n
def lkp (l : xL) : List Nat → xL
  | [] => []
  | n :: r => match lk l n with
    | some v => (n, v) :: lkp l r
    | none => lkp l r
def stf1 (i : Nat) : xL → xL
  | [] => []
  | q :: r => if q.1 = i ∨ (q.1 + 1 = i ∧ q.2.category = 2) then stf1 i r else q :: stf1 i r
def stf2 (i : Nat) : xL → xL
  | [] => []
  | q :: r => if q.1 = i ∨ q.1 = i + 1 ∨ (q.1 + 1 = i ∧ q.2.category = 2) then stf2 i r else q :: stf2 i r
def rV : Option Nat → Value
  | none => .null
  | some i => .ref i
def xSeq (P : xP) (Q : xQ) : List xSem → xK
  | [] => fun _ _ _ _ => False
  | i :: r => i P Q (xSeq P Q r)
-- locals and constants
def i_push (v : Value) : xSem := fun _ _ K l st h b => K l (v :: st) h b
def i_load (n : Nat) : xSem := fun _ _ K l st h b => match lk l n with
  | some v => K l (v :: st) h b
  | none => False
def i_iload (n : Nat) : xSem := fun _ _ K l st h b => match lk l n with
  | some (.int x) => K l (.int x :: st) h b
  | _ => False
def i_lload (n : Nat) : xSem := fun _ _ K l st h b => match lk l n with
  | some (.long x) => K l (.long x :: st) h b
  | _ => False
def i_dload (n : Nat) : xSem := fun _ _ K l st h b => match lk l n with
  | some (.double x) => K l (.double x :: st) h b
  | _ => False
def i_aload (n : Nat) : xSem := fun _ _ K l st h b => match lk l n with
  | some (.ref x) => K l (.ref x :: st) h b
  | _ => False
def i_istore (n : Nat) : xSem := fun _ _ K l st h b => match st with
  | .int x :: r => K ((n, .int x) :: stf1 n l) r h b
  | _ => False
def i_astore (n : Nat) : xSem := fun _ _ K l st h b => match st with
  | .ref x :: r => K ((n, .ref x) :: stf1 n l) r h b
  | _ => False
def i_lstore (n : Nat) : xSem := fun _ _ K l st h b => match st with
  | .long x :: r => K ((n, .long x) :: stf2 n l) r h b
  | _ => False
def i_dstore (n : Nat) : xSem := fun _ _ K l st h b => match st with
  | .double x :: r => K ((n, .double x) :: stf2 n l) r h b
  | _ => False
def i_iinc (n : Nat) (d : Int32) : xSem := fun _ _ K l st h b => match lk l n with
  | some (.int x) => K ((n, .int (x + d)) :: stf1 n l) st h b
  | _ => False
-- plain numbers
def i_ii (f : Int32 → Int32 → Int32) : xSem := fun _ _ K l st h b => match st with
  | .int y :: .int x :: r => K l (.int (f x y) :: r) h b
  | _ => False
def i_iiz (f : Int32 → Int32 → Int32) : xSem := fun _ _ K l st h b => match st with
  | .int y :: .int x :: r => y ≠ 0 ∧ K l (.int (f x y) :: r) h b
  | _ => False
def i_ll (f : Int64 → Int64 → Int64) : xSem := fun _ _ K l st h b => match st with
  | .long y :: .long x :: r => K l (.long (f x y) :: r) h b
  | _ => False
def i_llz (f : Int64 → Int64 → Int64) : xSem := fun _ _ K l st h b => match st with
  | .long y :: .long x :: r => y ≠ 0 ∧ K l (.long (f x y) :: r) h b
  | _ => False
def i_lli (f : Int64 → Int64 → Int32) : xSem := fun _ _ K l st h b => match st with
  | .long y :: .long x :: r => K l (.int (f x y) :: r) h b
  | _ => False
def i_li (f : Int64 → Int32 → Int64) : xSem := fun _ _ K l st h b => match st with
  | .int y :: .long x :: r => K l (.long (f x y) :: r) h b
  | _ => False
def i_i (f : Int32 → Int32) : xSem := fun _ _ K l st h b => match st with
  | .int x :: r => K l (.int (f x) :: r) h b
  | _ => False
def i_i2l : xSem := fun _ _ K l st h b => match st with
  | .int x :: r => K l (.long x.toInt64 :: r) h b
  | _ => False
def i_l2i : xSem := fun _ _ K l st h b => match st with
  | .long x :: r => K l (.int x.toInt32 :: r) h b
  | _ => False
def i_dup : xSem := fun _ _ K l st h b => match st with
  | x :: r => x.category = 1 ∧ K l (x :: x :: r) h b
  | _ => False
def i_dup2 : xSem := fun _ _ K l st h b => match st with
  | x :: y :: r => x.category = 1 ∧ y.category = 1 ∧ K l (x :: y :: x :: y :: r) h b
  | _ => False
def i_dup2w : xSem := fun _ _ K l st h b => match st with
  | x :: r => x.category = 2 ∧ K l (x :: x :: r) h b
  | _ => False
def i_pop : xSem := fun _ _ K l st h b => match st with
  | x :: r => x.category = 1 ∧ K l r h b
  | _ => False
def i_pop2 : xSem := fun _ _ K l st h b => match st with
  | x :: r => x.category = 2 ∧ K l r h b
  | _ => False
-- doubles and floats: an answer that is no number has any bits
def i_dd (f : UInt64 → UInt64 → UInt64) : xSem := fun _ _ K l st h b => match st with
  | .double y :: .double x :: r => ∀ v : UInt64, alike64 v (f x y) = true → K l (.double v :: r) h b
  | _ => False
def i_ff (f : UInt32 → UInt32 → UInt32) : xSem := fun _ _ K l st h b => match st with
  | .float y :: .float x :: r => ∀ v : UInt32, alike32 v (f x y) = true → K l (.float v :: r) h b
  | _ => False
-- going on elsewhere: y the method itself, ks the locals that are wanted there
def i_goto (y t : Nat) (ks : List Nat) : xSem := fun P Q _ l st h b => P y t (lkp l ks) st h b Q
def i_ifc (c : Int32 → Prop) (y t : Nat) (ks : List Nat) : xSem := fun P Q K l st h b => match st with
  | .int x :: r => (c x → P y t (lkp l ks) r h b Q) ∧ (¬ c x → K l r h b)
  | _ => False
def i_icmp (c : Int32 → Int32 → Prop) (y t : Nat) (ks : List Nat) : xSem := fun P Q K l st h b => match st with
  | .int v :: .int x :: r => (c x v → P y t (lkp l ks) r h b Q) ∧ (¬ c x v → K l r h b)
  | _ => False
-- fields: c the class, k the field's place
def i_getI (c k : Nat) : xSem := fun _ _ K l st h b => match st with
  | .ref o :: r => (gS h o).1 = c ∧ K l (.int (gI h o k) :: r) h b
  | _ => False
def i_getL (c k : Nat) : xSem := fun _ _ K l st h b => match st with
  | .ref o :: r => (gS h o).1 = c ∧ K l (.long (gL h o k) :: r) h b
  | _ => False
def i_getR (c k : Nat) : xSem := fun _ _ K l st h b => match st with
  | .ref o :: r => (gS h o).1 = c ∧ K l (rV (gR h o k) :: r) h b
  | _ => False
def i_putI (c k : Nat) : xSem := fun _ _ K l st h b => match st with
  | .int v :: .ref o :: r => (gS h o).1 = c ∧ K l r (sI h o k v) b
  | _ => False
def i_putZ (c k : Nat) : xSem := fun _ _ K l st h b => match st with
  | .int v :: .ref o :: r => (gS h o).1 = c ∧ (v = 0 ∨ v = 1) ∧ K l r (sI h o k v) b
  | _ => False
def i_putL (c k : Nat) : xSem := fun _ _ K l st h b => match st with
  | .long v :: .ref o :: r => (gS h o).1 = c ∧ K l r (sL h o k v) b
  | _ => False
def i_putR (c k : Nat) : xSem := fun _ _ K l st h b => match st with
  | .ref v :: .ref o :: r => (gS h o).1 = c ∧ K l r (sR h o k (some v)) b
  | _ => False
-- arrays
def xIn (i : Int32) (n : Nat) : Prop := vp_in i n
def ix (i : Int32) : Nat := i.toNatClampNeg
def i_aldI (c : Nat) : xSem := fun _ _ K l st h b => match st with
  | .int i :: .ref o :: r => (gS h o).1 = c ∧ xIn i (gS h o).2 ∧ K l (.int (gI h o (ix i)) :: r) h b
  | _ => False
/-- bytes, of a constant text too -/
def i_aldB : xSem := fun _ _ K l st h b => match st with
  | .int i :: .ref o :: r => ((gS h o).1 = 103 ∨ (gS h o).1 = 107) ∧ xIn i (gS h o).2 ∧ K l (.int (gI h o (ix i)) :: r) h b
  | _ => False
def i_aldL : xSem := fun _ _ K l st h b => match st with
  | .int i :: .ref o :: r => (gS h o).1 = 101 ∧ xIn i (gS h o).2 ∧ K l (.long (gL h o (ix i)) :: r) h b
  | _ => False
def i_aldD : xSem := fun _ _ K l st h b => match st with
  | .int i :: .ref o :: r => (gS h o).1 = 102 ∧ xIn i (gS h o).2 ∧ K l (.double (gD h o (ix i)) :: r) h b
  | _ => False
def i_astI (c : Nat) (f : Int32 → Int32) : xSem := fun _ _ K l st h b => match st with
  | .int v :: .int i :: .ref o :: r => (gS h o).1 = c ∧ xIn i (gS h o).2 ∧ K l r (sI h o (ix i) (f v)) b
  | _ => False
def i_astL : xSem := fun _ _ K l st h b => match st with
  | .long v :: .int i :: .ref o :: r => (gS h o).1 = 101 ∧ xIn i (gS h o).2 ∧ K l r (sL h o (ix i) v) b
  | _ => False
def i_astD : xSem := fun _ _ K l st h b => match st with
  | .double v :: .int i :: .ref o :: r => (gS h o).1 = 102 ∧ xIn i (gS h o).2 ∧ K l r (sD h o (ix i) v) b
  | _ => False
/-- the kinds of arrays -/
abbrev xAk (c : Nat) : Prop := (100 ≤ c ∧ c < 106) ∨ c = 107 ∨ c = 108
def i_alen : xSem := fun _ _ K l st h b => match st with
  | .ref o :: r => xAk (gS h o).1 ∧ K l (.int (nI (gS h o).2) :: r) h b
  | _ => False
-- new things, at any number that isn't taken
def xFree (h : xH) (i : Nat) : Prop := (gS h i).1 = 0 ∧ i < 900000
def i_new (c n : Nat) : xSem := fun _ _ K l st h b => 1 ≤ b.1 ∧ n ≤ b.2 ∧ ∃ i, xFree h i ∧ K l (.ref i :: st) (nS h i (c, 0)) (b.1 - 1, b.2 - n)
def i_newa (c w : Nat) : xSem := fun _ _ K l st h b => match st with
  | .int n :: r => ¬ n < 0 ∧ ix n * w ≤ 536870912 ∧ 1 ≤ b.1 ∧ ix n ≤ b.2 ∧ ∃ i, xFree h i ∧ K l (.ref i :: r) (nS h i (c, ix n)) (b.1 - 1, b.2 - ix n)
  | _ => False
-- ends
def i_ret : xSem := fun _ Q _ _ st h b => match st with
  | [] => Q (.ok none) h b
  | _ => False
def i_iret : xSem := fun _ Q _ _ st h b => match st with
  | [.int v] => Q (.ok (some (.int v))) h b
  | _ => False
def i_zret : xSem := fun _ Q _ _ st h b => match st with
  | [.int v] => (v = 0 ∨ v = 1) ∧ Q (.ok (some (.int v))) h b
  | _ => False
def i_lret : xSem := fun _ Q _ _ st h b => match st with
  | [.long v] => Q (.ok (some (.long v))) h b
  | _ => False
def i_fret : xSem := fun _ Q _ _ st h b => match st with
  | [.float v] => Q (.ok (some (.float v))) h b
  | _ => False
def i_dret : xSem := fun _ Q _ _ st h b => match st with
  | [.double v] => Q (.ok (some (.double v))) h b
  | _ => False
def i_aret : xSem := fun _ Q _ _ st h b => match st with
  | [.ref v] => Q (.ok (some (.ref v))) h b
  | _ => False
-- calls: n things are taken off, m locals; a call that makes nothing (0), one that may (A); by a receiver of kind c (V), or without one
def xCat (st : List Value) : Nat := (st.map fun v => v.category).sum
def xCk (n m : Nat) (st : List Value) : Bool := decide (n ≤ st.length) && decide (xCat (st.drop n) ≤ 8) && decide (xCat (st.take n) ≤ m)
def xTo (Q : xQ) (K : xK) (l : xL) (rest : List Value) (b : Nat × Nat) : xQ := fun o h' _ => match o with
  | .ok v => K l (v.toList ++ rest) h' b
  | .error E => Q (.error E) h' b
def i_invS0 (z n m : Nat) : xSem := fun P Q K l st h b => xCk n m st = true ∧ P z 0 (lv_args 0 (st.take n).reverse) [] h (0, 0) (xTo Q K l (st.drop n) b)
def i_invSA (z n m : Nat) : xSem := fun P Q K l st h b => xCk n m st = true ∧ ∃ mc ms, mc ≤ b.1 ∧ ms ≤ b.2 ∧ P z 0 (lv_args 0 (st.take n).reverse) [] h (mc, ms) (xTo Q K l (st.drop n) (b.1 - mc, b.2 - ms))
def xRc (c : Nat) (h : xH) : List Value → Prop
  | .ref o :: _ => (gS h o).1 = c
  | _ => False
def i_invV0 (c z n m : Nat) : xSem := fun P Q K l st h b => xCk n m st = true ∧ xRc c h (st.take n).reverse ∧ P z 0 (lv_args 0 (st.take n).reverse) [] h (0, 0) (xTo Q K l (st.drop n) b)
def i_invVA (c z n m : Nat) : xSem := fun P Q K l st h b => xCk n m st = true ∧ xRc c h (st.take n).reverse ∧ ∃ mc ms, mc ≤ b.1 ∧ ms ≤ b.2 ∧ P z 0 (lv_args 0 (st.take n).reverse) [] h (mc, ms) (xTo Q K l (st.drop n) (b.1 - mc, b.2 - ms))
/-- a thing's first constructor, of Object -/
def i_obj : xSem := fun _ _ K l st h b => match st with
  | .ref _ :: r => xCat r ≤ 8 ∧ K l r h b
  | _ => False
-- running
def xClosed (T : Nat → Nat → List xSem) (P : xP) : Prop := ∀ y t l st h b Q, xSeq P Q (T y t) l st h b → P y t l st h b Q
def xRun (T : Nat → Nat → List xSem) : xP := fun y t l st h b Q => ∀ P, xClosed T P → P y t l st h b Q
