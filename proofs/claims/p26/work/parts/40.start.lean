/-! ===== from the law's entry to the plain machine ===== -/
def xTm (k : Nat) : Term := .string (xTxs.getD k ("", 0, [])).1 (xTxs.getD k ("", 0, [])).2.1
def xTv (k : Nat) : Term := .field (xTm k) "java/lang/String" "value" "[B"
def xTb (k : Nat) : List Int32 := (xTxs.getD k ("", 0, [])).2.2
theorem xp_t {args : Array Value} {s : State} (hv : xGv args s) {k : Nat} (hk : k < xTxs.length) : xTxt args s (xTxs.getD k ("", 0, [])).1 (xTxs.getD k ("", 0, [])).2.1 (xTxs.getD k ("", 0, [])).2.2 := xt_all hv _ (by
  rw [List.getD_eq_getElem?_getD, List.getElem?_eq_getElem hk]
  exact List.getElem_mem hk)
def xDv (t : Nat) (j : Nat) : Int32 := if t = 0 then Int32.ofNat (48 + j / 10) else Int32.ofNat (48 + j % 10)
def xDgl (t : Nat) : List Int32 := (List.range 100).map (xDv t)
theorem xDgl_at (t j : Nat) (hj : j < 100) : (xDgl t).getD j 0 = xDv t j := by
  unfold xDgl
  rw [List.getD_eq_getElem?_getD, List.getElem?_map, List.getElem?_range hj]
  rfl
theorem xDgl_0 : [48, 48, 48, 48, 48, 48, 48, 48, 48, 48, 49, 49, 49, 49, 49, 49, 49, 49, 49, 49, 50, 50, 50, 50, 50, 50, 50, 50, 50, 50, 51, 51, 51, 51, 51, 51, 51, 51, 51, 51, 52, 52, 52, 52, 52, 52, 52, 52, 52, 52, 53, 53, 53, 53, 53, 53, 53, 53, 53, 53, 54, 54, 54, 54, 54, 54, 54, 54, 54, 54, 55, 55, 55, 55, 55, 55, 55, 55, 55, 55, 56, 56, 56, 56, 56, 56, 56, 56, 56, 56, 57, 57, 57, 57, 57, 57, 57, 57, 57, 57] = xDgl 0 := by decide +kernel
theorem xDgl_1 : [48, 49, 50, 51, 52, 53, 54, 55, 56, 57, 48, 49, 50, 51, 52, 53, 54, 55, 56, 57, 48, 49, 50, 51, 52, 53, 54, 55, 56, 57, 48, 49, 50, 51, 52, 53, 54, 55, 56, 57, 48, 49, 50, 51, 52, 53, 54, 55, 56, 57, 48, 49, 50, 51, 52, 53, 54, 55, 56, 57, 48, 49, 50, 51, 52, 53, 54, 55, 56, 57, 48, 49, 50, 51, 52, 53, 54, 55, 56, 57, 48, 49, 50, 51, 52, 53, 54, 55, 56, 57, 48, 49, 50, 51, 52, 53, 54, 55, 56, 57] = xDgl 1 := by decide +kernel
theorem xDgl_el {args : Array Value} {s : State} {t : Term} {i : Nat} (h : xEls args s t 0 (xDgl i)) (j : Nat) (hj : j < 100) : (Cond.eq (.elem t (.int (Int32.ofNat j))) (.int (xDv i j))).before args s = true := by
  have h9 := xEls_at h j (by unfold xDgl; rw [List.length_map, List.length_range]; exact hj)
  rw [xDgl_at i j hj, Nat.zero_add] at h9
  exact h9
def xDg (nm : String) : Term := .static "java/lang/Integer" nm "[B"
theorem xs_nst {U : State} {cell : Cell} {ty : FieldType} (h : U.isArrayOf cell ty) : cell.vm.isStatics = false := by
  have h1 := h.1
  cases hv : cell.vm with
  | statics k => exact absurd hv (h1 k)
  | _ => rfl
theorem xs_arr {U : State} {cell : Cell} {ty : FieldType} (h : U.isArrayOf cell ty) : ArrOfT U cell.cls ty := fun n z => ⟨(fun k h9 => by cases h9), h.2⟩
theorem xs_word {U : State} {a : Array Value} {ty : FieldType} (h : (Cond.arrayClass ty).before a U = true) : ∃ cA : ClassId, ArrOfT U cA ty ∧ U.vm.findClass ("[" ++ ty.toString) = some cA := by
  obtain ⟨c, k, comp, h1, h2, h3⟩ := Cond.arrayClass_spec h
  exact ⟨c, fun n z => ⟨(fun k h9 => by cases h9), k, h2, comp, h3⟩, h1⟩
def xKst (s : State) (k a v : Nat) : Prop := va_O "java/lang/String" a (fun q => s.heap.size ≤ q) s s.heap ∧ va_OF "java/lang/String" "coder" "B" (.int 0) a (fun q => s.heap.size ≤ q) s s.heap ∧
  va_OF "java/lang/String" "value" "[B" (.ref v) a (fun q => s.heap.size ≤ q) s s.heap ∧ va_T .byte v (xTb k).length (fun j => .int ((xTb k).getD j 0)) (fun q => s.heap.size ≤ q) s s.heap
theorem xs_A (s : State) : ∀ a : Nat, a < s.heap.size → ¬ (fun q : Nat => s.heap.size ≤ q) a := fun a h1 h2 => absurd h1 (Nat.not_lt.mpr h2)
theorem xs_txt {args : Array Value} {s : State} (hv : xGv args s) : ∃ aS aV : Nat → Nat, ∀ k, k < xTxs.length → (xTm k).eval args s none [] s = some (.ref (aS k)) ∧ xKst s k (aS k) (aV k) := by
  have h0 : ∀ k : Nat, ∃ q : Nat × Nat, k < xTxs.length → (xTm k).eval args s none [] s = some (.ref q.1) ∧ xKst s k q.1 q.2 := by
    intro k
    by_cases hk : k < xTxs.length
    · obtain ⟨p1, p2, p3, p4, p5, p6⟩ := xp_t hv hk
      obtain ⟨aK, aV, hS, he⟩ := vk_Sof (args := args) (s := s) (N := 1) (tm := fun _ => xTm k) (len := [(xTb k).length]) (byt := [xTb k]) (A := fun q => s.heap.size ≤ q)
        (fun i hi => by have e : i = 0 := by omega
                        subst e; exact p4)
        (fun i hi => p1) (fun i hi => p2) (fun i hi => p3)
        (fun i hi => by have e : i = 0 := by omega
                        subst e; exact p5)
        (fun i hi j hj => by have e : i = 0 := by omega
                             subst e
                             have h9 := xEls_at p6 j hj
                             rw [Nat.zero_add] at h9
                             exact h9)
        (fun i j hi hj hne => absurd (by omega : i = j) hne) (xs_A s)
      exact ⟨(aK 0, aV 0), fun _ => ⟨he 0 (by omega), hS.1 0 (by omega)⟩⟩
    · exact ⟨(0, 0), fun h => absurd h hk⟩
  obtain ⟨ad, had⟩ := Classical.axiomOfChoice h0
  exact ⟨fun k => (ad k).1, fun k => (ad k).2, had⟩
theorem xs_dig {args : Array Value} {s : State} (hv : xGv args s) : ∃ t0 t1 : Nat, (xDg "DigitTens").eval args s none [] s = some (.ref t0) ∧ (xDg "DigitOnes").eval args s none [] s = some (.ref t1) ∧
    va_T .byte t0 100 (fun j => .int (xDv 0 j)) (fun q => s.heap.size ≤ q) s s.heap ∧ va_T .byte t1 100 (fun j => .int (xDv 1 j)) (fun q => s.heap.size ≤ q) s s.heap := by
  obtain ⟨a1, a2, a3⟩ := xt_DigitTens hv
  obtain ⟨b1, b2, b3⟩ := xt_DigitOnes hv
  rw [xDgl_0] at a3
  rw [xDgl_1] at b3
  obtain ⟨t0, e0, h0⟩ := va_Tof (args := args) (s := s) (tm := xDg "DigitTens") (ty := .byte) (N := 100) (f := fun j => .int (xDv 0 j)) (A := fun q => s.heap.size ≤ q) (by decide) a1 (va_eqt a2) (fun j hj => va_eqt (xDgl_el a3 j hj)) (xs_A s)
  obtain ⟨t1, e1, h1⟩ := va_Tof (args := args) (s := s) (tm := xDg "DigitOnes") (ty := .byte) (N := 100) (f := fun j => .int (xDv 1 j)) (A := fun q => s.heap.size ≤ q) (by decide) b1 (va_eqt b2) (fun j hj => va_eqt (xDgl_el b3 j hj)) (xs_A s)
  exact ⟨t0, t1, e0, e1, h0, h1⟩
/-- the addresses of the constants -/
def xAd (b t0 t1 t9 : Nat) (aS aV : Nat → Nat) (o : Nat) : Nat := if o = 900600 then b else if o = 900800 then t0 else if o = 900801 then t1 else if o = 900502 then t9 else if 900100 ≤ o then aV (o - 900100) else aS (o - 900000)
/-- the first heap: the script, the texts, the digits -/
def xSh (L o : Nat) : Nat × Nat := if o = 900600 then (108, L) else if o = 900800 then (107, 100) else if o = 900801 then (107, 100) else if 900100 ≤ o ∧ o < 900100 + xTxs.length then (107, (xTb (o - 900100)).length) else if 900000 ≤ o ∧ o < 900000 + xTxs.length then (10, 0) else (0, 0)
def xSi (xs : Nat → Int32) (o j : Nat) : Int32 := if o = 900600 then xs j else if o = 900800 then xDv 0 j else if o = 900801 then xDv 1 j else if 900100 ≤ o ∧ o < 900100 + xTxs.length then (xTb (o - 900100)).getD j 0 else 0
def xh0 (L : Nat) (xs : Nat → Int32) : xH := (xSh L, xSi xs, fun _ _ => 0, fun _ _ => 0, fun o k => if 900000 ≤ o ∧ o < 900000 + xTxs.length ∧ k = 0 then some (o + 100) else none)
abbrev xUs (o : Nat) : Prop := o = 900600 ∨ o = 900800 ∨ o = 900801 ∨ (900100 ≤ o ∧ o < 900100 + xTxs.length)
def xdC (dC : Nat → ClassId) (H : Heap) (ac : Nat → Nat) (cB : ClassId) (c : Nat) : ClassId := if c < 900000 then dC c else if xUs c then (match H[ac c]? with | some ce => ce.cls | none => cB) else cB
theorem xTx_lt : xTxs.length ≤ 100 := by decide +kernel
/-- a constant row -/
def xRow (s : State) (L : Nat) (xs : Nat → Int32) (ac : Nat → Nat) (o : Nat) : Prop := ∃ cell : Cell, s.heap[ac o]? = some cell ∧ s.isArrayOf cell (xEt (xKo o)) ∧ cell.vm ≠ .unknown ∧ ((xSh L o).2 ≤ cell.slots.size ∧ cell.slots.size.toInt32 = nI (xSh L o).2) ∧ ∀ j, j < (xSh L o).2 → cell.slots[j]? = some (.int (xSi xs o j))
set_option maxRecDepth 20000 in
theorem xs_row {args : Array Value} {s : State} (hv : xGv args s) {b L t0 t1 t9 : Nat} {xs : Nat → Int32} {aS aV : Nat → Nat} (hX : va_X b L xs s s.heap) (hT : ∀ k, k < xTxs.length → xKst s k (aS k) (aV k)) (h0 : va_T .byte t0 100 (fun j => .int (xDv 0 j)) (fun q => s.heap.size ≤ q) s s.heap) (h1 : va_T .byte t1 100 (fun j => .int (xDv 1 j)) (fun q => s.heap.size ≤ q) s s.heap)
    (o : Nat) (ho : xUs o) : xRow s L xs (xAd b t0 t1 t9 aS aV) o ∧ (xSh L o).1 = xKo o ∧ ((xSh L o).2 < 2 ^ 31 ∨ o = 900600) := by
  have hl := xTx_lt
  rcases ho with rfl | rfl | rfl | ⟨q1, q2⟩
  · obtain ⟨scr, e1, e2, e3, e4, e5⟩ := hX
    exact ⟨⟨scr, e1, e2, e3, ⟨Nat.le_of_eq e4.symm, by rw [e4]; rfl⟩, e5⟩, rfl, Or.inr rfl⟩
  · obtain ⟨cell, e1, e2, e3, e4, e5, e6, -⟩ := h0
    exact ⟨⟨cell, e1, e2, e3, ⟨e4, e5⟩, e6⟩, rfl, Or.inl (show (100 : Nat) < 2 ^ 31 by decide)⟩
  · obtain ⟨cell, e1, e2, e3, e4, e5, e6, -⟩ := h1
    exact ⟨⟨cell, e1, e2, e3, ⟨e4, e5⟩, e6⟩, rfl, Or.inl (show (100 : Nat) < 2 ^ 31 by decide)⟩
  · have n1 : o ≠ 900600 := by omega
    have n2 : o ≠ 900800 := by omega
    have n3 : o ≠ 900801 := by omega
    have n4 : o ≠ 900502 := by omega
    obtain ⟨n, hn⟩ : ∃ n, n = o - 900100 := ⟨_, rfl⟩
    have eS : xSh L o = (107, (xTb n).length) := by rw [hn]; unfold xSh; rw [if_neg n1, if_neg n2, if_neg n3, if_pos ⟨q1, q2⟩]
    have eI : ∀ j, xSi xs o j = (xTb n).getD j 0 := fun j => by rw [hn]; unfold xSi; rw [if_neg n1, if_neg n2, if_neg n3, if_pos ⟨q1, q2⟩]
    have eA : xAd b t0 t1 t9 aS aV o = aV n := by rw [hn]; unfold xAd; rw [if_neg n1, if_neg n2, if_neg n3, if_neg n4, if_pos q1]
    have eK : xKo o = 107 := if_neg n1
    have hk : n < xTxs.length := by omega
    obtain ⟨cell, e1, e2, e3, e4, e5, e6, -⟩ := (hT n hk).2.2.2
    refine ⟨⟨cell, by rw [eA]; exact e1, by rw [eK]; exact e2, e3, by rw [eS]; exact ⟨e4, e5⟩, fun j hj => ?_⟩, by rw [eS, eK], Or.inl (by rw [eS]; exact (xp_t hv hk).2.2.2.1)⟩
    rw [eI]
    rw [eS] at hj
    exact e6 j hj
theorem xs_dC1 {dC : Nat → ClassId} {H : Heap} {ac : Nat → Nat} {cB : ClassId} {c : Nat} (h : c < 900000) : xdC dC H ac cB c = dC c := if_pos h
theorem xs_dC2 {dC : Nat → ClassId} {H : Heap} {ac : Nat → Nat} {cB : ClassId} {c : Nat} {cell : Cell} (h : 900000 ≤ c) (hu : xUs c) (hc : H[ac c]? = some cell) : xdC dC H ac cB c = cell.cls := by
  unfold xdC
  rw [if_neg (by omega), if_pos hu, hc]
theorem xs_dC3 {dC : Nat → ClassId} {H : Heap} {ac : Nat → Nat} {cB : ClassId} {c : Nat} (h : 900000 ≤ c) (hu : ¬ xUs c) : xdC dC H ac cB c = cB := by
  unfold xdC
  rw [if_neg (by omega), if_neg hu]
theorem xUs_ge {o : Nat} (h : xUs o) : 900000 ≤ o := by
  rcases h with h | h | h | h <;> omega
theorem xs_cls {args : Array Value} {s : State} (hts : ∀ w ∈ xTB, w.before args s = true) (hl : ∀ w ∈ lw_tbl, w.before args s = true) : ∃ (dC : Nat → ClassId) (dI : Nat → Nat → Nat), ∀ c, 1 ≤ c → c < 100 → u_Kn s (xCl c).1 (xCl c).2.1 (xCl c).2.2 (dC c) (dI c) := by
  have h1 : ∀ c, 1 ≤ c → c ≤ 10 → ∃ q : ClassId × (Nat → Nat), u_Kn s (xCl c).1 (xCl c).2.1 (xCl c).2.2 q.1 q.2 := fun c h1 h2 => by
    obtain ⟨n, hn⟩ := xInst c h1 h2
    obtain ⟨a, i, h⟩ := u_known (C := (xCl c).1) (T := (xCl c).2.1) (N := (xCl c).2.2) hts (xHin c h1 h2) (hl _ hn)
    exact ⟨(a, i), h⟩
  have h2 : ∀ c : Nat, ∃ q : ClassId × (Nat → Nat), 1 ≤ c → c < 100 → u_Kn s (xCl c).1 (xCl c).2.1 (xCl c).2.2 q.1 q.2 := fun c => by
    rcases xCl_cases c with e | e
    · obtain ⟨q, hq⟩ := h1 1 (by decide) (by decide)
      exact ⟨q, fun _ _ => by rw [e]; exact hq⟩
    · obtain ⟨q, hq⟩ := h1 c (by omega) e.2
      exact ⟨q, fun _ _ => hq⟩
  obtain ⟨f, hf⟩ := Classical.axiomOfChoice h2
  exact ⟨fun c => (f c).1, fun c => (f c).2, hf⟩
theorem xs_arrs {args : Array Value} {s : State} (hl : ∀ w ∈ lw_tbl, w.before args s = true) : ∃ cA : Nat → ClassId, ∀ c, xAk c → ArrOfT s (cA c) (xEt c) ∧ s.vm.findClass ("[" ++ (xEt c).toString) = some (cA c) := by
  have h1 : ∀ c : Nat, ∃ q : ClassId, xAk c → ArrOfT s q (xEt c) ∧ s.vm.findClass ("[" ++ (xEt c).toString) = some q := fun c => by
    by_cases hc : xAk c
    · obtain ⟨q, h1, h2⟩ := xs_word (hl _ (xArW c hc))
      exact ⟨q, fun _ => ⟨h1, h2⟩⟩
    · exact ⟨0, fun h => absurd h hc⟩
  obtain ⟨f, hf⟩ := Classical.axiomOfChoice h1
  exact ⟨f, hf⟩
theorem xs_slot {s : State} {o n d : String} {i : Nat} {v : Value} {a : Nat} {A : Nat → Prop} (hS : SlotIs s o n d i) (h : va_OF o n d v a A s s.heap) {cell : Cell} (hc : s.heap[a]? = some cell) : cell.slots[i]? = some v ∧ cell.vm ≠ .unknown := by
  obtain ⟨cf, k, fi, f, cell9, e1, -, e3, e4, e5, -⟩ := h
  obtain ⟨cf', kf', fi', fd', e6, e7⟩ := hS
  cases e1.symm.trans e6
  cases e3.symm.trans hc
  rw [← e7]
  exact ⟨e5, e4⟩
/-- all that the plain machine wants to know of the start -/
theorem xs_all {args : Array Value} {s : State} {l : Launch} {b L : Nat} {xs : Nat → Int32} (hL : L < 2 ^ 31) (hl : ∀ w ∈ lw_tbl, w.before args s = true) (hv : xGv args s) (hX : va_X b L xs s s.heap) (hb : b < s.heap.size) :
    ∃ q : xQt, q.1 = l ∧ q.2.1 = s.heap.size ∧ q.2.2.1 = s.heap ∧ xKs (xGm q) s ∧ xRel (xGm q) (xGm q).aC (xh0 L xs) s.heap ∧ (xGm q).aC 900600 = b ∧ ∀ w ∈ (xGm q).tb, w.before args s = true := by
  have hts : ∀ w ∈ xTB, w.before args s = true := xTB_at hl (xt_nc hv)
  obtain ⟨dC, dI, hC⟩ := xs_cls hts hl
  obtain ⟨cA, hA⟩ := xs_arrs hl
  obtain ⟨aS, aV, hT⟩ := xs_txt hv
  obtain ⟨t0, t1, d0, d1, hd0, hd1⟩ := xs_dig hv
  obtain ⟨s1, s2, s3, s4⟩ := xt_st hv
  obtain ⟨t9, nl, h9⟩ : ∃ (t9 : Nat) (nl : Bool), va_Z "jdk/internal/util/Preconditions" "SIOOBE_FORMATTER" "Ljava/util/function/BiFunction;" (if nl = true then .null else .ref t9) (fun q => s.heap.size ≤ q) s s.heap := by
    have h := va_Zqof (args := args) (s := s) (C := "jdk/internal/util/Preconditions") (n := "SIOOBE_FORMATTER") (d := "Ljava/util/function/BiFunction;") (A := fun q => s.heap.size ≤ q) (hl _ xtl5) (hl _ xtl6) s2 (xs_A s)
    rcases h with h | ⟨t, h⟩
    · exact ⟨0, true, h⟩
    · exact ⟨t, false, h⟩
  have hrow := fun o ho => xs_row (t9 := t9) hv hX (fun k hk => (hT k hk).2) hd0 hd1 o ho
  have ge : ∀ {k : Nat}, k < xTxs.length → xAd b t0 t1 t9 aS aV (900000 + k) = aS k := fun {k} hk => by
    have := xTx_lt
    unfold xAd
    rw [if_neg (by omega), if_neg (by omega), if_neg (by omega), if_neg (by omega), if_neg (by omega)]
    rw [Nat.add_sub_cancel_left]
  have gv : ∀ {k : Nat}, k < xTxs.length → xAd b t0 t1 t9 aS aV (900000 + k + 100) = aV k := fun {k} hk => by
    have := xTx_lt
    unfold xAd
    rw [if_neg (by omega), if_neg (by omega), if_neg (by omega), if_neg (by omega), if_pos (by omega)]
    rw [show 900000 + k + 100 - 900100 = k by omega]
  have lowT : ∀ {ty : FieldType} {t N : Nat} {f : Nat → Value}, va_T ty t N f (fun q => s.heap.size ≤ q) s s.heap → t < s.heap.size := fun h => by
    obtain ⟨cell, e, -⟩ := h
    exact (Array.getElem?_eq_some_iff.mp e).1
  refine ⟨(l, s.heap.size, s.heap, xdC dC s.heap (xAd b t0 t1 t9 aS aV) (cA 107), dI, cA, xAd b t0 t1 t9 aS aV, nl), rfl, rfl, rfl, ?_, ?_, rfl, hts⟩
  · refine ⟨fun c h1 h2 => ?_, hA, fun q hq => ?_, ?_, ?_, ?_, fun o ho => ?_⟩
    · show u_Kn s (xCl c).1 (xCl c).2.1 (xCl c).2.2 (xdC dC s.heap (xAd b t0 t1 t9 aS aV) (cA 107) c) (dI c)
      rw [xs_dC1 (by omega)]
      exact hC c h1 h2
    · obtain ⟨e1, e2, e3, e4⟩ := xSr_ok q hq
      show vk_R q.1 q.2.1 q.2.2.1 (xAd b t0 t1 t9 aS aV (900000 + q.2.2.2)) s
      rw [ge e1]
      have h := (hT _ e1).1
      unfold xTm at h
      rw [e2, e3] at h
      exact vk_R.of (hl _ e4) h
    · show ∀ q ∈ xSv _, _
      refine List.forall_mem_cons.mpr ⟨?_, List.forall_mem_cons.mpr ⟨?_, List.forall_mem_cons.mpr ⟨?_, List.forall_mem_cons.mpr ⟨?_, fun _ h => absurd h List.not_mem_nil⟩⟩⟩⟩
      · exact va_Zof (args := args) (hl _ xtl0) (hl _ xtl1) (va_eqt s1) (xs_A s)
      · exact va_Zof (args := args) (hl _ xtl2) (hl _ xtl4) d0 (xs_A s)
      · exact va_Zof (args := args) (hl _ xtl3) (hl _ xtl4) d1 (xs_A s)
      · exact h9
    · exact vx_Zqof (args := args) (hl _ xtl7) (hl _ xtl9) s3 (xs_A s)
    · exact vx_Zqof (args := args) (hl _ xtl8) (hl _ xtl9) s4 (xs_A s)
    · show ArrOfT s (xdC dC s.heap (xAd b t0 t1 t9 aS aV) (cA 107) o) (xEt (xKo o))
      by_cases hu : xUs o
      · obtain ⟨⟨cell, e1, e2, -⟩, -⟩ := hrow o hu
        rw [xs_dC2 ho hu e1]
        exact xs_arr e2
      · rw [xs_dC3 ho hu]
        have eK : xKo o = 107 := if_neg (fun e => hu (Or.inl e))
        rw [eK]
        exact (hA 107 (Or.inr (Or.inl rfl))).1
  · refine ⟨fun o ho => ?_, fun o o' h1 _ h3 => ?_, fun o k j _ hj => ?_, fun _ _ => rfl, Nat.le_refl _, fun _ _ => rfl⟩
    · by_cases hu : xUs o
      · obtain ⟨⟨cell, e1, e2, e3, e4, e5⟩, e6, e7⟩ := hrow o hu
        have hge := xUs_ge hu
        have eK : xKo o = 107 ∨ xKo o = 108 := by
          unfold xKo
          split
          · exact Or.inr rfl
          · exact Or.inl rfl
        have eg : gS (xh0 L xs) o = xSh L o := rfl
        refine ⟨Or.inr (Or.inr (Or.inr ⟨?_, ?_, cell, e1, ⟨(xs_dC2 hge hu e1).symm, ?_⟩, xs_nst e2, e3, ?_, fun j hj => ?_⟩)), Or.inr ⟨hge, (Array.getElem?_eq_some_iff.mp e1).1, ?_⟩⟩
        · rw [eg, e6]; exact eK
        · rw [eg]
          rcases e7 with e7 | rfl
          · exact e7
          · exact hL
        · rw [eg]; exact e6
        · rw [eg]; exact e4
        · rw [eg] at hj ⊢
          rw [e6]
          rw [e5 j hj]
          rcases eK with e | e <;> rw [e] <;> rfl
        · rw [eg, e6]
          rcases eK with e | e <;> rw [e]
          · exact Or.inr (Or.inl rfl)
          · exact Or.inr (Or.inr rfl)
      · have n1 : o ≠ 900600 := fun e => hu (Or.inl e)
        have n2 : o ≠ 900800 := fun e => hu (Or.inr (Or.inl e))
        have n3 : o ≠ 900801 := fun e => hu (Or.inr (Or.inr (Or.inl e)))
        have n4 : ¬ (900100 ≤ o ∧ o < 900100 + xTxs.length) := fun e => hu (Or.inr (Or.inr (Or.inr e)))
        by_cases hk : 900000 ≤ o ∧ o < 900000 + xTxs.length
        · have eg : gS (xh0 L xs) o = (10, 0) := by
            show xSh L o = _
            unfold xSh
            rw [if_neg n1, if_neg n2, if_neg n3, if_neg n4, if_pos hk]
          obtain ⟨k, rfl⟩ : ∃ k, o = 900000 + k := ⟨o - 900000, by omega⟩
          have hk9 : k < xTxs.length := by omega
          obtain ⟨⟨cell, c1, c2, c3, -⟩, f1, f2, f3⟩ := (hT k hk9).2
          obtain ⟨hS, hc, -⟩ := hC 10 (by decide) (by decide)
          have g1 := xs_slot (hS 1 (by decide)) f1 c1
          have g2 := xs_slot (hS 0 (by decide)) f2 c1
          have ea : (xGm (l, s.heap.size, s.heap, xdC dC s.heap (xAd b t0 t1 t9 aS aV) (cA 107), dI, cA, xAd b t0 t1 t9 aS aV, nl)).aC (900000 + k) = aS k := ge hk9
          refine ⟨Or.inr (Or.inr (Or.inl ⟨by rw [eg], cell, by rw [ea]; exact c1, ?_, c2, g1.2, fun i hi => ?_⟩)), Or.inr ⟨hk.1, by rw [ea]; exact (Array.getElem?_eq_some_iff.mp c1).1, by rw [eg]; exact Or.inl rfl⟩⟩
          · show cell.cls = xdC dC s.heap (xAd b t0 t1 t9 aS aV) (cA 107) 10
            rw [xs_dC1 (by decide)]
            exact Option.some.inj (c3.symm.trans hc)
          · rcases (show i = 0 ∨ i = 1 by omega) with rfl | rfl
            · show cell.slots[dI 10 0]? = some (xRv (xAd b t0 t1 t9 aS aV) (gR (xh0 L xs) (900000 + k) 0))
              have er : gR (xh0 L xs) (900000 + k) 0 = some (900000 + k + 100) := if_pos ⟨hk.1, hk.2, rfl⟩
              rw [er]
              show _ = some (Value.ref (xAd b t0 t1 t9 aS aV (900000 + k + 100)))
              rw [gv hk9]
              exact g2.1
            · show cell.slots[dI 10 1]? = some (.int (xSi xs (900000 + k) 1))
              have ei : xSi xs (900000 + k) 1 = 0 := by
                unfold xSi
                rw [if_neg n1, if_neg n2, if_neg n3, if_neg n4]
              rw [ei]
              exact g1.1
        · exact absurd (show (gS (xh0 L xs) o).1 = 0 by
            show (xSh L o).1 = 0
            unfold xSh
            rw [if_neg n1, if_neg n2, if_neg n3, if_neg n4, if_neg hk]) ho
    · exact absurd (show (gS (xh0 L xs) o).1 = 0 by
        show (xSh L o).1 = 0
        unfold xSh
        rw [if_neg (by omega), if_neg (by omega), if_neg (by omega), if_neg (by omega), if_neg (by omega)]) h1
    · have h : (if 900000 ≤ o ∧ o < 900000 + xTxs.length ∧ k = 0 then some (o + 100) else none) = some j := hj
      split at h
      · cases h
        exact Or.inr (by omega)
      · cases h
/-- what holds at the law's entry, with its name and its table of handlers -/
def xEntry (p : Program) (s : State) (m : MethodId) (meth : Method) (c : Code) (b L : Nat) (xs : Nat → Int32) : Prop :=
  p.tables.exec = Jvm.exec ∧ c.code = code ∧ meth.sig.returnType = ret ∧ c.maxLocals = 10 ∧ s.vm.findClass "IsingLabLaw" = some m.cls ∧ (∀ w ∈ lw_tbl, w.before #[Value.ref b] s = true) ∧ va_X b L xs s s.heap ∧ b < s.heap.size ∧ meth.locks = false ∧ xGv #[Value.ref b] s ∧ meth.name = "law" ∧ c.exceptionTable.toList = []
theorem x_closed {s t : State} {o : Outcome} {d0 : Drawn} {L : List Loc} {k n : Nat} (hd0 : s.drawn.sameBut d0 lw_cs) (hv : ∃ v, o = .returned v) (hW : (s.setDrawn d0).WarmedH t.vm) (hs : (s.setDrawn d0).sameButNew ({ t with vm := s.vm } : State) L k n) : State.butDraws s t lw_cs (fun t1 => Framed s o t1 L k n) := by
  have h2 : t.drawn = d0 := congrArg State.drawn hs.1
  refine ⟨⟨hv, hW, State.sameButNew.setDrawn hs s.drawn⟩, ?_, by decide⟩
  rw [h2]
  exact hd0
def xLQ (_ : Array Value) (s : State) (o : Outcome) (t : State) : Prop := o = .returned (some (.int 1)) ∧ State.butDraws s t lw_cs (fun t1 => Framed s o t1 [] 601024 7293034)
def xLZ (below : List Frame) (a : Array Value) (s : State) : State → Prop := fun t => ∃ o, t.status = .running ∧ Ended t below o ∧ xLQ a s o t
/-- the law's promise on the plain machine -/
def xYes : xQ := fun o _ _ => o = .ok (some (.int 1))
theorem x_begin {p : Program} {e : Env} {s : State} {m : MethodId} {below : List Frame} {meth : Method} {c : Code} (l : Launch) (hflags : l.flags = flags0) {b L : Nat} {xs : Nat → Int32} (hL : L < 2 ^ 31) (C0 : xEntry p s m meth c b L xs)
    (hrun : xRun xT xLaw 0 [(0, .ref 900600)] [] (xh0 L xs) (601024, 7293034) xYes) : W p l e room_1 s m #[Value.ref b] below meth c s.heap [] 0 0 (xLZ below #[Value.ref b] s) (entryFrame m ([Value.ref b] : List Value).toArray 10) := by
  obtain ⟨hx, hb, hr, hml, hown, hl, hX, hbl, hlk, hfl, hnm, htab⟩ := C0
  obtain ⟨q, rfl, q2, q3, hK, hrel, hab, hts⟩ := xs_all (l := l) hL hl hfl hX hbl
  have hok := xT_snd q hrun
  have htr : q.1.stackTraces = false := by
    unfold Launch.stackTraces
    rw [hflags]
    decide
  have hB0 : (xGm q).B0 = s.heap.size := q2
  have hHB : (xGm q).HB = s.heap := q3
  have C : xCx (xGm q) ((xGm q).dat xLaw) p room_1 s m #[Value.ref b] meth c := ⟨hx, hb, hml, hr, hlk, hown, hts, xLaw_room.1, xLaw_room.2, hnm, hK, htab, htr, ⟨fun a _ => by rw [hHB], Nat.le_of_eq hB0⟩⟩
  have hle := lv_entry [Value.ref b] (n := 10) (show (1 : Nat) ≤ 10 by decide)
  have k := hok p e room_1 s m #[Value.ref b] below meth c (xGm q).aC (fun _ => False) C (xGm q).aC s.heap [] 0 0 _ s.drawn (Drawn.sameBut.refl _ _)
    (by show lv_has _ 10 [(0, xCv (xGm q).aC (.ref 900600))]
        show lv_has _ 10 [(0, .ref ((xGm q).aC 900600))]
        rw [hab]
        exact hle) hrel (fun _ h => h.elim) (fun z hz => nomatch hz) (by decide) (by decide) (fun v hv => nomatch hv) (fun v hv => by
      rw [List.mem_singleton.mp hv]
      exact Or.inr (by decide))
  rw [lg_entry_eq]
  intro T hT X
  obtain ⟨t, a1, o, b1, b2, d, hd, L9, hL9, hW, hs, hc⟩ := k T hT X
  refine ⟨t, a1, o, b1, b2, ?_⟩
  rcases hc with ⟨v, rfl, ad, h, r, b9, hq, rfl, -⟩ | ⟨_, _, _, _, _, _, _, _, _, _, hq, _⟩
  · have er : r = some (.int 1) := by
      have : (Except.ok r : Except String (Option Value)) = .ok (some (.int 1)) := hq
      cases this
      rfl
    subst er
    exact ⟨rfl, x_closed hd ⟨_, rfl⟩ hW (hs.weaken (fun y hy hlt => absurd hlt (by
      have h1 := hL9 y hy
      rw [hB0] at h1
      exact Nat.not_lt.mpr h1)) (Nat.le_refl _) (Nat.le_refl _))⟩
  · exact absurd (show (Except.error _ : Except String (Option Value)) = .ok (some (.int 1)) from hq) (fun h => by cases h)
