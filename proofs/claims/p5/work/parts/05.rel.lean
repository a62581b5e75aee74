/-! ===== the plain machine and the real one ===== -/
/-- a method: name, code, locals, what it answers, how deep it calls, its handlers -/
abbrev xDt : Type := MethodName × ByteArray × Nat × Option FieldType × Nat × List (Nat × Nat × Nat × Nat)
/-- launch; where the new cells begin; the heap there; classes and slots of the kinds; classes of arrays; addresses of constants; names, fields of the kinds; the tables' words; methods -/
abbrev xGt : Type := Launch × Nat × Heap × (Nat → ClassId) × (Nat → Nat → Nat) × (Nat → ClassId) × (Nat → Nat) × (Nat → vw_C) × List Cond × (Nat → xDt) × List (String × Nat × String × Nat) × List (String × String × String × Value)
abbrev xGt.l (G : xGt) : Launch := G.1
abbrev xGt.B0 (G : xGt) : Nat := G.2.1
abbrev xGt.HB (G : xGt) : Heap := G.2.2.1
abbrev xGt.dC (G : xGt) : Nat → ClassId := G.2.2.2.1
abbrev xGt.dI (G : xGt) : Nat → Nat → Nat := G.2.2.2.2.1
abbrev xGt.cA (G : xGt) : Nat → ClassId := G.2.2.2.2.2.1
abbrev xGt.aC (G : xGt) : Nat → Nat := G.2.2.2.2.2.2.1
abbrev xGt.cl (G : xGt) : Nat → vw_C := G.2.2.2.2.2.2.2.1
abbrev xGt.tb (G : xGt) : List Cond := G.2.2.2.2.2.2.2.2.1
abbrev xGt.dat (G : xGt) : Nat → xDt := G.2.2.2.2.2.2.2.2.2.1
/-- constant texts: class, entry, text, number -/
abbrev xGt.sr (G : xGt) : List (String × Nat × String × Nat) := G.2.2.2.2.2.2.2.2.2.2.1
/-- statics that nobody writes -/
abbrev xGt.sv (G : xGt) : List (String × String × String × Value) := G.2.2.2.2.2.2.2.2.2.2.2
def xCv (ad : Nat → Nat) : Value → Value
  | .ref i => .ref (ad i)
  | v => v
def xCvL (ad : Nat → Nat) (q : Nat × Value) : Nat × Value := (q.1, xCv ad q.2)
def xRv (ad : Nat → Nat) : Option Nat → Value
  | none => .null
  | some i => .ref (ad i)
def xOk (h : xH) (i : Nat) : Prop := (gS h i).1 ≠ 0 ∨ 900000 ≤ i
def xOkV (h : xH) : Value → Prop
  | .ref i => xOk h i
  | _ => True
/-- the sort of a field by its descriptor: 0 a small number, 1 long, 2 double, 3 a reference -/
def xTy (d : String) : Nat := if d = "J" then 1 else if d = "D" then 2 else if d = "I" ∨ d = "Z" ∨ d = "B" ∨ d = "S" ∨ d = "C" then 0 else 3
def xFv (ad : Nat → Nat) (cl : Nat → vw_C) (h : xH) (c o k : Nat) : Value := match xTy ((cl c).2.1 k).2.2.1 with
  | 0 => .int (gI h o k)
  | 1 => .long (gL h o k)
  | 2 => .double (gD h o k)
  | _ => xRv ad (gR h o k)
def xAv (h : xH) (c o j : Nat) : Value := if c = 101 then .long (gL h o j) else if c = 102 then .double (gD h o j) else .int (gI h o j)
def xEt (c : Nat) : FieldType := match c with
  | 100 => .int
  | 101 => .long
  | 102 => .double
  | 103 => .byte
  | 104 => .short
  | 105 => .boolean
  | 107 => .byte
  | 108 => .int
  | _ => .char
/-- kinds that are only read: constant texts, their bytes, the script -/
abbrev xRo (k : Nat) : Prop := k = 10 ∨ k = 107 ∨ k = 108
/-- the kind of a constant row -/
def xKo (o : Nat) : Nat := if o = 900600 then 108 else 107
def xAt (G : xGt) (ad : Nat → Nat) (h : xH) (o : Nat) (H : Heap) : Prop :=
  ((gS h o).1 < 100 ∧ ¬ xRo (gS h o).1 ∧ t_OB (ad o) (G.dC (gS h o).1) (G.cl (gS h o).1).2.2 (G.dI (gS h o).1) H (xFv ad G.cl h (gS h o).1 o)) ∨
  (100 ≤ (gS h o).1 ∧ ¬ xRo (gS h o).1 ∧ (gS h o).2 < 2 ^ 31 ∧ H[ad o]? = some (arrV (G.cA (gS h o).1) (gS h o).2 (xAv h (gS h o).1 o))) ∨
  ((gS h o).1 = 10 ∧ ∃ cell : Cell, H[ad o]? = some cell ∧ cell.cls = G.dC 10 ∧ cell.vm.isStatics = false ∧ cell.vm ≠ .unknown ∧ ∀ k, k < 2 → cell.slots[G.dI 10 k]? = some (xFv ad G.cl h 10 o k)) ∨
  (((gS h o).1 = 107 ∨ (gS h o).1 = 108) ∧ (gS h o).2 < 2 ^ 31 ∧ ∃ cell : Cell, H[ad o]? = some cell ∧ (cell.cls = G.dC o ∧ (gS h o).1 = xKo o) ∧ cell.vm.isStatics = false ∧ cell.vm ≠ .unknown ∧ ((gS h o).2 ≤ cell.slots.size ∧ cell.slots.size.toInt32 = nI (gS h o).2) ∧ ∀ j, j < (gS h o).2 → cell.slots[j]? = some (xAv h (gS h o).1 o j))
def xRel (G : xGt) (ad : Nat → Nat) (h : xH) (H : Heap) : Prop :=
  (∀ o, (gS h o).1 ≠ 0 → xAt G ad h o H ∧ ((o < 900000 ∧ G.B0 ≤ ad o ∧ ¬ xRo (gS h o).1) ∨ (900000 ≤ o ∧ ad o < G.B0 ∧ xRo (gS h o).1))) ∧
  (∀ o o', (gS h o).1 ≠ 0 → (gS h o').1 ≠ 0 → o < 900000 → o' < 900000 → ad o = ad o' → o = o') ∧
  (∀ o k j, (gS h o).1 ≠ 0 → gR h o k = some j → xOk h j) ∧
  (∀ q : Nat, q < G.B0 → H[q]? = G.HB[q]?) ∧ G.B0 ≤ H.size ∧ ∀ i, 900000 ≤ i → ad i = G.aC i
def xKs (G : xGt) (U : State) : Prop := (∀ c, 1 ≤ c → c < 100 → u_Kn U (G.cl c).1 (G.cl c).2.1 (G.cl c).2.2 (G.dC c) (G.dI c)) ∧
  (∀ c, xAk c → ArrOfT U (G.cA c) (xEt c) ∧ U.vm.findClass ("[" ++ (xEt c).toString) = some (G.cA c)) ∧
  (∀ q ∈ G.sr, vk_R q.1 q.2.1 q.2.2.1 (G.aC (900000 + q.2.2.2)) U) ∧ (∀ q ∈ G.sv, va_Z q.1 q.2.1 q.2.2.1 q.2.2.2 (fun a => G.B0 ≤ a) U G.HB) ∧
  vx_Zq Bundle.tN "UNASSIGNED_STACK" Bundle.steD (fun a => G.B0 ≤ a) U G.HB ∧ vx_Zq Bundle.tN "SUPPRESSED_SENTINEL" Bundle.listD (fun a => G.B0 ≤ a) U G.HB ∧ ∀ o, 900000 ≤ o → ArrOfT U (G.dC o) (xEt (xKo o))
theorem xKs_al {G : xGt} {u U : State} (hvm : u.vm.Alike U.vm) (hr : ∀ q ∈ G.sr, vk_R q.1 q.2.1 q.2.2.1 (G.aC (900000 + q.2.2.2)) u → vk_R q.1 q.2.1 q.2.2.1 (G.aC (900000 + q.2.2.2)) U) (h : xKs G u) : xKs G U :=
  ⟨fun c h1 h2 => u_Kn_moved hvm (h.1 c h1 h2), fun c h1 => ⟨arrOfT_moved hvm (h.2.1 c h1).1, by rw [hvm.findClass]; exact (h.2.1 c h1).2⟩, fun q hq => hr q hq (h.2.2.1 q hq), fun q hq => va_Z.moved hvm (h.2.2.2.1 q hq), vx_Zq.moved hvm h.2.2.2.2.1, vx_Zq.moved hvm h.2.2.2.2.2.1, fun o ho => arrOfT_moved hvm (h.2.2.2.2.2.2 o ho)⟩
theorem xKs_same {G : xGt} {u U : State} (hv : U.vm = u.vm) (h : xKs G u) : xKs G U := xKs_al (by rw [hv]; exact Vm.Alike.refl _) (fun q _ hq => vk_R.same hv hq) h
theorem xKs_warm {G : xGt} {u U : State} (hW : u.WarmedH U.vm) (h : xKs G u) : xKs G U := xKs_al hW.alike (fun q _ hq => vk_R.warm hW hq) h
def xLow (G : xGt) (H : Heap) : Prop := (∀ q : Nat, q < G.B0 → H[q]? = G.HB[q]?) ∧ G.B0 ≤ H.size
def xCode (d : xDt) : Cond := if d.2.2.2.2.2 = [] then Cond.code d.1 d.2.1 d.2.2.1 d.2.2.2.1 else Cond.codeWith d.1 d.2.1 d.2.2.1 d.2.2.2.1 d.2.2.2.2.2
def xCx (G : xGt) (d : xDt) (p : Program) (R : Room) (s : State) (m : MethodId) (args : Array Value) (meth : Method) (c : Code) : Prop :=
  p.tables.exec = Jvm.exec ∧ c.code = d.2.1 ∧ c.maxLocals = d.2.2.1 ∧ meth.sig.returnType = d.2.2.2.1 ∧ meth.locks = false ∧ s.vm.findClass d.1.cls = some m.cls ∧
  (∀ w ∈ G.tb, w.before args s = true) ∧ d.2.2.2.2.1 ≤ R.frames ∧ 100 * d.2.2.2.2.1 ≤ R.locals ∧ meth.name = d.1.name ∧ xKs G s ∧ c.exceptionTable.toList = tableOf d.2.2.2.2.2 ∧ G.l.stackTraces = false ∧ xLow G s.heap
def xRT (G : xGt) (ad0 : Nat → Nat) (ok0 : Nat → Prop) (Q : xQ) : Option Value → Heap → Prop := fun v H =>
  ∃ (ad : Nat → Nat) (h : xH) (r : Option Value) (b : Nat × Nat), Q (.ok r) h b ∧ v = r.map (xCv ad) ∧ (∀ w, r = some w → xOkV h w) ∧ xRel G ad h H ∧ ∀ i, ok0 i → xOk h i ∧ ad i = ad0 i
def xTH (G : xGt) (ad0 : Nat → Nat) (ok0 : Nat → Prop) (Q : xQ) : String → Heap → Prop := fun E H =>
  ∃ (ad : Nat → Nat) (h : xH) (b : Nat × Nat), Q (.error E) h b ∧ xRel G ad h H ∧ ∀ i, ok0 i → xOk h i ∧ ad i = ad0 i
/-- from here the real machine comes to a good end -/
def xOKat (G : xGt) (d : xDt) (pc : Nat) (l : xL) (st : List Value) (h : xH) (b : Nat × Nat) (Q : xQ) : Prop :=
  ∀ (p : Program) (e : Env) (R : Room) (s : State) (m : MethodId) (args : Array Value) (below : List Frame) (meth : Method) (c : Code) (ad0 : Nat → Nat) (ok0 : Nat → Prop), xCx G d p R s m args meth c →
  ∀ (ad : Nat → Nat) (H : Heap) (locs : List Loc) (cells slots : Nat) (ls : Array Slot) (d0 : Drawn), s.drawn.sameBut d0 lw_cs → lv_has ls d.2.2.1 (l.map (xCvL ad)) → xRel G ad h H →
    (∀ i, ok0 i → xOk h i ∧ ad i = ad0 i) → (∀ z ∈ locs, G.B0 ≤ z.base) → cells + b.1 ≤ R.cells → slots + b.2 ≤ R.slots → (∀ v ∈ st, xOkV h v) → (∀ q ∈ l, xOkV h q.2) →
    W p G.l e R (s.setDrawn d0) m args below meth c H locs cells slots (xMQ below (xRT G ad0 ok0 Q) (xTH G ad0 ok0 Q) s R.cells R.slots (fun q => G.B0 ≤ q)) (F0 m pc ls (st.map (xCv ad)))
def xPok (G : xGt) (P : xP) : Prop := ∀ y t l st h b Q, P y t l st h b Q → xOKat G (G.dat y) t l st h b Q
def xSnd (G : xGt) (d : xDt) (pc : Nat) (i : xSem) (len : Nat) : Prop :=
  ∀ (P : xP) (Q : xQ) (K : xK), xPok G P → (∀ l st h b, K l st h b → xOKat G d (pc + len) l st h b Q) → ∀ l st h b, i P Q K l st h b → xOKat G d pc l st h b Q
def xSndB (G : xGt) (d : xDt) (pc : Nat) (is : List xSem) : Prop := ∀ (P : xP) (Q : xQ), xPok G P → ∀ l st h b, xSeq P Q is l st h b → xOKat G d pc l st h b Q
theorem x_nil {G : xGt} {d : xDt} {pc : Nat} : xSndB G d pc [] := fun _ _ _ _ _ _ _ h => h.elim
theorem x_cons {G : xGt} {d : xDt} {pc len : Nat} {i : xSem} {r : List xSem} (hi : xSnd G d pc i len) (hr : xSndB G d (pc + len) r) : xSndB G d pc (i :: r) :=
  fun P Q hP l st h b hk => hi P Q _ hP (fun l st h b hk => hr P Q hP l st h b hk) l st h b hk
-- running, and its law
theorem xSeq_mono (P P' : xP) (Q Q' : xQ) (hP : ∀ y t l st h b (Q Q' : xQ), P y t l st h b Q → (∀ o h b, Q o h b → Q' o h b) → P' y t l st h b Q') (hQ : ∀ o h b, Q o h b → Q' o h b) :
    ∀ is : List xSem, (∀ i ∈ is, ∀ (P P' : xP) (Q Q' : xQ) (K K' : xK), (∀ y t l st h b (Q Q' : xQ), P y t l st h b Q → (∀ o h b, Q o h b → Q' o h b) → P' y t l st h b Q') → (∀ o h b, Q o h b → Q' o h b) → (∀ l st h b, K l st h b → K' l st h b) → ∀ l st h b, i P Q K l st h b → i P' Q' K' l st h b) →
    ∀ l st h b, xSeq P Q is l st h b → xSeq P' Q' is l st h b
  | [], _, _, _, _, _, h => h
  | i :: r, hm, l, st, h, b, hk => hm i List.mem_cons_self P P' Q Q' _ _ hP hQ (xSeq_mono P P' Q Q' hP hQ r (fun j hj => hm j (List.mem_cons_of_mem _ hj))) l st h b hk
def xMon (i : xSem) : Prop := ∀ (P P' : xP) (Q Q' : xQ) (K K' : xK), (∀ y t l st h b (Q Q' : xQ), P y t l st h b Q → (∀ o h b, Q o h b → Q' o h b) → P' y t l st h b Q') → (∀ o h b, Q o h b → Q' o h b) → (∀ l st h b, K l st h b → K' l st h b) → ∀ l st h b, i P Q K l st h b → i P' Q' K' l st h b
theorem xRun_conseq {T : Nat → Nat → List xSem} (hT : ∀ y t, ∀ i ∈ T y t, xMon i) {P : xP} (hP : xClosed T P) {y t l st h b} {Q Q' : xQ} (hr : xRun T y t l st h b Q) (hQ : ∀ o h b, Q o h b → Q' o h b) : P y t l st h b Q' := by
  have key := hr (fun y t l st h b Q => ∀ Q' : xQ, (∀ o h b, Q o h b → Q' o h b) → P y t l st h b Q') (fun y t l st h b Q hs Q' hQ => hP y t l st h b Q' (xSeq_mono _ _ _ _ (fun y t l st h b Q Q' h1 h2 => h1 Q' h2) hQ _ (hT y t) l st h b hs))
  exact key Q' hQ
theorem xRun_step {T : Nat → Nat → List xSem} (hT : ∀ y t, ∀ i ∈ T y t, xMon i) {y t l st h b} {Q : xQ} (hs : xSeq (xRun T) Q (T y t) l st h b) : xRun T y t l st h b Q :=
  fun P hP => hP y t l st h b Q (xSeq_mono (xRun T) P Q Q (fun y t l st h b Q Q' h1 h2 => xRun_conseq hT hP h1 h2) (fun _ _ _ h => h) _ (hT y t) l st h b hs)
theorem xRun_sound {T : Nat → Nat → List xSem} {G : xGt} (hS : ∀ y t, xSndB G (G.dat y) t (T y t)) {y t l st h b} {Q : xQ} (hr : xRun T y t l st h b Q) : xOKat G (G.dat y) t l st h b Q :=
  hr (fun y t l st h b Q => xOKat G (G.dat y) t l st h b Q) (fun y t l st h b Q hs => hS y t _ Q (fun _ _ _ _ _ _ _ h => h) l st h b hs)
