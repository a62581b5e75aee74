/-! ===== the machine's side: a method that returns or throws, and may draw NaN bits (vx_back and Back.of_freeD in one) ===== -/
section XA
def xEnd (RT : Option Value → Heap → Prop) (TH : String → Heap → Prop) (mc ms : Nat) (free : Addr → Prop) (st : State) (o : Outcome) (t : State) : Prop :=
  ∃ L : List Loc, (∀ q ∈ L, free q.base) ∧ st.WarmedH t.vm ∧ st.sameButNew ({ t with vm := st.vm } : State) L mc ms ∧
    ((∃ v, o = .returned v ∧ RT v t.heap) ∨ ∃ (q : Addr) (E : String) (ce : Cell), o = .threw q ∧ t.heap[q]? = some ce ∧ ce.vm = .none ∧ st.vm.findClass E = some ce.cls ∧ TH E t.heap)
def xMet (l : Launch) (y : MethodName) (ws : List Cond) (rm : Room) (Pc : Array Value → State → Prop) (RT : Option Value → Heap → Prop) (TH : String → Heap → Prop) (mc ms : Nat) (free : Addr → Prop) : Prop :=
  MetFree l y (headSpec ws rm) Pc (fun _ _ _ _ _ => True) (fun _ st o t => ∃ d : Drawn, st.drawn.sameBut d lw_cs ∧ xEnd RT TH mc ms free (st.setDrawn d) o t)
def xMQ (below : List Frame) (RT : Option Value → Heap → Prop) (TH : String → Heap → Prop) (s : State) (mc ms : Nat) (free : Addr → Prop) : State → Prop := fun t =>
  ∃ o, t.status = .running ∧ Ended t below o ∧ ∃ d : Drawn, s.drawn.sameBut d lw_cs ∧ xEnd RT TH mc ms free (s.setDrawn d) o t
theorem x_ofW {l : Launch} {y : MethodName} {ws ws' : List Cond} {rm : Room} {Pc : Array Value → State → Prop} {RT : Option Value → Heap → Prop} {TH : String → Heap → Prop} {mc ms : Nat} {free : Addr → Prop} {cc : ByteArray} {maxL : Nat} {ret : Option FieldType}
    (hy : plainName y.cls = true) (hw : ws = Cond.code y cc maxL ret :: ws')
    (body : ∀ p e s m args below meth c s₁, BodyLoose p l y (headSpec ws rm) cc maxL ret e s m args below meth c s₁ → c.maxLocals = maxL → Pc args s → s.drawn.sameBut s.drawn lw_cs →
      W p l e (headSpec ws rm).room (s.setDrawn s.drawn) m args below meth c s.heap [] 0 0 (xMQ below RT TH s mc ms free) (entryFrame m args maxL)) : xMet l y ws rm Pc RT TH mc ms free := by
  refine MetFree.of_bodyS (code := cc) (maxLocals := maxL) (ret := ret) hy ?_ ?_
  · intro args s m h hn
    obtain ⟨meth, c, h1, h2, h3, h4, h5, h6, -, -⟩ := Cond.code_spec hn (atoms_spec (ws := ws) h _ (by rw [hw]; exact List.mem_cons_self))
    exact ⟨meth, c, h1, h2, h3, h4, h5, h6⟩
  · intro p e s m args below meth c s₁ B hml hP _
    have hh0 : s₁.heap = s.heap := by rw [B.state]; rfl
    have X0 : Stand p l e (headSpec ws rm).room (s.setDrawn s.drawn) m args below meth c s₁ [] 0 0 := Stand.of_body B
    obtain ⟨t, a1, o, b1, b2, d, hd, b3⟩ := body p e s m args below meth c s₁ B hml hP (Drawn.sameBut.refl _ _) s₁ hh0 X0
    exact ⟨t, o, a1, b1, b2, d, hd, b3⟩
end XA
/-- a method's code, with its handlers -/
def xCd (y : MethodName) (bytes : ByteArray) (maxL : Nat) (ret : Option FieldType) (hh : List (Nat × Nat × Nat × Nat)) : Cond := if hh = [] then Cond.code y bytes maxL ret else Cond.codeWith y bytes maxL ret hh
theorem xCd_spec {y : MethodName} {bytes : ByteArray} {maxL : Nat} {ret : Option FieldType} {hh : List (Nat × Nat × Nat × Nat)} {a : Array Value} {s : State} (h : (xCd y bytes maxL ret hh).before a s = true) :
    ∃ m meth c, s.methodNamed? y = some m ∧ s.vm.method? m = some meth ∧ meth.code = some c ∧ c.maxLocals = maxL ∧ parseMethodDescriptor y.desc = some meth.sig := by
  unfold xCd at h
  split at h
  · obtain ⟨m, hn⟩ := Cond.code_named h
    obtain ⟨meth, c, h1, h2, -, h4, -, -, -, h8⟩ := Cond.code_spec hn h
    exact ⟨m, meth, c, hn, h1, h2, h4, h8⟩
  · obtain ⟨m, meth, c, hn, h1, h2, -, h4, -, -, -, h8⟩ := Cond.codeWith_spec h
    exact ⟨m, meth, c, hn, h1, h2, h4, h8⟩
section XB
variable {l : Launch} {R : Room} {p : Program} {e : Env} {below : List Frame} {s : State} {sargs : Array Value} {y : MethodName} {len W9 : Nat}
/-- behind a call: it came back, or threw -/
def xAfter (l : Launch) (R : Room) (p : Program) (e : Env) (below : List Frame) (s : State) (m : MethodId) (sargs : Array Value) (meth : Method) (c : Code) (Ls : List Loc) (c0 s0 mc ms : Nat) (free : Addr → Prop) (RT : Option Value → Heap → Prop) (TH : String → Heap → Prop)
    (A : State) (g : JFrame) (len : Nat) (rest : List Value) : Prop :=
  ∃ (d : Drawn) (B : State) (L : List Loc), s.drawn.sameBut d lw_cs ∧ Stand p l e R (s.setDrawn d) m sargs below meth c B (Ls ++ L) (c0 + mc) (s0 + ms) ∧ (∀ q ∈ L, free q.base) ∧
    ((∃ v, RT v B.heap ∧ ∀ tg, Steps p.tables e below (B.setTop { g with pc := g.pc + len, stack := v.toList ++ rest }) tg → Steps p.tables e below A tg) ∨
     ∃ (q : Addr) (E : String) (ce : Cell), B.heap[q]? = some ce ∧ ce.vm = .none ∧ s.vm.findClass E = some ce.cls ∧ TH E B.heap ∧ Steps p.tables e below A ((B.setTop { g with stack := rest }).pushFrame (.throwing q)))
set_option maxHeartbeats 1000000 in
theorem x_back {ws : List Cond} {rm : Room} {Pc : Array Value → State → Prop} {RT : Option Value → Heap → Prop} {TH : String → Heap → Prop} {mc ms : Nat} {free : Addr → Prop} {bytes : ByteArray} {maxL : Nat} {ret : Option FieldType} {hh : List (Nat × Nat × Nat × Nat)}
    (hM : xMet l y ws rm Pc RT TH mc ms free) (hblind : FrameBlind Pc) (hrc : rm.cells = mc) (hrs : rm.slots = ms)
    (hframes : rm.frames + 1 ≤ R.frames) (hlocals : W9 + (maxL + 11) + rm.locals ≤ R.locals)
    (hws : ∀ w ∈ ws, ∀ a' U, s.WarmedH U.vm → w.before a' U = true) (hcode : xCd y bytes maxL ret hh ∈ ws) (hinit : ∀ a' U, s.WarmedH U.vm → (Cond.initialized y.cls).before a' U = true)
    {m : MethodId} {meth : Method} {c : Code} {U : State} {Ls : List Loc} {c0 s0 : Nat} {g : JFrame} {ig : Instr} {mk : MethodId} {a : Array Value}
    (X : Stand p l e R s m sargs below meth c U Ls c0 s0) (hg : g.method = m) (hsize : g.locals.size = c.maxLocals) (hdg : decode c.code g.pc = .ok (ig, len))
    (hW : 2 * g.monitorRoom + (g.stack.map fun v => v.category).sum ≤ W9) (hn : U.methodNamed? y = some mk) (hp : c0 + mc ≤ R.cells ∧ s0 + ms ≤ R.slots) (hPc0 : Pc a U) :
    xAfter l R p e below s m sargs meth c Ls c0 s0 mc ms free RT TH (doInvoke e (U.setTop g) [] mk a).1 g len g.stack := by
  have h1 : (headSpec ws rm).pre.before a U = true := atoms_intro fun w hw => hws w hw _ _ X.warmed
  have h2 : (xCd y bytes maxL ret hh).before a U = true := hws _ hcode _ _ X.warmed
  have h3 : (Cond.initialized y.cls).before a U = true := hinit _ _ X.warmed
  have h4 : c0 + (headSpec ws rm).room.cells ≤ R.cells := by rw [show (headSpec ws rm).room.cells = mc from hrc]; exact hp.1
  have h5 : s0 + (headSpec ws rm).room.slots ≤ R.slots := by rw [show (headSpec ws rm).room.slots = ms from hrs]; exact hp.2
  have hPc : Pc a (U.calling g mk a) := hblind _ _ _ _ hPc0
  obtain ⟨mk9, methY, cY, hn9, hmY, hcY, hlY, -⟩ := xCd_spec h2
  cases hn.symm.trans hn9
  obtain ⟨kY, hkY, -⟩ := className_of_methodNamed hn
  have hinitY : kY.init = .initialized := Cond.initialized_spec (findClass_of_methodNamed hn) hkY h3
  have h : At U g.method c below := by rw [hg]; exact X.here
  have hlocals9 : W9 + (maxL + 11) + (headSpec ws rm).room.locals ≤ R.locals := hlocals
  have happ : (headSpec ws rm).appliesLoose y e.platform (U.calling g mk a) = true :=
    Spec.appliesLoose_calling (g := g) h hdg hn hkY hinitY
      (X.room_calling (g := g) (R' := (headSpec ws rm).room) hsize hmY hcY hframes (by rw [hlY]; omega) h4 h5) h1
  obtain ⟨mid, hmid⟩ := h.above
  have hfr : (U.setTop g).frames = (.java g :: mid) ++ below := by rw [State.frames_setTop' g h.top, hmid]; rfl
  obtain ⟨o, s₂, hsteps, -, hend, hq⟩ := Steps.callFree hM p X.admits X.cas X.clock (acts := []) hfr happ hPc trivial
  have hq' : ∃ d : Drawn, (U.calling g mk a).drawn.sameBut d lw_cs ∧ xEnd RT TH mc ms free ((U.calling g mk a).setDrawn d) o s₂ := hq
  rw [State.frames_setTop' g h.top] at hend
  obtain ⟨d, hd, hqd⟩ := hq'
  have hcdr : (U.calling g mk a).drawn = s.drawn := by
    rw [State.calling_eq h.top]
    exact X.drawn_eq
  rw [hcdr] at hd
  have h' : At (U.setDrawn d) g.method c below := h.setDrawn d
  have X' : Stand p l e R (s.setDrawn d) m sargs below meth c (U.setDrawn d) Ls c0 s0 := X.drew d
  have hcd : (U.calling g mk a).setDrawn d = (U.setDrawn d).calling g mk a := by
    rw [State.calling_eq h.top, State.calling_eq h'.top]
    rfl
  rw [hcd] at hqd
  obtain ⟨g₀, hg0⟩ := Option.isSome_iff_exists.mp h.top
  obtain ⟨r, hr⟩ := State.topJava?_eq_some.mp hg0
  have hrV : (U.setDrawn d).frames = .java g₀ :: r := hr
  have hr' : (({ U.setDrawn d with heap := s₂.heap, slotsUsed := s₂.slotsUsed } : State).setVm s₂.vm).frames = .java g₀ :: r := hr
  obtain ⟨L, hL, hW₂, hsm, hcase⟩ := hqd
  obtain ⟨e2, q2, q3, q4, q5, q6⟩ := id hsm
  have e3 : s₂ = ({ ((U.setDrawn d).calling g mk a).setFrames s₂.frames with heap := s₂.heap, slotsUsed := s₂.slotsUsed } : State).setVm s₂.vm := by
    have : s₂ = ({ s₂ with vm := ((U.setDrawn d).calling g mk a).vm } : State).setVm s₂.vm := rfl
    rw [e2] at this
    exact this
  have hW' : (U.setDrawn d).WarmedH s₂.vm := hW₂
  have hsame : (U.setDrawn d).sameButNew ({ U.setDrawn d with heap := s₂.heap, slotsUsed := s₂.slotsUsed } : State) L mc ms := by
    refine ⟨?_, q2, q3, q4, q5, q6⟩
    obtain ⟨t, ht, -⟩ := State.frames_cons hrV
    show ({ U.setDrawn d with heap := s₂.heap, slotsUsed := s₂.slotsUsed } : State) = { (U.setDrawn d).setFrames (U.setDrawn d).frames with heap := s₂.heap, slotsUsed := s₂.slotsUsed }
    rw [State.setFrames_self ht]
  have XB : Stand p l e R (s.setDrawn d) m sargs below meth c (({ U.setDrawn d with heap := s₂.heap, slotsUsed := s₂.slotsUsed } : State).setVm s₂.vm) (Ls ++ L) (c0 + mc) (s0 + ms) := by
    subst hg
    exact ⟨X'.admits, X'.cas, X'.clock, X'.frames, X'.room, X'.hears, X'.method, X'.code, (X'.here.setHeapUsed s₂.heap s₂.slotsUsed).setVm hW'.alike, X'.tail, State.WarmedH.trans X'.warmed hW', X'.limits, X'.bytes, X'.same.trans (hsame.setVm (s.setDrawn d).vm)⟩
  refine ⟨d, _, L, hd, XB, hL, ?_⟩
  rcases hcase with ⟨v, rfl, hrt⟩ | ⟨q, E, ce, rfl, hce, hcv, hcl, hth⟩
  · obtain ⟨c₂, i₂, len₂, hc₂, hd₂, hf₂⟩ := hend
    have hcc : c₂ = c := by
      have h1 : s₂.code? g.method = (U.setDrawn d).code? g.method := by
        rw [State.code?_eq, State.code?_eq, hW'.alike.method?]
      exact Option.some.inj (hc₂.symm.trans (h1.trans h'.code))
    subst hcc
    have hlen : len₂ = len := by rw [hdg] at hd₂; cases hd₂; rfl
    subst hlen
    have hs₂ : s₂ = (({ U.setDrawn d with heap := s₂.heap, slotsUsed := s₂.slotsUsed } : State).setVm s₂.vm).setTop { g with pc := g.pc + len₂, stack := v.toList ++ g.stack } := by
      refine e3.trans ?_
      rw [hf₂, State.calling_eq h'.top, State.setFrames_setFrames, State.setTop_of_frames _ hr', hr]
      rfl
    refine Or.inl ⟨v, hrt, fun tg htg => ?_⟩
    rw [← hs₂] at htg
    exact hsteps.trans htg
  · have hf₂ : s₂.frames = .throwing q :: .java g :: U.frames.tail := hend
    have hs₂ : s₂ = ((({ U.setDrawn d with heap := s₂.heap, slotsUsed := s₂.slotsUsed } : State).setVm s₂.vm).setTop g).pushFrame (.throwing q) := by
      refine e3.trans ?_
      rw [hf₂, State.calling_eq h'.top, State.setFrames_setFrames, State.pushFrame, State.frames_setTop _ hr', State.setTop_of_frames _ hr', State.setFrames_setFrames, hr]
      rfl
    have hclE : s.vm.findClass E = some ce.cls := by
      have h9 : U.vm.findClass E = some ce.cls := hcl
      rw [X.warmed.alike.findClass] at h9
      exact h9
    refine Or.inr ⟨q, E, ce, hce, hcv, hclE, hth, ?_⟩
    show Steps p.tables e below _ (((({ U.setDrawn d with heap := s₂.heap, slotsUsed := s₂.slotsUsed } : State).setVm s₂.vm).setTop g).pushFrame (.throwing q))
    rw [← hs₂]
    exact hsteps
end XB
/-! ===== calls of such methods, goal first ===== -/
section XC
variable {p : Program} {l : Launch} {e : Env} {R : Room} {s : State} {m : MethodId} {args : Array Value} {below : List Frame} {meth : Method} {c : Code} {H : Heap} {locs : List Loc} {cells slots : Nat} {Q : State → Prop}
/-- what a call of y wants -/
def xCB (l : Launch) (R : Room) (s : State) (args : Array Value) (y : MethodName) (bytes : ByteArray) (maxL : Nat) (ret : Option FieldType) (hh : List (Nat × Nat × Nat × Nat)) (ws : List Cond) (rm : Room) (Pc : Array Value → State → Prop) (RT : Option Value → Heap → Prop) (TH : String → Heap → Prop) (mc ms : Nat) (free : Addr → Prop) : Prop :=
  xMet l y ws rm Pc RT TH mc ms free ∧ FrameBlind Pc ∧ rm.cells = mc ∧ rm.slots = ms ∧ rm.frames + 1 ≤ R.frames ∧ 8 + (maxL + 11) + rm.locals ≤ R.locals ∧
  (∀ w ∈ ws, ∀ (a' : Array Value) (U : State), s.WarmedH U.vm → w.before a' U = true) ∧ xCd y bytes maxL ret hh ∈ ws ∧ (∀ (a' : Array Value) (U : State), s.WarmedH U.vm → (Cond.initialized y.cls).before a' U = true) ∧
  (xCd y bytes maxL ret hh).before args s = true ∧ (y.cls ≠ "java/lang/invoke/MethodHandle" ∧ y.cls ≠ "java/lang/invoke/VarHandle")
variable {cc bytes : ByteArray} {maxL index n mc ms pc : Nat} {own C host : String} {y : MethodName} {ret : Option FieldType} {hh : List (Nat × Nat × Nat × Nat)} {ws : List Cond} {rm : Room} {Pc : Array Value → State → Prop} {RT : Option Value → Heap → Prop} {TH : String → Heap → Prop} {free : Addr → Prop}
  {b : Addr} {As rest : List Value} {ls : Array Slot}
theorem x_close {T : State} {A : State} {st9 : List Value}
    (h : xAfter l R p e below s m args meth c locs cells slots mc ms free RT TH A (F0 m pc ls st9) 3 rest)
    (hA : ∀ tg, Steps p.tables e below A tg → Steps p.tables e below T tg)
    (kr : ∀ (d : Drawn) (H1 : Heap) (L : List Loc) (v : Option Value), s.drawn.sameBut d lw_cs → (∀ q ∈ L, free q.base) → RT v H1 → W p l e R (s.setDrawn d) m args below meth c H1 (locs ++ L) (cells + mc) (slots + ms) Q (F0 m (pc + 3) ls (v.toList ++ rest)))
    (kt : ∀ (d : Drawn) (H1 : Heap) (L : List Loc) (q : Addr) (E : String) (ce : Cell), s.drawn.sameBut d lw_cs → (∀ q ∈ L, free q.base) → TH E H1 → H1[q]? = some ce → ce.vm = .none → s.vm.findClass E = some ce.cls → vx_W p l e R (s.setDrawn d) m args below meth c H1 (locs ++ L) (cells + mc) (slots + ms) Q (F0 m pc ls rest) q) :
    ∃ t, Steps p.tables e below T t ∧ Q t := by
  obtain ⟨d, B, L, hd, XB, hL, hc⟩ := h
  rcases hc with ⟨v, hrt, st⟩ | ⟨q, E, ce, h1, h2, h3, h4, st⟩
  · obtain ⟨t, a1, b1⟩ := kr d B.heap L v hd hL hrt B rfl XB
    exact ⟨t, hA _ (st _ a1), b1⟩
  · obtain ⟨t, a1, b1⟩ := kt d B.heap L q E ce hd hL h4 h1 h2 h3 B rfl XB
    exact ⟨t, hA _ (st.trans a1), b1⟩
theorem x_callV (hexec : p.tables.exec = Jvm.exec) (hb : c.code = cc) (hml : ls.size = c.maxLocals) (hown : s.vm.findClass own = some m.cls)
    (hlink : (Cond.methodLink own index y).before args s = true) (hinst : (Cond.instanceMethod y).before args s = true) (hsel : (Cond.selects C y y).before args s = true)
    (hK : xCB l R s args y bytes maxL ret hh ws rm Pc RT TH mc ms free)
    {cellB : Cell} (hcell : H[b]? = some cellB) (hobj : cellB.vm.isStatics = false) (hcls : s.vm.findClass C = some cellB.cls)
    (hlen : ∀ sig, parseMethodDescriptor y.desc = some sig → As.length = sig.parameters.length) (hW : (rest.map fun v => v.category).sum ≤ 8) (hdg : decode cc pc = .ok (.invokevirtual index, 3))
    (hf : cells + mc ≤ R.cells ∧ slots + ms ≤ R.slots) (hPc : ∀ U : State, U.heap = H → s.WarmedH U.vm → Pc (Value.ref b :: As).toArray U)
    (kr : ∀ (d : Drawn) (H1 : Heap) (L : List Loc) (v : Option Value), s.drawn.sameBut d lw_cs → (∀ q ∈ L, free q.base) → RT v H1 → W p l e R (s.setDrawn d) m args below meth c H1 (locs ++ L) (cells + mc) (slots + ms) Q (F0 m (pc + 3) ls (v.toList ++ rest)))
    (kt : ∀ (d : Drawn) (H1 : Heap) (L : List Loc) (q : Addr) (E : String) (ce : Cell), s.drawn.sameBut d lw_cs → (∀ q ∈ L, free q.base) → TH E H1 → H1[q]? = some ce → ce.vm = .none → s.vm.findClass E = some ce.cls → vx_W p l e R (s.setDrawn d) m args below meth c H1 (locs ++ L) (cells + mc) (slots + ms) Q (F0 m pc ls rest) q)
    {st0 : List Value} (hst : st0 = As.reverse ++ .ref b :: rest) :
    W p l e R s m args below meth c H locs cells slots Q (F0 m pc ls st0) := by
  subst hst
  intro T hT X
  subst hb
  obtain ⟨hM, hbl, hrc, hrs, hfr, hlo, hws, hcw, hini, hcode, hy⟩ := hK
  obtain ⟨mk, methM, hnamed, hmethM, hstM, habM⟩ := Cond.instanceMethod_spec hinst
  obtain ⟨mk9, methM', cM, hn9, hmethM', -, -, hsigM⟩ := xCd_spec hcode
  cases hnamed.symm.trans hn9
  cases hmethM.symm.trans hmethM'
  obtain ⟨c2, r2, m2, q1, q2, q3, q4, kP, hkP, hkPi⟩ := Cond.selects_spec hsel
  cases hcls.symm.trans q1
  cases (State.methodFound?_of_named hnamed hy).symm.trans q2
  cases hnamed.symm.trans q3
  have hselP : selectMethod e.platform s.vm cellB.cls mk = .method mk := by rw [Launch.admits_selectMethod X.admits]; exact q4
  obtain ⟨vm₁, X₁, hstep₁⟩ := X.invokevirtual hexec hown hlink hnamed hmethM hstM hkP hkPi hy (a := b) (cell := cellB) (by rw [hT]; exact hcell)
    (fun z h => by rw [h] at hobj; cases hobj) hselP hmethM habM hkP hkPi (g := F0 m pc ls (As.reverse ++ .ref b :: rest)) rfl (argsL := As) (rest := rest) (hlen _ hsigM) rfl hdg
  have hA := x_back (g := F0 m pc ls rest) (W9 := 8) (a := (Value.ref b :: As).toArray) hM hbl hrc hrs hfr hlo hws hcw hini X₁ rfl hml hdg (by simpa [JFrame.monitorRoom] using hW) (X₁.named hnamed) hf (hPc (T.setVm vm₁) hT X₁.warmed)
  exact x_close hA (fun tg h => hstep₁ _ fun acts => by rw [doInvoke_state]; exact h) kr kt
theorem x_callS (hexec : p.tables.exec = Jvm.exec) (hb : c.code = cc) (hml : ls.size = c.maxLocals) (hown : s.vm.findClass own = some m.cls)
    (hlink : (Cond.methodLink own index y).before args s = true ∨ (Cond.methodLinkNest own index y host).before args s = true) (hstat : (Cond.static y).before args s = true)
    (hK : xCB l R s args y bytes maxL ret hh ws rm Pc RT TH mc ms free)
    (hlen : ∀ sig, parseMethodDescriptor y.desc = some sig → As.length = sig.parameters.length) (hW : (rest.map fun v => v.category).sum ≤ 8) (hdg : decode cc pc = .ok (.invokestatic index, 3))
    (hf : cells + mc ≤ R.cells ∧ slots + ms ≤ R.slots) (hPc : ∀ U : State, U.heap = H → s.WarmedH U.vm → Pc As.toArray U)
    (kr : ∀ (d : Drawn) (H1 : Heap) (L : List Loc) (v : Option Value), s.drawn.sameBut d lw_cs → (∀ q ∈ L, free q.base) → RT v H1 → W p l e R (s.setDrawn d) m args below meth c H1 (locs ++ L) (cells + mc) (slots + ms) Q (F0 m (pc + 3) ls (v.toList ++ rest)))
    (kt : ∀ (d : Drawn) (H1 : Heap) (L : List Loc) (q : Addr) (E : String) (ce : Cell), s.drawn.sameBut d lw_cs → (∀ q ∈ L, free q.base) → TH E H1 → H1[q]? = some ce → ce.vm = .none → s.vm.findClass E = some ce.cls → vx_W p l e R (s.setDrawn d) m args below meth c H1 (locs ++ L) (cells + mc) (slots + ms) Q (F0 m pc ls rest) q)
    {st0 : List Value} (hst : st0 = As.reverse ++ rest) :
    W p l e R s m args below meth c H locs cells slots Q (F0 m pc ls st0) := by
  subst hst
  intro T hT X
  subst hb
  obtain ⟨hM, hbl, hrc, hrs, hfr, hlo, hws, hcw, hini, hcode, hy⟩ := hK
  obtain ⟨mk, methM, cM, hnamed, hmethM, -, -, hsigM⟩ := xCd_spec hcode
  have hstatic : methM.isStatic = true := Cond.static_spec hnamed hmethM hstat
  obtain ⟨kP, hkP, -⟩ := className_of_methodNamed hnamed
  have hinitP : kP.init = .initialized := Cond.initialized_spec (findClass_of_methodNamed hnamed) hkP (hini args s (State.WarmedH.refl s))
  obtain ⟨vm₁, X₁, hstep₁⟩ : ∃ vm₁, Stand p l e R s m args below meth c (T.setVm vm₁) locs cells slots ∧ ∀ target, (∀ acts, Steps p.tables e below (doInvoke e ((T.setVm vm₁).setTop (F0 m pc ls rest)) acts mk As.toArray).1 target) → Steps p.tables e below (T.setTop (F0 m pc ls (As.reverse ++ rest))) target := by
    rcases hlink with hlink | hlink
    · exact X.invokestatic hexec hown hlink hnamed hmethM hstatic hkP hinitP hy (g := F0 m pc ls (As.reverse ++ rest)) rfl (argsL := As) (rest := rest) (hlen _ hsigM) rfl hdg
    · exact X.invokestaticNest hexec hown hlink hnamed hmethM hstatic hkP hinitP hy (g := F0 m pc ls (As.reverse ++ rest)) rfl (argsL := As) (rest := rest) (hlen _ hsigM) rfl hdg
  have hA := x_back (g := F0 m pc ls rest) (W9 := 8) (a := As.toArray) hM hbl hrc hrs hfr hlo hws hcw hini X₁ rfl hml hdg (by simpa [JFrame.monitorRoom] using hW) (X₁.named hnamed) hf (hPc (T.setVm vm₁) hT X₁.warmed)
  exact x_close hA (fun tg h => hstep₁ _ fun acts => by rw [doInvoke_state]; exact h) kr kt
theorem x_callSU (hexec : p.tables.exec = Jvm.exec) (hb : c.code = cc) (hml : ls.size = c.maxLocals) (hown : s.vm.findClass own = some m.cls)
    (hlink : (Cond.methodLink own index y).before args s = true) (hsame : (Cond.sameMethod y.cls y.cls y.name y.desc).before args s = true) (hsup : (Cond.superclass own y.cls).before args s = true) (hinst : (Cond.instanceMethod y).before args s = true) (hno : y.name ≠ "<init>")
    (hK : xCB l R s args y bytes maxL ret hh ws rm Pc RT TH mc ms free)
    {cellB : Cell} {kB : Class} (hcell : H[b]? = some cellB) (hobj : cellB.vm.isStatics = false) (hkB : s.vm.classes[cellB.cls]? = some kB)
    (hlen : ∀ sig, parseMethodDescriptor y.desc = some sig → As.length = sig.parameters.length) (hW : (rest.map fun v => v.category).sum ≤ 8) (hdg : decode cc pc = .ok (.invokespecial index, 3))
    (hf : cells + mc ≤ R.cells ∧ slots + ms ≤ R.slots) (hPc : ∀ U : State, U.heap = H → s.WarmedH U.vm → Pc (Value.ref b :: As).toArray U)
    (kr : ∀ (d : Drawn) (H1 : Heap) (L : List Loc) (v : Option Value), s.drawn.sameBut d lw_cs → (∀ q ∈ L, free q.base) → RT v H1 → W p l e R (s.setDrawn d) m args below meth c H1 (locs ++ L) (cells + mc) (slots + ms) Q (F0 m (pc + 3) ls (v.toList ++ rest)))
    (kt : ∀ (d : Drawn) (H1 : Heap) (L : List Loc) (q : Addr) (E : String) (ce : Cell), s.drawn.sameBut d lw_cs → (∀ q ∈ L, free q.base) → TH E H1 → H1[q]? = some ce → ce.vm = .none → s.vm.findClass E = some ce.cls → vx_W p l e R (s.setDrawn d) m args below meth c H1 (locs ++ L) (cells + mc) (slots + ms) Q (F0 m pc ls rest) q)
    {st0 : List Value} (hst : st0 = As.reverse ++ .ref b :: rest) :
    W p l e R s m args below meth c H locs cells slots Q (F0 m pc ls st0) := by
  subst hst
  intro T hT X
  subst hb
  obtain ⟨hM, hbl, hrc, hrs, hfr, hlo, hws, hcw, hini, hcode, hy⟩ := hK
  obtain ⟨mk, methM, hnamed, hmethM, hstM, habM⟩ := Cond.instanceMethod_spec hinst
  obtain ⟨mk9, methM', cM, hn9, hmethM', -, -, hsigM⟩ := xCd_spec hcode
  cases hnamed.symm.trans hn9
  cases hmethM.symm.trans hmethM'
  obtain ⟨ps, dk, kp, hps, hdk, hkp, hsuper, -, -, hnid⟩ := Cond.superclass_spec hown hsup
  have hn : s.methodNamed? ⟨y.cls, y.name, y.desc⟩ = some mk := hnamed
  have hpm : ps = mk.cls := Option.some.inj (hps.symm.trans (findClass_of_methodNamed hnamed))
  have hsub : s.vm.isSubclass ps mk.cls = true := by rw [hpm]; simp [Vm.isSubclass, Vm.isSubclassAux]
  obtain ⟨vm₁, X₁, hstep₁⟩ := X.invokespecialUp hexec hown hlink hsame hn hmethM hstM habM hno hdk hnid hps hsuper hsub (a := b) (cell := cellB) (by rw [hT]; exact hcell)
    (fun z h => by rw [h] at hobj; cases hobj) hkB (g := F0 m pc ls (As.reverse ++ .ref b :: rest)) rfl (argsL := As) (rest := rest) (hlen _ hsigM) rfl hdg
  have hA := x_back (g := F0 m pc ls rest) (W9 := 8) (a := (Value.ref b :: As).toArray) hM hbl hrc hrs hfr hlo hws hcw hini X₁ rfl hml hdg (by simpa [JFrame.monitorRoom] using hW) (X₁.named hnamed) hf (hPc (T.setVm vm₁) hT X₁.warmed)
  exact x_close hA (fun tg h => hstep₁ _ (by rw [doInvoke_state]; exact h)) kr kt
theorem x_callI (hexec : p.tables.exec = Jvm.exec) (hb : c.code = cc) (hml : ls.size = c.maxLocals) (hown : s.vm.findClass own = some m.cls) (hy1 : y.name = "<init>")
    (hlink : (Cond.methodLink own index y).before args s = true ∨ (Cond.methodLinkNest own index y host).before args s = true) (hinst : (Cond.instanceMethod y).before args s = true)
    (hK : xCB l R s args y bytes maxL none [] ws rm Pc RT TH mc ms free)
    (hlen : ∀ sig, parseMethodDescriptor y.desc = some sig → As.length = sig.parameters.length) (hW : (rest.map fun v => v.category).sum ≤ 8) (hdg : decode cc pc = .ok (.invokespecial index, 3))
    (hf : cells + mc ≤ R.cells ∧ slots + ms ≤ R.slots) (hPc : ∀ U : State, U.heap = H → s.WarmedH U.vm → Pc (Value.ref b :: As).toArray U)
    (kr : ∀ (d : Drawn) (H1 : Heap) (L : List Loc) (v : Option Value), s.drawn.sameBut d lw_cs → (∀ q ∈ L, free q.base) → RT v H1 → W p l e R (s.setDrawn d) m args below meth c H1 (locs ++ L) (cells + mc) (slots + ms) Q (F0 m (pc + 3) ls (v.toList ++ rest)))
    (kt : ∀ (d : Drawn) (H1 : Heap) (L : List Loc) (q : Addr) (E : String) (ce : Cell), s.drawn.sameBut d lw_cs → (∀ q ∈ L, free q.base) → TH E H1 → H1[q]? = some ce → ce.vm = .none → s.vm.findClass E = some ce.cls → vx_W p l e R (s.setDrawn d) m args below meth c H1 (locs ++ L) (cells + mc) (slots + ms) Q (F0 m pc ls rest) q)
    {st0 : List Value} (hst : st0 = As.reverse ++ .ref b :: rest) :
    W p l e R s m args below meth c H locs cells slots Q (F0 m pc ls st0) := by
  subst hst
  intro T hT X
  subst hb
  obtain ⟨hM, hbl, hrc, hrs, hfr, hlo, hws, hcw, hini, hcode, hy⟩ := hK
  have hcode : (Cond.code y bytes maxL none).before args s = true := by
    have h9 := hcode
    rwa [xCd, if_pos rfl] at h9
  have hpl : e.platform.magicAccessors = ({} : Platform).magicAccessors := by rw [X.admits.platform]
  obtain ⟨mk, vm₁, hnamed, hW₁, hstep₁⟩ : ∃ (mk : MethodId) (vm₁ : Vm), s.methodNamed? y = some mk ∧ s.WarmedH vm₁ ∧ ∀ target, (∀ acts, Steps p.tables e below (doInvoke e ((T.setVm vm₁).setTop (F0 m pc ls rest)) acts mk (Value.ref b :: As).toArray).1 target) → Steps p.tables e below (T.setTop (F0 m pc ls (As.reverse ++ .ref b :: rest))) target := by
    rcases hlink with hlink | hlink
    · obtain ⟨mk, methM, cM, kP, vm₁, hnamed, hmethM, hcodeM, -, hlocalsM, -, hkP, -, hW₁, hstep₁⟩ := Steps.initColdArgs (e := e) X.here hexec X.warmed hpl hown hy1 hy hlink hinst hcode (f := F0 m pc ls (As.reverse ++ .ref b :: rest)) rfl hlen rfl hdg
      exact ⟨mk, vm₁, hnamed, hW₁, hstep₁⟩
    · obtain ⟨mk, methM, cM, kP, vm₁, hnamed, hmethM, hcodeM, -, hlocalsM, -, hkP, -, hW₁, hstep₁⟩ := Steps.initColdArgsNest (e := e) X.here hexec X.warmed hpl hown hy1 hy hlink hinst hcode (f := F0 m pc ls (As.reverse ++ .ref b :: rest)) rfl hlen rfl hdg
      exact ⟨mk, vm₁, hnamed, hW₁, hstep₁⟩
  have X₁ := X.noted hW₁
  have hA := x_back (g := F0 m pc ls rest) (W9 := 8) (a := (Value.ref b :: As).toArray) hM hbl hrc hrs hfr hlo hws hcw hini X₁ rfl hml hdg (by simpa [JFrame.monitorRoom] using hW) (X₁.named hnamed) hf (hPc (T.setVm vm₁) hT X₁.warmed)
  exact x_close hA (fun tg h => hstep₁ _ fun acts => by rw [doInvoke_state]; exact h) kr kt
/-- a method's end by a return -/
theorem x_ret {d0 : Drawn} (hd0 : s.drawn.sameBut d0 lw_cs) {g : JFrame} (hc : cells ≤ mc) (hs : slots ≤ ms)
    (k : W p l e R (s.setDrawn d0) m args below meth c H locs cells slots (MQ below (fun _ _ o t => ∃ v, o = .returned v ∧ RT v t.heap) args (s.setDrawn d0) cells slots free) g) :
    W p l e R (s.setDrawn d0) m args below meth c H locs cells slots (xMQ below RT TH s mc ms free) g := by
  intro T hT X
  obtain ⟨t, a1, o, b1, b2, ⟨v, rfl, hr⟩, L, ⟨-, hW, hsm⟩, hL⟩ := k T hT X
  exact ⟨t, a1, _, b1, b2, d0, hd0, L, hL, hW, hsm.mono hc hs, Or.inl ⟨v, rfl, hr⟩⟩
/-- a method's end by a throw that it doesn't catch -/
theorem x_out {d0 : Drawn} (hd0 : s.drawn.sameBut d0 lw_cs) {E : String} {ce : Cell} {q : Addr} (hout : ∀ x ∈ c.exceptionTable.toList, covers x pc = false) (hlocks : meth.locks = false) (hcell : H[q]? = some ce) (hv : ce.vm = .none) (hcl : s.vm.findClass E = some ce.cls)
    (hx : TH E H) (hf : ∀ z ∈ locs, free z.base) (hc : cells ≤ mc) (hs : slots ≤ ms) :
    vx_W p l e R (s.setDrawn d0) m args below meth c H locs cells slots (xMQ below RT TH s mc ms free) (F0 m pc ls rest) q := by
  intro T hT X
  obtain ⟨st1, hrun, hend, hW, hsm⟩ := X.leaveThrown q (g := F0 m pc ls rest) rfl rfl rfl hout hlocks
  have hcell9 : (T.setFrames (.throwing q :: below)).heap[q]? = some ce := by
    show T.heap[q]? = some ce
    rw [hT]; exact hcell
  have hx9 : TH E (T.setFrames (.throwing q :: below)).heap := by
    show TH E T.heap
    rw [hT]; exact hx
  exact ⟨_, st1, .threw q, hrun, hend, d0, hd0, locs, hf, hW, hsm.mono hc hs, Or.inr ⟨q, E, ce, rfl, hcell9, hv, hcl, hx9⟩⟩
end XC
/-! ===== the plain machine: cells by numbers, a step as a transformer of conditions ===== -/
abbrev xH : Type := (Nat → Nat × Nat) × (Nat → Nat → Int32) × (Nat → Nat → Int64) × (Nat → Nat → UInt64) × (Nat → Nat → Option Nat)
/-- kind and length of the cell o: kind 0: none; 1..99: an object of that class; 100: int[], 101: long[], 102: double[], 103: byte[], 104: short[], 105: boolean[], 106: char[] -/
def gS (h : xH) (o : Nat) : Nat × Nat := h.1 o
def gI (h : xH) (o k : Nat) : Int32 := h.2.1 o k
def gL (h : xH) (o k : Nat) : Int64 := h.2.2.1 o k
def gD (h : xH) (o k : Nat) : UInt64 := h.2.2.2.1 o k
def gR (h : xH) (o k : Nat) : Option Nat := h.2.2.2.2 o k
def sI (h : xH) (o k : Nat) (v : Int32) : xH := (h.1, fun a b => if a = o ∧ b = k then v else h.2.1 a b, h.2.2.1, h.2.2.2.1, h.2.2.2.2)
def sL (h : xH) (o k : Nat) (v : Int64) : xH := (h.1, h.2.1, fun a b => if a = o ∧ b = k then v else h.2.2.1 a b, h.2.2.2.1, h.2.2.2.2)
def sD (h : xH) (o k : Nat) (v : UInt64) : xH := (h.1, h.2.1, h.2.2.1, fun a b => if a = o ∧ b = k then v else h.2.2.2.1 a b, h.2.2.2.2)
def sR (h : xH) (o k : Nat) (v : Option Nat) : xH := (h.1, h.2.1, h.2.2.1, h.2.2.2.1, fun a b => if a = o ∧ b = k then v else h.2.2.2.2 a b)
/-- a new cell, all nought -/
def nS (h : xH) (o : Nat) (s : Nat × Nat) : xH := (fun a => if a = o then s else h.1 a, fun a b => if a = o then 0 else h.2.1 a b, fun a b => if a = o then 0 else h.2.2.1 a b, fun a b => if a = o then 0 else h.2.2.2.1 a b, fun a b => if a = o then none else h.2.2.2.2 a b)
theorem gI_sI (h : xH) (o k : Nat) (v : Int32) (a b : Nat) : gI (sI h o k v) a b = if a = o ∧ b = k then v else gI h a b := rfl
theorem gL_sI (h : xH) (o k : Nat) (v : Int32) (a b : Nat) : gL (sI h o k v) a b = gL h a b := rfl
theorem gD_sI (h : xH) (o k : Nat) (v : Int32) (a b : Nat) : gD (sI h o k v) a b = gD h a b := rfl
theorem gR_sI (h : xH) (o k : Nat) (v : Int32) (a b : Nat) : gR (sI h o k v) a b = gR h a b := rfl
theorem gS_sI (h : xH) (o k : Nat) (v : Int32) (a : Nat) : gS (sI h o k v) a = gS h a := rfl
theorem gL_sL (h : xH) (o k : Nat) (v : Int64) (a b : Nat) : gL (sL h o k v) a b = if a = o ∧ b = k then v else gL h a b := rfl
theorem gI_sL (h : xH) (o k : Nat) (v : Int64) (a b : Nat) : gI (sL h o k v) a b = gI h a b := rfl
theorem gD_sL (h : xH) (o k : Nat) (v : Int64) (a b : Nat) : gD (sL h o k v) a b = gD h a b := rfl
theorem gR_sL (h : xH) (o k : Nat) (v : Int64) (a b : Nat) : gR (sL h o k v) a b = gR h a b := rfl
theorem gS_sL (h : xH) (o k : Nat) (v : Int64) (a : Nat) : gS (sL h o k v) a = gS h a := rfl
theorem gD_sD (h : xH) (o k : Nat) (v : UInt64) (a b : Nat) : gD (sD h o k v) a b = if a = o ∧ b = k then v else gD h a b := rfl
theorem gI_sD (h : xH) (o k : Nat) (v : UInt64) (a b : Nat) : gI (sD h o k v) a b = gI h a b := rfl
theorem gL_sD (h : xH) (o k : Nat) (v : UInt64) (a b : Nat) : gL (sD h o k v) a b = gL h a b := rfl
theorem gR_sD (h : xH) (o k : Nat) (v : UInt64) (a b : Nat) : gR (sD h o k v) a b = gR h a b := rfl
theorem gS_sD (h : xH) (o k : Nat) (v : UInt64) (a : Nat) : gS (sD h o k v) a = gS h a := rfl
theorem gR_sR (h : xH) (o k : Nat) (v : Option Nat) (a b : Nat) : gR (sR h o k v) a b = if a = o ∧ b = k then v else gR h a b := rfl
theorem gI_sR (h : xH) (o k : Nat) (v : Option Nat) (a b : Nat) : gI (sR h o k v) a b = gI h a b := rfl
theorem gL_sR (h : xH) (o k : Nat) (v : Option Nat) (a b : Nat) : gL (sR h o k v) a b = gL h a b := rfl
theorem gD_sR (h : xH) (o k : Nat) (v : Option Nat) (a b : Nat) : gD (sR h o k v) a b = gD h a b := rfl
theorem gS_sR (h : xH) (o k : Nat) (v : Option Nat) (a : Nat) : gS (sR h o k v) a = gS h a := rfl
theorem gS_nS (h : xH) (o : Nat) (s : Nat × Nat) (a : Nat) : gS (nS h o s) a = if a = o then s else gS h a := rfl
theorem gI_nS (h : xH) (o : Nat) (s : Nat × Nat) (a b : Nat) : gI (nS h o s) a b = if a = o then 0 else gI h a b := rfl
theorem gL_nS (h : xH) (o : Nat) (s : Nat × Nat) (a b : Nat) : gL (nS h o s) a b = if a = o then 0 else gL h a b := rfl
theorem gD_nS (h : xH) (o : Nat) (s : Nat × Nat) (a b : Nat) : gD (nS h o s) a b = if a = o then 0 else gD h a b := rfl
theorem gR_nS (h : xH) (o : Nat) (s : Nat × Nat) (a b : Nat) : gR (nS h o s) a b = if a = o then none else gR h a b := rfl
abbrev xL : Type := List (Nat × Value)
abbrev xK : Type := xL → List Value → xH → Nat × Nat → Prop
abbrev xQ : Type := Except String (Option Value) → xH → Nat × Nat → Prop
/-- the method, the place in it where to go on -/
abbrev xP : Type := Nat → Nat → xL → List Value → xH → Nat × Nat → xQ → Prop
abbrev xSem : Type := xP → xQ → xK → xK
def lk : xL → Nat → Option Value
  | [], _ => none
  | q :: r, n => if q.1 = n then some q.2 else lk r n
def lkp (l : xL) : List Nat → xL
  | [] => []
  | n :: r => match lk l n with
    | some v => (n, v) :: lkp l r
    | none => lkp l r
def stf1 (i : Nat) : xL → xL
  | [] => []
  | q :: r => if q.1 = i ∨ (q.1 + 1 = i ∧ q.2.category = 2) then stf1 i r else q :: stf1 i r
def stf2 (i : Nat) : xL → xL
  | [] => []
  | q :: r => if q.1 = i ∨ q.1 = i + 1 ∨ (q.1 + 1 = i ∧ q.2.category = 2) then stf2 i r else q :: stf2 i r
def rV : Option Nat → Value
  | none => .null
  | some i => .ref i
def xSeq (P : xP) (Q : xQ) : List xSem → xK
  | [] => fun _ _ _ _ => False
  | i :: r => i P Q (xSeq P Q r)
-- locals and constants
def i_push (v : Value) : xSem := fun _ _ K l st h b => K l (v :: st) h b
def i_load (n : Nat) : xSem := fun _ _ K l st h b => match lk l n with
  | some v => K l (v :: st) h b
  | none => False
def i_iload (n : Nat) : xSem := fun _ _ K l st h b => match lk l n with
  | some (.int x) => K l (.int x :: st) h b
  | _ => False
def i_lload (n : Nat) : xSem := fun _ _ K l st h b => match lk l n with
  | some (.long x) => K l (.long x :: st) h b
  | _ => False
def i_dload (n : Nat) : xSem := fun _ _ K l st h b => match lk l n with
  | some (.double x) => K l (.double x :: st) h b
  | _ => False
def i_aload (n : Nat) : xSem := fun _ _ K l st h b => match lk l n with
  | some (.ref x) => K l (.ref x :: st) h b
  | _ => False
def i_istore (n : Nat) : xSem := fun _ _ K l st h b => match st with
  | .int x :: r => K ((n, .int x) :: stf1 n l) r h b
  | _ => False
def i_astore (n : Nat) : xSem := fun _ _ K l st h b => match st with
  | .ref x :: r => K ((n, .ref x) :: stf1 n l) r h b
  | _ => False
def i_lstore (n : Nat) : xSem := fun _ _ K l st h b => match st with
  | .long x :: r => K ((n, .long x) :: stf2 n l) r h b
  | _ => False
def i_dstore (n : Nat) : xSem := fun _ _ K l st h b => match st with
  | .double x :: r => K ((n, .double x) :: stf2 n l) r h b
  | _ => False
def i_iinc (n : Nat) (d : Int32) : xSem := fun _ _ K l st h b => match lk l n with
  | some (.int x) => K ((n, .int (x + d)) :: stf1 n l) st h b
  | _ => False
-- plain numbers
def i_ii (f : Int32 → Int32 → Int32) : xSem := fun _ _ K l st h b => match st with
  | .int y :: .int x :: r => K l (.int (f x y) :: r) h b
  | _ => False
def i_iiz (f : Int32 → Int32 → Int32) : xSem := fun _ _ K l st h b => match st with
  | .int y :: .int x :: r => y ≠ 0 ∧ K l (.int (f x y) :: r) h b
  | _ => False
def i_ll (f : Int64 → Int64 → Int64) : xSem := fun _ _ K l st h b => match st with
  | .long y :: .long x :: r => K l (.long (f x y) :: r) h b
  | _ => False
def i_llz (f : Int64 → Int64 → Int64) : xSem := fun _ _ K l st h b => match st with
  | .long y :: .long x :: r => y ≠ 0 ∧ K l (.long (f x y) :: r) h b
  | _ => False
def i_lli (f : Int64 → Int64 → Int32) : xSem := fun _ _ K l st h b => match st with
  | .long y :: .long x :: r => K l (.int (f x y) :: r) h b
  | _ => False
def i_li (f : Int64 → Int32 → Int64) : xSem := fun _ _ K l st h b => match st with
  | .int y :: .long x :: r => K l (.long (f x y) :: r) h b
  | _ => False
def i_i (f : Int32 → Int32) : xSem := fun _ _ K l st h b => match st with
  | .int x :: r => K l (.int (f x) :: r) h b
  | _ => False
def i_i2l : xSem := fun _ _ K l st h b => match st with
  | .int x :: r => K l (.long x.toInt64 :: r) h b
  | _ => False
def i_l2i : xSem := fun _ _ K l st h b => match st with
  | .long x :: r => K l (.int x.toInt32 :: r) h b
  | _ => False
def i_dup : xSem := fun _ _ K l st h b => match st with
  | x :: r => x.category = 1 ∧ K l (x :: x :: r) h b
  | _ => False
def i_dup2 : xSem := fun _ _ K l st h b => match st with
  | x :: y :: r => x.category = 1 ∧ y.category = 1 ∧ K l (x :: y :: x :: y :: r) h b
  | _ => False
def i_dup2w : xSem := fun _ _ K l st h b => match st with
  | x :: r => x.category = 2 ∧ K l (x :: x :: r) h b
  | _ => False
def i_pop : xSem := fun _ _ K l st h b => match st with
  | x :: r => x.category = 1 ∧ K l r h b
  | _ => False
def i_pop2 : xSem := fun _ _ K l st h b => match st with
  | x :: r => x.category = 2 ∧ K l r h b
  | _ => False
-- doubles and floats: an answer that is no number has any bits
def i_dd (f : UInt64 → UInt64 → UInt64) : xSem := fun _ _ K l st h b => match st with
  | .double y :: .double x :: r => ∀ v : UInt64, alike64 v (f x y) = true → K l (.double v :: r) h b
  | _ => False
def i_ff (f : UInt32 → UInt32 → UInt32) : xSem := fun _ _ K l st h b => match st with
  | .float y :: .float x :: r => ∀ v : UInt32, alike32 v (f x y) = true → K l (.float v :: r) h b
  | _ => False
-- going on elsewhere: y the method itself, ks the locals that are wanted there
def i_goto (y t : Nat) (ks : List Nat) : xSem := fun P Q _ l st h b => P y t (lkp l ks) st h b Q
def i_ifc (c : Int32 → Prop) (y t : Nat) (ks : List Nat) : xSem := fun P Q K l st h b => match st with
  | .int x :: r => (c x → P y t (lkp l ks) r h b Q) ∧ (¬ c x → K l r h b)
  | _ => False
def i_icmp (c : Int32 → Int32 → Prop) (y t : Nat) (ks : List Nat) : xSem := fun P Q K l st h b => match st with
  | .int v :: .int x :: r => (c x v → P y t (lkp l ks) r h b Q) ∧ (¬ c x v → K l r h b)
  | _ => False
-- fields: c the class, k the field's place
def i_getI (c k : Nat) : xSem := fun _ _ K l st h b => match st with
  | .ref o :: r => (gS h o).1 = c ∧ K l (.int (gI h o k) :: r) h b
  | _ => False
def i_getL (c k : Nat) : xSem := fun _ _ K l st h b => match st with
  | .ref o :: r => (gS h o).1 = c ∧ K l (.long (gL h o k) :: r) h b
  | _ => False
def i_getR (c k : Nat) : xSem := fun _ _ K l st h b => match st with
  | .ref o :: r => (gS h o).1 = c ∧ K l (rV (gR h o k) :: r) h b
  | _ => False
def i_putI (c k : Nat) : xSem := fun _ _ K l st h b => match st with
  | .int v :: .ref o :: r => (gS h o).1 = c ∧ K l r (sI h o k v) b
  | _ => False
def i_putZ (c k : Nat) : xSem := fun _ _ K l st h b => match st with
  | .int v :: .ref o :: r => (gS h o).1 = c ∧ (v = 0 ∨ v = 1) ∧ K l r (sI h o k v) b
  | _ => False
def i_putL (c k : Nat) : xSem := fun _ _ K l st h b => match st with
  | .long v :: .ref o :: r => (gS h o).1 = c ∧ K l r (sL h o k v) b
  | _ => False
def i_putR (c k : Nat) : xSem := fun _ _ K l st h b => match st with
  | .ref v :: .ref o :: r => (gS h o).1 = c ∧ K l r (sR h o k (some v)) b
  | _ => False
-- arrays
def xIn (i : Int32) (n : Nat) : Prop := vp_in i n
def ix (i : Int32) : Nat := i.toNatClampNeg
def i_aldI (c : Nat) : xSem := fun _ _ K l st h b => match st with
  | .int i :: .ref o :: r => (gS h o).1 = c ∧ xIn i (gS h o).2 ∧ K l (.int (gI h o (ix i)) :: r) h b
  | _ => False
/-- bytes, of a constant text too -/
def i_aldB : xSem := fun _ _ K l st h b => match st with
  | .int i :: .ref o :: r => ((gS h o).1 = 103 ∨ (gS h o).1 = 107) ∧ xIn i (gS h o).2 ∧ K l (.int (gI h o (ix i)) :: r) h b
  | _ => False
def i_aldL : xSem := fun _ _ K l st h b => match st with
  | .int i :: .ref o :: r => (gS h o).1 = 101 ∧ xIn i (gS h o).2 ∧ K l (.long (gL h o (ix i)) :: r) h b
  | _ => False
def i_aldD : xSem := fun _ _ K l st h b => match st with
  | .int i :: .ref o :: r => (gS h o).1 = 102 ∧ xIn i (gS h o).2 ∧ K l (.double (gD h o (ix i)) :: r) h b
  | _ => False
def i_astI (c : Nat) (f : Int32 → Int32) : xSem := fun _ _ K l st h b => match st with
  | .int v :: .int i :: .ref o :: r => (gS h o).1 = c ∧ xIn i (gS h o).2 ∧ K l r (sI h o (ix i) (f v)) b
  | _ => False
def i_astL : xSem := fun _ _ K l st h b => match st with
  | .long v :: .int i :: .ref o :: r => (gS h o).1 = 101 ∧ xIn i (gS h o).2 ∧ K l r (sL h o (ix i) v) b
  | _ => False
def i_astD : xSem := fun _ _ K l st h b => match st with
  | .double v :: .int i :: .ref o :: r => (gS h o).1 = 102 ∧ xIn i (gS h o).2 ∧ K l r (sD h o (ix i) v) b
  | _ => False
/-- the kinds of arrays -/
abbrev xAk (c : Nat) : Prop := (100 ≤ c ∧ c < 106) ∨ c = 107 ∨ c = 108
def i_alen : xSem := fun _ _ K l st h b => match st with
  | .ref o :: r => xAk (gS h o).1 ∧ K l (.int (nI (gS h o).2) :: r) h b
  | _ => False
-- new things, at any number that isn't taken
def xFree (h : xH) (i : Nat) : Prop := (gS h i).1 = 0 ∧ i < 900000
def i_new (c n : Nat) : xSem := fun _ _ K l st h b => 1 ≤ b.1 ∧ n ≤ b.2 ∧ ∃ i, xFree h i ∧ K l (.ref i :: st) (nS h i (c, 0)) (b.1 - 1, b.2 - n)
def i_newa (c w : Nat) : xSem := fun _ _ K l st h b => match st with
  | .int n :: r => ¬ n < 0 ∧ ix n * w ≤ 536870912 ∧ 1 ≤ b.1 ∧ ix n ≤ b.2 ∧ ∃ i, xFree h i ∧ K l (.ref i :: r) (nS h i (c, ix n)) (b.1 - 1, b.2 - ix n)
  | _ => False
-- ends
def i_ret : xSem := fun _ Q _ _ st h b => match st with
  | [] => Q (.ok none) h b
  | _ => False
def i_iret : xSem := fun _ Q _ _ st h b => match st with
  | [.int v] => Q (.ok (some (.int v))) h b
  | _ => False
def i_zret : xSem := fun _ Q _ _ st h b => match st with
  | [.int v] => (v = 0 ∨ v = 1) ∧ Q (.ok (some (.int v))) h b
  | _ => False
def i_lret : xSem := fun _ Q _ _ st h b => match st with
  | [.long v] => Q (.ok (some (.long v))) h b
  | _ => False
def i_fret : xSem := fun _ Q _ _ st h b => match st with
  | [.float v] => Q (.ok (some (.float v))) h b
  | _ => False
def i_dret : xSem := fun _ Q _ _ st h b => match st with
  | [.double v] => Q (.ok (some (.double v))) h b
  | _ => False
def i_aret : xSem := fun _ Q _ _ st h b => match st with
  | [.ref v] => Q (.ok (some (.ref v))) h b
  | _ => False
-- calls: n things are taken off, m locals; a call that makes nothing (0), one that may (A); by a receiver of kind c (V), or without one
def xCat (st : List Value) : Nat := (st.map fun v => v.category).sum
def xCk (n m : Nat) (st : List Value) : Bool := decide (n ≤ st.length) && decide (xCat (st.drop n) ≤ 8) && decide (xCat (st.take n) ≤ m)
def xTo (Q : xQ) (K : xK) (l : xL) (rest : List Value) (b : Nat × Nat) : xQ := fun o h' _ => match o with
  | .ok v => K l (v.toList ++ rest) h' b
  | .error E => Q (.error E) h' b
def i_invS0 (z n m : Nat) : xSem := fun P Q K l st h b => xCk n m st = true ∧ P z 0 (lv_args 0 (st.take n).reverse) [] h (0, 0) (xTo Q K l (st.drop n) b)
def i_invSA (z n m : Nat) : xSem := fun P Q K l st h b => xCk n m st = true ∧ ∃ mc ms, mc ≤ b.1 ∧ ms ≤ b.2 ∧ P z 0 (lv_args 0 (st.take n).reverse) [] h (mc, ms) (xTo Q K l (st.drop n) (b.1 - mc, b.2 - ms))
def xRc (c : Nat) (h : xH) : List Value → Prop
  | .ref o :: _ => (gS h o).1 = c
  | _ => False
def i_invV0 (c z n m : Nat) : xSem := fun P Q K l st h b => xCk n m st = true ∧ xRc c h (st.take n).reverse ∧ P z 0 (lv_args 0 (st.take n).reverse) [] h (0, 0) (xTo Q K l (st.drop n) b)
def i_invVA (c z n m : Nat) : xSem := fun P Q K l st h b => xCk n m st = true ∧ xRc c h (st.take n).reverse ∧ ∃ mc ms, mc ≤ b.1 ∧ ms ≤ b.2 ∧ P z 0 (lv_args 0 (st.take n).reverse) [] h (mc, ms) (xTo Q K l (st.drop n) (b.1 - mc, b.2 - ms))
/-- a thing's first constructor, of Object -/
def i_obj : xSem := fun _ _ K l st h b => match st with
  | .ref _ :: r => xCat r ≤ 8 ∧ K l r h b
  | _ => False
-- running
def xClosed (T : Nat → Nat → List xSem) (P : xP) : Prop := ∀ y t l st h b Q, xSeq P Q (T y t) l st h b → P y t l st h b Q
def xRun (T : Nat → Nat → List xSem) : xP := fun y t l st h b Q => ∀ P, xClosed T P → P y t l st h b Q
/-! ===== the plain machine and the real one ===== -/
/-- a method: name, code, locals, what it answers, how deep it calls, its handlers -/
abbrev xDt : Type := MethodName × ByteArray × Nat × Option FieldType × Nat × List (Nat × Nat × Nat × Nat)
/-- launch; where the new cells begin; the heap there; classes and slots of the kinds; classes of arrays; addresses of constants; names, fields of the kinds; the tables' words; methods -/
abbrev xGt : Type := Launch × Nat × Heap × (Nat → ClassId) × (Nat → Nat → Nat) × (Nat → ClassId) × (Nat → Nat) × (Nat → vw_C) × List Cond × (Nat → xDt) × List (String × Nat × String × Nat) × List (String × String × String × Value)
abbrev xGt.l (G : xGt) : Launch := G.1
abbrev xGt.B0 (G : xGt) : Nat := G.2.1
abbrev xGt.HB (G : xGt) : Heap := G.2.2.1
abbrev xGt.dC (G : xGt) : Nat → ClassId := G.2.2.2.1
abbrev xGt.dI (G : xGt) : Nat → Nat → Nat := G.2.2.2.2.1
abbrev xGt.cA (G : xGt) : Nat → ClassId := G.2.2.2.2.2.1
abbrev xGt.aC (G : xGt) : Nat → Nat := G.2.2.2.2.2.2.1
abbrev xGt.cl (G : xGt) : Nat → vw_C := G.2.2.2.2.2.2.2.1
abbrev xGt.tb (G : xGt) : List Cond := G.2.2.2.2.2.2.2.2.1
abbrev xGt.dat (G : xGt) : Nat → xDt := G.2.2.2.2.2.2.2.2.2.1
/-- constant texts: class, entry, text, number -/
abbrev xGt.sr (G : xGt) : List (String × Nat × String × Nat) := G.2.2.2.2.2.2.2.2.2.2.1
/-- statics that nobody writes -/
abbrev xGt.sv (G : xGt) : List (String × String × String × Value) := G.2.2.2.2.2.2.2.2.2.2.2
def xCv (ad : Nat → Nat) : Value → Value
  | .ref i => .ref (ad i)
  | v => v
def xCvL (ad : Nat → Nat) (q : Nat × Value) : Nat × Value := (q.1, xCv ad q.2)
def xRv (ad : Nat → Nat) : Option Nat → Value
  | none => .null
  | some i => .ref (ad i)
def xOk (h : xH) (i : Nat) : Prop := (gS h i).1 ≠ 0 ∨ 900000 ≤ i
def xOkV (h : xH) : Value → Prop
  | .ref i => xOk h i
  | _ => True
/-- the sort of a field by its descriptor: 0 a small number, 1 long, 2 double, 3 a reference -/
def xTy (d : String) : Nat := if d = "J" then 1 else if d = "D" then 2 else if d = "I" ∨ d = "Z" ∨ d = "B" ∨ d = "S" ∨ d = "C" then 0 else 3
def xFv (ad : Nat → Nat) (cl : Nat → vw_C) (h : xH) (c o k : Nat) : Value := match xTy ((cl c).2.1 k).2.2.1 with
  | 0 => .int (gI h o k)
  | 1 => .long (gL h o k)
  | 2 => .double (gD h o k)
  | _ => xRv ad (gR h o k)
def xAv (h : xH) (c o j : Nat) : Value := if c = 101 then .long (gL h o j) else if c = 102 then .double (gD h o j) else .int (gI h o j)
def xEt (c : Nat) : FieldType := match c with
  | 100 => .int
  | 101 => .long
  | 102 => .double
  | 103 => .byte
  | 104 => .short
  | 105 => .boolean
  | 107 => .byte
  | 108 => .int
  | _ => .char
/-- kinds that are only read: constant texts, their bytes, the script -/
abbrev xRo (k : Nat) : Prop := k = 10 ∨ k = 107 ∨ k = 108
/-- the kind of a constant row -/
def xKo (o : Nat) : Nat := if o = 900600 then 108 else 107
def xAt (G : xGt) (ad : Nat → Nat) (h : xH) (o : Nat) (H : Heap) : Prop :=
  ((gS h o).1 < 100 ∧ ¬ xRo (gS h o).1 ∧ t_OB (ad o) (G.dC (gS h o).1) (G.cl (gS h o).1).2.2 (G.dI (gS h o).1) H (xFv ad G.cl h (gS h o).1 o)) ∨
  (100 ≤ (gS h o).1 ∧ ¬ xRo (gS h o).1 ∧ (gS h o).2 < 2 ^ 31 ∧ H[ad o]? = some (arrV (G.cA (gS h o).1) (gS h o).2 (xAv h (gS h o).1 o))) ∨
  ((gS h o).1 = 10 ∧ ∃ cell : Cell, H[ad o]? = some cell ∧ cell.cls = G.dC 10 ∧ cell.vm.isStatics = false ∧ cell.vm ≠ .unknown ∧ ∀ k, k < 2 → cell.slots[G.dI 10 k]? = some (xFv ad G.cl h 10 o k)) ∨
  (((gS h o).1 = 107 ∨ (gS h o).1 = 108) ∧ (gS h o).2 < 2 ^ 31 ∧ ∃ cell : Cell, H[ad o]? = some cell ∧ (cell.cls = G.dC o ∧ (gS h o).1 = xKo o) ∧ cell.vm.isStatics = false ∧ cell.vm ≠ .unknown ∧ ((gS h o).2 ≤ cell.slots.size ∧ cell.slots.size.toInt32 = nI (gS h o).2) ∧ ∀ j, j < (gS h o).2 → cell.slots[j]? = some (xAv h (gS h o).1 o j))
def xRel (G : xGt) (ad : Nat → Nat) (h : xH) (H : Heap) : Prop :=
  (∀ o, (gS h o).1 ≠ 0 → xAt G ad h o H ∧ ((o < 900000 ∧ G.B0 ≤ ad o ∧ ¬ xRo (gS h o).1) ∨ (900000 ≤ o ∧ ad o < G.B0 ∧ xRo (gS h o).1))) ∧
  (∀ o o', (gS h o).1 ≠ 0 → (gS h o').1 ≠ 0 → o < 900000 → o' < 900000 → ad o = ad o' → o = o') ∧
  (∀ o k j, (gS h o).1 ≠ 0 → gR h o k = some j → xOk h j) ∧
  (∀ q : Nat, q < G.B0 → H[q]? = G.HB[q]?) ∧ G.B0 ≤ H.size ∧ ∀ i, 900000 ≤ i → ad i = G.aC i
def xKs (G : xGt) (U : State) : Prop := (∀ c, 1 ≤ c → c < 100 → u_Kn U (G.cl c).1 (G.cl c).2.1 (G.cl c).2.2 (G.dC c) (G.dI c)) ∧
  (∀ c, xAk c → ArrOfT U (G.cA c) (xEt c) ∧ U.vm.findClass ("[" ++ (xEt c).toString) = some (G.cA c)) ∧
  (∀ q ∈ G.sr, vk_R q.1 q.2.1 q.2.2.1 (G.aC (900000 + q.2.2.2)) U) ∧ (∀ q ∈ G.sv, va_Z q.1 q.2.1 q.2.2.1 q.2.2.2 (fun a => G.B0 ≤ a) U G.HB) ∧
  vx_Zq Bundle.tN "UNASSIGNED_STACK" Bundle.steD (fun a => G.B0 ≤ a) U G.HB ∧ vx_Zq Bundle.tN "SUPPRESSED_SENTINEL" Bundle.listD (fun a => G.B0 ≤ a) U G.HB ∧ ∀ o, 900000 ≤ o → ArrOfT U (G.dC o) (xEt (xKo o))
theorem xKs_al {G : xGt} {u U : State} (hvm : u.vm.Alike U.vm) (hr : ∀ q ∈ G.sr, vk_R q.1 q.2.1 q.2.2.1 (G.aC (900000 + q.2.2.2)) u → vk_R q.1 q.2.1 q.2.2.1 (G.aC (900000 + q.2.2.2)) U) (h : xKs G u) : xKs G U :=
  ⟨fun c h1 h2 => u_Kn_moved hvm (h.1 c h1 h2), fun c h1 => ⟨arrOfT_moved hvm (h.2.1 c h1).1, by rw [hvm.findClass]; exact (h.2.1 c h1).2⟩, fun q hq => hr q hq (h.2.2.1 q hq), fun q hq => va_Z.moved hvm (h.2.2.2.1 q hq), vx_Zq.moved hvm h.2.2.2.2.1, vx_Zq.moved hvm h.2.2.2.2.2.1, fun o ho => arrOfT_moved hvm (h.2.2.2.2.2.2 o ho)⟩
theorem xKs_same {G : xGt} {u U : State} (hv : U.vm = u.vm) (h : xKs G u) : xKs G U := xKs_al (by rw [hv]; exact Vm.Alike.refl _) (fun q _ hq => vk_R.same hv hq) h
theorem xKs_warm {G : xGt} {u U : State} (hW : u.WarmedH U.vm) (h : xKs G u) : xKs G U := xKs_al hW.alike (fun q _ hq => vk_R.warm hW hq) h
def xLow (G : xGt) (H : Heap) : Prop := (∀ q : Nat, q < G.B0 → H[q]? = G.HB[q]?) ∧ G.B0 ≤ H.size
def xCode (d : xDt) : Cond := if d.2.2.2.2.2 = [] then Cond.code d.1 d.2.1 d.2.2.1 d.2.2.2.1 else Cond.codeWith d.1 d.2.1 d.2.2.1 d.2.2.2.1 d.2.2.2.2.2
def xCx (G : xGt) (d : xDt) (p : Program) (R : Room) (s : State) (m : MethodId) (args : Array Value) (meth : Method) (c : Code) : Prop :=
  p.tables.exec = Jvm.exec ∧ c.code = d.2.1 ∧ c.maxLocals = d.2.2.1 ∧ meth.sig.returnType = d.2.2.2.1 ∧ meth.locks = false ∧ s.vm.findClass d.1.cls = some m.cls ∧
  (∀ w ∈ G.tb, w.before args s = true) ∧ d.2.2.2.2.1 ≤ R.frames ∧ 100 * d.2.2.2.2.1 ≤ R.locals ∧ meth.name = d.1.name ∧ xKs G s ∧ c.exceptionTable.toList = tableOf d.2.2.2.2.2 ∧ G.l.stackTraces = false ∧ xLow G s.heap
def xRT (G : xGt) (ad0 : Nat → Nat) (ok0 : Nat → Prop) (Q : xQ) : Option Value → Heap → Prop := fun v H =>
  ∃ (ad : Nat → Nat) (h : xH) (r : Option Value) (b : Nat × Nat), Q (.ok r) h b ∧ v = r.map (xCv ad) ∧ (∀ w, r = some w → xOkV h w) ∧ xRel G ad h H ∧ ∀ i, ok0 i → xOk h i ∧ ad i = ad0 i
def xTH (G : xGt) (ad0 : Nat → Nat) (ok0 : Nat → Prop) (Q : xQ) : String → Heap → Prop := fun E H =>
  ∃ (ad : Nat → Nat) (h : xH) (b : Nat × Nat), Q (.error E) h b ∧ xRel G ad h H ∧ ∀ i, ok0 i → xOk h i ∧ ad i = ad0 i
/-- from here the real machine comes to a good end -/
def xOKat (G : xGt) (d : xDt) (pc : Nat) (l : xL) (st : List Value) (h : xH) (b : Nat × Nat) (Q : xQ) : Prop :=
  ∀ (p : Program) (e : Env) (R : Room) (s : State) (m : MethodId) (args : Array Value) (below : List Frame) (meth : Method) (c : Code) (ad0 : Nat → Nat) (ok0 : Nat → Prop), xCx G d p R s m args meth c →
  ∀ (ad : Nat → Nat) (H : Heap) (locs : List Loc) (cells slots : Nat) (ls : Array Slot) (d0 : Drawn), s.drawn.sameBut d0 lw_cs → lv_has ls d.2.2.1 (l.map (xCvL ad)) → xRel G ad h H →
    (∀ i, ok0 i → xOk h i ∧ ad i = ad0 i) → (∀ z ∈ locs, G.B0 ≤ z.base) → cells + b.1 ≤ R.cells → slots + b.2 ≤ R.slots → (∀ v ∈ st, xOkV h v) → (∀ q ∈ l, xOkV h q.2) →
    W p G.l e R (s.setDrawn d0) m args below meth c H locs cells slots (xMQ below (xRT G ad0 ok0 Q) (xTH G ad0 ok0 Q) s R.cells R.slots (fun q => G.B0 ≤ q)) (F0 m pc ls (st.map (xCv ad)))
def xPok (G : xGt) (P : xP) : Prop := ∀ y t l st h b Q, P y t l st h b Q → xOKat G (G.dat y) t l st h b Q
def xSnd (G : xGt) (d : xDt) (pc : Nat) (i : xSem) (len : Nat) : Prop :=
  ∀ (P : xP) (Q : xQ) (K : xK), xPok G P → (∀ l st h b, K l st h b → xOKat G d (pc + len) l st h b Q) → ∀ l st h b, i P Q K l st h b → xOKat G d pc l st h b Q
def xSndB (G : xGt) (d : xDt) (pc : Nat) (is : List xSem) : Prop := ∀ (P : xP) (Q : xQ), xPok G P → ∀ l st h b, xSeq P Q is l st h b → xOKat G d pc l st h b Q
theorem x_nil {G : xGt} {d : xDt} {pc : Nat} : xSndB G d pc [] := fun _ _ _ _ _ _ _ h => h.elim
theorem x_cons {G : xGt} {d : xDt} {pc len : Nat} {i : xSem} {r : List xSem} (hi : xSnd G d pc i len) (hr : xSndB G d (pc + len) r) : xSndB G d pc (i :: r) :=
  fun P Q hP l st h b hk => hi P Q _ hP (fun l st h b hk => hr P Q hP l st h b hk) l st h b hk
-- running, and its law
theorem xSeq_mono (P P' : xP) (Q Q' : xQ) (hP : ∀ y t l st h b (Q Q' : xQ), P y t l st h b Q → (∀ o h b, Q o h b → Q' o h b) → P' y t l st h b Q') (hQ : ∀ o h b, Q o h b → Q' o h b) :
    ∀ is : List xSem, (∀ i ∈ is, ∀ (P P' : xP) (Q Q' : xQ) (K K' : xK), (∀ y t l st h b (Q Q' : xQ), P y t l st h b Q → (∀ o h b, Q o h b → Q' o h b) → P' y t l st h b Q') → (∀ o h b, Q o h b → Q' o h b) → (∀ l st h b, K l st h b → K' l st h b) → ∀ l st h b, i P Q K l st h b → i P' Q' K' l st h b) →
    ∀ l st h b, xSeq P Q is l st h b → xSeq P' Q' is l st h b
  | [], _, _, _, _, _, h => h
  | i :: r, hm, l, st, h, b, hk => hm i List.mem_cons_self P P' Q Q' _ _ hP hQ (xSeq_mono P P' Q Q' hP hQ r (fun j hj => hm j (List.mem_cons_of_mem _ hj))) l st h b hk
def xMon (i : xSem) : Prop := ∀ (P P' : xP) (Q Q' : xQ) (K K' : xK), (∀ y t l st h b (Q Q' : xQ), P y t l st h b Q → (∀ o h b, Q o h b → Q' o h b) → P' y t l st h b Q') → (∀ o h b, Q o h b → Q' o h b) → (∀ l st h b, K l st h b → K' l st h b) → ∀ l st h b, i P Q K l st h b → i P' Q' K' l st h b
theorem xRun_conseq {T : Nat → Nat → List xSem} (hT : ∀ y t, ∀ i ∈ T y t, xMon i) {P : xP} (hP : xClosed T P) {y t l st h b} {Q Q' : xQ} (hr : xRun T y t l st h b Q) (hQ : ∀ o h b, Q o h b → Q' o h b) : P y t l st h b Q' := by
  have key := hr (fun y t l st h b Q => ∀ Q' : xQ, (∀ o h b, Q o h b → Q' o h b) → P y t l st h b Q') (fun y t l st h b Q hs Q' hQ => hP y t l st h b Q' (xSeq_mono _ _ _ _ (fun y t l st h b Q Q' h1 h2 => h1 Q' h2) hQ _ (hT y t) l st h b hs))
  exact key Q' hQ
theorem xRun_step {T : Nat → Nat → List xSem} (hT : ∀ y t, ∀ i ∈ T y t, xMon i) {y t l st h b} {Q : xQ} (hs : xSeq (xRun T) Q (T y t) l st h b) : xRun T y t l st h b Q :=
  fun P hP => hP y t l st h b Q (xSeq_mono (xRun T) P Q Q (fun y t l st h b Q Q' h1 h2 => xRun_conseq hT hP h1 h2) (fun _ _ _ h => h) _ (hT y t) l st h b hs)
theorem xRun_sound {T : Nat → Nat → List xSem} {G : xGt} (hS : ∀ y t, xSndB G (G.dat y) t (T y t)) {y t l st h b} {Q : xQ} (hr : xRun T y t l st h b Q) : xOKat G (G.dat y) t l st h b Q :=
  hr (fun y t l st h b Q => xOKat G (G.dat y) t l st h b Q) (fun y t l st h b Q hs => hS y t _ Q (fun _ _ _ _ _ _ _ h => h) l st h b hs)
/-! ===== each instruction: a step of the plain machine is one of the real one ===== -/
theorem xCv_cat (ad : Nat → Nat) (v : Value) : (xCv ad v).category = v.category := by cases v <;> rfl
theorem lk_at {ad : Nat → Nat} {ls : Array Slot} {nL : Nat} : ∀ {l : xL} {n : Nat} {v : Value}, lv_has ls nL (l.map (xCvL ad)) → lk l n = some v → ls[n]? = some (.val (xCv ad v))
  | [], n, v, _, h => by simp [lk] at h
  | q :: r, n, v, hl, h => by
    unfold lk at h
    split at h
    · rename_i hq
      cases h
      exact hl.2.2 (n, xCv ad q.2) (by rw [← hq]; exact List.mem_cons_self)
    · exact lk_at ⟨hl.1, hl.2.1, fun z hz => hl.2.2 z (List.mem_cons_of_mem _ hz)⟩ h
theorem lk_ok {h : xH} : ∀ {l : xL} {n : Nat} {v : Value}, (∀ q ∈ l, xOkV h q.2) → lk l n = some v → xOkV h v
  | [], n, v, _, h => by simp [lk] at h
  | q :: r, n, v, hl, h => by
    unfold lk at h
    split at h
    · cases h
      exact hl q List.mem_cons_self
    · exact lk_ok (fun z hz => hl z (List.mem_cons_of_mem _ hz)) h
theorem lkp_has {ad : Nat → Nat} {ls : Array Slot} {nL : Nat} {l : xL} (hl : lv_has ls nL (l.map (xCvL ad))) : ∀ ks : List Nat, lv_has ls nL ((lkp l ks).map (xCvL ad))
  | [] => ⟨hl.1, hl.2.1, fun q hq => by simp [lkp] at hq⟩
  | n :: r => by
    have ih := lkp_has hl r
    unfold lkp
    cases hv : lk l n with
    | none => exact ih
    | some v =>
      refine ⟨hl.1, hl.2.1, fun q hq => ?_⟩
      rcases List.mem_cons.mp hq with rfl | hq
      · exact lk_at hl hv
      · exact ih.2.2 q hq
theorem lkp_ok {h : xH} {l : xL} (hl : ∀ q ∈ l, xOkV h q.2) : ∀ ks : List Nat, ∀ q ∈ lkp l ks, xOkV h q.2
  | [], q, hq => by simp [lkp] at hq
  | n :: r, q, hq => by
    unfold lkp at hq
    cases hv : lk l n with
    | none => rw [hv] at hq; exact lkp_ok hl r q hq
    | some v =>
      rw [hv] at hq
      rcases List.mem_cons.mp hq with rfl | hq
      · exact lk_ok hl hv
      · exact lkp_ok hl r q hq
theorem stf1_sub {i : Nat} : ∀ {l : xL} {q : Nat × Value}, q ∈ stf1 i l → q ∈ l
  | [], q, h => h
  | z :: r, q, h => by
    unfold stf1 at h
    split at h
    · exact List.mem_cons_of_mem _ (stf1_sub h)
    · rcases List.mem_cons.mp h with rfl | h
      · exact List.mem_cons_self
      · exact List.mem_cons_of_mem _ (stf1_sub h)
theorem stf2_sub {i : Nat} : ∀ {l : xL} {q : Nat × Value}, q ∈ stf2 i l → q ∈ l
  | [], q, h => h
  | z :: r, q, h => by
    unfold stf2 at h
    split at h
    · exact List.mem_cons_of_mem _ (stf2_sub h)
    · rcases List.mem_cons.mp h with rfl | h
      · exact List.mem_cons_self
      · exact List.mem_cons_of_mem _ (stf2_sub h)
theorem stf1_map (ad : Nat → Nat) (i : Nat) : ∀ l : xL, (l.map (xCvL ad)).filter (fun q => !(q.1 == i) && !(q.1 + 1 == i && q.2.category == 2)) = (stf1 i l).map (xCvL ad)
  | [] => rfl
  | q :: r => by
    have ih := stf1_map ad i r
    simp only [List.map_cons, List.filter_cons, stf1]
    rw [ih]
    have hc : (xCvL ad q).2.category = q.2.category := xCv_cat ad q.2
    have h1 : (xCvL ad q).1 = q.1 := rfl
    rw [hc, h1]
    by_cases a : q.1 = i
    · simp [a]
    · by_cases b : q.1 + 1 = i ∧ q.2.category = 2
      · simp [b]
      · have : (!(q.1 == i) && !(q.1 + 1 == i && q.2.category == 2)) = true := by
          simp only [Bool.and_eq_true, Bool.not_eq_true', beq_eq_false_iff_ne, Bool.and_eq_false_iff]
          refine ⟨a, ?_⟩
          by_cases c : q.1 + 1 = i
          · exact Or.inr (fun z => b ⟨c, z⟩)
          · exact Or.inl c
        rw [if_pos this, if_neg (fun z => z.elim a b)]
        rfl
theorem stf2_map (ad : Nat → Nat) (i : Nat) : ∀ l : xL, (l.map (xCvL ad)).filter (fun q => !(q.1 == i) && (!(q.1 == i + 1) && !(q.1 + 1 == i && q.2.category == 2))) = (stf2 i l).map (xCvL ad)
  | [] => rfl
  | q :: r => by
    have ih := stf2_map ad i r
    simp only [List.map_cons, List.filter_cons, stf2]
    rw [ih]
    have hc : (xCvL ad q).2.category = q.2.category := xCv_cat ad q.2
    have h1 : (xCvL ad q).1 = q.1 := rfl
    rw [hc, h1]
    by_cases a : q.1 = i
    · simp [a]
    · by_cases a2 : q.1 = i + 1
      · simp [a2]
      · by_cases b : q.1 + 1 = i ∧ q.2.category = 2
        · simp [b]
        · have : (!(q.1 == i) && (!(q.1 == i + 1) && !(q.1 + 1 == i && q.2.category == 2))) = true := by
            simp only [Bool.and_eq_true, Bool.not_eq_true', beq_eq_false_iff_ne, Bool.and_eq_false_iff]
            refine ⟨a, a2, ?_⟩
            by_cases c : q.1 + 1 = i
            · exact Or.inr (fun z => b ⟨c, z⟩)
            · exact Or.inl c
          rw [if_pos this, if_neg (fun z => z.elim a (fun z => z.elim a2 b))]
          rfl
section XI
variable {G : xGt} {d : xDt} {pc : Nat}
/-- a step that leaves cells and locals, and draws nothing -/
theorem x_pure {pc' : Nat} {l : xL} {st st' : List Value} {h : xH} {b : Nat × Nat} {Q : xQ} (hv : (∀ v ∈ st, xOkV h v) → (∀ q ∈ l, xOkV h q.2) → ∀ v ∈ st', xOkV h v)
    (step : ∀ {p : Program} {e : Env} {R : Room} {s : State} {m : MethodId} {args : Array Value} {below : List Frame} {meth : Method} {c : Code} {H : Heap} {locs : List Loc} {cells slots : Nat} {QF : State → Prop} {ls : Array Slot} {ad : Nat → Nat},
      p.tables.exec = Jvm.exec → c.code = d.2.1 → lv_has ls d.2.2.1 (l.map (xCvL ad)) → xRel G ad h H → (∃ s0 d0, s = s0.setDrawn d0 ∧ xCx G d p R s0 m args meth c) → W p G.l e R s m args below meth c H locs cells slots QF (F0 m pc' ls (st'.map (xCv ad))) → W p G.l e R s m args below meth c H locs cells slots QF (F0 m pc ls (st.map (xCv ad))))
    (k : xOKat G d pc' l st' h b Q) : xOKat G d pc l st h b Q := by
  intro p e R s m args below meth c ad0 ok0 C ad H locs cells slots ls d0 hd0 hl hr hok hz hc hsl hst hlo
  exact step C.1 C.2.1 hl hr ⟨s, d0, rfl, C⟩ (k p e R s m args below meth c ad0 ok0 C ad H locs cells slots ls d0 hd0 hl hr hok hz hc hsl (hv hst hlo) hlo)
theorem ok_cons {h : xH} {v : Value} {st : List Value} (hv : xOkV h v) (hs : ∀ v ∈ st, xOkV h v) : ∀ w ∈ v :: st, xOkV h w := fun w hw => by
  rcases List.mem_cons.mp hw with rfl | hw
  · exact hv
  · exact hs w hw
theorem ok_tl {h : xH} {v : Value} {st : List Value} (hs : ∀ w ∈ v :: st, xOkV h w) : ∀ w ∈ st, xOkV h w := fun w hw => hs w (List.mem_cons_of_mem _ hw)
theorem ok_hd {h : xH} {v : Value} {st : List Value} (hs : ∀ w ∈ v :: st, xOkV h w) : xOkV h v := hs v List.mem_cons_self
/-- a store into a local -/
theorem x_store {pc' : Nat} {l l' : xL} {st st' : List Value} {h : xH} {b : Nat × Nat} {Q : xQ} (hv : (∀ v ∈ st, xOkV h v) → (∀ q ∈ l, xOkV h q.2) → (∀ v ∈ st', xOkV h v) ∧ ∀ q ∈ l', xOkV h q.2)
    (step : ∀ {p : Program} {e : Env} {R : Room} {s : State} {m : MethodId} {args : Array Value} {below : List Frame} {meth : Method} {c : Code} {H : Heap} {locs : List Loc} {cells slots : Nat} {QF : State → Prop} {ls : Array Slot} {ad : Nat → Nat},
      p.tables.exec = Jvm.exec → c.code = d.2.1 → lv_has ls d.2.2.1 (l.map (xCvL ad)) → (∀ ls', lv_has ls' d.2.2.1 (l'.map (xCvL ad)) → W p G.l e R s m args below meth c H locs cells slots QF (F0 m pc' ls' (st'.map (xCv ad)))) → W p G.l e R s m args below meth c H locs cells slots QF (F0 m pc ls (st.map (xCv ad))))
    (k : xOKat G d pc' l' st' h b Q) : xOKat G d pc l st h b Q := by
  intro p e R s m args below meth c ad0 ok0 C ad H locs cells slots ls d0 hd0 hl hr hok hz hc hsl hst hlo
  exact step C.1 C.2.1 hl (fun ls' hl' => k p e R s m args below meth c ad0 ok0 C ad H locs cells slots ls' d0 hd0 hl' hr hok hz hc hsl (hv hst hlo).1 (hv hst hlo).2)
theorem s_load {i len : Nat} {ins : Instr} (row : ∀ {p : Program} {e : Env} {R : Room} {s : State} {m : MethodId} {args : Array Value} {below : List Frame} {meth : Method} {c : Code} {H : Heap} {locs : List Loc} {cells slots : Nat} {QF : State → Prop} {ls : Array Slot} {rest : List Value} {x : Int32},
      p.tables.exec = Jvm.exec → c.code = d.2.1 → ls[i]? = some (.val (.int x)) → W p G.l e R s m args below meth c H locs cells slots QF (F0 m (pc + len) ls (.int x :: rest)) → W p G.l e R s m args below meth c H locs cells slots QF (F0 m pc ls rest)) : xSnd G d pc (i_iload i) len := by
  intro P Q K hP hK l st h b hs
  unfold i_iload at hs
  split at hs
  · rename_i x hx
    exact x_pure (fun h1 _ => ok_cons (v := Value.int x) trivial h1) (fun h1 h2 h3 _ _ k => row h1 h2 (lk_at h3 hx) k) (hK _ _ _ _ hs)
  · exact hs.elim
theorem s_iload {i : Nat} (hd : decode d.2.1 pc = .ok (.iload i, 2)) : xSnd G d pc (i_iload i) 2 := s_load (ins := .iload i) (fun h1 h2 h3 k => lv_iload h1 h2 hd h3 k)
theorem s_iload_n {i : Nat} {k : Fin 4} (hd : decode d.2.1 pc = .ok (.iload_n k, 1)) (hk : (k : Nat) = i) : xSnd G d pc (i_iload i) 1 := s_load (ins := .iload i) (fun h1 h2 h3 k => lv_iload_n h1 h2 hd hk h3 k)
theorem s_lloadG {i len : Nat} (row : ∀ {p : Program} {e : Env} {R : Room} {s : State} {m : MethodId} {args : Array Value} {below : List Frame} {meth : Method} {c : Code} {H : Heap} {locs : List Loc} {cells slots : Nat} {QF : State → Prop} {ls : Array Slot} {rest : List Value} {x : Int64},
      p.tables.exec = Jvm.exec → c.code = d.2.1 → ls[i]? = some (.val (.long x)) → W p G.l e R s m args below meth c H locs cells slots QF (F0 m (pc + len) ls (.long x :: rest)) → W p G.l e R s m args below meth c H locs cells slots QF (F0 m pc ls rest)) : xSnd G d pc (i_lload i) len := by
  intro P Q K hP hK l st h b hs
  unfold i_lload at hs
  split at hs
  · rename_i x hx
    exact x_pure (fun h1 _ => ok_cons (v := Value.long x) trivial h1) (fun h1 h2 h3 _ _ k => row h1 h2 (lk_at h3 hx) k) (hK _ _ _ _ hs)
  · exact hs.elim
theorem s_lload {i : Nat} (hd : decode d.2.1 pc = .ok (.lload i, 2)) : xSnd G d pc (i_lload i) 2 := s_lloadG (fun h1 h2 h3 k => lv_lload h1 h2 hd h3 k)
theorem s_lload_n {i : Nat} {k : Fin 4} (hd : decode d.2.1 pc = .ok (.lload_n k, 1)) (hk : (k : Nat) = i) : xSnd G d pc (i_lload i) 1 := s_lloadG (fun h1 h2 h3 k => lv_lload_n h1 h2 hd hk h3 k)
theorem s_dloadG {i len : Nat} (row : ∀ {p : Program} {e : Env} {R : Room} {s : State} {m : MethodId} {args : Array Value} {below : List Frame} {meth : Method} {c : Code} {H : Heap} {locs : List Loc} {cells slots : Nat} {QF : State → Prop} {ls : Array Slot} {rest : List Value} {x : UInt64},
      p.tables.exec = Jvm.exec → c.code = d.2.1 → ls[i]? = some (.val (.double x)) → W p G.l e R s m args below meth c H locs cells slots QF (F0 m (pc + len) ls (.double x :: rest)) → W p G.l e R s m args below meth c H locs cells slots QF (F0 m pc ls rest)) : xSnd G d pc (i_dload i) len := by
  intro P Q K hP hK l st h b hs
  unfold i_dload at hs
  split at hs
  · rename_i x hx
    exact x_pure (fun h1 _ => ok_cons (v := Value.double x) trivial h1) (fun h1 h2 h3 _ _ k => row h1 h2 (lk_at h3 hx) k) (hK _ _ _ _ hs)
  · exact hs.elim
theorem s_dload {i : Nat} (hd : decode d.2.1 pc = .ok (.dload i, 2)) : xSnd G d pc (i_dload i) 2 := s_dloadG (fun h1 h2 h3 k => lv_dload h1 h2 hd h3 k)
theorem s_dload_n {i : Nat} {k : Fin 4} (hd : decode d.2.1 pc = .ok (.dload_n k, 1)) (hk : (k : Nat) = i) : xSnd G d pc (i_dload i) 1 := s_dloadG (fun h1 h2 h3 k => lv_dload_n h1 h2 hd hk h3 k)
theorem s_aloadG {i len : Nat} (row : ∀ {p : Program} {e : Env} {R : Room} {s : State} {m : MethodId} {args : Array Value} {below : List Frame} {meth : Method} {c : Code} {H : Heap} {locs : List Loc} {cells slots : Nat} {QF : State → Prop} {ls : Array Slot} {rest : List Value} {x : Nat},
      p.tables.exec = Jvm.exec → c.code = d.2.1 → ls[i]? = some (.val (.ref x)) → W p G.l e R s m args below meth c H locs cells slots QF (F0 m (pc + len) ls (.ref x :: rest)) → W p G.l e R s m args below meth c H locs cells slots QF (F0 m pc ls rest)) : xSnd G d pc (i_aload i) len := by
  intro P Q K hP hK l st h b hs
  unfold i_aload at hs
  split at hs
  · rename_i x hx
    exact x_pure (fun h1 h2 => ok_cons (lk_ok h2 hx) h1) (fun h1 h2 h3 _ _ k => row h1 h2 (lk_at h3 hx) k) (hK _ _ _ _ hs)
  · exact hs.elim
theorem s_aload {i : Nat} (hd : decode d.2.1 pc = .ok (.aload i, 2)) : xSnd G d pc (i_aload i) 2 := s_aloadG (fun h1 h2 h3 k => lv_aload h1 h2 hd h3 k)
theorem s_aload_n {i : Nat} {k : Fin 4} (hd : decode d.2.1 pc = .ok (.aload_n k, 1)) (hk : (k : Nat) = i) : xSnd G d pc (i_aload i) 1 := s_aloadG (fun h1 h2 h3 k => lv_aload_n h1 h2 hd hk h3 k)
theorem st_ok {h : xH} {l : xL} {i : Nat} {v : Value} (hv : xOkV h v) (hl : ∀ q ∈ l, xOkV h q.2) : ∀ q ∈ (i, v) :: stf1 i l, xOkV h q.2 := fun q hq => by
  rcases List.mem_cons.mp hq with rfl | hq
  · exact hv
  · exact hl q (stf1_sub hq)
theorem st_ok2 {h : xH} {l : xL} {i : Nat} {v : Value} (hv : xOkV h v) (hl : ∀ q ∈ l, xOkV h q.2) : ∀ q ∈ (i, v) :: stf2 i l, xOkV h q.2 := fun q hq => by
  rcases List.mem_cons.mp hq with rfl | hq
  · exact hv
  · exact hl q (stf2_sub hq)
theorem s_istore {i : Nat} (hd : decode d.2.1 pc = .ok (.istore i, 2)) (hi : i < d.2.2.1) : xSnd G d pc (i_istore i) 2 := by
  intro P Q K hP hK l st h b hs
  unfold i_istore at hs
  split at hs
  · refine x_store (fun h1 h2 => ⟨ok_tl h1, st_ok (ok_hd h1) h2⟩) (fun {_ _ _ _ _ _ _ _ _ _ _ _ _ _ _ ad} h1 h2 h3 k => ?_) (hK _ _ _ _ hs)
    exact lv_istore h1 h2 hd h3 hi rfl (fun ls' hl' => k ls' (by rw [stf1_map] at hl'; exact hl'))
  · exact hs.elim
theorem s_istore_n {i : Nat} {k : Fin 4} (hd : decode d.2.1 pc = .ok (.istore_n k, 1)) (hk : (k : Nat) = i) (hi : i < d.2.2.1) : xSnd G d pc (i_istore i) 1 := by
  intro P Q K hP hK l st h b hs
  unfold i_istore at hs
  split at hs
  · refine x_store (fun h1 h2 => ⟨ok_tl h1, st_ok (ok_hd h1) h2⟩) (fun {_ _ _ _ _ _ _ _ _ _ _ _ _ _ _ ad} h1 h2 h3 k => ?_) (hK _ _ _ _ hs)
    exact lv_istore_n h1 h2 hd hk h3 hi rfl (fun ls' hl' => k ls' (by rw [stf1_map] at hl'; exact hl'))
  · exact hs.elim
theorem s_astore {i : Nat} (hd : decode d.2.1 pc = .ok (.astore i, 2)) (hi : i < d.2.2.1) : xSnd G d pc (i_astore i) 2 := by
  intro P Q K hP hK l st h b hs
  unfold i_astore at hs
  split at hs
  · refine x_store (fun h1 h2 => ⟨ok_tl h1, st_ok (ok_hd h1) h2⟩) (fun {_ _ _ _ _ _ _ _ _ _ _ _ _ _ _ ad} h1 h2 h3 k => ?_) (hK _ _ _ _ hs)
    exact lv_astore h1 h2 hd h3 hi rfl (fun ls' hl' => k ls' (by rw [stf1_map] at hl'; exact hl'))
  · exact hs.elim
theorem s_astore_n {i : Nat} {k : Fin 4} (hd : decode d.2.1 pc = .ok (.astore_n k, 1)) (hk : (k : Nat) = i) (hi : i < d.2.2.1) : xSnd G d pc (i_astore i) 1 := by
  intro P Q K hP hK l st h b hs
  unfold i_astore at hs
  split at hs
  · refine x_store (fun h1 h2 => ⟨ok_tl h1, st_ok (ok_hd h1) h2⟩) (fun {_ _ _ _ _ _ _ _ _ _ _ _ _ _ _ ad} h1 h2 h3 k => ?_) (hK _ _ _ _ hs)
    exact lv_astore_n h1 h2 hd hk h3 hi rfl (fun ls' hl' => k ls' (by rw [stf1_map] at hl'; exact hl'))
  · exact hs.elim
theorem s_lstore {i : Nat} (hd : decode d.2.1 pc = .ok (.lstore i, 2)) (hi : i + 1 < d.2.2.1) : xSnd G d pc (i_lstore i) 2 := by
  intro P Q K hP hK l st h b hs
  unfold i_lstore at hs
  split at hs
  · refine x_store (fun h1 h2 => ⟨ok_tl h1, st_ok2 (ok_hd h1) h2⟩) (fun {_ _ _ _ _ _ _ _ _ _ _ _ _ _ _ ad} h1 h2 h3 k => ?_) (hK _ _ _ _ hs)
    exact lv_lstore h1 h2 hd h3 hi rfl (fun ls' hl' => k ls' (by rw [stf2_map] at hl'; exact hl'))
  · exact hs.elim
theorem s_lstore_n {i : Nat} {k : Fin 4} (hd : decode d.2.1 pc = .ok (.lstore_n k, 1)) (hk : (k : Nat) = i) (hi : i + 1 < d.2.2.1) : xSnd G d pc (i_lstore i) 1 := by
  intro P Q K hP hK l st h b hs
  unfold i_lstore at hs
  split at hs
  · refine x_store (fun h1 h2 => ⟨ok_tl h1, st_ok2 (ok_hd h1) h2⟩) (fun {_ _ _ _ _ _ _ _ _ _ _ _ _ _ _ ad} h1 h2 h3 k => ?_) (hK _ _ _ _ hs)
    exact lv_lstore_n h1 h2 hd hk h3 hi rfl (fun ls' hl' => k ls' (by rw [stf2_map] at hl'; exact hl'))
  · exact hs.elim
theorem s_dstore {i : Nat} (hd : decode d.2.1 pc = .ok (.dstore i, 2)) (hi : i + 1 < d.2.2.1) : xSnd G d pc (i_dstore i) 2 := by
  intro P Q K hP hK l st h b hs
  unfold i_dstore at hs
  split at hs
  · refine x_store (fun h1 h2 => ⟨ok_tl h1, st_ok2 (ok_hd h1) h2⟩) (fun {_ _ _ _ _ _ _ _ _ _ _ _ _ _ _ ad} h1 h2 h3 k => ?_) (hK _ _ _ _ hs)
    exact lv_dstore h1 h2 hd h3 hi rfl (fun ls' hl' => k ls' (by rw [stf2_map] at hl'; exact hl'))
  · exact hs.elim
theorem s_dstore_n {i : Nat} {k : Fin 4} (hd : decode d.2.1 pc = .ok (.dstore_n k, 1)) (hk : (k : Nat) = i) (hi : i + 1 < d.2.2.1) : xSnd G d pc (i_dstore i) 1 := by
  intro P Q K hP hK l st h b hs
  unfold i_dstore at hs
  split at hs
  · refine x_store (fun h1 h2 => ⟨ok_tl h1, st_ok2 (ok_hd h1) h2⟩) (fun {_ _ _ _ _ _ _ _ _ _ _ _ _ _ _ ad} h1 h2 h3 k => ?_) (hK _ _ _ _ hs)
    exact lv_dstore_n h1 h2 hd hk h3 hi rfl (fun ls' hl' => k ls' (by rw [stf2_map] at hl'; exact hl'))
  · exact hs.elim
end XI
/-! ===== numbers, branches, constants, draws ===== -/
def jRem (x y : Int32) : Int32 := x - x / y * y
def jShl (x y : Int32) : Int32 := x <<< (y &&& 31)
def jShr (x y : Int32) : Int32 := x >>> (y &&& 31)
def jUshr (x y : Int32) : Int32 := (x.toUInt32 >>> (y.toUInt32 &&& Int32.toUInt32 31)).toInt32
def jLrem (x y : Int64) : Int64 := x - x / y * y
def jLshl (x : Int64) (y : Int32) : Int64 := x <<< (y.toInt64 &&& 63)
def jLshr (x : Int64) (y : Int32) : Int64 := x >>> (y.toInt64 &&& 63)
def jLushr (x : Int64) (y : Int32) : Int64 := (x.toUInt64 >>> (y.toInt64.toUInt64 &&& Int64.toUInt64 63)).toInt64
def jI2b (x : Int32) : Int32 := x.toInt8.toInt32
def jI2s (x : Int32) : Int32 := x.toInt16.toInt32
def i_ddi (f : UInt64 → UInt64 → Int32) : xSem := fun _ _ K l st h b => match st with
  | .double y :: .double x :: r => K l (.int (f x y) :: r) h b
  | _ => False
def i_i2d : xSem := fun _ _ K l st h b => match st with
  | .int x :: r => K l (.double (FP.i2d x) :: r) h b
  | _ => False
def i_i2f : xSem := fun _ _ K l st h b => match st with
  | .int x :: r => K l (.float (FP.i2f x) :: r) h b
  | _ => False
def i_l2d : xSem := fun _ _ K l st h b => match st with
  | .long x :: r => K l (.double (FP.l2d x) :: r) h b
  | _ => False
def i_d2i : xSem := fun _ _ K l st h b => match st with
  | .double x :: r => K l (.int (FP.d2i x) :: r) h b
  | _ => False
def i_f2d : xSem := fun _ _ K l st h b => match st with
  | .float x :: r => ∀ v : UInt64, alike64 v (FP.f2d x) = true → K l (.double v :: r) h b
  | _ => False
/-- the pairs (key, place) in their order, else d -/
def xSw (F : Nat → Prop) (x : Int32) : List (Int32 × Nat) → Nat → Prop
  | [], d => F d
  | q :: r, d => (x = q.1 → F q.2) ∧ (¬ x = q.1 → xSw F x r d)
def i_sw (ps : List (Int32 × Nat)) (y t : Nat) (ks : List Nat) : xSem := fun P Q _ l st h b => match st with
  | .int x :: r => xSw (fun z => P y z (lkp l ks) r h b Q) x ps t
  | _ => False
section XJ
variable {G : xGt} {d : xDt} {pc : Nat}

theorem s_iadd (hd : decode d.2.1 pc = .ok (.iadd, 1)) : xSnd G d pc (i_ii (fun x y => x + y)) 1 := by
  intro P Q K hP hK l st h b hs
  unfold i_ii at hs
  split at hs
  · skip
    exact x_pure (fun h1 _ => ok_cons (v := Value.int _) trivial (ok_tl (ok_tl h1))) (fun h1 h2 h3 _ _ k => lv_iadd h1 h2 hd k) (hK _ _ _ _ hs)
  · exact hs.elim

theorem s_isub (hd : decode d.2.1 pc = .ok (.isub, 1)) : xSnd G d pc (i_ii (fun x y => x - y)) 1 := by
  intro P Q K hP hK l st h b hs
  unfold i_ii at hs
  split at hs
  · skip
    exact x_pure (fun h1 _ => ok_cons (v := Value.int _) trivial (ok_tl (ok_tl h1))) (fun h1 h2 h3 _ _ k => lv_isub h1 h2 hd k) (hK _ _ _ _ hs)
  · exact hs.elim

theorem s_imul (hd : decode d.2.1 pc = .ok (.imul, 1)) : xSnd G d pc (i_ii (fun x y => x * y)) 1 := by
  intro P Q K hP hK l st h b hs
  unfold i_ii at hs
  split at hs
  · skip
    exact x_pure (fun h1 _ => ok_cons (v := Value.int _) trivial (ok_tl (ok_tl h1))) (fun h1 h2 h3 _ _ k => lv_imul h1 h2 hd k) (hK _ _ _ _ hs)
  · exact hs.elim

theorem s_iand (hd : decode d.2.1 pc = .ok (.iand, 1)) : xSnd G d pc (i_ii (fun x y => x &&& y)) 1 := by
  intro P Q K hP hK l st h b hs
  unfold i_ii at hs
  split at hs
  · skip
    exact x_pure (fun h1 _ => ok_cons (v := Value.int _) trivial (ok_tl (ok_tl h1))) (fun h1 h2 h3 _ _ k => lv_iand h1 h2 hd k) (hK _ _ _ _ hs)
  · exact hs.elim

theorem s_ior (hd : decode d.2.1 pc = .ok (.ior, 1)) : xSnd G d pc (i_ii (fun x y => x ||| y)) 1 := by
  intro P Q K hP hK l st h b hs
  unfold i_ii at hs
  split at hs
  · skip
    exact x_pure (fun h1 _ => ok_cons (v := Value.int _) trivial (ok_tl (ok_tl h1))) (fun h1 h2 h3 _ _ k => lv_ior h1 h2 hd k) (hK _ _ _ _ hs)
  · exact hs.elim

theorem s_ixor (hd : decode d.2.1 pc = .ok (.ixor, 1)) : xSnd G d pc (i_ii (fun x y => x ^^^ y)) 1 := by
  intro P Q K hP hK l st h b hs
  unfold i_ii at hs
  split at hs
  · skip
    exact x_pure (fun h1 _ => ok_cons (v := Value.int _) trivial (ok_tl (ok_tl h1))) (fun h1 h2 h3 _ _ k => lv_ixor h1 h2 hd k) (hK _ _ _ _ hs)
  · exact hs.elim

theorem s_ishl (hd : decode d.2.1 pc = .ok (.ishl, 1)) : xSnd G d pc (i_ii jShl) 1 := by
  intro P Q K hP hK l st h b hs
  unfold i_ii at hs
  split at hs
  · skip
    exact x_pure (fun h1 _ => ok_cons (v := Value.int _) trivial (ok_tl (ok_tl h1))) (fun h1 h2 h3 _ _ k => lv_ishl h1 h2 hd k) (hK _ _ _ _ hs)
  · exact hs.elim

theorem s_ishr (hd : decode d.2.1 pc = .ok (.ishr, 1)) : xSnd G d pc (i_ii jShr) 1 := by
  intro P Q K hP hK l st h b hs
  unfold i_ii at hs
  split at hs
  · skip
    exact x_pure (fun h1 _ => ok_cons (v := Value.int _) trivial (ok_tl (ok_tl h1))) (fun h1 h2 h3 _ _ k => lv_ishr h1 h2 hd k) (hK _ _ _ _ hs)
  · exact hs.elim

theorem s_iushr (hd : decode d.2.1 pc = .ok (.iushr, 1)) : xSnd G d pc (i_ii jUshr) 1 := by
  intro P Q K hP hK l st h b hs
  unfold i_ii at hs
  split at hs
  · skip
    exact x_pure (fun h1 _ => ok_cons (v := Value.int _) trivial (ok_tl (ok_tl h1))) (fun h1 h2 h3 _ _ k => lv_iushr h1 h2 hd rfl k) (hK _ _ _ _ hs)
  · exact hs.elim

theorem s_idiv (hd : decode d.2.1 pc = .ok (.idiv, 1)) : xSnd G d pc (i_iiz (fun x y => x / y)) 1 := by
  intro P Q K hP hK l st h b hs
  unfold i_iiz at hs
  split at hs
  · obtain ⟨hne, hs⟩ := hs
    exact x_pure (fun h1 _ => ok_cons (v := Value.int _) trivial (ok_tl (ok_tl h1))) (fun h1 h2 h3 _ _ k => lv_idiv h1 h2 hd hne k) (hK _ _ _ _ hs)
  · exact hs.elim

theorem s_irem (hd : decode d.2.1 pc = .ok (.irem, 1)) : xSnd G d pc (i_iiz jRem) 1 := by
  intro P Q K hP hK l st h b hs
  unfold i_iiz at hs
  split at hs
  · obtain ⟨hne, hs⟩ := hs
    exact x_pure (fun h1 _ => ok_cons (v := Value.int _) trivial (ok_tl (ok_tl h1))) (fun h1 h2 h3 _ _ k => lv_irem h1 h2 hd hne k) (hK _ _ _ _ hs)
  · exact hs.elim

theorem s_ladd (hd : decode d.2.1 pc = .ok (.ladd, 1)) : xSnd G d pc (i_ll (fun x y => x + y)) 1 := by
  intro P Q K hP hK l st h b hs
  unfold i_ll at hs
  split at hs
  · skip
    exact x_pure (fun h1 _ => ok_cons (v := Value.long _) trivial (ok_tl (ok_tl h1))) (fun h1 h2 h3 _ _ k => lv_ladd h1 h2 hd k) (hK _ _ _ _ hs)
  · exact hs.elim

theorem s_lsub (hd : decode d.2.1 pc = .ok (.lsub, 1)) : xSnd G d pc (i_ll (fun x y => x - y)) 1 := by
  intro P Q K hP hK l st h b hs
  unfold i_ll at hs
  split at hs
  · skip
    exact x_pure (fun h1 _ => ok_cons (v := Value.long _) trivial (ok_tl (ok_tl h1))) (fun h1 h2 h3 _ _ k => lv_lsub h1 h2 hd k) (hK _ _ _ _ hs)
  · exact hs.elim

theorem s_lmul (hd : decode d.2.1 pc = .ok (.lmul, 1)) : xSnd G d pc (i_ll (fun x y => x * y)) 1 := by
  intro P Q K hP hK l st h b hs
  unfold i_ll at hs
  split at hs
  · skip
    exact x_pure (fun h1 _ => ok_cons (v := Value.long _) trivial (ok_tl (ok_tl h1))) (fun h1 h2 h3 _ _ k => lv_lmul h1 h2 hd k) (hK _ _ _ _ hs)
  · exact hs.elim

theorem s_land (hd : decode d.2.1 pc = .ok (.land, 1)) : xSnd G d pc (i_ll (fun x y => x &&& y)) 1 := by
  intro P Q K hP hK l st h b hs
  unfold i_ll at hs
  split at hs
  · skip
    exact x_pure (fun h1 _ => ok_cons (v := Value.long _) trivial (ok_tl (ok_tl h1))) (fun h1 h2 h3 _ _ k => lv_land h1 h2 hd k) (hK _ _ _ _ hs)
  · exact hs.elim

theorem s_lor (hd : decode d.2.1 pc = .ok (.lor, 1)) : xSnd G d pc (i_ll (fun x y => x ||| y)) 1 := by
  intro P Q K hP hK l st h b hs
  unfold i_ll at hs
  split at hs
  · skip
    exact x_pure (fun h1 _ => ok_cons (v := Value.long _) trivial (ok_tl (ok_tl h1))) (fun h1 h2 h3 _ _ k => lv_lor h1 h2 hd k) (hK _ _ _ _ hs)
  · exact hs.elim

theorem s_lxor (hd : decode d.2.1 pc = .ok (.lxor, 1)) : xSnd G d pc (i_ll (fun x y => x ^^^ y)) 1 := by
  intro P Q K hP hK l st h b hs
  unfold i_ll at hs
  split at hs
  · skip
    exact x_pure (fun h1 _ => ok_cons (v := Value.long _) trivial (ok_tl (ok_tl h1))) (fun h1 h2 h3 _ _ k => lv_lxor h1 h2 hd k) (hK _ _ _ _ hs)
  · exact hs.elim

theorem s_ldiv (hd : decode d.2.1 pc = .ok (.ldiv, 1)) : xSnd G d pc (i_llz (fun x y => x / y)) 1 := by
  intro P Q K hP hK l st h b hs
  unfold i_llz at hs
  split at hs
  · obtain ⟨hne, hs⟩ := hs
    exact x_pure (fun h1 _ => ok_cons (v := Value.long _) trivial (ok_tl (ok_tl h1))) (fun h1 h2 h3 _ _ k => lv_ldiv h1 h2 hd hne k) (hK _ _ _ _ hs)
  · exact hs.elim

theorem s_lrem (hd : decode d.2.1 pc = .ok (.lrem, 1)) : xSnd G d pc (i_llz jLrem) 1 := by
  intro P Q K hP hK l st h b hs
  unfold i_llz at hs
  split at hs
  · obtain ⟨hne, hs⟩ := hs
    exact x_pure (fun h1 _ => ok_cons (v := Value.long _) trivial (ok_tl (ok_tl h1))) (fun h1 h2 h3 _ _ k => lv_lrem h1 h2 hd hne k) (hK _ _ _ _ hs)
  · exact hs.elim

theorem s_lcmp (hd : decode d.2.1 pc = .ok (.lcmp, 1)) : xSnd G d pc (i_lli lg_cmp) 1 := by
  intro P Q K hP hK l st h b hs
  unfold i_lli at hs
  split at hs
  · skip
    exact x_pure (fun h1 _ => ok_cons (v := Value.int _) trivial (ok_tl (ok_tl h1))) (fun h1 h2 h3 _ _ k => W.lcmp h1 h2 hd k) (hK _ _ _ _ hs)
  · exact hs.elim

theorem s_lshl (hd : decode d.2.1 pc = .ok (.lshl, 1)) : xSnd G d pc (i_li jLshl) 1 := by
  intro P Q K hP hK l st h b hs
  unfold i_li at hs
  split at hs
  · skip
    exact x_pure (fun h1 _ => ok_cons (v := Value.long _) trivial (ok_tl (ok_tl h1))) (fun h1 h2 h3 _ _ k => lv_lshl h1 h2 hd rfl k) (hK _ _ _ _ hs)
  · exact hs.elim

theorem s_lshr (hd : decode d.2.1 pc = .ok (.lshr, 1)) : xSnd G d pc (i_li jLshr) 1 := by
  intro P Q K hP hK l st h b hs
  unfold i_li at hs
  split at hs
  · skip
    exact x_pure (fun h1 _ => ok_cons (v := Value.long _) trivial (ok_tl (ok_tl h1))) (fun h1 h2 h3 _ _ k => lv_lshr h1 h2 hd rfl k) (hK _ _ _ _ hs)
  · exact hs.elim

theorem s_lushr (hd : decode d.2.1 pc = .ok (.lushr, 1)) : xSnd G d pc (i_li jLushr) 1 := by
  intro P Q K hP hK l st h b hs
  unfold i_li at hs
  split at hs
  · skip
    exact x_pure (fun h1 _ => ok_cons (v := Value.long _) trivial (ok_tl (ok_tl h1))) (fun h1 h2 h3 _ _ k => lv_lushr h1 h2 hd rfl k) (hK _ _ _ _ hs)
  · exact hs.elim

theorem s_ineg (hd : decode d.2.1 pc = .ok (.ineg, 1)) : xSnd G d pc (i_i (fun x => -x)) 1 := by
  intro P Q K hP hK l st h b hs
  unfold i_i at hs
  split at hs
  · skip
    exact x_pure (fun h1 _ => ok_cons (v := Value.int _) trivial (ok_tl h1)) (fun h1 h2 h3 _ _ k => lv_ineg h1 h2 hd k) (hK _ _ _ _ hs)
  · exact hs.elim

theorem s_i2b (hd : decode d.2.1 pc = .ok (.i2b, 1)) : xSnd G d pc (i_i jI2b) 1 := by
  intro P Q K hP hK l st h b hs
  unfold i_i at hs
  split at hs
  · skip
    exact x_pure (fun h1 _ => ok_cons (v := Value.int _) trivial (ok_tl h1)) (fun h1 h2 h3 _ _ k => lv_i2b h1 h2 hd rfl k) (hK _ _ _ _ hs)
  · exact hs.elim

theorem s_i2s (hd : decode d.2.1 pc = .ok (.i2s, 1)) : xSnd G d pc (i_i jI2s) 1 := by
  intro P Q K hP hK l st h b hs
  unfold i_i at hs
  split at hs
  · skip
    exact x_pure (fun h1 _ => ok_cons (v := Value.int _) trivial (ok_tl h1)) (fun h1 h2 h3 _ _ k => lv_i2s h1 h2 hd rfl k) (hK _ _ _ _ hs)
  · exact hs.elim

theorem s_i2l (hd : decode d.2.1 pc = .ok (.i2l, 1)) : xSnd G d pc (i_i2l) 1 := by
  intro P Q K hP hK l st h b hs
  unfold i_i2l at hs
  split at hs
  · skip
    exact x_pure (fun h1 _ => ok_cons (v := Value.long _) trivial (ok_tl h1)) (fun h1 h2 h3 _ _ k => lv_i2l h1 h2 hd rfl k) (hK _ _ _ _ hs)
  · exact hs.elim

theorem s_l2i (hd : decode d.2.1 pc = .ok (.l2i, 1)) : xSnd G d pc (i_l2i) 1 := by
  intro P Q K hP hK l st h b hs
  unfold i_l2i at hs
  split at hs
  · skip
    exact x_pure (fun h1 _ => ok_cons (v := Value.int _) trivial (ok_tl h1)) (fun h1 h2 h3 _ _ k => lv_l2i h1 h2 hd rfl k) (hK _ _ _ _ hs)
  · exact hs.elim

theorem s_i2d (hd : decode d.2.1 pc = .ok (.i2d, 1)) : xSnd G d pc (i_i2d) 1 := by
  intro P Q K hP hK l st h b hs
  unfold i_i2d at hs
  split at hs
  · skip
    exact x_pure (fun h1 _ => ok_cons (v := Value.double _) trivial (ok_tl h1)) (fun h1 h2 h3 _ _ k => lv_i2d h1 h2 hd k) (hK _ _ _ _ hs)
  · exact hs.elim

theorem s_i2f (hd : decode d.2.1 pc = .ok (.i2f, 1)) : xSnd G d pc (i_i2f) 1 := by
  intro P Q K hP hK l st h b hs
  unfold i_i2f at hs
  split at hs
  · skip
    exact x_pure (fun h1 _ => ok_cons (v := Value.float _) trivial (ok_tl h1)) (fun h1 h2 h3 _ _ k => lv_i2f h1 h2 hd k) (hK _ _ _ _ hs)
  · exact hs.elim

theorem s_l2d (hd : decode d.2.1 pc = .ok (.l2d, 1)) : xSnd G d pc (i_l2d) 1 := by
  intro P Q K hP hK l st h b hs
  unfold i_l2d at hs
  split at hs
  · skip
    exact x_pure (fun h1 _ => ok_cons (v := Value.double _) trivial (ok_tl h1)) (fun h1 h2 h3 _ _ k => lv_l2d h1 h2 hd k) (hK _ _ _ _ hs)
  · exact hs.elim

theorem s_d2i (hd : decode d.2.1 pc = .ok (.d2i, 1)) : xSnd G d pc (i_d2i) 1 := by
  intro P Q K hP hK l st h b hs
  unfold i_d2i at hs
  split at hs
  · skip
    exact x_pure (fun h1 _ => ok_cons (v := Value.int _) trivial (ok_tl h1)) (fun h1 h2 h3 _ _ k => lv_d2i h1 h2 hd k) (hK _ _ _ _ hs)
  · exact hs.elim

theorem s_dcmp {op : CmpOp} (hd : decode d.2.1 pc = .ok (.dcmp op, 1)) : xSnd G d pc (i_ddi (fun x y => Op.cmpValue (FP.dcmp x y) op)) 1 := by
  intro P Q K hP hK l st h b hs
  unfold i_ddi at hs
  split at hs
  · skip
    exact x_pure (fun h1 _ => ok_cons (v := Value.int _) trivial (ok_tl (ok_tl h1))) (fun h1 h2 h3 _ _ k => lv_dcmp h1 h2 hd k) (hK _ _ _ _ hs)
  · exact hs.elim

theorem s_dup (hd : decode d.2.1 pc = .ok (.dup, 1)) : xSnd G d pc (i_dup) 1 := by
  intro P Q K hP hK l st h b hs
  unfold i_dup at hs
  split at hs
  · obtain ⟨hne, hs⟩ := hs
    exact x_pure (fun h1 _ => ok_cons (ok_hd h1) h1) (fun h1 h2 h3 _ _ k => lv_dup h1 h2 hd (by rw [xCv_cat]; exact hne) k) (hK _ _ _ _ hs)
  · exact hs.elim

theorem s_dup2w (hd : decode d.2.1 pc = .ok (.dup2, 1)) : xSnd G d pc (i_dup2w) 1 := by
  intro P Q K hP hK l st h b hs
  unfold i_dup2w at hs
  split at hs
  · obtain ⟨hne, hs⟩ := hs
    exact x_pure (fun h1 _ => ok_cons (ok_hd h1) h1) (fun h1 h2 h3 _ _ k => lv_dup2_2 h1 h2 hd (by rw [xCv_cat]; exact hne) k) (hK _ _ _ _ hs)
  · exact hs.elim

theorem s_pop (hd : decode d.2.1 pc = .ok (.pop, 1)) : xSnd G d pc (i_pop) 1 := by
  intro P Q K hP hK l st h b hs
  unfold i_pop at hs
  split at hs
  · obtain ⟨hne, hs⟩ := hs
    exact x_pure (fun h1 _ => ok_tl h1) (fun h1 h2 h3 _ _ k => lv_pop h1 h2 hd (by rw [xCv_cat]; exact hne) k) (hK _ _ _ _ hs)
  · exact hs.elim

theorem s_pop2 (hd : decode d.2.1 pc = .ok (.pop2, 1)) : xSnd G d pc (i_pop2) 1 := by
  intro P Q K hP hK l st h b hs
  unfold i_pop2 at hs
  split at hs
  · obtain ⟨hne, hs⟩ := hs
    exact x_pure (fun h1 _ => ok_tl h1) (fun h1 h2 h3 _ _ k => lv_pop2_2 h1 h2 hd (by rw [xCv_cat]; exact hne) k) (hK _ _ _ _ hs)
  · exact hs.elim

theorem s_dup2 (hd : decode d.2.1 pc = .ok (.dup2, 1)) : xSnd G d pc i_dup2 1 := by
  intro P Q K hP hK l st h b hs
  unfold i_dup2 at hs
  split at hs
  · obtain ⟨hne, hne2, hs⟩ := hs
    exact x_pure (fun h1 _ => ok_cons (ok_hd h1) (ok_cons (ok_hd (ok_tl h1)) h1)) (fun h1 h2 h3 _ _ k => lv_dup2_11 h1 h2 hd (by rw [xCv_cat]; exact hne) (by rw [xCv_cat]; exact hne2) k) (hK _ _ _ _ hs)
  · exact hs.elim
theorem s_pushG {v : Value} {len : Nat} (hv : ∀ ad, xCv ad v = v) (hk : ∀ h, xOkV h v) (row : ∀ {p : Program} {e : Env} {R : Room} {s : State} {m : MethodId} {args : Array Value} {below : List Frame} {meth : Method} {c : Code} {H : Heap} {locs : List Loc} {cells slots : Nat} {QF : State → Prop} {ls : Array Slot} {rest : List Value},
      p.tables.exec = Jvm.exec → c.code = d.2.1 → (∃ s0 d0, s = s0.setDrawn d0 ∧ xCx G d p R s0 m args meth c) → W p G.l e R s m args below meth c H locs cells slots QF (F0 m (pc + len) ls (v :: rest)) → W p G.l e R s m args below meth c H locs cells slots QF (F0 m pc ls rest)) : xSnd G d pc (i_push v) len := by
  intro P Q K hP hK l st h b hs
  refine x_pure (fun h1 _ => ok_cons (hk h) h1) (fun {_ _ _ _ _ _ _ _ _ _ _ _ _ _ _ ad} h1 h2 h3 _ h5 k => row h1 h2 h5 ?_) (hK _ _ _ _ hs)
  have k' := k
  rw [List.map_cons, hv ad] at k'
  exact k'
theorem s_iconst {n : Int} {v : Int32} (hd : decode d.2.1 pc = .ok (.iconst n, 1)) (hv : Int32.ofInt n = v) : xSnd G d pc (i_push (.int v)) 1 := s_pushG (fun _ => rfl) (fun _ => trivial) (fun h1 h2 _ k => lv_iconst h1 h2 hd hv k)
theorem s_bipush {n : Int} {v : Int32} (hd : decode d.2.1 pc = .ok (.bipush n, 2)) (hv : (Int8.ofInt n).toInt32 = v) : xSnd G d pc (i_push (.int v)) 2 := s_pushG (fun _ => rfl) (fun _ => trivial) (fun h1 h2 _ k => lv_bipush h1 h2 hd hv k)
theorem s_sipush {n : Int} {v : Int32} (hd : decode d.2.1 pc = .ok (.sipush n, 3)) (hv : (Int16.ofInt n).toInt32 = v) : xSnd G d pc (i_push (.int v)) 3 := s_pushG (fun _ => rfl) (fun _ => trivial) (fun h1 h2 _ k => lv_sipush h1 h2 hd hv k)
theorem s_lconst {n : Fin 2} {v : Int64} (hd : decode d.2.1 pc = .ok (.lconst n, 1)) (hv : Int64.ofNat (n : Nat) = v) : xSnd G d pc (i_push (.long v)) 1 := s_pushG (fun _ => rfl) (fun _ => trivial) (fun h1 h2 _ k => lv_lconst h1 h2 hd hv k)
theorem s_dconst0 (hd : decode d.2.1 pc = .ok (.dconst 0, 1)) : xSnd G d pc (i_push (.double FP.dconst0)) 1 := s_pushG (fun _ => rfl) (fun _ => trivial) (fun h1 h2 _ k => lv_dconst0 h1 h2 hd k)
theorem s_dconst1 (hd : decode d.2.1 pc = .ok (.dconst 1, 1)) : xSnd G d pc (i_push (.double FP.dconst1)) 1 := s_pushG (fun _ => rfl) (fun _ => trivial) (fun h1 h2 _ k => lv_dconst1 h1 h2 hd k)
theorem s_fconst0 (hd : decode d.2.1 pc = .ok (.fconst 0, 1)) : xSnd G d pc (i_push (.float FP.fconst0)) 1 := s_pushG (fun _ => rfl) (fun _ => trivial) (fun h1 h2 _ k => lv_fconst0 h1 h2 hd k)
/-- a word of the tables, here -/
theorem x_word {p : Program} {R : Room} {s : State} {m : MethodId} {args : Array Value} {meth : Method} {c : Code} (h : ∃ s0 d0, s = s0.setDrawn d0 ∧ xCx G d p R s0 m args meth c) {w : Cond} (hw : w ∈ G.tb) : w.before args s = true := by
  obtain ⟨s0, d0, rfl, C⟩ := h
  exact dr_words C.2.2.2.2.2.2.1 d0 w hw
theorem x_own {p : Program} {R : Room} {s : State} {m : MethodId} {args : Array Value} {meth : Method} {c : Code} (h : ∃ s0 d0, s = s0.setDrawn d0 ∧ xCx G d p R s0 m args meth c) : s.vm.findClass d.1.cls = some m.cls := by
  obtain ⟨s0, d0, rfl, C⟩ := h
  exact C.2.2.2.2.2.1
theorem s_ldc {i : Nat} {v : Int32} (hd : decode d.2.1 pc = .ok (.ldc i, 2)) (hw : Cond.constant d.1.cls i v ∈ G.tb) : xSnd G d pc (i_push (.int v)) 2 := s_pushG (fun _ => rfl) (fun _ => trivial) (fun h1 h2 h5 k => lv_ldc h1 h2 (x_own h5) (x_word h5 hw) hd k)
theorem s_ldcw {i : Nat} {v : Int32} (hd : decode d.2.1 pc = .ok (.ldc_w i, 3)) (hw : Cond.constant d.1.cls i v ∈ G.tb) : xSnd G d pc (i_push (.int v)) 3 := s_pushG (fun _ => rfl) (fun _ => trivial) (fun h1 h2 h5 k => lv_ldcw h1 h2 (x_own h5) (x_word h5 hw) hd k)
theorem s_ldc2 {i : Nat} {v : Int64} (hd : decode d.2.1 pc = .ok (.ldc2_w i, 3)) (hw : Cond.constantLong d.1.cls i v ∈ G.tb) : xSnd G d pc (i_push (.long v)) 3 := s_pushG (fun _ => rfl) (fun _ => trivial) (fun h1 h2 h5 k => lv_ldc2 h1 h2 (x_own h5) (x_word h5 hw) hd k)
theorem s_ldc2d {i : Nat} {v : UInt64} (hd : decode d.2.1 pc = .ok (.ldc2_w i, 3)) (hw : Cond.constantDouble d.1.cls i v ∈ G.tb) : xSnd G d pc (i_push (.double v)) 3 := s_pushG (fun _ => rfl) (fun _ => trivial) (fun h1 h2 h5 k => lv_ldc2d h1 h2 (x_own h5) (x_word h5 hw) hd k)
theorem s_iinc {i : Nat} {n : Int} {v : Int32} (hd : decode d.2.1 pc = .ok (.iinc i n, 3)) (hv : Int32.ofInt n = v) (hi : i < d.2.2.1) : xSnd G d pc (i_iinc i v) 3 := by
  intro P Q K hP hK l st h b hs
  unfold i_iinc at hs
  split at hs
  · rename_i x hx
    refine x_store (fun h1 h2 => ⟨h1, st_ok (v := .int (x + v)) trivial h2⟩) (fun {_ _ _ _ _ _ _ _ _ _ _ _ _ _ ls ad} h1 h2 h3 k => ?_) (hK _ _ _ _ hs)
    have h9 : lv_has ls d.2.2.1 ((i, Value.int x) :: l.map (xCvL ad)) := ⟨h3.1, h3.2.1, fun q hq => by
      rcases List.mem_cons.mp hq with rfl | hq
      · exact lk_at h3 hx
      · exact h3.2.2 q hq⟩
    refine lv_iinc h1 h2 hd h9 (k := 0) rfl (by rw [hv]) hi rfl (fun ls' hl' => k ls' ⟨hl'.1, hl'.2.1, fun q hq => ?_⟩)
    refine hl'.2.2 q ?_
    rw [List.map_cons, ← stf1_map] at hq
    rcases List.mem_cons.mp hq with rfl | hq
    · exact List.mem_cons_self
    · refine List.mem_cons_of_mem _ ?_
      rw [List.filter_cons]
      split
      · exact List.mem_cons_of_mem _ hq
      · exact hq
  · exact hs.elim
theorem x_jump {t : Nat} {l : xL} {ks : List Nat} {st st' : List Value} {h : xH} {b : Nat × Nat} {Q : xQ} (hv : (∀ v ∈ st, xOkV h v) → ∀ v ∈ st', xOkV h v)
    (step : ∀ {p : Program} {e : Env} {R : Room} {s : State} {m : MethodId} {args : Array Value} {below : List Frame} {meth : Method} {c : Code} {H : Heap} {locs : List Loc} {cells slots : Nat} {QF : State → Prop} {ls : Array Slot} {ad : Nat → Nat},
      p.tables.exec = Jvm.exec → c.code = d.2.1 → W p G.l e R s m args below meth c H locs cells slots QF (F0 m t ls (st'.map (xCv ad))) → W p G.l e R s m args below meth c H locs cells slots QF (F0 m pc ls (st.map (xCv ad))))
    (k : xOKat G d t (lkp l ks) st' h b Q) : xOKat G d pc l st h b Q := by
  intro p e R s m args below meth c ad0 ok0 C ad H locs cells slots ls d0 hd0 hl hr hok hz hc hsl hst hlo
  exact step C.1 C.2.1 (k p e R s m args below meth c ad0 ok0 C ad H locs cells slots ls d0 hd0 (lkp_has hl ks) hr hok hz hc hsl (hv hst) (lkp_ok hlo ks))

theorem s_goto {y t : Nat} {ks : List Nat} {off : Int} (hy : G.dat y = d) (hd : decode d.2.1 pc = .ok (.goto off, 3)) (ht : (pc : Int) + off = (t : Int)) : xSnd G d pc (i_goto y t ks) 3 := by
  intro P Q K hP hK l st h b hs
  have hs : P y t (lkp l ks) st h b Q := hs
  have hq := hP _ _ _ _ _ _ _ hs
  rw [hy] at hq
  exact x_jump (fun h => h) (fun h1 h2 k => lv_goto h1 h2 hd ht k) hq
/-- no instruction: the next block begins here -/
theorem s_fall {y t : Nat} {ks : List Nat} (hy : G.dat y = d) (ht : pc = t) : xSnd G d pc (i_goto y t ks) 0 := by
  intro P Q K hP hK l st h b hs
  have hs : P y t (lkp l ks) st h b Q := hs
  have hq := hP _ _ _ _ _ _ _ hs
  rw [hy] at hq
  subst ht
  exact x_jump (fun h => h) (fun h1 h2 k => k) hq
theorem s_ifG {c : Int32 → Prop} {y t : Nat} {ks : List Nat} (hy : G.dat y = d) (row : ∀ {p : Program} {e : Env} {R : Room} {s : State} {m : MethodId} {args : Array Value} {below : List Frame} {meth : Method} {cd : Code} {H : Heap} {locs : List Loc} {cells slots : Nat} {QF : State → Prop} {ls : Array Slot} {rest : List Value} {x : Int32},
      p.tables.exec = Jvm.exec → cd.code = d.2.1 → (c x → W p G.l e R s m args below meth cd H locs cells slots QF (F0 m t ls rest)) → (¬ c x → W p G.l e R s m args below meth cd H locs cells slots QF (F0 m (pc + 3) ls rest)) → W p G.l e R s m args below meth cd H locs cells slots QF (F0 m pc ls (.int x :: rest))) : xSnd G d pc (i_ifc c y t ks) 3 := by
  intro P Q K hP hK l st h b hs
  unfold i_ifc at hs
  split at hs
  · obtain ⟨h1, h2⟩ := hs
    intro p e R s m args below meth cd ad0 ok0 C ad H locs cells slots ls d0 hd0 hl hr hok hz hc hsl hst hlo
    refine row C.1 C.2.1 (fun hx => ?_) (fun hx => ?_)
    · have hq := hP _ _ _ _ _ _ _ (h1 hx)
      rw [hy] at hq
      exact hq p e R s m args below meth cd ad0 ok0 C ad H locs cells slots ls d0 hd0 (lkp_has hl ks) hr hok hz hc hsl (ok_tl hst) (lkp_ok hlo ks)
    · exact hK _ _ _ _ (h2 hx) p e R s m args below meth cd ad0 ok0 C ad H locs cells slots ls d0 hd0 hl hr hok hz hc hsl (ok_tl hst) hlo
  · exact hs.elim
theorem s_icmpG {c : Int32 → Int32 → Prop} {y t : Nat} {ks : List Nat} (hy : G.dat y = d) (row : ∀ {p : Program} {e : Env} {R : Room} {s : State} {m : MethodId} {args : Array Value} {below : List Frame} {meth : Method} {cd : Code} {H : Heap} {locs : List Loc} {cells slots : Nat} {QF : State → Prop} {ls : Array Slot} {rest : List Value} {x v : Int32},
      p.tables.exec = Jvm.exec → cd.code = d.2.1 → (c x v → W p G.l e R s m args below meth cd H locs cells slots QF (F0 m t ls rest)) → (¬ c x v → W p G.l e R s m args below meth cd H locs cells slots QF (F0 m (pc + 3) ls rest)) → W p G.l e R s m args below meth cd H locs cells slots QF (F0 m pc ls (.int v :: .int x :: rest))) : xSnd G d pc (i_icmp c y t ks) 3 := by
  intro P Q K hP hK l st h b hs
  unfold i_icmp at hs
  split at hs
  · obtain ⟨h1, h2⟩ := hs
    intro p e R s m args below meth cd ad0 ok0 C ad H locs cells slots ls d0 hd0 hl hr hok hz hc hsl hst hlo
    refine row C.1 C.2.1 (fun hx => ?_) (fun hx => ?_)
    · have hq := hP _ _ _ _ _ _ _ (h1 hx)
      rw [hy] at hq
      exact hq p e R s m args below meth cd ad0 ok0 C ad H locs cells slots ls d0 hd0 (lkp_has hl ks) hr hok hz hc hsl (ok_tl (ok_tl hst)) (lkp_ok hlo ks)
    · exact hK _ _ _ _ (h2 hx) p e R s m args below meth cd ad0 ok0 C ad H locs cells slots ls d0 hd0 hl hr hok hz hc hsl (ok_tl (ok_tl hst)) hlo
  · exact hs.elim

theorem s_if_eq {y t : Nat} {ks : List Nat} {off : Int} (hy : G.dat y = d) (hd : decode d.2.1 pc = .ok (.ifCond .eq off, 3)) (ht : (pc : Int) + off = (t : Int)) : xSnd G d pc (i_ifc (fun x => x = 0) y t ks) 3 := s_ifG hy (fun h1 h2 a b => lv_if_eq h1 h2 hd ht a b)
theorem s_if_ne {y t : Nat} {ks : List Nat} {off : Int} (hy : G.dat y = d) (hd : decode d.2.1 pc = .ok (.ifCond .ne off, 3)) (ht : (pc : Int) + off = (t : Int)) : xSnd G d pc (i_ifc (fun x => x ≠ 0) y t ks) 3 := s_ifG hy (fun h1 h2 a b => lv_if_ne h1 h2 hd ht a (fun h => b (fun z => z h)))
theorem s_if_lt {y t : Nat} {ks : List Nat} {off : Int} (hy : G.dat y = d) (hd : decode d.2.1 pc = .ok (.ifCond .lt off, 3)) (ht : (pc : Int) + off = (t : Int)) : xSnd G d pc (i_ifc (fun x => x < 0) y t ks) 3 := s_ifG hy (fun h1 h2 a b => lv_if_lt h1 h2 hd ht a b)
theorem s_if_ge {y t : Nat} {ks : List Nat} {off : Int} (hy : G.dat y = d) (hd : decode d.2.1 pc = .ok (.ifCond .ge off, 3)) (ht : (pc : Int) + off = (t : Int)) : xSnd G d pc (i_ifc (fun x => 0 ≤ x) y t ks) 3 := s_ifG hy (fun h1 h2 a b => lv_if_ge h1 h2 hd ht a b)
theorem s_if_gt {y t : Nat} {ks : List Nat} {off : Int} (hy : G.dat y = d) (hd : decode d.2.1 pc = .ok (.ifCond .gt off, 3)) (ht : (pc : Int) + off = (t : Int)) : xSnd G d pc (i_ifc (fun x => 0 < x) y t ks) 3 := s_ifG hy (fun h1 h2 a b => lv_if_gt h1 h2 hd ht a b)
theorem s_if_le {y t : Nat} {ks : List Nat} {off : Int} (hy : G.dat y = d) (hd : decode d.2.1 pc = .ok (.ifCond .le off, 3)) (ht : (pc : Int) + off = (t : Int)) : xSnd G d pc (i_ifc (fun x => x ≤ 0) y t ks) 3 := s_ifG hy (fun h1 h2 a b => lv_if_le h1 h2 hd ht a b)
theorem s_icmp_eq {y t : Nat} {ks : List Nat} {off : Int} (hy : G.dat y = d) (hd : decode d.2.1 pc = .ok (.if_icmp .eq off, 3)) (ht : (pc : Int) + off = (t : Int)) : xSnd G d pc (i_icmp (fun x v => x = v) y t ks) 3 := s_icmpG hy (fun h1 h2 a b => lv_icmp_eq h1 h2 hd ht a b)
theorem s_icmp_ne {y t : Nat} {ks : List Nat} {off : Int} (hy : G.dat y = d) (hd : decode d.2.1 pc = .ok (.if_icmp .ne off, 3)) (ht : (pc : Int) + off = (t : Int)) : xSnd G d pc (i_icmp (fun x v => x ≠ v) y t ks) 3 := s_icmpG hy (fun h1 h2 a b => lv_icmp_ne h1 h2 hd ht a (fun h => b (fun z => z h)))
theorem s_icmp_lt {y t : Nat} {ks : List Nat} {off : Int} (hy : G.dat y = d) (hd : decode d.2.1 pc = .ok (.if_icmp .lt off, 3)) (ht : (pc : Int) + off = (t : Int)) : xSnd G d pc (i_icmp (fun x v => x < v) y t ks) 3 := s_icmpG hy (fun h1 h2 a b => lv_icmp_lt h1 h2 hd ht a b)
theorem s_icmp_ge {y t : Nat} {ks : List Nat} {off : Int} (hy : G.dat y = d) (hd : decode d.2.1 pc = .ok (.if_icmp .ge off, 3)) (ht : (pc : Int) + off = (t : Int)) : xSnd G d pc (i_icmp (fun x v => v ≤ x) y t ks) 3 := s_icmpG hy (fun h1 h2 a b => lv_icmp_ge h1 h2 hd ht a b)
theorem s_icmp_gt {y t : Nat} {ks : List Nat} {off : Int} (hy : G.dat y = d) (hd : decode d.2.1 pc = .ok (.if_icmp .gt off, 3)) (ht : (pc : Int) + off = (t : Int)) : xSnd G d pc (i_icmp (fun x v => v < x) y t ks) 3 := s_icmpG hy (fun h1 h2 a b => lv_icmp_gt h1 h2 hd ht a b)
theorem s_icmp_le {y t : Nat} {ks : List Nat} {off : Int} (hy : G.dat y = d) (hd : decode d.2.1 pc = .ok (.if_icmp .le off, 3)) (ht : (pc : Int) + off = (t : Int)) : xSnd G d pc (i_icmp (fun x v => x ≤ v) y t ks) 3 := s_icmpG hy (fun h1 h2 a b => lv_icmp_le h1 h2 hd ht a b)
theorem s_dadd (hd : decode d.2.1 pc = .ok (.dadd, 1)) : xSnd G d pc (i_dd FP.dadd) 1 := by
  intro P Q K hP hK l st h b hs
  unfold i_dd at hs
  split at hs
  · intro p e R s m args below meth cd ad0 ok0 C ad H locs cells slots ls d0 hd0 hl hr hok hz hc hsl hst hlo
    refine lv_dadd_any hd0 lw_bits C.1 C.2.1 hd (fun r d1 hal hd1 => ?_)
    exact hK _ _ _ _ (hs r hal) p e R s m args below meth cd ad0 ok0 C ad H locs cells slots ls d1 hd1 hl hr hok hz hc hsl (ok_cons (v := Value.double r) trivial (ok_tl (ok_tl hst))) hlo
  · exact hs.elim
theorem s_dsub (hd : decode d.2.1 pc = .ok (.dsub, 1)) : xSnd G d pc (i_dd FP.dsub) 1 := by
  intro P Q K hP hK l st h b hs
  unfold i_dd at hs
  split at hs
  · intro p e R s m args below meth cd ad0 ok0 C ad H locs cells slots ls d0 hd0 hl hr hok hz hc hsl hst hlo
    refine lv_dsub_any hd0 lw_bits C.1 C.2.1 hd (fun r d1 hal hd1 => ?_)
    exact hK _ _ _ _ (hs r hal) p e R s m args below meth cd ad0 ok0 C ad H locs cells slots ls d1 hd1 hl hr hok hz hc hsl (ok_cons (v := Value.double r) trivial (ok_tl (ok_tl hst))) hlo
  · exact hs.elim
theorem s_dmul (hd : decode d.2.1 pc = .ok (.dmul, 1)) : xSnd G d pc (i_dd FP.dmul) 1 := by
  intro P Q K hP hK l st h b hs
  unfold i_dd at hs
  split at hs
  · intro p e R s m args below meth cd ad0 ok0 C ad H locs cells slots ls d0 hd0 hl hr hok hz hc hsl hst hlo
    refine lv_dmul_any hd0 lw_bits C.1 C.2.1 hd (fun r d1 hal hd1 => ?_)
    exact hK _ _ _ _ (hs r hal) p e R s m args below meth cd ad0 ok0 C ad H locs cells slots ls d1 hd1 hl hr hok hz hc hsl (ok_cons (v := Value.double r) trivial (ok_tl (ok_tl hst))) hlo
  · exact hs.elim
theorem s_ddiv (hd : decode d.2.1 pc = .ok (.ddiv, 1)) : xSnd G d pc (i_dd FP.ddiv) 1 := by
  intro P Q K hP hK l st h b hs
  unfold i_dd at hs
  split at hs
  · intro p e R s m args below meth cd ad0 ok0 C ad H locs cells slots ls d0 hd0 hl hr hok hz hc hsl hst hlo
    refine lv_ddiv_any hd0 lw_bits C.1 C.2.1 hd (fun r d1 hal hd1 => ?_)
    exact hK _ _ _ _ (hs r hal) p e R s m args below meth cd ad0 ok0 C ad H locs cells slots ls d1 hd1 hl hr hok hz hc hsl (ok_cons (v := Value.double r) trivial (ok_tl (ok_tl hst))) hlo
  · exact hs.elim
theorem s_fdiv (hd : decode d.2.1 pc = .ok (.fdiv, 1)) : xSnd G d pc (i_ff FP.fdiv) 1 := by
  intro P Q K hP hK l st h b hs
  unfold i_ff at hs
  split at hs
  · intro p e R s m args below meth cd ad0 ok0 C ad H locs cells slots ls d0 hd0 hl hr hok hz hc hsl hst hlo
    refine lv_fdiv_any hd0 lw_bits C.1 C.2.1 hd (fun r d1 hal hd1 => ?_)
    exact hK _ _ _ _ (hs r hal) p e R s m args below meth cd ad0 ok0 C ad H locs cells slots ls d1 hd1 hl hr hok hz hc hsl (ok_cons (v := Value.float r) trivial (ok_tl (ok_tl hst))) hlo
  · exact hs.elim
theorem s_f2d (hd : decode d.2.1 pc = .ok (.f2d, 1)) : xSnd G d pc i_f2d 1 := by
  intro P Q K hP hK l st h b hs
  unfold i_f2d at hs
  split at hs
  · intro p e R s m args below meth cd ad0 ok0 C ad H locs cells slots ls d0 hd0 hl hr hok hz hc hsl hst hlo
    refine lv_f2d_any hd0 lw_bits C.1 C.2.1 hd (fun r d1 hal hd1 => ?_)
    exact hK _ _ _ _ (hs r hal) p e R s m args below meth cd ad0 ok0 C ad H locs cells slots ls d1 hd1 hl hr hok hz hc hsl (ok_cons (v := Value.double r) trivial (ok_tl hst)) hlo
  · exact hs.elim
-- switches
theorem xSw_at {F : Nat → Prop} {x : Int32} : ∀ {ps : List (Int32 × Nat)} {t : Nat}, xSw F x ps t → (∃ q ∈ ps, q.1 = x ∧ F q.2) ∨ ((∀ q ∈ ps, q.1 ≠ x) ∧ F t)
  | [], t, h => Or.inr ⟨fun q hq => (by cases hq), h⟩
  | q :: r, t, h => by
    by_cases e : x = q.1
    · exact Or.inl ⟨q, List.mem_cons_self, e.symm, h.1 e⟩
    · rcases xSw_at (h.2 e) with ⟨z, h1, h2, h3⟩ | ⟨h1, h2⟩
      · exact Or.inl ⟨z, List.mem_cons_of_mem _ h1, h2, h3⟩
      · refine Or.inr ⟨fun z hz => ?_, h2⟩
        rcases List.mem_cons.mp hz with rfl | hz
        · exact fun w => e w.symm
        · exact h1 z hz
def xTsCk (pc : Nat) (lo hi : Int) (offs : Array Int) (ps : List (Int32 × Nat)) : Bool :=
  ps.all (fun q => decide (lo ≤ q.1.toInt) && decide (q.1.toInt ≤ hi) && (match offs[(q.1.toInt - lo).toNat]? with | some off => decide ((pc : Int) + off = (q.2 : Int)) | none => false)) &&
  (List.range (hi - lo + 1).toNat).all (fun j => match ps[j]? with | some q => decide (q.1.toInt = lo + j) | none => false)
theorem s_tsw {y t len : Nat} {ks : List Nat} {ps : List (Int32 × Nat)} {dflt lo hi : Int} {offs : Array Int} (hy : G.dat y = d) (hd : decode d.2.1 pc = .ok (.tableswitch dflt lo hi offs, len)) (ht : (pc : Int) + dflt = (t : Int)) (hck : xTsCk pc lo hi offs ps = true) : xSnd G d pc (i_sw ps y t ks) len := by
  intro P Q K hP hK l st h b hs
  unfold i_sw at hs
  split at hs
  · rename_i x r
    simp only [xTsCk, Bool.and_eq_true, List.all_eq_true, decide_eq_true_eq] at hck
    obtain ⟨hc1, hc2⟩ := hck
    intro p e R s m args below meth cd ad0 ok0 C ad H locs cells slots ls d0 hd0 hl hr hok hz hc hsl hst hlo
    rcases xSw_at hs with ⟨q, hq, rfl, hp⟩ | ⟨hno, hp⟩
    · obtain ⟨⟨g1, g2⟩, g3⟩ := hc1 q hq
      have hq9 := hP _ _ _ _ _ _ _ hp
      rw [hy] at hq9
      cases ho : offs[(q.1.toInt - lo).toNat]? with
      | none => rw [ho] at g3; cases g3
      | some off =>
        rw [ho] at g3
        exact lv_tableIn C.1 C.2.1 hd (Int.not_lt.mpr g1) (Int.not_lt.mpr g2) ho (of_decide_eq_true g3) (hq9 p e R s m args below meth cd ad0 ok0 C ad H locs cells slots ls d0 hd0 (lkp_has hl ks) hr hok hz hc hsl (ok_tl hst) (lkp_ok hlo ks))
    · have hq9 := hP _ _ _ _ _ _ _ hp
      rw [hy] at hq9
      refine lv_tableOut C.1 C.2.1 hd ?_ ht (hq9 p e R s m args below meth cd ad0 ok0 C ad H locs cells slots ls d0 hd0 (lkp_has hl ks) hr hok hz hc hsl (ok_tl hst) (lkp_ok hlo ks))
      refine Classical.byContradiction fun hn => ?_
      have hn1 : lo ≤ x.toInt := Int.not_lt.mp fun z => hn (Or.inl z)
      have hn2 : x.toInt ≤ hi := Int.not_lt.mp fun z => hn (Or.inr z)
      have g := hc2 (x.toInt - lo).toNat (List.mem_range.mpr (by omega))
      cases hpj : ps[(x.toInt - lo).toNat]? with
      | none => rw [hpj] at g; cases g
      | some q =>
        rw [hpj] at g
        have g := of_decide_eq_true g
        refine hno q (List.mem_of_getElem? hpj) (Int32.toInt_inj.mp ?_)
        rw [g]
        omega
  · exact hs.elim
def xLsCk (pc : Nat) (dflt : Int) (tb : Array (Int × Int)) (ps : List (Int32 × Nat)) (t : Nat) : Bool :=
  (tb.toList.zip (tb.toList.drop 1)).all (fun (a, next) => a.1 < next.1) && decide ((pc : Int) + dflt = (t : Int)) &&
  ps.all (fun q => decide ((pc : Int) + Op.lookupswitch.offset tb.toList dflt q.1.toInt = (q.2 : Int))) && tb.toList.all (fun w => ps.any (fun q => decide (q.1.toInt = w.1)))

end XJ
/-! ===== fields, arrays, new cells ===== -/
section XH
variable {G : xGt} {d : xDt} {pc : Nat}
def xSame (h h' : xH) (a : Nat) : Prop := gS h' a = gS h a ∧ (∀ k, gI h' a k = gI h a k) ∧ (∀ k, gL h' a k = gL h a k) ∧ (∀ k, gD h' a k = gD h a k) ∧ ∀ k, gR h' a k = gR h a k
theorem xFv_same {ad ad' : Nat → Nat} {cl : Nat → vw_C} {h h' : xH} {c a : Nat} (hs : xSame h h' a) (hr : ∀ k j, gR h a k = some j → ad' j = ad j) : xFv ad' cl h' c a = xFv ad cl h c a := by
  funext k
  unfold xFv
  split
  · rw [hs.2.1]
  · rw [hs.2.2.1]
  · rw [hs.2.2.2.1]
  · rw [hs.2.2.2.2]
    cases hk : gR h a k with
    | none => rfl
    | some j => show Value.ref (ad' j) = Value.ref (ad j); rw [hr k j hk]
theorem xAv_same {h h' : xH} {c a : Nat} (hs : xSame h h' a) : xAv h' c a = xAv h c a := by
  funext k
  unfold xAv
  rw [hs.2.1, hs.2.2.1, hs.2.2.2.1]
theorem xAt_same {ad ad' : Nat → Nat} {h h' : xH} {a : Nat} {H H' : Heap} (hs : xSame h h' a) (ha : ad' a = ad a) (hr : ∀ k j, gR h a k = some j → ad' j = ad j) (hH : H'[ad a]? = H[ad a]?) (hx : xAt G ad h a H) : xAt G ad' h' a H' := by
  unfold xAt at hx ⊢
  rw [hs.1, ha]
  rcases hx with ⟨h1, h0, h2⟩ | ⟨h1, h0, h2, h3⟩ | ⟨h1, cell, h2, h3⟩ | ⟨h1, h2, cell, h3, h4⟩
  · exact Or.inl ⟨h1, h0, by rw [xFv_same hs hr]; exact h2.kept hH⟩
  · exact Or.inr (Or.inl ⟨h1, h0, h2, by rw [xAv_same hs, hH]; exact h3⟩)
  · exact Or.inr (Or.inr (Or.inl ⟨h1, cell, by rw [hH]; exact h2, by rw [xFv_same hs hr]; exact h3⟩))
  · exact Or.inr (Or.inr (Or.inr ⟨h1, h2, cell, by rw [hH]; exact h3, by rw [xAv_same hs]; exact h4⟩))
theorem xRel_lt {ad : Nat → Nat} {h : xH} {a : Nat} {H : Heap} (hx : xAt G ad h a H) : ad a < H.size := by
  rcases hx with ⟨-, -, cell, h2, -⟩ | ⟨-, -, -, h3⟩ | ⟨-, cell, h2, -⟩ | ⟨-, -, cell, h2, -⟩
  · exact (Array.getElem?_eq_some_iff.mp h2).1
  · exact (Array.getElem?_eq_some_iff.mp h3).1
  · exact (Array.getElem?_eq_some_iff.mp h2).1
  · exact (Array.getElem?_eq_some_iff.mp h2).1
/-- one cell has changed -/
theorem xRel_upd {ad : Nat → Nat} {h h' : xH} {H H' : Heap} {o : Nat} (hr : xRel G ad h H) (hS : gS h' o = gS h o) (ho : (gS h o).1 ≠ 0) (hro : ¬ xRo (gS h o).1) (hm : ∀ a, a ≠ o → xSame h h' a) (hat : xAt G ad h' o H')
    (hq : ∀ q : Nat, q ≠ ad o → H'[q]? = H[q]?) (hz : H'.size = H.size) (href : ∀ k j, gR h' o k = some j → xOk h j) : xRel G ad h' H' := by
  obtain ⟨r1, r2, r3, r4, r5, r6⟩ := hr
  have hS' : ∀ a, gS h' a = gS h a := fun a => by
    by_cases e : a = o
    · rw [e]; exact hS
    · exact (hm a e).1
  have hok : ∀ j, xOk h j → xOk h' j := fun j hj => by unfold xOk at hj ⊢; rw [hS']; exact hj
  have ho2 : o < 900000 ∧ G.B0 ≤ ad o := by
    rcases (r1 o ho).2 with z | z
    · exact ⟨z.1, z.2.1⟩
    · exact absurd z.2.2 hro
  refine ⟨fun a ha => ?_, fun a a' ha ha' => ?_, fun a k j ha hj => ?_, fun q hq' => ?_, by rw [hz]; exact r5, r6⟩
  · rw [hS'] at ha
    obtain ⟨g3, g1⟩ := r1 a ha
    refine ⟨?_, by rw [hS']; exact g1⟩
    by_cases e : a = o
    · rw [e]; exact hat
    · refine xAt_same (hm a e) rfl (fun _ _ _ => rfl) (hq _ (fun z => ?_)) g3
      rcases g1 with w | w
      · exact e (r2 a o ha ho w.1 ho2.1 z)
      · have := w.2.1
        omega
  · rw [hS'] at ha ha'
    exact r2 a a' ha ha'
  · rw [hS'] at ha
    by_cases e : a = o
    · subst e
      exact hok j (href k j hj)
    · rw [(hm a e).2.2.2.2] at hj
      exact hok j (r3 a k j ha hj)
  · have : q ≠ ad o := fun z => by
      have := ho2.2
      omega
    rw [hq q this]
    exact r4 q hq'
/-- a new cell at a number that was free -/
theorem xRel_new {ad : Nat → Nat} {h : xH} {H H' : Heap} {o : Nat} {sh : Nat × Nat} (hr : xRel G ad h H) (hf : xFree h o) (hsh : sh.1 ≠ 0) (hro : ¬ xRo sh.1) (hat : xAt G (fun i => if i = o then H.size else ad i) (nS h o sh) o H')
    (hq : ∀ q : Nat, q < H.size → H'[q]? = H[q]?) (hz : H'.size = H.size + 1) : xRel G (fun i => if i = o then H.size else ad i) (nS h o sh) H' := by
  obtain ⟨r1, r2, r3, r4, r5, r6⟩ := hr
  obtain ⟨f1, f2⟩ := hf
  have hok : ∀ j, xOk h j → xOk (nS h o sh) j ∧ j ≠ o := fun j hj => by
    have hne : j ≠ o := fun e => by
      subst e
      rcases hj with z | z
      · exact z f1
      · omega
    refine ⟨?_, hne⟩
    unfold xOk at hj ⊢
    rw [gS_nS, if_neg hne]
    exact hj
  have hS : ∀ a, a ≠ o → xSame h (nS h o sh) a := fun a e => ⟨by rw [gS_nS, if_neg e], fun k => by rw [gI_nS, if_neg e], fun k => by rw [gL_nS, if_neg e], fun k => by rw [gD_nS, if_neg e], fun k => by rw [gR_nS, if_neg e]⟩
  refine ⟨fun a ha => ?_, fun a a' ha ha' hn hn' he => ?_, fun a k j ha hj => ?_, fun q hq' => ?_, by omega, fun i hi => ?_⟩
  · by_cases e : a = o
    · subst e
      refine ⟨hat, Or.inl ⟨f2, ?_, by rw [gS_nS, if_pos rfl]; exact hro⟩⟩
      show G.B0 ≤ (if a = a then H.size else ad a)
      rw [if_pos rfl]; exact r5
    · rw [gS_nS, if_neg e] at ha
      obtain ⟨g3, g2⟩ := r1 a ha
      refine ⟨xAt_same (hS a e) (if_neg e) (fun k j hj => if_neg (hok j (r3 a k j ha hj)).2) (hq _ (xRel_lt g3)) g3, ?_⟩
      rw [gS_nS, if_neg e]
      show (_ ∧ G.B0 ≤ (if a = o then H.size else ad a) ∧ _) ∨ (_ ∧ (if a = o then H.size else ad a) < G.B0 ∧ _)
      rw [if_neg e]; exact g2
  · have key : ∀ a, a ≠ o → (gS (nS h o sh) a).1 ≠ 0 → ad a < H.size := fun a e ha => by
      rw [gS_nS, if_neg e] at ha
      exact xRel_lt (r1 a ha).1
    have he : (if a = o then H.size else ad a) = (if a' = o then H.size else ad a') := he
    by_cases e : a = o <;> by_cases e' : a' = o
    · rw [e, e']
    · rw [if_pos e, if_neg e'] at he
      have := key a' e' ha'
      omega
    · rw [if_neg e, if_pos e'] at he
      have := key a e ha
      omega
    · rw [if_neg e, if_neg e'] at he
      rw [gS_nS, if_neg e] at ha
      rw [gS_nS, if_neg e'] at ha'
      exact r2 a a' ha ha' hn hn' he
  · by_cases e : a = o
    · subst e
      rw [gR_nS, if_pos rfl] at hj
      cases hj
    · rw [gS_nS, if_neg e] at ha
      rw [gR_nS, if_neg e] at hj
      exact (hok j (r3 a k j ha hj)).1
  · rw [hq q (by omega)]
    exact r4 q hq'
  · show (if i = o then H.size else ad i) = G.aC i
    rw [if_neg (by omega)]
    exact r6 i hi
theorem xCv_new {ad : Nat → Nat} {h : xH} {o z : Nat} (hf : xFree h o) {v : Value} (hv : xOkV h v) : xCv (fun i => if i = o then z else ad i) v = xCv ad v := by
  cases v with
  | ref i =>
    have hne : i ≠ o := fun e => by
      subst e
      rcases hv with w | w
      · exact w hf.1
      · have := hf.2; omega
    show Value.ref (if i = o then z else ad i) = Value.ref (ad i)
    rw [if_neg hne]
  | _ => rfl
theorem xOk_new {h : xH} {o : Nat} {sh : Nat × Nat} (hf : xFree h o) {j : Nat} (hj : xOk h j) : xOk (nS h o sh) j := by
  unfold xOk at hj ⊢
  rw [gS_nS]
  by_cases e : j = o
  · subst e
    rcases hj with w | w
    · exact absurd hf.1 w
    · exact Or.inr w
  · rw [if_neg e]; exact hj
theorem xOkV_new {h : xH} {o : Nat} {sh : Nat × Nat} (hf : xFree h o) {v : Value} (hv : xOkV h v) : xOkV (nS h o sh) v := by
  cases v with
  | ref i => exact xOk_new hf hv
  | _ => trivial
theorem xOkV_same {h h' : xH} (hS : ∀ a, gS h' a = gS h a) {v : Value} (hv : xOkV h v) : xOkV h' v := by
  cases v with
  | ref i => show xOk h' i; unfold xOk; rw [hS]; exact hv
  | _ => trivial
def xDef (n : Nat) : Value := match n with
  | 0 => .int 0
  | 1 => .long 0
  | 2 => .double 0
  | _ => .null
/-- what is to be known of a class of the list -/
def xClsOk (G : xGt) (c : Nat) : Prop := 1 ≤ c ∧ c < 100 ∧ (∀ w ∈ u_ws (G.cl c).1 (G.cl c).2.1 (G.cl c).2.2, w ∈ G.tb) ∧ (∃ ty : Nat → FieldType, ∀ k, k < (G.cl c).2.2 → parseFieldDescriptor ((G.cl c).2.1 k).2.2.1 = some (ty k) ∧ defaultValue (ty k) = xDef (xTy ((G.cl c).2.1 k).2.2.1)) ∧
  ∀ a, a < (G.cl c).2.2 → ∀ b, b < (G.cl c).2.2 → a ≠ b → ((G.cl c).2.1 a).2.1 ≠ ((G.cl c).2.1 b).2.1
theorem x_obj {ad : Nat → Nat} {h : xH} {o c : Nat} {H : Heap} (hr : xRel G ad h H) (hc : (gS h o).1 = c) (hcl : xClsOk G c) (hro : ¬ xRo c) : t_OB (ad o) (G.dC c) (G.cl c).2.2 (G.dI c) H (xFv ad G.cl h c o) := by
  subst hc
  have h1 := hcl.1
  have h2 := hcl.2.1
  rcases (hr.1 o (by omega)).1 with ⟨-, -, z⟩ | ⟨z, -⟩ | ⟨z, -⟩ | ⟨z, -⟩
  · exact z
  · omega
  · exact absurd (Or.inl z) hro
  · rcases z with z | z <;> omega
theorem x_objR {ad : Nat → Nat} {h : xH} {o c : Nat} {H : Heap} (hr : xRel G ad h H) (hc : (gS h o).1 = c) (hcl : xClsOk G c) : ∃ cell : Cell, H[ad o]? = some cell ∧ cell.cls = G.dC c ∧ cell.vm.isStatics = false ∧ cell.vm ≠ .unknown ∧ ∀ k, k < (G.cl c).2.2 → (c = 10 → k < 2) → cell.slots[G.dI c k]? = some (xFv ad G.cl h c o k) := by
  subst hc
  have h1 := hcl.1
  have h2 := hcl.2.1
  rcases (hr.1 o (by omega)).1 with ⟨-, -, cell, q1, q2, q3, q4⟩ | ⟨z, -⟩ | ⟨z, cell, q1, q2, q3, q4, q5⟩ | ⟨z, -⟩
  · exact ⟨cell, q1, q2, by rw [q3]; rfl, by rw [q3]; exact (fun z => by cases z), fun k hk _ => q4 k hk⟩
  · omega
  · rw [z]
    exact ⟨cell, q1, q2, q3, q4, fun k _ hk => q5 k (hk rfl)⟩
  · rcases z with z | z <;> omega
theorem x_arr {ad : Nat → Nat} {h : xH} {o c : Nat} {H : Heap} (hr : xRel G ad h H) (hc : (gS h o).1 = c) (hl : 100 ≤ c) (hro : ¬ xRo c) : (gS h o).2 < 2 ^ 31 ∧ H[ad o]? = some (arrV (G.cA c) (gS h o).2 (xAv h c o)) := by
  subst hc
  rcases (hr.1 o (by omega)).1 with ⟨z, -⟩ | ⟨-, -, z1, z2⟩ | ⟨z, -⟩ | ⟨z, -⟩
  · omega
  · exact ⟨z1, z2⟩
  · omega
  · exact absurd (Or.inr z) hro
theorem x_arrR {ad : Nat → Nat} {h : xH} {o c : Nat} {H : Heap} (hr : xRel G ad h H) (hc : (gS h o).1 = c) (hl : 100 ≤ c ∧ c < 106) : (gS h o).2 < 2 ^ 31 ∧ ∃ cell : Cell, H[ad o]? = some cell ∧ cell.cls = G.cA c ∧ cell.vm.isStatics = false ∧ cell.vm ≠ .unknown ∧ cell.slots.size = (gS h o).2 ∧ ∀ j, j < (gS h o).2 → cell.slots[j]? = some (xAv h c o j) := by
  subst hc
  rcases (hr.1 o (by omega)).1 with ⟨z, -⟩ | ⟨-, -, z1, z2⟩ | ⟨z, -⟩ | ⟨z, z1, z2⟩
  · omega
  · exact ⟨z1, _, z2, rfl, rfl, (fun z => by cases z), arrV_size _ _ _, fun j hj => arrV_read _ _ hj⟩
  · omega
  · omega
theorem x_arrO {ad : Nat → Nat} {h : xH} {o c : Nat} {H : Heap} (hr : xRel G ad h H) (hc : (gS h o).1 = c) (hl : 100 ≤ c) : (gS h o).2 < 2 ^ 31 ∧ ∃ cell : Cell, H[ad o]? = some cell ∧ (cell.cls = G.cA c ∨ (900000 ≤ o ∧ cell.cls = G.dC o ∧ c = xKo o)) ∧ cell.vm.isStatics = false ∧ cell.vm ≠ .unknown ∧ ((gS h o).2 ≤ cell.slots.size ∧ cell.slots.size.toInt32 = nI (gS h o).2) ∧ ∀ j, j < (gS h o).2 → cell.slots[j]? = some (xAv h c o j) := by
  subst hc
  have hr2 := (hr.1 o (by omega)).2
  rcases (hr.1 o (by omega)).1 with ⟨z, -⟩ | ⟨-, -, z1, z2⟩ | ⟨z, -⟩ | ⟨z, z1, cell, q1, q2, q3⟩
  · omega
  · exact ⟨z1, _, z2, Or.inl rfl, rfl, (fun z => by cases z), ⟨Nat.le_of_eq (arrV_size _ _ _).symm, by rw [arrV_size]; rfl⟩, fun j hj => arrV_read _ _ hj⟩
  · omega
  · refine ⟨z1, cell, q1, Or.inr ⟨?_, q2.1, q2.2⟩, q3⟩
    rcases hr2 with ⟨-, -, w⟩ | ⟨w, -⟩
    · exact absurd (Or.inr z) w
    · exact w
theorem x_isArr {U : State} {cA : ClassId} {ty : FieldType} (h : ArrOfT U cA ty) {cell : Cell} (hc : cell.cls = cA) (hv : cell.vm.isStatics = false) : U.isArrayOf cell ty := by
  obtain ⟨-, k, h1, h2⟩ := h 0 (fun _ => .null)
  exact ⟨fun z hz => (by rw [hz] at hv; cases hv), k, (by rw [hc]; exact h1), h2⟩
theorem x_isO {U : State} {o c : Nat} (hK : xKs G U) (hk : xAk c) {cell : Cell} (hc : cell.cls = G.cA c ∨ (900000 ≤ o ∧ cell.cls = G.dC o ∧ c = xKo o)) (hv : cell.vm.isStatics = false) : U.isArrayOf cell (xEt c) := by
  rcases hc with hc | ⟨h9, hc, e⟩
  · exact x_isArr (hK.2.1 c hk).1 hc hv
  · rw [e]
    exact x_isArr (hK.2.2.2.2.2.2 o h9) hc hv
/-- getfield -/
theorem s_getG {c k idx : Nat} {f : xH → Nat → Value} {i : xSem} (hcl : xClsOk G c) (hk : k < (G.cl c).2.2) (hk2 : c = 10 → k < 2) (hw : Cond.fieldLink d.1.cls idx ((G.cl c).2.1 k).1 ((G.cl c).2.1 k).2.1 ((G.cl c).2.1 k).2.2.1 ∈ G.tb) (hd : decode d.2.1 pc = .ok (.getfield idx, 3))
    (hi : ∀ (P : xP) (Q : xQ) (K : xK) l st h b, i P Q K l st h b → ∃ o r, st = .ref o :: r ∧ (gS h o).1 = c ∧ K l (f h o :: r) h b) (hf : ∀ (ad : Nat → Nat) (h : xH) (o : Nat), xFv ad G.cl h c o k = xCv ad (f h o)) (hv : ∀ (h : xH) (o : Nat), (∀ k j, gR h o k = some j → xOk h j) → xOkV h (f h o)) : xSnd G d pc i 3 := by
  intro P Q K hP hK l st h b hs
  obtain ⟨o, r, rfl, hc, hs⟩ := hi P Q K l st h b hs
  intro p e R s m args below meth cd ad0 ok0 C ad H locs cells slots ls d0 hd0 hl hr hok hz hcc hsl hst hlo
  obtain ⟨cell, q1, q2, q3, hkn, q4⟩ := x_objR hr hc hcl
  have hts := dr_words C.2.2.2.2.2.2.1 d0
  have hK0 : xKs G (s.setDrawn d0) := xKs_same (u := s) rfl C.2.2.2.2.2.2.2.2.2.2.1
  obtain ⟨hSl, hfc, kC, hkC, hkind⟩ := hK0.1 c hcl.1 hcl.2.1
  obtain ⟨cf, kf, fi, fd, hfi, hsl9⟩ := hSl k hk
  have hlive : (gS h o).1 ≠ 0 := by have := hcl.1; omega
  have hst9 := (u_facts (s := s.setDrawn d0) hfc hkC (u_lays hts hcl.2.2.1 hk) hfi).1
  have hv9 : cell.slots[fd.slot]? = some (xCv ad (f h o)) := by rw [hsl9, q4 k hk hk2, hf]
  show W p G.l e R (s.setDrawn d0) m args below meth cd H locs cells slots _ (F0 m pc ls (.ref (ad o) :: r.map (xCv ad)))
  have h1 : p.tables.exec = Jvm.exec := C.1
  have h2 : cd.code = d.2.1 := C.2.1
  have h3 : s.vm.findClass d.1.cls = some m.cls := C.2.2.2.2.2.1
  have h4 := hts _ hw
  have h5 := hK _ _ _ _ hs p e R s m args below meth cd ad0 ok0 C ad H locs cells slots ls d0 hd0 hl hr hok hz hcc hsl (ok_cons (hv h o (fun k j => hr.2.2.1 o k j hlive)) (ok_tl hst)) hlo
  have h6 := W.getf (l := G.l) (R := R) (s := s.setDrawn d0) (below := below) (meth := meth) (locs := locs) (cells := cells) (slots := slots) (Q := xMQ below (xRT G ad0 ok0 Q) (xTH G ad0 ok0 Q) s R.cells R.slots (fun q => G.B0 ≤ q)) (e := e) (a := ad o) (rest := r.map (xCv ad)) (g := F0 m pc ls (.ref (ad o) :: r.map (xCv ad))) h1 h2 (own := d.1.cls) h3 h4 (f := fd) hfi hst9 q1 hkn hv9
  exact h6 rfl rfl hd h5
theorem s_getI {c k idx : Nat} (hcl : xClsOk G c) (hk : k < (G.cl c).2.2) (hk2 : c = 10 → k < 2) (hty : xTy ((G.cl c).2.1 k).2.2.1 = 0) (hw : Cond.fieldLink d.1.cls idx ((G.cl c).2.1 k).1 ((G.cl c).2.1 k).2.1 ((G.cl c).2.1 k).2.2.1 ∈ G.tb) (hd : decode d.2.1 pc = .ok (.getfield idx, 3)) : xSnd G d pc (i_getI c k) 3 :=
  s_getG (f := fun h o => .int (gI h o k)) hcl hk hk2 hw hd (fun P Q K l st h b hs => by
    unfold i_getI at hs
    split at hs
    · exact ⟨_, _, rfl, hs.1, hs.2⟩
    · exact hs.elim) (fun ad h o => by unfold xFv; rw [hty]; rfl) (fun _ _ _ => trivial)
theorem s_getL {c k idx : Nat} (hcl : xClsOk G c) (hk : k < (G.cl c).2.2) (hk2 : c = 10 → k < 2) (hty : xTy ((G.cl c).2.1 k).2.2.1 = 1) (hw : Cond.fieldLink d.1.cls idx ((G.cl c).2.1 k).1 ((G.cl c).2.1 k).2.1 ((G.cl c).2.1 k).2.2.1 ∈ G.tb) (hd : decode d.2.1 pc = .ok (.getfield idx, 3)) : xSnd G d pc (i_getL c k) 3 :=
  s_getG (f := fun h o => .long (gL h o k)) hcl hk hk2 hw hd (fun P Q K l st h b hs => by
    unfold i_getL at hs
    split at hs
    · exact ⟨_, _, rfl, hs.1, hs.2⟩
    · exact hs.elim) (fun ad h o => by unfold xFv; rw [hty]; rfl) (fun _ _ _ => trivial)
theorem s_getR {c k idx : Nat} (hcl : xClsOk G c) (hk : k < (G.cl c).2.2) (hk2 : c = 10 → k < 2) (hty : xTy ((G.cl c).2.1 k).2.2.1 = 3) (hw : Cond.fieldLink d.1.cls idx ((G.cl c).2.1 k).1 ((G.cl c).2.1 k).2.1 ((G.cl c).2.1 k).2.2.1 ∈ G.tb) (hd : decode d.2.1 pc = .ok (.getfield idx, 3)) : xSnd G d pc (i_getR c k) 3 :=
  s_getG (f := fun h o => rV (gR h o k)) hcl hk hk2 hw hd (fun P Q K l st h b hs => by
    unfold i_getR at hs
    split at hs
    · exact ⟨_, _, rfl, hs.1, hs.2⟩
    · exact hs.elim) (fun ad h o => by
      unfold xFv
      rw [hty]
      show xRv ad (gR h o k) = xCv ad (rV (gR h o k))
      cases gR h o k <;> rfl) (fun h o hj => by
      show xOkV h (rV (gR h o k))
      cases e : gR h o k with
      | none => trivial
      | some j => exact hj k j e)
/-- putfield: not final, or final in the class's own constructor -/
theorem s_putG {c k idx : Nat} {ty : FieldType} {i : xSem} (hcl : xClsOk G c) (hro : ¬ xRo c) (hk : k < (G.cl c).2.2) (hw : Cond.fieldLink d.1.cls idx ((G.cl c).2.1 k).1 ((G.cl c).2.1 k).2.1 ((G.cl c).2.1 k).2.2.1 ∈ G.tb)
    (hfin : ((G.cl c).2.1 k).2.2.2 = false ∨ (((G.cl c).2.1 k).2.2.2 = true ∧ d.1.name = "<init>" ∧ ((G.cl c).2.1 k).1 = d.1.cls)) (hdty : parseFieldDescriptor ((G.cl c).2.1 k).2.2.1 = some ty) (hd : decode d.2.1 pc = .ok (.putfield idx, 3))
    (hi : ∀ (P : xP) (Q : xQ) (K : xK) l st h b, i P Q K l st h b → ∃ v o r h', st = v :: .ref o :: r ∧ (gS h o).1 = c ∧ K l r h' b ∧ (∀ ad, narrow ty (xCv ad v) = xCv ad v ∧ fits ty (xCv ad v) = true) ∧ (∀ a, gS h' a = gS h a) ∧ (∀ a, a ≠ o → xSame h h' a) ∧
      (∀ ad j, xFv ad G.cl h' c o j = if j = k then xCv ad v else xFv ad G.cl h c o j) ∧ (∀ j z, gR h' o j = some z → gR h o j = some z ∨ v = .ref z)) : xSnd G d pc i 3 := by
  intro P Q K hP hK l st h b hs
  obtain ⟨v, o, r, h', rfl, hc, hs, hnf, hS, hm, hfv, href⟩ := hi P Q K l st h b hs
  intro p e R s m args below meth cd ad0 ok0 C ad H locs cells slots ls d0 hd0 hl hr hok hz hcc hsl hst hlo
  obtain ⟨cell, q1, q2, q3, q4⟩ := x_obj hr hc hcl hro
  have hts := dr_words C.2.2.2.2.2.2.1 d0
  have hK0 : xKs G (s.setDrawn d0) := xKs_same (u := s) rfl C.2.2.2.2.2.2.2.2.2.2.1
  obtain ⟨hSl, hfc, kC, hkC, hkind⟩ := hK0.1 c hcl.1 hcl.2.1
  have hap : ∀ x y, x < (G.cl c).2.2 → y < (G.cl c).2.2 → x ≠ y → G.dI c x ≠ G.dI c y := by
    obtain ⟨ty0, hty0⟩ := hcl.2.2.2.1
    intro x y hx hy hne
    obtain ⟨_, _, _, fa, hia, ea⟩ := hSl x hx
    obtain ⟨_, _, _, fb, hib, eb⟩ := hSl y hy
    rw [← ea, ← eb]
    refine u_apart (s := s.setDrawn d0) (u_lays hts hcl.2.2.1 hx) (u_lays hts hcl.2.2.1 hy) hia hib ?_
    rw [(State.fieldFound?_type hia (hty0 x hx).1).1, (State.fieldFound?_type hib (hty0 y hy).1).1]
    exact hcl.2.2.2.2 x hx y hy hne
  obtain ⟨cf, kf, fi, fd, hfi, hsl9⟩ := hSl k hk
  have hlive : (gS h o).1 ≠ 0 := by have := hcl.1; omega
  have hst9 := (u_facts (s := s.setDrawn d0) hfc hkC (u_lays hts hcl.2.2.1 hk) hfi).1
  have hvo : xOkV h v := ok_hd hst
  have fin : ∀ H' : Heap, H'[ad o]? = some (cell.setSlot fd.slot (xCv ad v)) → H'.size = H.size → (∀ q, q ≠ ad o → H'[q]? = H[q]?) →
      W p G.l e R (s.setDrawn d0) m args below meth cd H' (locs ++ [⟨ad o, fd.slot⟩]) cells slots (xMQ below (xRT G ad0 ok0 Q) (xTH G ad0 ok0 Q) s R.cells R.slots (fun q => G.B0 ≤ q)) (F0 m (pc + 3) ls (r.map (xCv ad))) := by
    intro H' e1 e2 e3
    rw [hsl9] at e1
    have hr' : xRel G ad h' H' := by
      refine xRel_upd hr (hS o) hlive (by rw [hc]; exact hro) hm ?_ e3 e2 (fun j z hj => ?_)
      · refine Or.inl ⟨by rw [hS, hc]; exact hcl.2.1, by rw [hS, hc]; exact hro, ?_⟩
        rw [hS, hc]
        refine ⟨_, e1, q2, q3, fun j hj => ?_⟩
        rw [t_set q4 hap hk (xCv ad v) j hj, hfv]
        rfl
      · rcases href j z hj with w | w
        · exact hr.2.2.1 o j z hlive w
        · subst w; exact hvo
    refine hK _ _ _ _ hs p e R s m args below meth cd ad0 ok0 C ad H' (locs ++ [⟨ad o, fd.slot⟩]) cells slots ls d0 hd0 hl hr' (fun i hi => ?_) (fun z hzz => ?_) hcc hsl (fun w hw => xOkV_same hS (ok_tl (ok_tl hst) w hw)) (fun q hq => xOkV_same hS (hlo q hq))
    · refine ⟨?_, (hok i hi).2⟩
      have := (hok i hi).1
      unfold xOk at this ⊢
      rw [hS]; exact this
    · rcases List.mem_append.mp hzz with w | w
      · exact hz z w
      · rw [List.mem_singleton.mp w]
        rcases (hr.1 o hlive).2 with z9 | z9
        · exact z9.2.1
        · rw [hc] at z9; exact absurd z9.2.2 hro
  have hlay := hts _ (hcl.2.2.1 _ (u_in_lay hk))
  unfold u_lay at hlay
  rcases hfin with hfin | ⟨hfin, hinit, hdecl⟩
  · rw [if_neg (by rw [hfin]; decide)] at hlay
    have h6 := u_store (s := s.setDrawn d0) hfc hkC hkind hlay hfi hdty (hnf ad).1 (hnf ad).2
    have h7 : k2_Sd (s.setDrawn d0) fd cell.cls (xCv ad v) := by rw [q2]; exact h6
    have h8 : fd.slot < cell.slots.size := by rw [hsl9]; exact k2_hasslot (q4 k hk)
    exact W.putK (l := G.l) (e := e) (R := R) (s := s.setDrawn d0) (args := args) (below := below) (meth := meth) (locs := locs) (cells := cells) (slots := slots) (Q := xMQ below (xRT G ad0 ok0 Q) (xTH G ad0 ok0 Q) s R.cells R.slots (fun q => G.B0 ≤ q)) (a := ad o) (v := xCv ad v) (rest := r.map (xCv ad)) (g := F0 m pc ls (xCv ad v :: .ref (ad o) :: r.map (xCv ad))) C.1 C.2.1 (own := d.1.cls) (f := fd) ⟨C.2.2.2.2.2.1, hts _ hw, ⟨_, _, _, hfi⟩, hst9⟩ h7 q1 q3 h8 rfl rfl hd fin
  · rw [if_pos hfin] at hlay
    have hcf : m.cls = cf := by
      obtain ⟨_, _, c', _, _, _, -, -, hf', -, -, -, hown2, -⟩ := Cond.laysFinal_spec hlay
      have e1 : c' = cf := by have := hfi.symm.trans hf'; simp at this; exact this.1.symm
      rw [hdecl] at hown2
      rw [← e1]; exact Option.some.inj (C.2.2.2.2.2.1.symm.trans hown2)
    have h6 := u_fits (s := s.setDrawn d0) hfc hkC hkind (Or.inr hlay) hfi hdty (hnf ad).1 (hnf ad).2
    have h7 : narrow fd.type (xCv ad v) = xCv ad v ∧ (s.setDrawn d0).fitsSlot cell.cls .none fd.slot (xCv ad v) = true := by rw [q2]; exact h6
    have h8 : fd.slot < cell.slots.size := by rw [hsl9]; exact k2_hasslot (q4 k hk)
    exact W.putFinK (l := G.l) (e := e) (R := R) (s := s.setDrawn d0) (args := args) (below := below) (meth := meth) (locs := locs) (cells := cells) (slots := slots) (Q := xMQ below (xRT G ad0 ok0 Q) (xTH G ad0 ok0 Q) s R.cells R.slots (fun q => G.B0 ≤ q)) (a := ad o) (v := xCv ad v) (rest := r.map (xCv ad)) (g := F0 m pc ls (xCv ad v :: .ref (ad o) :: r.map (xCv ad))) C.1 C.2.1 (own := d.1.cls) C.2.2.2.2.2.1 (hts _ hw) hfi hst9 hcf (C.2.2.2.2.2.2.2.2.2.1.trans hinit) h7 q1 q3 h8 rfl rfl hd fin
end XH
/-! ===== puts, arrays, new things, ends ===== -/
section XK
variable {G : xGt} {d : xDt} {pc : Nat}
theorem xSame_I (h : xH) (o k : Nat) (v : Int32) : ∀ a, a ≠ o → xSame h (sI h o k v) a := fun a e => ⟨rfl, fun j => by rw [gI_sI, if_neg (fun z => e z.1)], fun _ => rfl, fun _ => rfl, fun _ => rfl⟩
theorem xSame_L (h : xH) (o k : Nat) (v : Int64) : ∀ a, a ≠ o → xSame h (sL h o k v) a := fun a e => ⟨rfl, fun _ => rfl, fun j => by rw [gL_sL, if_neg (fun z => e z.1)], fun _ => rfl, fun _ => rfl⟩
theorem xSame_D (h : xH) (o k : Nat) (v : UInt64) : ∀ a, a ≠ o → xSame h (sD h o k v) a := fun a e => ⟨rfl, fun _ => rfl, fun _ => rfl, fun j => by rw [gD_sD, if_neg (fun z => e z.1)], fun _ => rfl⟩
theorem xSame_R (h : xH) (o k : Nat) (v : Option Nat) : ∀ a, a ≠ o → xSame h (sR h o k v) a := fun a e => ⟨rfl, fun _ => rfl, fun _ => rfl, fun _ => rfl, fun j => by rw [gR_sR, if_neg (fun z => e z.1)]⟩
theorem xFv_I {ad : Nat → Nat} {cl : Nat → vw_C} {h : xH} {c o k : Nat} {v : Int32} (hty : xTy ((cl c).2.1 k).2.2.1 = 0) (j : Nat) : xFv ad cl (sI h o k v) c o j = if j = k then .int v else xFv ad cl h c o j := by
  by_cases e : j = k
  · subst e
    unfold xFv
    rw [hty, if_pos rfl]
    show Value.int (gI (sI h o j v) o j) = _
    rw [gI_sI, if_pos ⟨rfl, rfl⟩]
  · rw [if_neg e]
    unfold xFv
    rw [gI_sI, if_neg (fun z => e z.2)]
    rfl
theorem xFv_L {ad : Nat → Nat} {cl : Nat → vw_C} {h : xH} {c o k : Nat} {v : Int64} (hty : xTy ((cl c).2.1 k).2.2.1 = 1) (j : Nat) : xFv ad cl (sL h o k v) c o j = if j = k then .long v else xFv ad cl h c o j := by
  by_cases e : j = k
  · subst e
    unfold xFv
    rw [hty, if_pos rfl]
    show Value.long (gL (sL h o j v) o j) = _
    rw [gL_sL, if_pos ⟨rfl, rfl⟩]
  · rw [if_neg e]
    unfold xFv
    rw [gL_sL, if_neg (fun z => e z.2)]
    rfl
theorem xFv_R {ad : Nat → Nat} {cl : Nat → vw_C} {h : xH} {c o k : Nat} {v : Option Nat} (hty : xTy ((cl c).2.1 k).2.2.1 = 3) (j : Nat) : xFv ad cl (sR h o k v) c o j = if j = k then xRv ad v else xFv ad cl h c o j := by
  by_cases e : j = k
  · subst e
    unfold xFv
    rw [hty, if_pos rfl]
    show xRv ad (gR (sR h o j v) o j) = _
    rw [gR_sR, if_pos ⟨rfl, rfl⟩]
  · rw [if_neg e]
    unfold xFv
    rw [gR_sR, if_neg (fun z => e z.2)]
    rfl

theorem s_putI {c k idx : Nat} (hcl : xClsOk G c) (hro : ¬ xRo c) (hk : k < (G.cl c).2.2) (hw : Cond.fieldLink d.1.cls idx ((G.cl c).2.1 k).1 ((G.cl c).2.1 k).2.1 ((G.cl c).2.1 k).2.2.1 ∈ G.tb) (hfin : ((G.cl c).2.1 k).2.2.2 = false ∨ (((G.cl c).2.1 k).2.2.2 = true ∧ d.1.name = "<init>" ∧ ((G.cl c).2.1 k).1 = d.1.cls)) (hd : decode d.2.1 pc = .ok (.putfield idx, 3)) (hdesc : ((G.cl c).2.1 k).2.2.1 = "I") : xSnd G d pc (i_putI c k) 3 :=
  s_putG (ty := .int) hcl hro hk hw hfin (by rw [hdesc]; decide +kernel) hd (fun P Q K l st h b hs => by
    unfold i_putI at hs
    split at hs
    · rename_i v o r
      exact ⟨.int v, o, r, sI h o k v, rfl, hs.1, hs.2, fun _ => ⟨rfl, rfl⟩, fun _ => rfl, xSame_I h o k v, fun ad j => xFv_I (by rw [hdesc]; decide +kernel) j, fun j z hz => Or.inl hz⟩
    · exact hs.elim)
theorem s_putZ {c k idx : Nat} (hcl : xClsOk G c) (hro : ¬ xRo c) (hk : k < (G.cl c).2.2) (hw : Cond.fieldLink d.1.cls idx ((G.cl c).2.1 k).1 ((G.cl c).2.1 k).2.1 ((G.cl c).2.1 k).2.2.1 ∈ G.tb) (hfin : ((G.cl c).2.1 k).2.2.2 = false ∨ (((G.cl c).2.1 k).2.2.2 = true ∧ d.1.name = "<init>" ∧ ((G.cl c).2.1 k).1 = d.1.cls)) (hd : decode d.2.1 pc = .ok (.putfield idx, 3)) (hdesc : ((G.cl c).2.1 k).2.2.1 = "Z") : xSnd G d pc (i_putZ c k) 3 :=
  s_putG (ty := .boolean) hcl hro hk hw hfin (by rw [hdesc]; decide +kernel) hd (fun P Q K l st h b hs => by
    unfold i_putZ at hs
    split at hs
    · rename_i v o r
      exact ⟨.int v, o, r, sI h o k v, rfl, hs.1, hs.2.2, fun _ => by rcases hs.2.1 with rfl | rfl <;> exact ⟨rfl, rfl⟩, fun _ => rfl, xSame_I h o k v, fun ad j => xFv_I (by rw [hdesc]; decide +kernel) j, fun j z hz => Or.inl hz⟩
    · exact hs.elim)
theorem s_putL {c k idx : Nat} (hcl : xClsOk G c) (hro : ¬ xRo c) (hk : k < (G.cl c).2.2) (hw : Cond.fieldLink d.1.cls idx ((G.cl c).2.1 k).1 ((G.cl c).2.1 k).2.1 ((G.cl c).2.1 k).2.2.1 ∈ G.tb) (hfin : ((G.cl c).2.1 k).2.2.2 = false ∨ (((G.cl c).2.1 k).2.2.2 = true ∧ d.1.name = "<init>" ∧ ((G.cl c).2.1 k).1 = d.1.cls)) (hd : decode d.2.1 pc = .ok (.putfield idx, 3)) (hdesc : ((G.cl c).2.1 k).2.2.1 = "J") : xSnd G d pc (i_putL c k) 3 :=
  s_putG (ty := .long) hcl hro hk hw hfin (by rw [hdesc]; decide +kernel) hd (fun P Q K l st h b hs => by
    unfold i_putL at hs
    split at hs
    · rename_i v o r
      exact ⟨.long v, o, r, sL h o k v, rfl, hs.1, hs.2, fun _ => ⟨rfl, rfl⟩, fun _ => rfl, xSame_L h o k v, fun ad j => xFv_L (by rw [hdesc]; decide +kernel) j, fun j z hz => Or.inl hz⟩
    · exact hs.elim)
theorem s_putR {c k idx : Nat} {ty : FieldType} (hcl : xClsOk G c) (hro : ¬ xRo c) (hk : k < (G.cl c).2.2) (hw : Cond.fieldLink d.1.cls idx ((G.cl c).2.1 k).1 ((G.cl c).2.1 k).2.1 ((G.cl c).2.1 k).2.2.1 ∈ G.tb) (hfin : ((G.cl c).2.1 k).2.2.2 = false ∨ (((G.cl c).2.1 k).2.2.2 = true ∧ d.1.name = "<init>" ∧ ((G.cl c).2.1 k).1 = d.1.cls)) (hd : decode d.2.1 pc = .ok (.putfield idx, 3)) (hty3 : xTy ((G.cl c).2.1 k).2.2.1 = 3) (hdesc : parseFieldDescriptor ((G.cl c).2.1 k).2.2.1 = some ty) (hre : ∀ q : Nat, narrow ty (.ref q) = .ref q ∧ fits ty (.ref q) = true) : xSnd G d pc (i_putR c k) 3 :=
  s_putG (ty := ty) hcl hro hk hw hfin hdesc hd (fun P Q K l st h b hs => by
    unfold i_putR at hs
    split at hs
    · rename_i v o r
      refine ⟨.ref v, o, r, sR h o k (some v), rfl, hs.1, hs.2, fun ad => hre (ad v), fun _ => rfl, xSame_R h o k (some v), fun ad j => xFv_R hty3 j, fun j z hz => ?_⟩
      rw [gR_sR] at hz
      split at hz
      · cases hz; exact Or.inr rfl
      · exact Or.inl hz
    · exact hs.elim)

theorem s_iald (hd : decode d.2.1 pc = .ok (.iaload, 1)) : xSnd G d pc (i_aldI 100) 1 := by
  intro P Q K hP hK l st h b hs
  unfold i_aldI at hs
  split at hs
  · rename_i i o r
    obtain ⟨hc, hin, hs⟩ := hs
    intro p e R s m args below meth cd ad0 ok0 C ad H locs cells slots ls d0 hd0 hl hr hok hz hcc hsl hst hlo
    obtain ⟨hN, cell, hcell, hcls, hst9, hkn, hsz, hrd⟩ := x_arrR hr hc (by decide)
    have hA : ArrOfT (s.setDrawn d0) (G.cA 100) .int := (C.2.2.2.2.2.2.2.2.2.2.1.2.1 100 (Or.inl (by decide))).1
    have hlt : i.toNatClampNeg < (gS h o).2 := Nat.not_le.mp fun q => hin (Or.inr q)
    have hin9 : ¬ (i < 0 ∨ cell.slots.size ≤ i.toNatClampNeg) := by rw [hsz]; exact hin
    have hv9 : cell.slots[i.toNatClampNeg]? = some (.int (gI h o (ix i))) := by rw [hrd _ hlt]; rfl
    have h5 := hK _ _ _ _ hs p e R s m args below meth cd ad0 ok0 C ad H locs cells slots ls d0 hd0 hl hr hok hz hcc hsl (ok_cons (v := Value.int _) trivial (ok_tl (ok_tl hst))) hlo
    exact W.iald (l := G.l) (e := e) (R := R) (s := s.setDrawn d0) (args := args) (below := below) (meth := meth) (locs := locs) (cells := cells) (slots := slots) (Q := xMQ below (xRT G ad0 ok0 Q) (xTH G ad0 ok0 Q) s R.cells R.slots (fun q => G.B0 ≤ q)) (a := ad o) (rest := r.map (xCv ad)) (g := F0 m pc ls (.int i :: .ref (ad o) :: r.map (xCv ad))) C.1 C.2.1 hcell (x_isArr hA hcls hst9) hkn hin9 hv9 rfl rfl hd h5
  · exact hs.elim

theorem s_bald (hd : decode d.2.1 pc = .ok (.baload, 1)) : xSnd G d pc (i_aldI 103) 1 := by
  intro P Q K hP hK l st h b hs
  unfold i_aldI at hs
  split at hs
  · rename_i i o r
    obtain ⟨hc, hin, hs⟩ := hs
    intro p e R s m args below meth cd ad0 ok0 C ad H locs cells slots ls d0 hd0 hl hr hok hz hcc hsl hst hlo
    obtain ⟨hN, cell, hcell, hcls, hst9, hkn, hsz, hrd⟩ := x_arrR hr hc (by decide)
    have hA : ArrOfT (s.setDrawn d0) (G.cA 103) .byte := (C.2.2.2.2.2.2.2.2.2.2.1.2.1 103 (Or.inl (by decide))).1
    have hlt : i.toNatClampNeg < (gS h o).2 := Nat.not_le.mp fun q => hin (Or.inr q)
    have hin9 : ¬ (i < 0 ∨ cell.slots.size ≤ i.toNatClampNeg) := by rw [hsz]; exact hin
    have hv9 : cell.slots[i.toNatClampNeg]? = some (.int (gI h o (ix i))) := by rw [hrd _ hlt]; rfl
    have h5 := hK _ _ _ _ hs p e R s m args below meth cd ad0 ok0 C ad H locs cells slots ls d0 hd0 hl hr hok hz hcc hsl (ok_cons (v := Value.int _) trivial (ok_tl (ok_tl hst))) hlo
    exact W.bald (l := G.l) (e := e) (R := R) (s := s.setDrawn d0) (args := args) (below := below) (meth := meth) (locs := locs) (cells := cells) (slots := slots) (Q := xMQ below (xRT G ad0 ok0 Q) (xTH G ad0 ok0 Q) s R.cells R.slots (fun q => G.B0 ≤ q)) (a := ad o) (rest := r.map (xCv ad)) (g := F0 m pc ls (.int i :: .ref (ad o) :: r.map (xCv ad))) C.1 C.2.1 hcell (x_isArr hA hcls hst9) hkn hin9 hv9 rfl rfl hd h5
  · exact hs.elim

theorem s_zald (hd : decode d.2.1 pc = .ok (.baload, 1)) : xSnd G d pc (i_aldI 105) 1 := by
  intro P Q K hP hK l st h b hs
  unfold i_aldI at hs
  split at hs
  · rename_i i o r
    obtain ⟨hc, hin, hs⟩ := hs
    intro p e R s m args below meth cd ad0 ok0 C ad H locs cells slots ls d0 hd0 hl hr hok hz hcc hsl hst hlo
    obtain ⟨hN, cell, hcell, hcls, hst9, hkn, hsz, hrd⟩ := x_arrR hr hc (by decide)
    have hA : ArrOfT (s.setDrawn d0) (G.cA 105) .boolean := (C.2.2.2.2.2.2.2.2.2.2.1.2.1 105 (Or.inl (by decide))).1
    have hlt : i.toNatClampNeg < (gS h o).2 := Nat.not_le.mp fun q => hin (Or.inr q)
    have hin9 : ¬ (i < 0 ∨ cell.slots.size ≤ i.toNatClampNeg) := by rw [hsz]; exact hin
    have hv9 : cell.slots[i.toNatClampNeg]? = some (.int (gI h o (ix i))) := by rw [hrd _ hlt]; rfl
    have h5 := hK _ _ _ _ hs p e R s m args below meth cd ad0 ok0 C ad H locs cells slots ls d0 hd0 hl hr hok hz hcc hsl (ok_cons (v := Value.int _) trivial (ok_tl (ok_tl hst))) hlo
    exact W.zald (l := G.l) (e := e) (R := R) (s := s.setDrawn d0) (args := args) (below := below) (meth := meth) (locs := locs) (cells := cells) (slots := slots) (Q := xMQ below (xRT G ad0 ok0 Q) (xTH G ad0 ok0 Q) s R.cells R.slots (fun q => G.B0 ≤ q)) (a := ad o) (rest := r.map (xCv ad)) (g := F0 m pc ls (.int i :: .ref (ad o) :: r.map (xCv ad))) C.1 C.2.1 hcell (x_isArr hA hcls hst9) hkn hin9 hv9 rfl rfl hd h5
  · exact hs.elim

theorem s_sald (hd : decode d.2.1 pc = .ok (.saload, 1)) : xSnd G d pc (i_aldI 104) 1 := by
  intro P Q K hP hK l st h b hs
  unfold i_aldI at hs
  split at hs
  · rename_i i o r
    obtain ⟨hc, hin, hs⟩ := hs
    intro p e R s m args below meth cd ad0 ok0 C ad H locs cells slots ls d0 hd0 hl hr hok hz hcc hsl hst hlo
    obtain ⟨hN, cell, hcell, hcls, hst9, hkn, hsz, hrd⟩ := x_arrR hr hc (by decide)
    have hA : ArrOfT (s.setDrawn d0) (G.cA 104) .short := (C.2.2.2.2.2.2.2.2.2.2.1.2.1 104 (Or.inl (by decide))).1
    have hlt : i.toNatClampNeg < (gS h o).2 := Nat.not_le.mp fun q => hin (Or.inr q)
    have hin9 : ¬ (i < 0 ∨ cell.slots.size ≤ i.toNatClampNeg) := by rw [hsz]; exact hin
    have hv9 : cell.slots[i.toNatClampNeg]? = some (.int (gI h o (ix i))) := by rw [hrd _ hlt]; rfl
    have h5 := hK _ _ _ _ hs p e R s m args below meth cd ad0 ok0 C ad H locs cells slots ls d0 hd0 hl hr hok hz hcc hsl (ok_cons (v := Value.int _) trivial (ok_tl (ok_tl hst))) hlo
    exact W.sald (l := G.l) (e := e) (R := R) (s := s.setDrawn d0) (args := args) (below := below) (meth := meth) (locs := locs) (cells := cells) (slots := slots) (Q := xMQ below (xRT G ad0 ok0 Q) (xTH G ad0 ok0 Q) s R.cells R.slots (fun q => G.B0 ≤ q)) (a := ad o) (rest := r.map (xCv ad)) (g := F0 m pc ls (.int i :: .ref (ad o) :: r.map (xCv ad))) C.1 C.2.1 hcell (x_isArr hA hcls hst9) hkn hin9 hv9 rfl rfl hd h5
  · exact hs.elim

theorem s_lald (hd : decode d.2.1 pc = .ok (.laload, 1)) : xSnd G d pc (i_aldL) 1 := by
  intro P Q K hP hK l st h b hs
  unfold i_aldL at hs
  split at hs
  · rename_i i o r
    obtain ⟨hc, hin, hs⟩ := hs
    intro p e R s m args below meth cd ad0 ok0 C ad H locs cells slots ls d0 hd0 hl hr hok hz hcc hsl hst hlo
    obtain ⟨hN, cell, hcell, hcls, hst9, hkn, hsz, hrd⟩ := x_arrR hr hc (by decide)
    have hA : ArrOfT (s.setDrawn d0) (G.cA 101) .long := (C.2.2.2.2.2.2.2.2.2.2.1.2.1 101 (Or.inl (by decide))).1
    have hlt : i.toNatClampNeg < (gS h o).2 := Nat.not_le.mp fun q => hin (Or.inr q)
    have hin9 : ¬ (i < 0 ∨ cell.slots.size ≤ i.toNatClampNeg) := by rw [hsz]; exact hin
    have hv9 : cell.slots[i.toNatClampNeg]? = some (.long (gL h o (ix i))) := by rw [hrd _ hlt]; rfl
    have h5 := hK _ _ _ _ hs p e R s m args below meth cd ad0 ok0 C ad H locs cells slots ls d0 hd0 hl hr hok hz hcc hsl (ok_cons (v := Value.long _) trivial (ok_tl (ok_tl hst))) hlo
    exact W.lald (l := G.l) (e := e) (R := R) (s := s.setDrawn d0) (args := args) (below := below) (meth := meth) (locs := locs) (cells := cells) (slots := slots) (Q := xMQ below (xRT G ad0 ok0 Q) (xTH G ad0 ok0 Q) s R.cells R.slots (fun q => G.B0 ≤ q)) (a := ad o) (rest := r.map (xCv ad)) (g := F0 m pc ls (.int i :: .ref (ad o) :: r.map (xCv ad))) C.1 C.2.1 hcell (x_isArr hA hcls hst9) hkn hin9 hv9 rfl rfl hd h5
  · exact hs.elim

theorem s_dald (hd : decode d.2.1 pc = .ok (.daload, 1)) : xSnd G d pc (i_aldD) 1 := by
  intro P Q K hP hK l st h b hs
  unfold i_aldD at hs
  split at hs
  · rename_i i o r
    obtain ⟨hc, hin, hs⟩ := hs
    intro p e R s m args below meth cd ad0 ok0 C ad H locs cells slots ls d0 hd0 hl hr hok hz hcc hsl hst hlo
    obtain ⟨hN, cell, hcell, hcls, hst9, hkn, hsz, hrd⟩ := x_arrR hr hc (by decide)
    have hA : ArrOfT (s.setDrawn d0) (G.cA 102) .double := (C.2.2.2.2.2.2.2.2.2.2.1.2.1 102 (Or.inl (by decide))).1
    have hlt : i.toNatClampNeg < (gS h o).2 := Nat.not_le.mp fun q => hin (Or.inr q)
    have hin9 : ¬ (i < 0 ∨ cell.slots.size ≤ i.toNatClampNeg) := by rw [hsz]; exact hin
    have hv9 : cell.slots[i.toNatClampNeg]? = some (.double (gD h o (ix i))) := by rw [hrd _ hlt]; rfl
    have h5 := hK _ _ _ _ hs p e R s m args below meth cd ad0 ok0 C ad H locs cells slots ls d0 hd0 hl hr hok hz hcc hsl (ok_cons (v := Value.double _) trivial (ok_tl (ok_tl hst))) hlo
    exact W.dald (l := G.l) (e := e) (R := R) (s := s.setDrawn d0) (args := args) (below := below) (meth := meth) (locs := locs) (cells := cells) (slots := slots) (Q := xMQ below (xRT G ad0 ok0 Q) (xTH G ad0 ok0 Q) s R.cells R.slots (fun q => G.B0 ≤ q)) (a := ad o) (rest := r.map (xCv ad)) (g := F0 m pc ls (.int i :: .ref (ad o) :: r.map (xCv ad))) C.1 C.2.1 hcell (x_isArr hA hcls hst9) hkn hin9 hv9 rfl rfl hd h5
  · exact hs.elim

theorem s_iast (hd : decode d.2.1 pc = .ok (.iastore, 1)) : xSnd G d pc (i_astI 100 (fun x => x)) 1 := by
  intro P Q K hP hK l st h b hs
  unfold i_astI at hs
  split at hs
  · rename_i v i o r
    obtain ⟨hc, hin, hs⟩ := hs
    intro p e R s m args below meth cd ad0 ok0 C ad H locs cells slots ls d0 hd0 hl hr hok hz hcc hsl hst hlo
    obtain ⟨hN, hcell⟩ := x_arr hr hc (by decide) (by decide)
    have hA : ArrOfT (s.setDrawn d0) (G.cA 100) .int := (C.2.2.2.2.2.2.2.2.2.2.1.2.1 100 (Or.inl (by decide))).1
    have hlive : (gS h o).1 ≠ 0 := by rw [hc]; decide
    have hin9 : ¬ (i < 0 ∨ (arrV (G.cA 100) (gS h o).2 (xAv h 100 o)).slots.size ≤ i.toNatClampNeg) := by rw [arrV_size]; exact hin
    refine W.iast (l := G.l) (e := e) (R := R) (s := s.setDrawn d0) (args := args) (below := below) (meth := meth) (locs := locs) (cells := cells) (slots := slots) (Q := xMQ below (xRT G ad0 ok0 Q) (xTH G ad0 ok0 Q) s R.cells R.slots (fun q => G.B0 ≤ q)) (a := ad o) (x := v) (rest := r.map (xCv ad)) (g := F0 m pc ls (.int v :: .int i :: .ref (ad o) :: r.map (xCv ad))) C.1 C.2.1 hcell (hA _ _) (fun z => by cases z) hin9 rfl rfl hd (fun H' e1 e2 e3 => ?_)
    have hr' : xRel G ad (sI h o (ix i) v) H' := by
      refine xRel_upd hr rfl hlive (by rw [hc]; decide) (xSame_I h o (ix i) v) ?_ e3 e2 (fun k j hj => hr.2.2.1 o k j hlive hj)
      refine Or.inr (Or.inl ⟨by show 100 ≤ (gS h o).1; rw [hc]; decide, by show ¬ xRo (gS h o).1; rw [hc]; decide, hN, ?_⟩)
      show H'[ad o]? = some (arrV (G.cA (gS h o).1) (gS h o).2 (xAv (sI h o (ix i) v) (gS h o).1 o))
      rw [e1, hc, arrV_store]
      congr 2
      funext q
      show updV _ _ _ _ = Value.int (gI (sI h o (ix i) v) o q)
      rw [gI_sI]
      by_cases hq : q = ix i
      · rw [if_pos ⟨rfl, hq⟩]
        exact if_pos hq
      · rw [if_neg (fun z => hq z.2)]
        exact if_neg hq
    exact hK _ _ _ _ hs p e R s m args below meth cd ad0 ok0 C ad H' (locs ++ [⟨ad o, i.toNatClampNeg⟩]) cells slots ls d0 hd0 hl hr' hok (fun z hzz => (List.mem_append.mp hzz).elim (hz z) (fun w => by rw [List.mem_singleton.mp w]; exact (hr.1 o hlive).2.elim (fun z9 => z9.2.1) (fun z9 => absurd z9.2.2 (by rw [hc]; decide)))) hcc hsl (fun w hw => xOkV_same (fun _ => rfl) (ok_tl (ok_tl (ok_tl hst)) w hw)) (fun q hq => xOkV_same (fun _ => rfl) (hlo q hq))
  · exact hs.elim

theorem s_bast (hd : decode d.2.1 pc = .ok (.bastore, 1)) : xSnd G d pc (i_astI 103 (vp_nar .byte)) 1 := by
  intro P Q K hP hK l st h b hs
  unfold i_astI at hs
  split at hs
  · rename_i v i o r
    obtain ⟨hc, hin, hs⟩ := hs
    intro p e R s m args below meth cd ad0 ok0 C ad H locs cells slots ls d0 hd0 hl hr hok hz hcc hsl hst hlo
    obtain ⟨hN, hcell⟩ := x_arr hr hc (by decide) (by decide)
    have hA : ArrOfT (s.setDrawn d0) (G.cA 103) .byte := (C.2.2.2.2.2.2.2.2.2.2.1.2.1 103 (Or.inl (by decide))).1
    have hlive : (gS h o).1 ≠ 0 := by rw [hc]; decide
    have hin9 : ¬ (i < 0 ∨ (arrV (G.cA 103) (gS h o).2 (xAv h 103 o)).slots.size ≤ i.toNatClampNeg) := by rw [arrV_size]; exact hin
    refine W.bast (l := G.l) (e := e) (R := R) (s := s.setDrawn d0) (args := args) (below := below) (meth := meth) (locs := locs) (cells := cells) (slots := slots) (Q := xMQ below (xRT G ad0 ok0 Q) (xTH G ad0 ok0 Q) s R.cells R.slots (fun q => G.B0 ≤ q)) (a := ad o) (x := v) (rest := r.map (xCv ad)) (g := F0 m pc ls (.int v :: .int i :: .ref (ad o) :: r.map (xCv ad))) C.1 C.2.1 hcell (hA _ _) (fun z => by cases z) hin9 rfl rfl hd (fun H' e1 e2 e3 => ?_)
    have hr' : xRel G ad (sI h o (ix i) (vp_nar .byte v)) H' := by
      refine xRel_upd hr rfl hlive (by rw [hc]; decide) (xSame_I h o (ix i) (vp_nar .byte v)) ?_ e3 e2 (fun k j hj => hr.2.2.1 o k j hlive hj)
      refine Or.inr (Or.inl ⟨by show 100 ≤ (gS h o).1; rw [hc]; decide, by show ¬ xRo (gS h o).1; rw [hc]; decide, hN, ?_⟩)
      show H'[ad o]? = some (arrV (G.cA (gS h o).1) (gS h o).2 (xAv (sI h o (ix i) (vp_nar .byte v)) (gS h o).1 o))
      rw [e1, hc, arrV_store]
      congr 2
      funext q
      show updV _ _ _ _ = Value.int (gI (sI h o (ix i) (vp_nar .byte v)) o q)
      rw [gI_sI]
      by_cases hq : q = ix i
      · rw [if_pos ⟨rfl, hq⟩]
        exact if_pos hq
      · rw [if_neg (fun z => hq z.2)]
        exact if_neg hq
    exact hK _ _ _ _ hs p e R s m args below meth cd ad0 ok0 C ad H' (locs ++ [⟨ad o, i.toNatClampNeg⟩]) cells slots ls d0 hd0 hl hr' hok (fun z hzz => (List.mem_append.mp hzz).elim (hz z) (fun w => by rw [List.mem_singleton.mp w]; exact (hr.1 o hlive).2.elim (fun z9 => z9.2.1) (fun z9 => absurd z9.2.2 (by rw [hc]; decide)))) hcc hsl (fun w hw => xOkV_same (fun _ => rfl) (ok_tl (ok_tl (ok_tl hst)) w hw)) (fun q hq => xOkV_same (fun _ => rfl) (hlo q hq))
  · exact hs.elim

theorem s_zast (hd : decode d.2.1 pc = .ok (.bastore, 1)) : xSnd G d pc (i_astI 105 (vp_nar .boolean)) 1 := by
  intro P Q K hP hK l st h b hs
  unfold i_astI at hs
  split at hs
  · rename_i v i o r
    obtain ⟨hc, hin, hs⟩ := hs
    intro p e R s m args below meth cd ad0 ok0 C ad H locs cells slots ls d0 hd0 hl hr hok hz hcc hsl hst hlo
    obtain ⟨hN, hcell⟩ := x_arr hr hc (by decide) (by decide)
    have hA : ArrOfT (s.setDrawn d0) (G.cA 105) .boolean := (C.2.2.2.2.2.2.2.2.2.2.1.2.1 105 (Or.inl (by decide))).1
    have hlive : (gS h o).1 ≠ 0 := by rw [hc]; decide
    have hin9 : ¬ (i < 0 ∨ (arrV (G.cA 105) (gS h o).2 (xAv h 105 o)).slots.size ≤ i.toNatClampNeg) := by rw [arrV_size]; exact hin
    refine W.zast (l := G.l) (e := e) (R := R) (s := s.setDrawn d0) (args := args) (below := below) (meth := meth) (locs := locs) (cells := cells) (slots := slots) (Q := xMQ below (xRT G ad0 ok0 Q) (xTH G ad0 ok0 Q) s R.cells R.slots (fun q => G.B0 ≤ q)) (a := ad o) (x := v) (rest := r.map (xCv ad)) (g := F0 m pc ls (.int v :: .int i :: .ref (ad o) :: r.map (xCv ad))) C.1 C.2.1 hcell (hA _ _) (fun z => by cases z) hin9 rfl rfl hd (fun H' e1 e2 e3 => ?_)
    have hr' : xRel G ad (sI h o (ix i) (vp_nar .boolean v)) H' := by
      refine xRel_upd hr rfl hlive (by rw [hc]; decide) (xSame_I h o (ix i) (vp_nar .boolean v)) ?_ e3 e2 (fun k j hj => hr.2.2.1 o k j hlive hj)
      refine Or.inr (Or.inl ⟨by show 100 ≤ (gS h o).1; rw [hc]; decide, by show ¬ xRo (gS h o).1; rw [hc]; decide, hN, ?_⟩)
      show H'[ad o]? = some (arrV (G.cA (gS h o).1) (gS h o).2 (xAv (sI h o (ix i) (vp_nar .boolean v)) (gS h o).1 o))
      rw [e1, hc, arrV_store]
      congr 2
      funext q
      show updV _ _ _ _ = Value.int (gI (sI h o (ix i) (vp_nar .boolean v)) o q)
      rw [gI_sI]
      by_cases hq : q = ix i
      · rw [if_pos ⟨rfl, hq⟩]
        exact if_pos hq
      · rw [if_neg (fun z => hq z.2)]
        exact if_neg hq
    exact hK _ _ _ _ hs p e R s m args below meth cd ad0 ok0 C ad H' (locs ++ [⟨ad o, i.toNatClampNeg⟩]) cells slots ls d0 hd0 hl hr' hok (fun z hzz => (List.mem_append.mp hzz).elim (hz z) (fun w => by rw [List.mem_singleton.mp w]; exact (hr.1 o hlive).2.elim (fun z9 => z9.2.1) (fun z9 => absurd z9.2.2 (by rw [hc]; decide)))) hcc hsl (fun w hw => xOkV_same (fun _ => rfl) (ok_tl (ok_tl (ok_tl hst)) w hw)) (fun q hq => xOkV_same (fun _ => rfl) (hlo q hq))
  · exact hs.elim

theorem s_sast (hd : decode d.2.1 pc = .ok (.sastore, 1)) : xSnd G d pc (i_astI 104 (vp_nar .short)) 1 := by
  intro P Q K hP hK l st h b hs
  unfold i_astI at hs
  split at hs
  · rename_i v i o r
    obtain ⟨hc, hin, hs⟩ := hs
    intro p e R s m args below meth cd ad0 ok0 C ad H locs cells slots ls d0 hd0 hl hr hok hz hcc hsl hst hlo
    obtain ⟨hN, hcell⟩ := x_arr hr hc (by decide) (by decide)
    have hA : ArrOfT (s.setDrawn d0) (G.cA 104) .short := (C.2.2.2.2.2.2.2.2.2.2.1.2.1 104 (Or.inl (by decide))).1
    have hlive : (gS h o).1 ≠ 0 := by rw [hc]; decide
    have hin9 : ¬ (i < 0 ∨ (arrV (G.cA 104) (gS h o).2 (xAv h 104 o)).slots.size ≤ i.toNatClampNeg) := by rw [arrV_size]; exact hin
    refine W.sast (l := G.l) (e := e) (R := R) (s := s.setDrawn d0) (args := args) (below := below) (meth := meth) (locs := locs) (cells := cells) (slots := slots) (Q := xMQ below (xRT G ad0 ok0 Q) (xTH G ad0 ok0 Q) s R.cells R.slots (fun q => G.B0 ≤ q)) (a := ad o) (x := v) (rest := r.map (xCv ad)) (g := F0 m pc ls (.int v :: .int i :: .ref (ad o) :: r.map (xCv ad))) C.1 C.2.1 hcell (hA _ _) (fun z => by cases z) hin9 rfl rfl hd (fun H' e1 e2 e3 => ?_)
    have hr' : xRel G ad (sI h o (ix i) (vp_nar .short v)) H' := by
      refine xRel_upd hr rfl hlive (by rw [hc]; decide) (xSame_I h o (ix i) (vp_nar .short v)) ?_ e3 e2 (fun k j hj => hr.2.2.1 o k j hlive hj)
      refine Or.inr (Or.inl ⟨by show 100 ≤ (gS h o).1; rw [hc]; decide, by show ¬ xRo (gS h o).1; rw [hc]; decide, hN, ?_⟩)
      show H'[ad o]? = some (arrV (G.cA (gS h o).1) (gS h o).2 (xAv (sI h o (ix i) (vp_nar .short v)) (gS h o).1 o))
      rw [e1, hc, arrV_store]
      congr 2
      funext q
      show updV _ _ _ _ = Value.int (gI (sI h o (ix i) (vp_nar .short v)) o q)
      rw [gI_sI]
      by_cases hq : q = ix i
      · rw [if_pos ⟨rfl, hq⟩]
        exact if_pos hq
      · rw [if_neg (fun z => hq z.2)]
        exact if_neg hq
    exact hK _ _ _ _ hs p e R s m args below meth cd ad0 ok0 C ad H' (locs ++ [⟨ad o, i.toNatClampNeg⟩]) cells slots ls d0 hd0 hl hr' hok (fun z hzz => (List.mem_append.mp hzz).elim (hz z) (fun w => by rw [List.mem_singleton.mp w]; exact (hr.1 o hlive).2.elim (fun z9 => z9.2.1) (fun z9 => absurd z9.2.2 (by rw [hc]; decide)))) hcc hsl (fun w hw => xOkV_same (fun _ => rfl) (ok_tl (ok_tl (ok_tl hst)) w hw)) (fun q hq => xOkV_same (fun _ => rfl) (hlo q hq))
  · exact hs.elim

theorem s_last (hd : decode d.2.1 pc = .ok (.lastore, 1)) : xSnd G d pc (i_astL) 1 := by
  intro P Q K hP hK l st h b hs
  unfold i_astL at hs
  split at hs
  · rename_i v i o r
    obtain ⟨hc, hin, hs⟩ := hs
    intro p e R s m args below meth cd ad0 ok0 C ad H locs cells slots ls d0 hd0 hl hr hok hz hcc hsl hst hlo
    obtain ⟨hN, hcell⟩ := x_arr hr hc (by decide) (by decide)
    have hA : ArrOfT (s.setDrawn d0) (G.cA 101) .long := (C.2.2.2.2.2.2.2.2.2.2.1.2.1 101 (Or.inl (by decide))).1
    have hlive : (gS h o).1 ≠ 0 := by rw [hc]; decide
    have hin9 : ¬ (i < 0 ∨ (arrV (G.cA 101) (gS h o).2 (xAv h 101 o)).slots.size ≤ i.toNatClampNeg) := by rw [arrV_size]; exact hin
    refine W.last (l := G.l) (e := e) (R := R) (s := s.setDrawn d0) (args := args) (below := below) (meth := meth) (locs := locs) (cells := cells) (slots := slots) (Q := xMQ below (xRT G ad0 ok0 Q) (xTH G ad0 ok0 Q) s R.cells R.slots (fun q => G.B0 ≤ q)) (a := ad o) (x := v) (rest := r.map (xCv ad)) (g := F0 m pc ls (.long v :: .int i :: .ref (ad o) :: r.map (xCv ad))) C.1 C.2.1 hcell (hA _ _) (fun z => by cases z) hin9 rfl rfl hd (fun H' e1 e2 e3 => ?_)
    have hr' : xRel G ad (sL h o (ix i) v) H' := by
      refine xRel_upd hr rfl hlive (by rw [hc]; decide) (xSame_L h o (ix i) v) ?_ e3 e2 (fun k j hj => hr.2.2.1 o k j hlive hj)
      refine Or.inr (Or.inl ⟨by show 100 ≤ (gS h o).1; rw [hc]; decide, by show ¬ xRo (gS h o).1; rw [hc]; decide, hN, ?_⟩)
      show H'[ad o]? = some (arrV (G.cA (gS h o).1) (gS h o).2 (xAv (sL h o (ix i) v) (gS h o).1 o))
      rw [e1, hc, arrV_store]
      congr 2
      funext q
      show updV _ _ _ _ = Value.long (gL (sL h o (ix i) v) o q)
      rw [gL_sL]
      by_cases hq : q = ix i
      · rw [if_pos ⟨rfl, hq⟩]
        exact if_pos hq
      · rw [if_neg (fun z => hq z.2)]
        exact if_neg hq
    exact hK _ _ _ _ hs p e R s m args below meth cd ad0 ok0 C ad H' (locs ++ [⟨ad o, i.toNatClampNeg⟩]) cells slots ls d0 hd0 hl hr' hok (fun z hzz => (List.mem_append.mp hzz).elim (hz z) (fun w => by rw [List.mem_singleton.mp w]; exact (hr.1 o hlive).2.elim (fun z9 => z9.2.1) (fun z9 => absurd z9.2.2 (by rw [hc]; decide)))) hcc hsl (fun w hw => xOkV_same (fun _ => rfl) (ok_tl (ok_tl (ok_tl hst)) w hw)) (fun q hq => xOkV_same (fun _ => rfl) (hlo q hq))
  · exact hs.elim

theorem s_dast (hd : decode d.2.1 pc = .ok (.dastore, 1)) : xSnd G d pc (i_astD) 1 := by
  intro P Q K hP hK l st h b hs
  unfold i_astD at hs
  split at hs
  · rename_i v i o r
    obtain ⟨hc, hin, hs⟩ := hs
    intro p e R s m args below meth cd ad0 ok0 C ad H locs cells slots ls d0 hd0 hl hr hok hz hcc hsl hst hlo
    obtain ⟨hN, hcell⟩ := x_arr hr hc (by decide) (by decide)
    have hA : ArrOfT (s.setDrawn d0) (G.cA 102) .double := (C.2.2.2.2.2.2.2.2.2.2.1.2.1 102 (Or.inl (by decide))).1
    have hlive : (gS h o).1 ≠ 0 := by rw [hc]; decide
    have hin9 : ¬ (i < 0 ∨ (arrV (G.cA 102) (gS h o).2 (xAv h 102 o)).slots.size ≤ i.toNatClampNeg) := by rw [arrV_size]; exact hin
    refine W.dast (l := G.l) (e := e) (R := R) (s := s.setDrawn d0) (args := args) (below := below) (meth := meth) (locs := locs) (cells := cells) (slots := slots) (Q := xMQ below (xRT G ad0 ok0 Q) (xTH G ad0 ok0 Q) s R.cells R.slots (fun q => G.B0 ≤ q)) (a := ad o) (x := v) (rest := r.map (xCv ad)) (g := F0 m pc ls (.double v :: .int i :: .ref (ad o) :: r.map (xCv ad))) C.1 C.2.1 hcell (hA _ _) (fun z => by cases z) hin9 rfl rfl hd (fun H' e1 e2 e3 => ?_)
    have hr' : xRel G ad (sD h o (ix i) v) H' := by
      refine xRel_upd hr rfl hlive (by rw [hc]; decide) (xSame_D h o (ix i) v) ?_ e3 e2 (fun k j hj => hr.2.2.1 o k j hlive hj)
      refine Or.inr (Or.inl ⟨by show 100 ≤ (gS h o).1; rw [hc]; decide, by show ¬ xRo (gS h o).1; rw [hc]; decide, hN, ?_⟩)
      show H'[ad o]? = some (arrV (G.cA (gS h o).1) (gS h o).2 (xAv (sD h o (ix i) v) (gS h o).1 o))
      rw [e1, hc, arrV_store]
      congr 2
      funext q
      show updV _ _ _ _ = Value.double (gD (sD h o (ix i) v) o q)
      rw [gD_sD]
      by_cases hq : q = ix i
      · rw [if_pos ⟨rfl, hq⟩]
        exact if_pos hq
      · rw [if_neg (fun z => hq z.2)]
        exact if_neg hq
    exact hK _ _ _ _ hs p e R s m args below meth cd ad0 ok0 C ad H' (locs ++ [⟨ad o, i.toNatClampNeg⟩]) cells slots ls d0 hd0 hl hr' hok (fun z hzz => (List.mem_append.mp hzz).elim (hz z) (fun w => by rw [List.mem_singleton.mp w]; exact (hr.1 o hlive).2.elim (fun z9 => z9.2.1) (fun z9 => absurd z9.2.2 (by rw [hc]; decide)))) hcc hsl (fun w hw => xOkV_same (fun _ => rfl) (ok_tl (ok_tl (ok_tl hst)) w hw)) (fun q hq => xOkV_same (fun _ => rfl) (hlo q hq))
  · exact hs.elim

theorem s_alen (hd : decode d.2.1 pc = .ok (.arraylength, 1)) : xSnd G d pc i_alen 1 := by
  intro P Q K hP hK l st h b hs
  unfold i_alen at hs
  split at hs
  · rename_i o r
    obtain ⟨hc, hs⟩ := hs
    intro p e R s m args below meth cd ad0 ok0 C ad H locs cells slots ls d0 hd0 hl hr hok hz hcc hsl hst hlo
    obtain ⟨hN, cell, hcell, hcls, hst9, hkn, hsz, hrd⟩ := x_arrO (o := o) hr rfl (by rcases hc with z | z | z <;> omega)
    have h5 := hK _ _ _ _ hs p e R s m args below meth cd ad0 ok0 C ad H locs cells slots ls d0 hd0 hl hr hok hz hcc hsl (ok_cons (v := Value.int _) trivial (ok_tl hst)) hlo
    have hA : (s.setDrawn d0).isArrayOf cell (xEt (gS h o).1) := x_isO (xKs_same (u := s) rfl C.2.2.2.2.2.2.2.2.2.2.1) hc hcls hst9
    exact W.alen (n := nI (gS h o).2) (l := G.l) (e := e) (R := R) (s := s.setDrawn d0) (args := args) (below := below) (meth := meth) (locs := locs) (cells := cells) (slots := slots) (Q := xMQ below (xRT G ad0 ok0 Q) (xTH G ad0 ok0 Q) s R.cells R.slots (fun q => G.B0 ≤ q)) (a := ad o) (rest := r.map (xCv ad)) (g := F0 m pc ls (.ref (ad o) :: r.map (xCv ad))) C.1 C.2.1 hcell hA hsz.2 rfl rfl hd h5
  · exact hs.elim
theorem s_aldB (hd : decode d.2.1 pc = .ok (.baload, 1)) : xSnd G d pc i_aldB 1 := by
  intro P Q K hP hK l st h b hs
  unfold i_aldB at hs
  split at hs
  · rename_i i o r
    obtain ⟨hc, hin, hs⟩ := hs
    intro p e R s m args below meth cd ad0 ok0 C ad H locs cells slots ls d0 hd0 hl hr hok hz hcc hsl hst hlo
    obtain ⟨hN, cell, hcell, hcls, hst9, hkn, hsz, hrd⟩ := x_arrO (o := o) hr rfl (by rcases hc with z | z <;> omega)
    have hA : (s.setDrawn d0).isArrayOf cell .byte := by
      have h9 := x_isO (o := o) (xKs_same (u := s) (U := s.setDrawn d0) rfl C.2.2.2.2.2.2.2.2.2.2.1) (show xAk (gS h o).1 by rcases hc with z | z <;> rw [z] <;> decide) hcls hst9
      rcases hc with z | z <;> rw [z] at h9 <;> exact h9
    have hlt : i.toNatClampNeg < (gS h o).2 := Nat.not_le.mp fun q => hin (Or.inr q)
    have hin9 : ¬ (i < 0 ∨ cell.slots.size ≤ i.toNatClampNeg) := fun z => hin (z.imp id (Nat.le_trans hsz.1))
    have hv9 : cell.slots[i.toNatClampNeg]? = some (.int (gI h o (ix i))) := by
      rw [hrd _ hlt]
      rcases hc with z | z <;> rw [z] <;> rfl
    have h5 := hK _ _ _ _ hs p e R s m args below meth cd ad0 ok0 C ad H locs cells slots ls d0 hd0 hl hr hok hz hcc hsl (ok_cons (v := Value.int _) trivial (ok_tl (ok_tl hst))) hlo
    exact W.bald (l := G.l) (e := e) (R := R) (s := s.setDrawn d0) (args := args) (below := below) (meth := meth) (locs := locs) (cells := cells) (slots := slots) (Q := xMQ below (xRT G ad0 ok0 Q) (xTH G ad0 ok0 Q) s R.cells R.slots (fun q => G.B0 ≤ q)) (a := ad o) (rest := r.map (xCv ad)) (g := F0 m pc ls (.int i :: .ref (ad o) :: r.map (xCv ad))) C.1 C.2.1 hcell hA hkn hin9 hv9 rfl rfl hd h5
  · exact hs.elim
theorem s_sld (hd : decode d.2.1 pc = .ok (.iaload, 1)) : xSnd G d pc (i_aldI 108) 1 := by
  intro P Q K hP hK l st h b hs
  unfold i_aldI at hs
  split at hs
  · rename_i i o r
    obtain ⟨hc, hin, hs⟩ := hs
    intro p e R s m args below meth cd ad0 ok0 C ad H locs cells slots ls d0 hd0 hl hr hok hz hcc hsl hst hlo
    obtain ⟨hN, cell, hcell, hcls, hst9, hkn, hsz, hrd⟩ := x_arrO hr hc (by decide)
    have hA : (s.setDrawn d0).isArrayOf cell .int := x_isO (c := 108) (xKs_same (u := s) (U := s.setDrawn d0) rfl C.2.2.2.2.2.2.2.2.2.2.1) (Or.inr (Or.inr rfl)) hcls hst9
    have hlt : i.toNatClampNeg < (gS h o).2 := Nat.not_le.mp fun q => hin (Or.inr q)
    have hin9 : ¬ (i < 0 ∨ cell.slots.size ≤ i.toNatClampNeg) := fun z => hin (z.imp id (Nat.le_trans hsz.1))
    have hv9 : cell.slots[i.toNatClampNeg]? = some (.int (gI h o (ix i))) := by rw [hrd _ hlt]; rfl
    have h5 := hK _ _ _ _ hs p e R s m args below meth cd ad0 ok0 C ad H locs cells slots ls d0 hd0 hl hr hok hz hcc hsl (ok_cons (v := Value.int _) trivial (ok_tl (ok_tl hst))) hlo
    exact W.iald (l := G.l) (e := e) (R := R) (s := s.setDrawn d0) (args := args) (below := below) (meth := meth) (locs := locs) (cells := cells) (slots := slots) (Q := xMQ below (xRT G ad0 ok0 Q) (xTH G ad0 ok0 Q) s R.cells R.slots (fun q => G.B0 ≤ q)) (a := ad o) (rest := r.map (xCv ad)) (g := F0 m pc ls (.int i :: .ref (ad o) :: r.map (xCv ad))) C.1 C.2.1 hcell hA hkn hin9 hv9 rfl rfl hd h5
  · exact hs.elim
end XK
/-! ===== new things and ends ===== -/
section XN
variable {G : xGt} {d : xDt} {pc : Nat}
theorem xMapNew {ad : Nat → Nat} {h : xH} {o z : Nat} (hf : xFree h o) {st : List Value} (hv : ∀ v ∈ st, xOkV h v) : st.map (xCv (fun i => if i = o then z else ad i)) = st.map (xCv ad) :=
  List.map_congr_left fun v hvv => xCv_new hf (hv v hvv)
theorem xMapNewL {ad : Nat → Nat} {h : xH} {o z : Nat} (hf : xFree h o) {l : xL} (hv : ∀ q ∈ l, xOkV h q.2) : l.map (xCvL (fun i => if i = o then z else ad i)) = l.map (xCvL ad) :=
  List.map_congr_left fun q hq => by
    show (q.1, xCv _ q.2) = (q.1, xCv ad q.2)
    rw [xCv_new hf (hv q hq)]
theorem xOk_ne {h : xH} {o j : Nat} (hf : xFree h o) (hj : xOk h j) : j ≠ o := fun e => by
  subst e
  rcases hj with w | w
  · exact w hf.1
  · have := hf.2; omega
theorem xFv_zero {ad : Nat → Nat} {cl : Nat → vw_C} {h : xH} {c o k : Nat} {sh : Nat × Nat} : xFv ad cl (nS h o sh) c o k = xDef (xTy ((cl c).2.1 k).2.2.1) := by
  unfold xFv xDef
  rw [gI_nS, gL_nS, gD_nS, gR_nS, if_pos rfl, if_pos rfl, if_pos rfl, if_pos rfl]
  rfl
theorem s_new {c n idx : Nat} (hcl : xClsOk G c) (hro : ¬ xRo c) (hn : n = (G.cl c).2.2) (hd : decode d.2.1 pc = .ok (.new idx, 3)) (hw1 : Cond.classLink d.1.cls idx (G.cl c).1 ∈ G.tb) (hw2 : Cond.instantiable (G.cl c).1 n ∈ G.tb) (hw3 : Cond.initialized (G.cl c).1 ∈ G.tb) : xSnd G d pc (i_new c n) 3 := by
  intro P Q K hP hK l st h b hs
  obtain ⟨hb1, hb2, o, hf, hs⟩ := hs
  intro p e R s m args below meth cd ad0 ok0 C ad H locs cells slots ls d0 hd0 hl hr hok hz hcc hsl hst hlo
  have hts := dr_words C.2.2.2.2.2.2.1 d0
  have hK0 : xKs G (s.setDrawn d0) := xKs_same (u := s) rfl C.2.2.2.2.2.2.2.2.2.2.1
  have hKn := hK0.1 c hcl.1 hcl.2.1
  refine W.newcK (own := d.1.cls) (C := (G.cl c).1) (n := n) (l := G.l) (e := e) (R := R) (s := s.setDrawn d0) (args := args) (below := below) (meth := meth) (locs := locs) (cells := cells) (slots := slots) (Q := xMQ below (xRT G ad0 ok0 Q) (xTH G ad0 ok0 Q) s R.cells R.slots (fun q => G.B0 ≤ q)) (g := F0 m pc ls (st.map (xCv ad))) C.1 C.2.1 C.2.2.2.2.2.1 (hts _ hw1) (hts _ hw2) (hts _ hw3) rfl hd (by omega) (by omega) hKn.2.1 rfl (fun H' kC hkC e1 z1 o1 => ?_)
  have hr' : xRel G (fun i => if i = o then H.size else ad i) (nS h o (c, 0)) H' := by
    refine xRel_new hr hf (by have := hcl.1; show c ≠ 0; omega) hro (Or.inl ?_) o1 z1
    rw [gS_nS, if_pos rfl]
    refine ⟨hcl.2.1, hro, ?_⟩
    show t_OB (if o = o then H.size else ad o) (G.dC c) (G.cl c).2.2 (G.dI c) H' _
    rw [if_pos rfl]
    obtain ⟨ty, hty⟩ := hcl.2.2.2.1
    refine (u_born ty hts hcl.2.2.1 hKn hkC e1 (fun k hk => (hty k hk).1)).to (fun k hk => ?_)
    show defaultValue (ty k) = _
    rw [(hty k hk).2, xFv_zero]
  have h5 := hK _ _ _ _ hs p e R s m args below meth cd ad0 ok0 C (fun i => if i = o then H.size else ad i) H' locs (cells + 1) (slots + n) ls d0 hd0 (by rw [xMapNewL hf hlo]; exact hl) hr'
    (fun i hi => ⟨xOk_new hf (hok i hi).1, by show (if i = o then H.size else ad i) = ad0 i; rw [if_neg (xOk_ne hf (hok i hi).1)]; exact (hok i hi).2⟩) hz (by show cells + 1 + (b.1 - 1) ≤ _; omega) (by show slots + n + (b.2 - n) ≤ _; omega)
    (ok_cons (v := .ref o) (Or.inl (by rw [gS_nS, if_pos rfl]; have := hcl.1; show c ≠ 0; omega)) (fun w hw => xOkV_new hf (hst w hw))) (fun q hq => xOkV_new hf (hlo q hq))
  have e9 : (Value.ref o :: st).map (xCv (fun i => if i = o then H.size else ad i)) = .ref H.size :: st.map (xCv ad) := by
    rw [List.map_cons, xMapNew hf hst]
    show Value.ref (if o = o then H.size else ad o) :: _ = _
    rw [if_pos rfl]
  rw [e9] at h5
  exact h5
theorem s_newa {c w : Nat} {at_ : ArrayType} (hc1 : 100 ≤ c) (hc2 : c < 106) (hat : newarray.typeOf at_ = xEt c) (hwd : componentBytes (xEt c) = w) (hdf : ∀ o j h sh, xAv (nS h o sh) c o j = defaultValue (xEt c)) (hd : decode d.2.1 pc = .ok (.newarray at_, 2)) (hw1 : Cond.arrayClass (xEt c) ∈ G.tb) : xSnd G d pc (i_newa c w) 2 := by
  intro P Q K hP hK l st h b hs
  unfold i_newa at hs
  split at hs
  · rename_i n r
    obtain ⟨hn0, hbytes, hb1, hb2, o, hf, hs⟩ := hs
    intro p e R s m args below meth cd ad0 ok0 C ad H locs cells slots ls d0 hd0 hl hr hok hz hcc hsl hst hlo
    have hts := dr_words C.2.2.2.2.2.2.1 d0
    have hfc : (s.setDrawn d0).vm.findClass ("[" ++ (xEt c).toString) = some (G.cA c) := (C.2.2.2.2.2.2.2.2.2.2.1.2.1 c (Or.inl ⟨hc1, hc2⟩)).2
    have harr : (Cond.arrayClass (newarray.typeOf at_)).before args (s.setDrawn d0) = true := by rw [hat]; exact hts _ hw1
    refine va_newaK (N := ix n) (n := n) (l := G.l) (e := e) (R := R) (s := s.setDrawn d0) (args := args) (below := below) (meth := meth) (locs := locs) (cells := cells) (slots := slots) (Q := xMQ below (xRT G ad0 ok0 Q) (xTH G ad0 ok0 Q) s R.cells R.slots (fun q => G.B0 ≤ q)) (rest := r.map (xCv ad)) (g := F0 m pc ls (.int n :: r.map (xCv ad))) C.1 C.2.1 harr rfl hd rfl hn0 rfl (by rw [hat, hwd]; exact hbytes) (by omega) (by omega) rfl (fun H' cA e1 z1 o1 hA hcA => ?_)
    rw [hat] at e1 hcA
    cases hfc.symm.trans hcA
    have hN : ix n < 2 ^ 31 := by
      have h1 := Int32.toInt_lt n
      unfold ix Int32.toNatClampNeg
      omega
    have hr' : xRel G (fun i => if i = o then H.size else ad i) (nS h o (c, ix n)) H' := by
      refine xRel_new hr hf (by show c ≠ 0; omega) (by show ¬ xRo c; unfold xRo; omega) (Or.inr (Or.inl ?_)) o1 z1
      rw [gS_nS, if_pos rfl]
      refine ⟨hc1, by show ¬ xRo c; unfold xRo; omega, hN, ?_⟩
      show H'[if o = o then H.size else ad o]? = _
      rw [if_pos rfl, e1]
      congr 2
      funext j
      exact (hdf o j h _).symm
    have h5 := hK _ _ _ _ hs p e R s m args below meth cd ad0 ok0 C (fun i => if i = o then H.size else ad i) H' locs (cells + 1) (slots + ix n) ls d0 hd0 (by rw [xMapNewL hf hlo]; exact hl) hr'
      (fun i hi => ⟨xOk_new hf (hok i hi).1, by show (if i = o then H.size else ad i) = ad0 i; rw [if_neg (xOk_ne hf (hok i hi).1)]; exact (hok i hi).2⟩) hz (by show cells + 1 + (b.1 - 1) ≤ _; omega) (by show slots + ix n + (b.2 - ix n) ≤ _; omega)
      (ok_cons (v := .ref o) (Or.inl (by rw [gS_nS, if_pos rfl]; show c ≠ 0; omega)) (fun w hw => xOkV_new hf (ok_tl hst w hw))) (fun q hq => xOkV_new hf (hlo q hq))
    have e9 : (Value.ref o :: r).map (xCv (fun i => if i = o then H.size else ad i)) = .ref H.size :: r.map (xCv ad) := by
      rw [List.map_cons, xMapNew hf (ok_tl hst)]
      show Value.ref (if o = o then H.size else ad o) :: _ = _
      rw [if_pos rfl]
    rw [e9] at h5
    exact h5
  · exact hs.elim
theorem s_obj {idx : Nat} (hd : decode d.2.1 pc = .ok (.invokespecial idx, 3)) (h1 : 1 ≤ d.2.2.2.2.1) (hw1 : Cond.methodLink d.1.cls idx Lib.objectInit ∈ G.tb) (hw2 : Cond.instanceMethod Lib.objectInit ∈ G.tb) (hw3 : Cond.code Lib.objectInit ⟨#[0xb1]⟩ 1 none ∈ G.tb) : xSnd G d pc i_obj 3 := by
  intro P Q K hP hK l st h b hs
  unfold i_obj at hs
  split at hs
  · rename_i o r
    obtain ⟨hcat, hs⟩ := hs
    intro p e R s m args below meth cd ad0 ok0 C ad H locs cells slots ls d0 hd0 hl hr hok hz hcc hsl hst hlo
    have hts := dr_words C.2.2.2.2.2.2.1 d0
    have h5 := hK _ _ _ _ hs p e R s m args below meth cd ad0 ok0 C ad H locs cells slots ls d0 hd0 hl hr hok hz hcc hsl (ok_tl hst) hlo
    have hcat9 : ((r.map (xCv ad)).map fun v => v.category).sum ≤ 8 := by
      rw [List.map_map]
      have : (r.map ((fun v => v.category) ∘ xCv ad)) = r.map fun v => v.category := List.map_congr_left fun v _ => xCv_cat ad v
      rw [this]
      exact hcat
    have hfr := C.2.2.2.2.2.2.2.1
    have hlo9 := C.2.2.2.2.2.2.2.2.1
    exact W.objInit (own := d.1.cls) (l := G.l) (e := e) (R := R) (s := s.setDrawn d0) (args := args) (below := below) (meth := meth) (locs := locs) (cells := cells) (slots := slots) (Q := xMQ below (xRT G ad0 ok0 Q) (xTH G ad0 ok0 Q) s R.cells R.slots (fun q => G.B0 ≤ q)) (a := ad o) (rest := r.map (xCv ad)) (g := F0 m pc ls (.ref (ad o) :: r.map (xCv ad))) C.1 C.2.1 C.2.2.2.2.2.1 (hts _ hw1) (hts _ hw2) (hts _ hw3) rfl (hl.1.trans C.2.2.1.symm) rfl hd (by omega) (by
      show 2 * 0 + _ + 12 ≤ R.locals
      omega) h5
  · exact hs.elim
/-- a return -/
theorem x_end {l : xL} {st : List Value} {h : xH} {b : Nat × Nat} {Q : xQ} {r : Option Value} (hq : Q (.ok r) h b) (hst9 : st = r.toList)
    (row : ∀ {p : Program} {e : Env} {R : Room} {s : State} {m : MethodId} {args : Array Value} {below : List Frame} {meth : Method} {c : Code} {H : Heap} {locs : List Loc} {cells slots : Nat} {ls : Array Slot} {ad : Nat → Nat} {Qc : Array Value → State → Outcome → State → Prop} {free : Addr → Prop},
      p.tables.exec = Jvm.exec → c.code = d.2.1 → meth.sig.returnType = d.2.2.2.1 → meth.locks = false → (∀ t : State, t.heap = H → s.WarmedH t.vm → Qc args s (.returned (r.map (xCv ad))) t) → (∀ q ∈ locs, free q.base) → W p G.l e R s m args below meth c H locs cells slots (MQ below Qc args s cells slots free) (F0 m pc ls ((r.map (xCv ad)).toList))) : xOKat G d pc l st h b Q := by
  intro p e R s m args below meth cd ad0 ok0 C ad H locs cells slots ls d0 hd0 hl hr hok hz hcc hsl hst hlo
  subst hst9
  have k := row (e := e) (R := R) (s := s.setDrawn d0) (m := m) (args := args) (below := below) (H := H) (locs := locs) (cells := cells) (slots := slots) (ls := ls) (ad := ad) (Qc := fun _ _ o t => ∃ v, o = .returned v ∧ xRT G ad0 ok0 Q v t.heap) (free := fun q => G.B0 ≤ q) C.1 C.2.1 C.2.2.2.1 C.2.2.2.2.1
    (fun t ht _ => ⟨_, rfl, by rw [ht]; exact ⟨ad, h, r, b, hq, rfl, fun w hw => hst w (by rw [hw]; exact List.mem_cons_self), hr, hok⟩⟩) hz
  have e9 : (r.map (xCv ad)).toList = r.toList.map (xCv ad) := by cases r <;> rfl
  rw [e9] at k
  exact x_ret (s := s) hd0 (by omega) (by omega) k
theorem s_ret (hd : decode d.2.1 pc = .ok (.return_, 1)) (hr : d.2.2.2.1 = none) : xSnd G d pc i_ret 1 := by
  intro P Q K hP hK l st h b hs
  unfold i_ret at hs
  split at hs
  · exact x_end (r := none) hs rfl (fun h1 h2 h3 h4 h5 h6 => W.vret h1 h2 (h3.trans hr) h5 h6 hd h4)
  · exact hs.elim
theorem s_iret (hd : decode d.2.1 pc = .ok (.ireturn, 1)) (hr : d.2.2.2.1 = some .int) : xSnd G d pc i_iret 1 := by
  intro P Q K hP hK l st h b hs
  unfold i_iret at hs
  split at hs
  · exact x_end (r := some (.int _)) hs rfl (fun h1 h2 h3 h4 h5 h6 => W.iret h1 h2 (h3.trans hr) h5 h6 hd h4)
  · exact hs.elim
theorem s_zret (hd : decode d.2.1 pc = .ok (.ireturn, 1)) (hr : d.2.2.2.1 = some .boolean) : xSnd G d pc i_zret 1 := by
  intro P Q K hP hK l st h b hs
  unfold i_zret at hs
  split at hs
  · obtain ⟨hv, hs⟩ := hs
    exact x_end (r := some (.int _)) hs rfl (fun h1 h2 h3 h4 h5 h6 => W.zret h1 h2 (h3.trans hr) (by rcases hv with rfl | rfl <;> rfl) h5 h6 hd h4)
  · exact hs.elim
/-- byte, char, short -/
def i_nret (ty : FieldType) : xSem := fun _ Q _ _ st h b => match st with
  | [.int v] => narrow ty (.int v) = .int v ∧ Q (.ok (some (.int v))) h b
  | _ => False
theorem s_nret {ty : FieldType} (hd : decode d.2.1 pc = .ok (.ireturn, 1)) (hr : d.2.2.2.1 = some ty) : xSnd G d pc (i_nret ty) 1 := by
  intro P Q K hP hK l st h b hs
  unfold i_nret at hs
  split at hs
  · obtain ⟨hv, hs⟩ := hs
    exact x_end (r := some (.int _)) hs rfl (fun h1 h2 h3 h4 h5 h6 => W.zret h1 h2 (h3.trans hr) hv h5 h6 hd h4)
  · exact hs.elim
theorem s_lret (hd : decode d.2.1 pc = .ok (.lreturn, 1)) (hr : d.2.2.2.1 = some .long) : xSnd G d pc i_lret 1 := by
  intro P Q K hP hK l st h b hs
  unfold i_lret at hs
  split at hs
  · exact x_end (r := some (.long _)) hs rfl (fun h1 h2 h3 h4 h5 h6 => W.lret h1 h2 (h3.trans hr) h5 h6 hd h4)
  · exact hs.elim
theorem s_fret (hd : decode d.2.1 pc = .ok (.freturn, 1)) (hr : d.2.2.2.1 = some .float) : xSnd G d pc i_fret 1 := by
  intro P Q K hP hK l st h b hs
  unfold i_fret at hs
  split at hs
  · exact x_end (r := some (.float _)) hs rfl (fun h1 h2 h3 h4 h5 h6 => W.fret h1 h2 (h3.trans hr) h5 h6 hd h4)
  · exact hs.elim
theorem s_dret (hd : decode d.2.1 pc = .ok (.dreturn, 1)) (hr : d.2.2.2.1 = some .double) : xSnd G d pc i_dret 1 := by
  intro P Q K hP hK l st h b hs
  unfold i_dret at hs
  split at hs
  · exact x_end (r := some (.double _)) hs rfl (fun h1 h2 h3 h4 h5 h6 => W.dret h1 h2 (h3.trans hr) h5 h6 hd h4)
  · exact hs.elim
theorem s_aret {cn : String} (hd : decode d.2.1 pc = .ok (.areturn, 1)) (hr : d.2.2.2.1 = some (.object cn)) : xSnd G d pc i_aret 1 := by
  intro P Q K hP hK l st h b hs
  unfold i_aret at hs
  split at hs
  · exact x_end (r := some (.ref _)) hs rfl (fun h1 h2 h3 h4 h5 h6 => W.aret h1 h2 (h3.trans hr) (Or.inl ⟨cn, rfl⟩) (Or.inr ⟨_, rfl⟩) h5 h6 hd h4)
  · exact hs.elim
end XN
/-! ===== calls ===== -/
section XV
variable {G : xGt}
theorem xArgs_map (ad : Nat → Nat) : ∀ (vs : List Value) (i : Nat), (lv_args i vs).map (xCvL ad) = lv_args i (vs.map (xCv ad))
  | [], _ => rfl
  | v :: r, i => by
    show (i, xCv ad v) :: (lv_args _ r).map (xCvL ad) = (i, xCv ad v) :: lv_args _ (r.map (xCv ad))
    rw [xArgs_map ad r, xCv_cat]
theorem xArgs_ok {h : xH} : ∀ {vs : List Value} {i : Nat}, (∀ v ∈ vs, xOkV h v) → ∀ q ∈ lv_args i vs, xOkV h q.2
  | [], _, _, q, hq => by cases hq
  | v :: r, i, hv, q, hq => by
    rcases List.mem_cons.mp hq with rfl | hq
    · exact hv v List.mem_cons_self
    · exact xArgs_ok (fun w hw => hv w (List.mem_cons_of_mem _ hw)) q hq
theorem xSl_len : ∀ vs : List Value, (lg_sl vs).length = xCat vs
  | [] => rfl
  | v :: r => by
    have ih := xSl_len r
    have e : xCat (v :: r) = v.category + xCat r := by simp [xCat]
    rw [e, ← ih]
    rcases lv_cat v with hc | hc <;> simp [lg_sl, hc] <;> omega
theorem xCat_map (ad : Nat → Nat) (vs : List Value) : xCat (vs.map (xCv ad)) = xCat vs := by
  unfold xCat
  rw [List.map_map]
  congr 1
  exact List.map_congr_left fun v _ => xCv_cat ad v
def xRoom (d : xDt) (mc ms : Nat) : Room := { frames := d.2.2.2.2.1, cells := mc, slots := ms, locals := 100 * d.2.2.2.2.1 }
def xPc (G : xGt) (ad : Nat → Nat) (h : xH) (args : List Value) : Array Value → State → Prop := fun a U => a = (args.map (xCv ad)).toArray ∧ xRel G ad h U.heap ∧ xKs G U
theorem xPc_blind {ad : Nat → Nat} {h : xH} {args : List Value} : FrameBlind (xPc G ad h args) := fun a U g mk q => ⟨q.1, q.2.1, xKs_same (u := U) (U := U.calling g mk a) rfl q.2.2⟩
/-- a method's contract out of its plain run -/
theorem x_met {d : xDt} {ad : Nat → Nat} {h : xH} {args : List Value} {mc ms : Nat} {Q : xQ} (hk : xOKat G d 0 (lv_args 0 args) [] h (mc, ms) Q) (hy : plainName d.1.cls = true) (hst : G.l.stackTraces = false) (hv : ∀ v ∈ args, xOkV h v) (hm : xCat args ≤ d.2.2.1) :
    xMet G.l d.1 (xCode d :: G.tb) (xRoom d mc ms) (xPc G ad h args) (xRT G ad (xOk h) Q) (xTH G ad (xOk h) Q) mc ms (fun q => G.B0 ≤ q) := by
  have body : ∀ p e s m args9 below meth c s₁, BodyLoose p G.l d.1 (headSpec (xCode d :: G.tb) (xRoom d mc ms)) d.2.1 d.2.2.1 d.2.2.2.1 e s m args9 below meth c s₁ → c.maxLocals = d.2.2.1 → c.exceptionTable.toList = tableOf d.2.2.2.2.2 → xPc G ad h args args9 s →
      W p G.l e (headSpec (xCode d :: G.tb) (xRoom d mc ms)).room (s.setDrawn s.drawn) m args9 below meth c s.heap [] 0 0 (xMQ below (xRT G ad (xOk h) Q) (xTH G ad (xOk h) Q) s mc ms (fun q => G.B0 ≤ q)) (entryFrame m args9 d.2.2.1) := by
    intro p e s m args9 below meth c s₁ B hml htab hpc
    obtain ⟨rfl, hrel, hks⟩ := hpc
    have hpre := atoms_spec (ws := xCode d :: G.tb) B.pre
    have C : xCx G d p (xRoom d mc ms) s m (args.map (xCv ad)).toArray meth c := ⟨B.exec, B.bytes, hml, B.returns, B.notSynchronized, findClass_of_methodNamed B.named, fun w hw => hpre w (List.mem_cons_of_mem _ hw), Nat.le_refl _, Nat.le_refl _, (name_of_methodNamed B.named B.method).1, hks, htab, hst, hrel.2.2.2.1, hrel.2.2.2.2.1⟩
    have hl := lv_entry (args.map (xCv ad)) (n := d.2.2.1) (by rw [xSl_len, xCat_map]; exact hm)
    rw [← xArgs_map] at hl
    rw [lg_entry_eq]
    exact hk p e (xRoom d mc ms) s m _ below meth c ad (xOk h) C ad s.heap [] 0 0 _ s.drawn (Drawn.sameBut.refl _ _) hl hrel (fun i hi => ⟨hi, rfl⟩) (fun z hz => by cases hz) (by show 0 + mc ≤ mc; omega) (by show 0 + ms ≤ ms; omega) (fun v hv => by cases hv) (xArgs_ok hv)
  by_cases hE : d.2.2.2.2.2 = []
  · have hc : xCode d = Cond.code d.1 d.2.1 d.2.2.1 d.2.2.2.1 := if_pos hE
    refine MetFree.of_bodyS (code := d.2.1) (maxLocals := d.2.2.1) (ret := d.2.2.2.1) hy ?_ ?_
    · intro a9 s m h9 hn
      obtain ⟨meth, c, h1, h2, h3, h4, h5, h6, -, -⟩ := Cond.code_spec hn (hc ▸ atoms_spec (ws := xCode d :: G.tb) h9 _ List.mem_cons_self)
      exact ⟨meth, c, h1, h2, h3, h4, h5, h6⟩
    · intro p e s m a9 below meth c s₁ B hml hP _
      have hh0 : s₁.heap = s.heap := by rw [B.state]; rfl
      have ht : c.exceptionTable.toList = tableOf d.2.2.2.2.2 := by
        obtain ⟨meth9, c9, h1, h2, -, -, -, -, h7, -⟩ := Cond.code_spec B.named (hc ▸ atoms_spec (ws := xCode d :: G.tb) B.pre _ List.mem_cons_self)
        cases Option.some.inj (h1.symm.trans B.method)
        cases Option.some.inj (h2.symm.trans (Stand.of_body B).code)
        rw [hE, Array.isEmpty_iff.mp h7]
        rfl
      have X0 : Stand p G.l e (headSpec (xCode d :: G.tb) (xRoom d mc ms)).room (s.setDrawn s.drawn) m a9 below meth c s₁ [] 0 0 := Stand.of_body B
      obtain ⟨t, a1, o, b1, b2, d9, hd9, b3⟩ := body p e s m a9 below meth c s₁ B hml ht hP s₁ hh0 X0
      exact ⟨t, o, a1, b1, b2, d9, hd9, b3⟩
  · have hc : xCode d = Cond.codeWith d.1 d.2.1 d.2.2.1 d.2.2.2.1 d.2.2.2.2.2 := if_neg hE
    refine MetFree.of_bodyS (code := d.2.1) (maxLocals := d.2.2.1) (ret := d.2.2.2.1) hy ?_ ?_
    · intro a9 s m h9 hn
      obtain ⟨m9, meth, c, hn9, h1, h2, h3, h4, -, h5, h6, -⟩ := Cond.codeWith_spec (hc ▸ atoms_spec (ws := xCode d :: G.tb) h9 _ List.mem_cons_self)
      cases hn.symm.trans hn9
      exact ⟨meth, c, h1, h2, h3, h4, h5, h6⟩
    · intro p e s m a9 below meth c s₁ B hml hP _
      have hh0 : s₁.heap = s.heap := by rw [B.state]; rfl
      have ht : c.exceptionTable.toList = tableOf d.2.2.2.2.2 := vx_table (x := d.1) B (hc ▸ atoms_spec (ws := xCode d :: G.tb) B.pre _ List.mem_cons_self)
      have X0 : Stand p G.l e (headSpec (xCode d :: G.tb) (xRoom d mc ms)).room (s.setDrawn s.drawn) m a9 below meth c s₁ [] 0 0 := Stand.of_body B
      obtain ⟨t, a1, o, b1, b2, d9, hd9, b3⟩ := body p e s m a9 below meth c s₁ B hml ht hP s₁ hh0 X0
      exact ⟨t, o, a1, b1, b2, d9, hd9, b3⟩
/-- the words are good ones -/
theorem x_ncB {a : Array Value} {C T : String} {U : State} (h : va_Nc C T U) : (Cond.not (.castable C T)).before a U = true := by
  obtain ⟨c, t, h1, h2, h3⟩ := h
  simp [Cond.before, Cond.holds, Cond.value, h1, h2, h3]
def xKw : Cond → Bool
  | .castable _ _ => true
  | .methodLinkNest _ _ _ _ => true
  | .declares _ => true
  | .not (.castable _ _) => true
  | w => goodWord w
theorem xKw_at {args a' : Array Value} {s U : State} (hW : s.WarmedH U.vm) {w : Cond} (hg : xKw w = true) (h : w.before args s = true) : w.before a' U = true := by
  unfold xKw at hg
  split at hg
  · exact va_Nw.use rfl (va_Nw.warmC hW (va_Nw.of rfl h))
  · exact va_Nw.use rfl (va_Nw.warmM hW (va_Nw.of rfl h))
  · exact Cond.onTables_atFace hW (Cond.declares_passes _) h
  · exact x_ncB (va_Nc.moved hW.alike (va_Nc.of h))
  · exact word_at hW (good_of_word hg) h
def xGood (G : xGt) : Prop := ∀ w ∈ G.tb, xKw w = true
variable {d : xDt} {pc : Nat}
/-- what a call of z in d wants of the tables -/
def xCallOk (G : xGt) (d dz : xDt) (n m : Nat) : Prop := xGood G ∧ xCode dz ∈ G.tb ∧ True ∧ Cond.initialized dz.1.cls ∈ G.tb ∧ plainName dz.1.cls = true ∧ (dz.1.cls ≠ "java/lang/invoke/MethodHandle" ∧ dz.1.cls ≠ "java/lang/invoke/VarHandle") ∧
  dz.2.2.2.2.1 + 1 ≤ d.2.2.2.2.1 ∧ dz.2.2.1 + 19 ≤ 100 ∧ m ≤ dz.2.2.1 ∧ ∀ sig, parseMethodDescriptor dz.1.desc = some sig → n = sig.parameters.length
theorem xCk_spec {n m : Nat} {st : List Value} (h : xCk n m st = true) : n ≤ st.length ∧ xCat (st.drop n) ≤ 8 ∧ xCat (st.take n) ≤ m := by
  simp only [xCk, Bool.and_eq_true, decide_eq_true_eq] at h
  exact ⟨h.1.1, h.1.2, h.2⟩
theorem xCat_rev (st : List Value) : xCat st.reverse = xCat st := by
  unfold xCat
  rw [List.map_reverse, List.sum_reverse]
/-- behind a call -/
theorem x_backto {l : xL} {rest : List Value} {h : xH} {b b' : Nat × Nat} {Q : xQ} {K : xK} (hK : ∀ l st h b, K l st h b → xOKat G d (pc + 3) l st h b Q)
    {p : Program} {e : Env} {R : Room} {s : State} {m : MethodId} {args : Array Value} {below : List Frame} {meth : Method} {c : Code} {ad0 : Nat → Nat} {ok0 : Nat → Prop} (C : xCx G d p R s m args meth c)
    {ad : Nat → Nat} {locs : List Loc} {cells slots mc ms : Nat} {ls : Array Slot} {d1 : Drawn} (hd1 : s.drawn.sameBut d1 lw_cs) (hl : lv_has ls d.2.2.1 (l.map (xCvL ad))) (hok : ∀ i, ok0 i → xOk h i ∧ ad i = ad0 i) (hz : ∀ z ∈ locs, G.B0 ≤ z.base)
    (hc : cells + mc + b'.1 ≤ R.cells) (hs : slots + ms + b'.2 ≤ R.slots) (hst : ∀ v ∈ rest, xOkV h v) (hlo : ∀ q ∈ l, xOkV h q.2) {H1 : Heap} {L : List Loc} (hL : ∀ q ∈ L, G.B0 ≤ q.base) {v : Option Value} (hrt : xRT G ad (xOk h) (xTo Q K l rest b') v H1) :
    W p G.l e R (s.setDrawn d1) m args below meth c H1 (locs ++ L) (cells + mc) (slots + ms) (xMQ below (xRT G ad0 ok0 Q) (xTH G ad0 ok0 Q) s R.cells R.slots (fun q => G.B0 ≤ q)) (F0 m (pc + 3) ls (v.toList ++ rest.map (xCv ad))) := by
  obtain ⟨ad', h', r, b9, hq, rfl, hro, hr', hok'⟩ := hrt
  have hkeep : ∀ w, xOkV h w → xCv ad' w = xCv ad w ∧ xOkV h' w := fun w hw => by
    cases w with
    | ref i => exact ⟨by show Value.ref (ad' i) = Value.ref (ad i); rw [(hok' i hw).2], (hok' i hw).1⟩
    | _ => exact ⟨rfl, trivial⟩
  have hm : l.map (xCvL ad') = l.map (xCvL ad) := List.map_congr_left fun q hq => by
    show (q.1, xCv ad' q.2) = (q.1, xCv ad q.2)
    rw [(hkeep q.2 (hlo q hq)).1]
  have hr9 : rest.map (xCv ad') = rest.map (xCv ad) := List.map_congr_left fun w hw => (hkeep w (hst w hw)).1
  have h5 := hK l (r.toList ++ rest) h' b' hq p e R s m args below meth c ad0 ok0 C ad' H1 (locs ++ L) (cells + mc) (slots + ms) ls d1 hd1 (by rw [hm]; exact hl) hr'
    (fun i hi => ⟨(hok' i (hok i hi).1).1, (hok' i (hok i hi).1).2.trans (hok i hi).2⟩) (fun z hzz => (List.mem_append.mp hzz).elim (hz z) (hL z)) hc hs
    (fun w hw => (List.mem_append.mp hw).elim (fun z => hro w (by cases r <;> simp_all)) (fun z => (hkeep w (hst w z)).2)) (fun q hq => (hkeep q.2 (hlo q hq)).2)
  have e9 : (r.toList ++ rest).map (xCv ad') = (r.map (xCv ad')).toList ++ rest.map (xCv ad) := by
    rw [List.map_append, hr9]
    cases r <;> rfl
  rw [e9] at h5
  exact h5
/-- behind a throw in a call that is not caught here -/
theorem x_outto {l : xL} {rest : List Value} {h : xH} {b' : Nat × Nat} {Q : xQ} {K : xK} (hE : d.2.2.2.2.2 = [])
    {p : Program} {e : Env} {R : Room} {s : State} {m : MethodId} {args : Array Value} {below : List Frame} {meth : Method} {c : Code} {ad0 : Nat → Nat} {ok0 : Nat → Prop} (C : xCx G d p R s m args meth c)
    {ad : Nat → Nat} {locs : List Loc} {cells slots mc ms : Nat} {ls : Array Slot} {d1 : Drawn} (hd1 : s.drawn.sameBut d1 lw_cs) (hok : ∀ i, ok0 i → xOk h i ∧ ad i = ad0 i) (hz : ∀ z ∈ locs, G.B0 ≤ z.base)
    (hc : cells + mc ≤ R.cells) (hs : slots + ms ≤ R.slots) {H1 : Heap} {L : List Loc} (hL : ∀ q ∈ L, G.B0 ≤ q.base) {E : String} {ce : Cell} {q : Addr} (hcell : H1[q]? = some ce) (hv : ce.vm = .none) (hcl : s.vm.findClass E = some ce.cls) (hth : xTH G ad (xOk h) (xTo Q K l rest b') E H1) {st9 : List Value} :
    vx_W p G.l e R (s.setDrawn d1) m args below meth c H1 (locs ++ L) (cells + mc) (slots + ms) (xMQ below (xRT G ad0 ok0 Q) (xTH G ad0 ok0 Q) s R.cells R.slots (fun q => G.B0 ≤ q)) (F0 m pc ls st9) q := by
  obtain ⟨ad', h', b9, hq, hr', hok'⟩ := hth
  have htab : c.exceptionTable.toList = [] := by
    have := C.2.2.2.2.2.2.2.2.2.2.2.1
    rw [hE] at this
    exact this
  refine x_out (s := s) hd1 (fun x hx => by rw [htab] at hx; cases hx) C.2.2.2.2.1 hcell hv hcl ?_ (fun z hzz => (List.mem_append.mp hzz).elim (hz z) (hL z)) hc hs
  exact ⟨ad', h', b', hq, hr', fun i hi => ⟨(hok' i (hok i hi).1).1, (hok' i (hok i hi).1).2.trans (hok i hi).2⟩⟩
theorem x_cb {dz : xDt} {n m9 : Nat} (ho : xCallOk G d dz n m9) {h : xH} {args9 : List Value} {mc ms : Nat} {Q' : xQ} (hk : xOKat G dz 0 (lv_args 0 args9) [] h (mc, ms) Q') (hv : ∀ v ∈ args9, xOkV h v) (hm : xCat args9 ≤ m9)
    {p : Program} {R : Room} {s : State} {m : MethodId} {args : Array Value} {meth : Method} {c : Code} (C : xCx G d p R s m args meth c) {ad : Nat → Nat} (d1 : Drawn) :
    xCB G.l R (s.setDrawn d1) args dz.1 dz.2.1 dz.2.2.1 dz.2.2.2.1 dz.2.2.2.2.2 (xCode dz :: G.tb) (xRoom dz mc ms) (xPc G ad h args9) (xRT G ad (xOk h) Q') (xTH G ad (xOk h) Q') mc ms (fun q => G.B0 ≤ q) := by
  obtain ⟨hg, hcd, -, hini, hpl, hne, hdp, hml, hmm, -⟩ := ho
  have hts := dr_words C.2.2.2.2.2.2.1 d1
  have hall : ∀ w ∈ G.tb, ∀ (a' : Array Value) (U : State), (s.setDrawn d1).WarmedH U.vm → w.before a' U = true := fun w hw a' U hW => xKw_at hW (hg w hw) (hts w hw)
  have hfr := C.2.2.2.2.2.2.2.1
  have hlo := C.2.2.2.2.2.2.2.2.1
  refine ⟨x_met hk hpl C.2.2.2.2.2.2.2.2.2.2.2.2.1 hv (by omega), xPc_blind, rfl, rfl, ?_, ?_, fun w hw a' U hW => ?_, ?_, fun a' U hW => hall _ hini a' U hW, ?_, hne⟩
  · show dz.2.2.2.2.1 + 1 ≤ R.frames
    omega
  · show 8 + (dz.2.2.1 + 11) + 100 * dz.2.2.2.2.1 ≤ R.locals
    omega
  · rcases List.mem_cons.mp hw with rfl | hw
    · exact hall _ hcd a' U hW
    · exact hall w hw a' U hW
  · exact List.mem_cons_self
  · exact hts _ hcd
theorem x_split {n m : Nat} {st : List Value} {ad : Nat → Nat} (h : xCk n m st = true) : st.map (xCv ad) = ((st.take n).reverse.map (xCv ad)).reverse ++ (st.drop n).map (xCv ad) := by
  rw [← List.map_reverse, List.reverse_reverse, ← List.map_append, List.take_append_drop]
theorem x_len {n m : Nat} {st : List Value} (h : xCk n m st = true) : (st.take n).reverse.length = n := by
  rw [List.length_reverse, List.length_take]
  have := (xCk_spec h).1
  omega
theorem ok_take {h : xH} {n : Nat} {st : List Value} (hs : ∀ v ∈ st, xOkV h v) : ∀ v ∈ (st.take n).reverse, xOkV h v := fun v hv => hs v (List.mem_of_mem_take (List.mem_reverse.mp hv))
theorem ok_drop {h : xH} {n : Nat} {st : List Value} (hs : ∀ v ∈ st, xOkV h v) : ∀ v ∈ st.drop n, xOkV h v := fun v hv => hs v (List.mem_of_mem_drop hv)
theorem s_invSG {z n m9 idx : Nat} {dz : xDt} {host : String} (hz9 : G.dat z = dz) (ho : xCallOk G d dz n m9) (hE : d.2.2.2.2.2 = []) (hw1 : Cond.methodLink d.1.cls idx dz.1 ∈ G.tb ∨ Cond.methodLinkNest d.1.cls idx dz.1 host ∈ G.tb) (hw2 : Cond.static dz.1 ∈ G.tb) (hd : decode d.2.1 pc = .ok (.invokestatic idx, 3)) : xSnd G d pc (i_invSA z n m9) 3 := by
  intro P Q K hP hK l st h b hs
  obtain ⟨hck, mc, ms, hb1, hb2, hs⟩ := hs
  have hk := hP _ _ _ _ _ _ _ hs
  rw [hz9] at hk
  intro p e R s m args below meth c ad0 ok0 C ad H locs cells slots ls d0 hd0 hl hr hok hz hcc hsl hst hlo
  have hts := dr_words C.2.2.2.2.2.2.1 d0
  obtain ⟨-, hrest, harg⟩ := xCk_spec hck
  have cb := x_cb ho hk (ok_take hst) (by rw [xCat_rev]; exact harg) C (ad := ad) d0
  refine x_callS (l := G.l) (e := e) (R := R) (s := s.setDrawn d0) (args := args) (below := below) (meth := meth) (H := H) (locs := locs) (Q := xMQ below (xRT G ad0 ok0 Q) (xTH G ad0 ok0 Q) s R.cells R.slots (fun q => G.B0 ≤ q)) (mc := mc) (ms := ms) (cells := cells) (slots := slots) (As := (st.take n).reverse.map (xCv ad)) (rest := (st.drop n).map (xCv ad)) C.1 C.2.1 (hl.1.trans C.2.2.1.symm) C.2.2.2.2.2.1 (hw1.elim (fun h => Or.inl (hts _ h)) (fun h => Or.inr (hts _ h))) (hts _ hw2) cb
    (fun sig hsig => by rw [List.length_map, x_len hck]; exact ho.2.2.2.2.2.2.2.2.2 sig hsig) (by have := xCat_map ad (st.drop n); unfold xCat at this hrest; rw [this]; exact hrest) hd ⟨by omega, by omega⟩
    (fun U hU hW => ⟨rfl, by rw [hU]; exact hr, xKs_warm hW (xKs_same (u := s) rfl C.2.2.2.2.2.2.2.2.2.2.1)⟩) ?_ ?_ (x_split hck)
  · intro d1 H1 L v hd1 hL hrt
    exact x_backto (b := b) hK C (Drawn.sameBut.trans hd0 hd1) hl hok hz (by show cells + mc + (b.1 - mc) ≤ _; omega) (by show slots + ms + (b.2 - ms) ≤ _; omega) (ok_drop hst) hlo hL hrt
  · intro d1 H1 L q E ce hd1 hL hth hcell hv hcl
    exact x_outto hE C (Drawn.sameBut.trans hd0 hd1) hok hz (by omega) (by omega) hL hcell hv hcl hth
theorem s_invIG {z n m9 idx : Nat} {dz : xDt} {host : String} (hz9 : G.dat z = dz) (ho : xCallOk G d dz n m9) (hE : d.2.2.2.2.2 = []) (hz0 : dz.2.2.2.2.2 = []) (hini : dz.1.name = "<init>") (hret : dz.2.2.2.1 = none) (hw1 : Cond.methodLink d.1.cls idx dz.1 ∈ G.tb ∨ Cond.methodLinkNest d.1.cls idx dz.1 host ∈ G.tb) (hw2 : Cond.instanceMethod dz.1 ∈ G.tb) (hd : decode d.2.1 pc = .ok (.invokespecial idx, 3)) {c9 : Nat} : xSnd G d pc (i_invVA c9 z (n + 1) m9) 3 := by
  intro P Q K hP hK l st h b hs
  obtain ⟨hck, hrc, mc, ms, hb1, hb2, hs⟩ := hs
  have hk := hP _ _ _ _ _ _ _ hs
  rw [hz9] at hk
  intro p e R s m args below meth c ad0 ok0 C ad H locs cells slots ls d0 hd0 hl hr hok hz hcc hsl hst hlo
  have hts := dr_words C.2.2.2.2.2.2.1 d0
  obtain ⟨-, hrest, harg⟩ := xCk_spec hck
  have cb := x_cb ho hk (ok_take hst) (by rw [xCat_rev]; exact harg) C (ad := ad) d0
  have hlen := x_len hck
  have hsp := x_split (ad := ad) hck
  cases hT : (st.take (n + 1)).reverse with
  | nil => rw [hT] at hrc; exact hrc.elim
  | cons w As =>
    cases w with
    | ref o =>
      rw [hT] at cb hlen hsp
      rw [hret, hz0] at cb
      have hsp' : st.map (xCv ad) = (As.map (xCv ad)).reverse ++ .ref (ad o) :: (st.drop (n + 1)).map (xCv ad) := by
        rw [hsp, List.map_cons, List.reverse_cons, List.append_assoc]
        rfl
      refine x_callI (l := G.l) (e := e) (R := R) (s := s.setDrawn d0) (args := args) (below := below) (meth := meth) (H := H) (locs := locs) (Q := xMQ below (xRT G ad0 ok0 Q) (xTH G ad0 ok0 Q) s R.cells R.slots (fun q => G.B0 ≤ q)) (mc := mc) (ms := ms) (cells := cells) (slots := slots) (As := As.map (xCv ad)) (b := ad o) (rest := (st.drop (n + 1)).map (xCv ad)) C.1 C.2.1 (hl.1.trans C.2.2.1.symm) C.2.2.2.2.2.1 hini (hw1.elim (fun h => Or.inl (hts _ h)) (fun h => Or.inr (hts _ h))) (hts _ hw2) cb
        (fun sig hsig => by rw [List.length_map, ← ho.2.2.2.2.2.2.2.2.2 sig hsig]; simp only [List.length_cons] at hlen; omega) (by have := xCat_map ad (st.drop (n + 1)); unfold xCat at this hrest; rw [this]; exact hrest) hd ⟨by omega, by omega⟩
        (fun U hU hW => ⟨rfl, by rw [hU]; exact hr, xKs_warm hW (xKs_same (u := s) rfl C.2.2.2.2.2.2.2.2.2.2.1)⟩) ?_ ?_ hsp'
      · intro d1 H1 L v hd1 hL hrt
        exact x_backto (b := b) hK C (Drawn.sameBut.trans hd0 hd1) hl hok hz (by show cells + mc + (b.1 - mc) ≤ _; omega) (by show slots + ms + (b.2 - ms) ≤ _; omega) (ok_drop hst) hlo hL hrt
      · intro d1 H1 L q E ce hd1 hL hth hcell hv hcl
        exact x_outto hE C (Drawn.sameBut.trans hd0 hd1) hok hz (by omega) (by omega) hL hcell hv hcl hth
    | _ => rw [hT] at hrc; exact hrc.elim
theorem s_invVG {c9 z n m9 idx : Nat} {dz : xDt} (hz9 : G.dat z = dz) (ho : xCallOk G d dz n m9) (hE : d.2.2.2.2.2 = []) (hcl9 : xClsOk G c9) (hw1 : Cond.methodLink d.1.cls idx dz.1 ∈ G.tb) (hw2 : Cond.instanceMethod dz.1 ∈ G.tb) (hw3 : Cond.selects (G.cl c9).1 dz.1 dz.1 ∈ G.tb) (hd : decode d.2.1 pc = .ok (.invokevirtual idx, 3)) : xSnd G d pc (i_invVA c9 z (n + 1) m9) 3 := by
  intro P Q K hP hK l st h b hs
  obtain ⟨hck, hrc, mc, ms, hb1, hb2, hs⟩ := hs
  have hk := hP _ _ _ _ _ _ _ hs
  rw [hz9] at hk
  intro p e R s m args below meth c ad0 ok0 C ad H locs cells slots ls d0 hd0 hl hr hok hz hcc hsl hst hlo
  have hts := dr_words C.2.2.2.2.2.2.1 d0
  obtain ⟨-, hrest, harg⟩ := xCk_spec hck
  have cb := x_cb ho hk (ok_take hst) (by rw [xCat_rev]; exact harg) C (ad := ad) d0
  have hlen := x_len hck
  have hsp := x_split (ad := ad) hck
  cases hT : (st.take (n + 1)).reverse with
  | nil => rw [hT] at hrc; exact hrc.elim
  | cons w As =>
    cases w with
    | ref o =>
      rw [hT] at cb hlen hsp hrc
      obtain ⟨cell, q1, q2, q3, q5, q4⟩ := x_objR hr (show (gS h o).1 = c9 from hrc) hcl9
      have hsp' : st.map (xCv ad) = (As.map (xCv ad)).reverse ++ .ref (ad o) :: (st.drop (n + 1)).map (xCv ad) := by
        rw [hsp, List.map_cons, List.reverse_cons, List.append_assoc]
        rfl
      refine x_callV (l := G.l) (e := e) (R := R) (s := s.setDrawn d0) (args := args) (below := below) (meth := meth) (H := H) (locs := locs) (Q := xMQ below (xRT G ad0 ok0 Q) (xTH G ad0 ok0 Q) s R.cells R.slots (fun q => G.B0 ≤ q)) (mc := mc) (ms := ms) (cells := cells) (slots := slots) (C := (G.cl c9).1) (As := As.map (xCv ad)) (b := ad o) (rest := (st.drop (n + 1)).map (xCv ad)) C.1 C.2.1 (hl.1.trans C.2.2.1.symm) C.2.2.2.2.2.1 (hts _ hw1) (hts _ hw2) (hts _ hw3) cb q1 q3 (by rw [q2]; exact (C.2.2.2.2.2.2.2.2.2.2.1.1 c9 hcl9.1 hcl9.2.1).2.1)
        (fun sig hsig => by rw [List.length_map, ← ho.2.2.2.2.2.2.2.2.2 sig hsig]; simp only [List.length_cons] at hlen; omega) (by have := xCat_map ad (st.drop (n + 1)); unfold xCat at this hrest; rw [this]; exact hrest) hd ⟨by omega, by omega⟩
        (fun U hU hW => ⟨rfl, by rw [hU]; exact hr, xKs_warm hW (xKs_same (u := s) rfl C.2.2.2.2.2.2.2.2.2.2.1)⟩) ?_ ?_ hsp'
      · intro d1 H1 L v hd1 hL hrt
        exact x_backto (b := b) hK C (Drawn.sameBut.trans hd0 hd1) hl hok hz (by show cells + mc + (b.1 - mc) ≤ _; omega) (by show slots + ms + (b.2 - ms) ≤ _; omega) (ok_drop hst) hlo hL hrt
      · intro d1 H1 L q E ce hd1 hL hth hcell hv hcl
        exact x_outto hE C (Drawn.sameBut.trans hd0 hd1) hok hz (by omega) (by omega) hL hcell hv hcl hth
    | _ => rw [hT] at hrc; exact hrc.elim
theorem s_invUG {c9 z n m9 idx : Nat} {dz : xDt} (hz9 : G.dat z = dz) (ho : xCallOk G d dz n m9) (hE : d.2.2.2.2.2 = []) (hcl9 : xClsOk G c9) (hw1 : Cond.methodLink d.1.cls idx dz.1 ∈ G.tb) (hw4 : Cond.sameMethod dz.1.cls dz.1.cls dz.1.name dz.1.desc ∈ G.tb) (hw5 : Cond.superclass d.1.cls dz.1.cls ∈ G.tb) (hw2 : Cond.instanceMethod dz.1 ∈ G.tb) (hno : dz.1.name ≠ "<init>") (hd : decode d.2.1 pc = .ok (.invokespecial idx, 3)) : xSnd G d pc (i_invVA c9 z (n + 1) m9) 3 := by
  intro P Q K hP hK l st h b hs
  obtain ⟨hck, hrc, mc, ms, hb1, hb2, hs⟩ := hs
  have hk := hP _ _ _ _ _ _ _ hs
  rw [hz9] at hk
  intro p e R s m args below meth c ad0 ok0 C ad H locs cells slots ls d0 hd0 hl hr hok hz hcc hsl hst hlo
  have hts := dr_words C.2.2.2.2.2.2.1 d0
  obtain ⟨-, hrest, harg⟩ := xCk_spec hck
  have cb := x_cb ho hk (ok_take hst) (by rw [xCat_rev]; exact harg) C (ad := ad) d0
  have hlen := x_len hck
  have hsp := x_split (ad := ad) hck
  cases hT : (st.take (n + 1)).reverse with
  | nil => rw [hT] at hrc; exact hrc.elim
  | cons w As =>
    cases w with
    | ref o =>
      rw [hT] at cb hlen hsp hrc
      obtain ⟨cell, q1, q2, q3, q5, q4⟩ := x_objR hr (show (gS h o).1 = c9 from hrc) hcl9
      have hsp' : st.map (xCv ad) = (As.map (xCv ad)).reverse ++ .ref (ad o) :: (st.drop (n + 1)).map (xCv ad) := by
        rw [hsp, List.map_cons, List.reverse_cons, List.append_assoc]
        rfl
      obtain ⟨kB, hkB, -⟩ := (C.2.2.2.2.2.2.2.2.2.2.1.1 c9 hcl9.1 hcl9.2.1).2.2
      refine x_callSU (l := G.l) (e := e) (R := R) (s := s.setDrawn d0) (args := args) (below := below) (meth := meth) (H := H) (locs := locs) (Q := xMQ below (xRT G ad0 ok0 Q) (xTH G ad0 ok0 Q) s R.cells R.slots (fun q => G.B0 ≤ q)) (mc := mc) (ms := ms) (cells := cells) (slots := slots) (kB := kB) (As := As.map (xCv ad)) (b := ad o) (rest := (st.drop (n + 1)).map (xCv ad)) C.1 C.2.1 (hl.1.trans C.2.2.1.symm) C.2.2.2.2.2.1 (hts _ hw1) (hts _ hw4) (hts _ hw5) (hts _ hw2) hno cb q1 q3 (by rw [q2]; exact hkB)
        (fun sig hsig => by rw [List.length_map, ← ho.2.2.2.2.2.2.2.2.2 sig hsig]; simp only [List.length_cons] at hlen; omega) (by have := xCat_map ad (st.drop (n + 1)); unfold xCat at this hrest; rw [this]; exact hrest) hd ⟨by omega, by omega⟩
        (fun U hU hW => ⟨rfl, by rw [hU]; exact hr, xKs_warm hW (xKs_same (u := s) rfl C.2.2.2.2.2.2.2.2.2.2.1)⟩) ?_ ?_ hsp'
      · intro d1 H1 L v hd1 hL hrt
        exact x_backto (b := b) hK C (Drawn.sameBut.trans hd0 hd1) hl hok hz (by show cells + mc + (b.1 - mc) ≤ _; omega) (by show slots + ms + (b.2 - ms) ≤ _; omega) (ok_drop hst) hlo hL hrt
      · intro d1 H1 L q E ce hd1 hL hth hcell hv hcl
        exact x_outto hE C (Drawn.sameBut.trans hd0 hd1) hok hz (by omega) (by omega) hL hcell hv hcl hth
    | _ => rw [hT] at hrc; exact hrc.elim
/-- calls that make nothing -/
theorem s_invS0 {z n m9 : Nat} (hk : xSnd G d pc (i_invSA z n m9) 3) : xSnd G d pc (i_invS0 z n m9) 3 := fun P Q K hP hK l st h b hs => by
  refine hk P Q K hP hK l st h b ⟨hs.1, 0, 0, Nat.zero_le _, Nat.zero_le _, ?_⟩
  exact hs.2
theorem s_invV0 {c9 z n m9 : Nat} (hk : xSnd G d pc (i_invVA c9 z n m9) 3) : xSnd G d pc (i_invV0 c9 z n m9) 3 := fun P Q K hP hK l st h b hs => by
  refine hk P Q K hP hK l st h b ⟨hs.1, hs.2.1, 0, 0, Nat.zero_le _, Nat.zero_le _, ?_⟩
  exact hs.2.2
end XV
