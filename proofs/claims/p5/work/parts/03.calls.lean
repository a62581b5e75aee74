/-! ===== calls of such methods, goal first ===== -/
section XC
variable {p : Program} {l : Launch} {e : Env} {R : Room} {s : State} {m : MethodId} {args : Array Value} {below : List Frame} {meth : Method} {c : Code} {H : Heap} {locs : List Loc} {cells slots : Nat} {Q : State → Prop}
/-- what a call of y wants -/
def xCB (l : Launch) (R : Room) (s : State) (args : Array Value) (y : MethodName) (bytes : ByteArray) (maxL : Nat) (ret : Option FieldType) (hh : List (Nat × Nat × Nat × Nat)) (ws : List Cond) (rm : Room) (Pc : Array Value → State → Prop) (RT : Option Value → Heap → Prop) (TH : String → Heap → Prop) (mc ms : Nat) (free : Addr → Prop) : Prop :=
  xMet l y ws rm Pc RT TH mc ms free ∧ FrameBlind Pc ∧ rm.cells = mc ∧ rm.slots = ms ∧ rm.frames + 1 ≤ R.frames ∧ 8 + (maxL + 11) + rm.locals ≤ R.locals ∧
  (∀ w ∈ ws, ∀ (a' : Array Value) (U : State), s.WarmedH U.vm → w.before a' U = true) ∧ xCd y bytes maxL ret hh ∈ ws ∧ (∀ (a' : Array Value) (U : State), s.WarmedH U.vm → (Cond.initialized y.cls).before a' U = true) ∧
  (xCd y bytes maxL ret hh).before args s = true ∧ (y.cls ≠ "java/lang/invoke/MethodHandle" ∧ y.cls ≠ "java/lang/invoke/VarHandle")
variable {cc bytes : ByteArray} {maxL index n mc ms pc : Nat} {own C host : String} {y : MethodName} {ret : Option FieldType} {hh : List (Nat × Nat × Nat × Nat)} {ws : List Cond} {rm : Room} {Pc : Array Value → State → Prop} {RT : Option Value → Heap → Prop} {TH : String → Heap → Prop} {free : Addr → Prop}
  {b : Addr} {As rest : List Value} {ls : Array Slot}
theorem x_close {T : State} {A : State} {st9 : List Value}
    (h : xAfter l R p e below s m args meth c locs cells slots mc ms free RT TH A (F0 m pc ls st9) 3 rest)
    (hA : ∀ tg, Steps p.tables e below A tg → Steps p.tables e below T tg)
    (kr : ∀ (d : Drawn) (H1 : Heap) (L : List Loc) (v : Option Value), s.drawn.sameBut d lw_cs → (∀ q ∈ L, free q.base) → RT v H1 → W p l e R (s.setDrawn d) m args below meth c H1 (locs ++ L) (cells + mc) (slots + ms) Q (F0 m (pc + 3) ls (v.toList ++ rest)))
    (kt : ∀ (d : Drawn) (H1 : Heap) (L : List Loc) (q : Addr) (E : String) (ce : Cell), s.drawn.sameBut d lw_cs → (∀ q ∈ L, free q.base) → TH E H1 → H1[q]? = some ce → ce.vm = .none → s.vm.findClass E = some ce.cls → vx_W p l e R (s.setDrawn d) m args below meth c H1 (locs ++ L) (cells + mc) (slots + ms) Q (F0 m pc ls rest) q) :
    ∃ t, Steps p.tables e below T t ∧ Q t := by
  obtain ⟨d, B, L, hd, XB, hL, hc⟩ := h
  rcases hc with ⟨v, hrt, st⟩ | ⟨q, E, ce, h1, h2, h3, h4, st⟩
  · obtain ⟨t, a1, b1⟩ := kr d B.heap L v hd hL hrt B rfl XB
    exact ⟨t, hA _ (st _ a1), b1⟩
  · obtain ⟨t, a1, b1⟩ := kt d B.heap L q E ce hd hL h4 h1 h2 h3 B rfl XB
    exact ⟨t, hA _ (st.trans a1), b1⟩
theorem x_callV (hexec : p.tables.exec = Jvm.exec) (hb : c.code = cc) (hml : ls.size = c.maxLocals) (hown : s.vm.findClass own = some m.cls)
    (hlink : (Cond.methodLink own index y).before args s = true) (hinst : (Cond.instanceMethod y).before args s = true) (hsel : (Cond.selects C y y).before args s = true)
    (hK : xCB l R s args y bytes maxL ret hh ws rm Pc RT TH mc ms free)
    {cellB : Cell} (hcell : H[b]? = some cellB) (hobj : cellB.vm.isStatics = false) (hcls : s.vm.findClass C = some cellB.cls)
    (hlen : ∀ sig, parseMethodDescriptor y.desc = some sig → As.length = sig.parameters.length) (hW : (rest.map fun v => v.category).sum ≤ 8) (hdg : decode cc pc = .ok (.invokevirtual index, 3))
    (hf : cells + mc ≤ R.cells ∧ slots + ms ≤ R.slots) (hPc : ∀ U : State, U.heap = H → s.WarmedH U.vm → Pc (Value.ref b :: As).toArray U)
    (kr : ∀ (d : Drawn) (H1 : Heap) (L : List Loc) (v : Option Value), s.drawn.sameBut d lw_cs → (∀ q ∈ L, free q.base) → RT v H1 → W p l e R (s.setDrawn d) m args below meth c H1 (locs ++ L) (cells + mc) (slots + ms) Q (F0 m (pc + 3) ls (v.toList ++ rest)))
    (kt : ∀ (d : Drawn) (H1 : Heap) (L : List Loc) (q : Addr) (E : String) (ce : Cell), s.drawn.sameBut d lw_cs → (∀ q ∈ L, free q.base) → TH E H1 → H1[q]? = some ce → ce.vm = .none → s.vm.findClass E = some ce.cls → vx_W p l e R (s.setDrawn d) m args below meth c H1 (locs ++ L) (cells + mc) (slots + ms) Q (F0 m pc ls rest) q)
    {st0 : List Value} (hst : st0 = As.reverse ++ .ref b :: rest) :
    W p l e R s m args below meth c H locs cells slots Q (F0 m pc ls st0) := by
  subst hst
  intro T hT X
  subst hb
  obtain ⟨hM, hbl, hrc, hrs, hfr, hlo, hws, hcw, hini, hcode, hy⟩ := hK
  obtain ⟨mk, methM, hnamed, hmethM, hstM, habM⟩ := Cond.instanceMethod_spec hinst
  obtain ⟨mk9, methM', cM, hn9, hmethM', -, -, hsigM⟩ := xCd_spec hcode
  cases hnamed.symm.trans hn9
  cases hmethM.symm.trans hmethM'
  obtain ⟨c2, r2, m2, q1, q2, q3, q4, kP, hkP, hkPi⟩ := Cond.selects_spec hsel
  cases hcls.symm.trans q1
  cases (State.methodFound?_of_named hnamed hy).symm.trans q2
  cases hnamed.symm.trans q3
  have hselP : selectMethod e.platform s.vm cellB.cls mk = .method mk := by rw [Launch.admits_selectMethod X.admits]; exact q4
  obtain ⟨vm₁, X₁, hstep₁⟩ := X.invokevirtual hexec hown hlink hnamed hmethM hstM hkP hkPi hy (a := b) (cell := cellB) (by rw [hT]; exact hcell)
    (fun z h => by rw [h] at hobj; cases hobj) hselP hmethM habM hkP hkPi (g := F0 m pc ls (As.reverse ++ .ref b :: rest)) rfl (argsL := As) (rest := rest) (hlen _ hsigM) rfl hdg
  have hA := x_back (g := F0 m pc ls rest) (W9 := 8) (a := (Value.ref b :: As).toArray) hM hbl hrc hrs hfr hlo hws hcw hini X₁ rfl hml hdg (by simpa [JFrame.monitorRoom] using hW) (X₁.named hnamed) hf (hPc (T.setVm vm₁) hT X₁.warmed)
  exact x_close hA (fun tg h => hstep₁ _ fun acts => by rw [doInvoke_state]; exact h) kr kt
theorem x_callS (hexec : p.tables.exec = Jvm.exec) (hb : c.code = cc) (hml : ls.size = c.maxLocals) (hown : s.vm.findClass own = some m.cls)
    (hlink : (Cond.methodLink own index y).before args s = true ∨ (Cond.methodLinkNest own index y host).before args s = true) (hstat : (Cond.static y).before args s = true)
    (hK : xCB l R s args y bytes maxL ret hh ws rm Pc RT TH mc ms free)
    (hlen : ∀ sig, parseMethodDescriptor y.desc = some sig → As.length = sig.parameters.length) (hW : (rest.map fun v => v.category).sum ≤ 8) (hdg : decode cc pc = .ok (.invokestatic index, 3))
    (hf : cells + mc ≤ R.cells ∧ slots + ms ≤ R.slots) (hPc : ∀ U : State, U.heap = H → s.WarmedH U.vm → Pc As.toArray U)
    (kr : ∀ (d : Drawn) (H1 : Heap) (L : List Loc) (v : Option Value), s.drawn.sameBut d lw_cs → (∀ q ∈ L, free q.base) → RT v H1 → W p l e R (s.setDrawn d) m args below meth c H1 (locs ++ L) (cells + mc) (slots + ms) Q (F0 m (pc + 3) ls (v.toList ++ rest)))
    (kt : ∀ (d : Drawn) (H1 : Heap) (L : List Loc) (q : Addr) (E : String) (ce : Cell), s.drawn.sameBut d lw_cs → (∀ q ∈ L, free q.base) → TH E H1 → H1[q]? = some ce → ce.vm = .none → s.vm.findClass E = some ce.cls → vx_W p l e R (s.setDrawn d) m args below meth c H1 (locs ++ L) (cells + mc) (slots + ms) Q (F0 m pc ls rest) q)
    {st0 : List Value} (hst : st0 = As.reverse ++ rest) :
    W p l e R s m args below meth c H locs cells slots Q (F0 m pc ls st0) := by
  subst hst
  intro T hT X
  subst hb
  obtain ⟨hM, hbl, hrc, hrs, hfr, hlo, hws, hcw, hini, hcode, hy⟩ := hK
  obtain ⟨mk, methM, cM, hnamed, hmethM, -, -, hsigM⟩ := xCd_spec hcode
  have hstatic : methM.isStatic = true := Cond.static_spec hnamed hmethM hstat
  obtain ⟨kP, hkP, -⟩ := className_of_methodNamed hnamed
  have hinitP : kP.init = .initialized := Cond.initialized_spec (findClass_of_methodNamed hnamed) hkP (hini args s (State.WarmedH.refl s))
  obtain ⟨vm₁, X₁, hstep₁⟩ : ∃ vm₁, Stand p l e R s m args below meth c (T.setVm vm₁) locs cells slots ∧ ∀ target, (∀ acts, Steps p.tables e below (doInvoke e ((T.setVm vm₁).setTop (F0 m pc ls rest)) acts mk As.toArray).1 target) → Steps p.tables e below (T.setTop (F0 m pc ls (As.reverse ++ rest))) target := by
    rcases hlink with hlink | hlink
    · exact X.invokestatic hexec hown hlink hnamed hmethM hstatic hkP hinitP hy (g := F0 m pc ls (As.reverse ++ rest)) rfl (argsL := As) (rest := rest) (hlen _ hsigM) rfl hdg
    · exact X.invokestaticNest hexec hown hlink hnamed hmethM hstatic hkP hinitP hy (g := F0 m pc ls (As.reverse ++ rest)) rfl (argsL := As) (rest := rest) (hlen _ hsigM) rfl hdg
  have hA := x_back (g := F0 m pc ls rest) (W9 := 8) (a := As.toArray) hM hbl hrc hrs hfr hlo hws hcw hini X₁ rfl hml hdg (by simpa [JFrame.monitorRoom] using hW) (X₁.named hnamed) hf (hPc (T.setVm vm₁) hT X₁.warmed)
  exact x_close hA (fun tg h => hstep₁ _ fun acts => by rw [doInvoke_state]; exact h) kr kt
theorem x_callSU (hexec : p.tables.exec = Jvm.exec) (hb : c.code = cc) (hml : ls.size = c.maxLocals) (hown : s.vm.findClass own = some m.cls)
    (hlink : (Cond.methodLink own index y).before args s = true) (hsame : (Cond.sameMethod y.cls y.cls y.name y.desc).before args s = true) (hsup : (Cond.superclass own y.cls).before args s = true) (hinst : (Cond.instanceMethod y).before args s = true) (hno : y.name ≠ "<init>")
    (hK : xCB l R s args y bytes maxL ret hh ws rm Pc RT TH mc ms free)
    {cellB : Cell} {kB : Class} (hcell : H[b]? = some cellB) (hobj : cellB.vm.isStatics = false) (hkB : s.vm.classes[cellB.cls]? = some kB)
    (hlen : ∀ sig, parseMethodDescriptor y.desc = some sig → As.length = sig.parameters.length) (hW : (rest.map fun v => v.category).sum ≤ 8) (hdg : decode cc pc = .ok (.invokespecial index, 3))
    (hf : cells + mc ≤ R.cells ∧ slots + ms ≤ R.slots) (hPc : ∀ U : State, U.heap = H → s.WarmedH U.vm → Pc (Value.ref b :: As).toArray U)
    (kr : ∀ (d : Drawn) (H1 : Heap) (L : List Loc) (v : Option Value), s.drawn.sameBut d lw_cs → (∀ q ∈ L, free q.base) → RT v H1 → W p l e R (s.setDrawn d) m args below meth c H1 (locs ++ L) (cells + mc) (slots + ms) Q (F0 m (pc + 3) ls (v.toList ++ rest)))
    (kt : ∀ (d : Drawn) (H1 : Heap) (L : List Loc) (q : Addr) (E : String) (ce : Cell), s.drawn.sameBut d lw_cs → (∀ q ∈ L, free q.base) → TH E H1 → H1[q]? = some ce → ce.vm = .none → s.vm.findClass E = some ce.cls → vx_W p l e R (s.setDrawn d) m args below meth c H1 (locs ++ L) (cells + mc) (slots + ms) Q (F0 m pc ls rest) q)
    {st0 : List Value} (hst : st0 = As.reverse ++ .ref b :: rest) :
    W p l e R s m args below meth c H locs cells slots Q (F0 m pc ls st0) := by
  subst hst
  intro T hT X
  subst hb
  obtain ⟨hM, hbl, hrc, hrs, hfr, hlo, hws, hcw, hini, hcode, hy⟩ := hK
  obtain ⟨mk, methM, hnamed, hmethM, hstM, habM⟩ := Cond.instanceMethod_spec hinst
  obtain ⟨mk9, methM', cM, hn9, hmethM', -, -, hsigM⟩ := xCd_spec hcode
  cases hnamed.symm.trans hn9
  cases hmethM.symm.trans hmethM'
  obtain ⟨ps, dk, kp, hps, hdk, hkp, hsuper, -, -, hnid⟩ := Cond.superclass_spec hown hsup
  have hn : s.methodNamed? ⟨y.cls, y.name, y.desc⟩ = some mk := hnamed
  have hpm : ps = mk.cls := Option.some.inj (hps.symm.trans (findClass_of_methodNamed hnamed))
  have hsub : s.vm.isSubclass ps mk.cls = true := by rw [hpm]; simp [Vm.isSubclass, Vm.isSubclassAux]
  obtain ⟨vm₁, X₁, hstep₁⟩ := X.invokespecialUp hexec hown hlink hsame hn hmethM hstM habM hno hdk hnid hps hsuper hsub (a := b) (cell := cellB) (by rw [hT]; exact hcell)
    (fun z h => by rw [h] at hobj; cases hobj) hkB (g := F0 m pc ls (As.reverse ++ .ref b :: rest)) rfl (argsL := As) (rest := rest) (hlen _ hsigM) rfl hdg
  have hA := x_back (g := F0 m pc ls rest) (W9 := 8) (a := (Value.ref b :: As).toArray) hM hbl hrc hrs hfr hlo hws hcw hini X₁ rfl hml hdg (by simpa [JFrame.monitorRoom] using hW) (X₁.named hnamed) hf (hPc (T.setVm vm₁) hT X₁.warmed)
  exact x_close hA (fun tg h => hstep₁ _ (by rw [doInvoke_state]; exact h)) kr kt
theorem x_callI (hexec : p.tables.exec = Jvm.exec) (hb : c.code = cc) (hml : ls.size = c.maxLocals) (hown : s.vm.findClass own = some m.cls) (hy1 : y.name = "<init>")
    (hlink : (Cond.methodLink own index y).before args s = true ∨ (Cond.methodLinkNest own index y host).before args s = true) (hinst : (Cond.instanceMethod y).before args s = true)
    (hK : xCB l R s args y bytes maxL none [] ws rm Pc RT TH mc ms free)
    (hlen : ∀ sig, parseMethodDescriptor y.desc = some sig → As.length = sig.parameters.length) (hW : (rest.map fun v => v.category).sum ≤ 8) (hdg : decode cc pc = .ok (.invokespecial index, 3))
    (hf : cells + mc ≤ R.cells ∧ slots + ms ≤ R.slots) (hPc : ∀ U : State, U.heap = H → s.WarmedH U.vm → Pc (Value.ref b :: As).toArray U)
    (kr : ∀ (d : Drawn) (H1 : Heap) (L : List Loc) (v : Option Value), s.drawn.sameBut d lw_cs → (∀ q ∈ L, free q.base) → RT v H1 → W p l e R (s.setDrawn d) m args below meth c H1 (locs ++ L) (cells + mc) (slots + ms) Q (F0 m (pc + 3) ls (v.toList ++ rest)))
    (kt : ∀ (d : Drawn) (H1 : Heap) (L : List Loc) (q : Addr) (E : String) (ce : Cell), s.drawn.sameBut d lw_cs → (∀ q ∈ L, free q.base) → TH E H1 → H1[q]? = some ce → ce.vm = .none → s.vm.findClass E = some ce.cls → vx_W p l e R (s.setDrawn d) m args below meth c H1 (locs ++ L) (cells + mc) (slots + ms) Q (F0 m pc ls rest) q)
    {st0 : List Value} (hst : st0 = As.reverse ++ .ref b :: rest) :
    W p l e R s m args below meth c H locs cells slots Q (F0 m pc ls st0) := by
  subst hst
  intro T hT X
  subst hb
  obtain ⟨hM, hbl, hrc, hrs, hfr, hlo, hws, hcw, hini, hcode, hy⟩ := hK
  have hcode : (Cond.code y bytes maxL none).before args s = true := by
    have h9 := hcode
    rwa [xCd, if_pos rfl] at h9
  have hpl : e.platform.magicAccessors = ({} : Platform).magicAccessors := by rw [X.admits.platform]
  obtain ⟨mk, vm₁, hnamed, hW₁, hstep₁⟩ : ∃ (mk : MethodId) (vm₁ : Vm), s.methodNamed? y = some mk ∧ s.WarmedH vm₁ ∧ ∀ target, (∀ acts, Steps p.tables e below (doInvoke e ((T.setVm vm₁).setTop (F0 m pc ls rest)) acts mk (Value.ref b :: As).toArray).1 target) → Steps p.tables e below (T.setTop (F0 m pc ls (As.reverse ++ .ref b :: rest))) target := by
    rcases hlink with hlink | hlink
    · obtain ⟨mk, methM, cM, kP, vm₁, hnamed, hmethM, hcodeM, -, hlocalsM, -, hkP, -, hW₁, hstep₁⟩ := Steps.initColdArgs (e := e) X.here hexec X.warmed hpl hown hy1 hy hlink hinst hcode (f := F0 m pc ls (As.reverse ++ .ref b :: rest)) rfl hlen rfl hdg
      exact ⟨mk, vm₁, hnamed, hW₁, hstep₁⟩
    · obtain ⟨mk, methM, cM, kP, vm₁, hnamed, hmethM, hcodeM, -, hlocalsM, -, hkP, -, hW₁, hstep₁⟩ := Steps.initColdArgsNest (e := e) X.here hexec X.warmed hpl hown hy1 hy hlink hinst hcode (f := F0 m pc ls (As.reverse ++ .ref b :: rest)) rfl hlen rfl hdg
      exact ⟨mk, vm₁, hnamed, hW₁, hstep₁⟩
  have X₁ := X.noted hW₁
  have hA := x_back (g := F0 m pc ls rest) (W9 := 8) (a := (Value.ref b :: As).toArray) hM hbl hrc hrs hfr hlo hws hcw hini X₁ rfl hml hdg (by simpa [JFrame.monitorRoom] using hW) (X₁.named hnamed) hf (hPc (T.setVm vm₁) hT X₁.warmed)
  exact x_close hA (fun tg h => hstep₁ _ fun acts => by rw [doInvoke_state]; exact h) kr kt
/-- a method's end by a return -/
theorem x_ret {d0 : Drawn} (hd0 : s.drawn.sameBut d0 lw_cs) {g : JFrame} (hc : cells ≤ mc) (hs : slots ≤ ms)
    (k : W p l e R (s.setDrawn d0) m args below meth c H locs cells slots (MQ below (fun _ _ o t => ∃ v, o = .returned v ∧ RT v t.heap) args (s.setDrawn d0) cells slots free) g) :
    W p l e R (s.setDrawn d0) m args below meth c H locs cells slots (xMQ below RT TH s mc ms free) g := by
  intro T hT X
  obtain ⟨t, a1, o, b1, b2, ⟨v, rfl, hr⟩, L, ⟨-, hW, hsm⟩, hL⟩ := k T hT X
  exact ⟨t, a1, _, b1, b2, d0, hd0, L, hL, hW, hsm.mono hc hs, Or.inl ⟨v, rfl, hr⟩⟩
/-- a method's end by a throw that it doesn't catch -/
theorem x_out {d0 : Drawn} (hd0 : s.drawn.sameBut d0 lw_cs) {E : String} {ce : Cell} {q : Addr} (hout : ∀ x ∈ c.exceptionTable.toList, covers x pc = false) (hlocks : meth.locks = false) (hcell : H[q]? = some ce) (hv : ce.vm = .none) (hcl : s.vm.findClass E = some ce.cls)
    (hx : TH E H) (hf : ∀ z ∈ locs, free z.base) (hc : cells ≤ mc) (hs : slots ≤ ms) :
    vx_W p l e R (s.setDrawn d0) m args below meth c H locs cells slots (xMQ below RT TH s mc ms free) (F0 m pc ls rest) q := by
  intro T hT X
  obtain ⟨st1, hrun, hend, hW, hsm⟩ := X.leaveThrown q (g := F0 m pc ls rest) rfl rfl rfl hout hlocks
  have hcell9 : (T.setFrames (.throwing q :: below)).heap[q]? = some ce := by
    show T.heap[q]? = some ce
    rw [hT]; exact hcell
  have hx9 : TH E (T.setFrames (.throwing q :: below)).heap := by
    show TH E T.heap
    rw [hT]; exact hx
  exact ⟨_, st1, .threw q, hrun, hend, d0, hd0, locs, hf, hW, hsm.mono hc hs, Or.inr ⟨q, E, ce, rfl, hcell9, hv, hcl, hx9⟩⟩
end XC
