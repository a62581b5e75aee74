/-! ===== calls ===== -/
section XV
variable {G : xGt}
theorem xArgs_map (ad : Nat → Nat) : ∀ (vs : List Value) (i : Nat), (lv_args i vs).map (xCvL ad) = lv_args i (vs.map (xCv ad))
  | [], _ => rfl
  | v :: r, i => by
    show (i, xCv ad v) :: (lv_args _ r).map (xCvL ad) = (i, xCv ad v) :: lv_args _ (r.map (xCv ad))
    rw [xArgs_map ad r, xCv_cat]
theorem xArgs_ok {h : xH} : ∀ {vs : List Value} {i : Nat}, (∀ v ∈ vs, xOkV h v) → ∀ q ∈ lv_args i vs, xOkV h q.2
  | [], _, _, q, hq => by cases hq
  | v :: r, i, hv, q, hq => by
    rcases List.mem_cons.mp hq with rfl | hq
    · exact hv v List.mem_cons_self
    · exact xArgs_ok (fun w hw => hv w (List.mem_cons_of_mem _ hw)) q hq
theorem xSl_len : ∀ vs : List Value, (lg_sl vs).length = xCat vs
  | [] => rfl
  | v :: r => by
    have ih := xSl_len r
    have e : xCat (v :: r) = v.category + xCat r := by simp [xCat]
    rw [e, ← ih]
    rcases lv_cat v with hc | hc <;> simp [lg_sl, hc] <;> omega
theorem xCat_map (ad : Nat → Nat) (vs : List Value) : xCat (vs.map (xCv ad)) = xCat vs := by
  unfold xCat
  rw [List.map_map]
  congr 1
  exact List.map_congr_left fun v _ => xCv_cat ad v
def xRoom (d : xDt) (mc ms : Nat) : Room := { frames := d.2.2.2.2.1, cells := mc, slots := ms, locals := 100 * d.2.2.2.2.1 }
def xPc (G : xGt) (ad : Nat → Nat) (h : xH) (args : List Value) : Array Value → State → Prop := fun a U => a = (args.map (xCv ad)).toArray ∧ xRel G ad h U.heap ∧ xKs G U
theorem xPc_blind {ad : Nat → Nat} {h : xH} {args : List Value} : FrameBlind (xPc G ad h args) := fun a U g mk q => ⟨q.1, q.2.1, xKs_same (u := U) (U := U.calling g mk a) rfl q.2.2⟩
/-- a method's contract out of its plain run -/
theorem x_met {d : xDt} {ad : Nat → Nat} {h : xH} {args : List Value} {mc ms : Nat} {Q : xQ} (hk : xOKat G d 0 (lv_args 0 args) [] h (mc, ms) Q) (hy : plainName d.1.cls = true) (hst : G.l.stackTraces = false) (hv : ∀ v ∈ args, xOkV h v) (hm : xCat args ≤ d.2.2.1) :
    xMet G.l d.1 (xCode d :: G.tb) (xRoom d mc ms) (xPc G ad h args) (xRT G ad (xOk h) Q) (xTH G ad (xOk h) Q) mc ms (fun q => G.B0 ≤ q) := by
  have body : ∀ p e s m args9 below meth c s₁, BodyLoose p G.l d.1 (headSpec (xCode d :: G.tb) (xRoom d mc ms)) d.2.1 d.2.2.1 d.2.2.2.1 e s m args9 below meth c s₁ → c.maxLocals = d.2.2.1 → c.exceptionTable.toList = tableOf d.2.2.2.2.2 → xPc G ad h args args9 s →
      W p G.l e (headSpec (xCode d :: G.tb) (xRoom d mc ms)).room (s.setDrawn s.drawn) m args9 below meth c s.heap [] 0 0 (xMQ below (xRT G ad (xOk h) Q) (xTH G ad (xOk h) Q) s mc ms (fun q => G.B0 ≤ q)) (entryFrame m args9 d.2.2.1) := by
    intro p e s m args9 below meth c s₁ B hml htab hpc
    obtain ⟨rfl, hrel, hks⟩ := hpc
    have hpre := atoms_spec (ws := xCode d :: G.tb) B.pre
    have C : xCx G d p (xRoom d mc ms) s m (args.map (xCv ad)).toArray meth c := ⟨B.exec, B.bytes, hml, B.returns, B.notSynchronized, findClass_of_methodNamed B.named, fun w hw => hpre w (List.mem_cons_of_mem _ hw), Nat.le_refl _, Nat.le_refl _, (name_of_methodNamed B.named B.method).1, hks, htab, hst, hrel.2.2.2.1, hrel.2.2.2.2.1⟩
    have hl := lv_entry (args.map (xCv ad)) (n := d.2.2.1) (by rw [xSl_len, xCat_map]; exact hm)
    rw [← xArgs_map] at hl
    rw [lg_entry_eq]
    exact hk p e (xRoom d mc ms) s m _ below meth c ad (xOk h) C ad s.heap [] 0 0 _ s.drawn (Drawn.sameBut.refl _ _) hl hrel (fun i hi => ⟨hi, rfl⟩) (fun z hz => by cases hz) (by show 0 + mc ≤ mc; omega) (by show 0 + ms ≤ ms; omega) (fun v hv => by cases hv) (xArgs_ok hv)
  by_cases hE : d.2.2.2.2.2 = []
  · have hc : xCode d = Cond.code d.1 d.2.1 d.2.2.1 d.2.2.2.1 := if_pos hE
    refine MetFree.of_bodyS (code := d.2.1) (maxLocals := d.2.2.1) (ret := d.2.2.2.1) hy ?_ ?_
    · intro a9 s m h9 hn
      obtain ⟨meth, c, h1, h2, h3, h4, h5, h6, -, -⟩ := Cond.code_spec hn (hc ▸ atoms_spec (ws := xCode d :: G.tb) h9 _ List.mem_cons_self)
      exact ⟨meth, c, h1, h2, h3, h4, h5, h6⟩
    · intro p e s m a9 below meth c s₁ B hml hP _
      have hh0 : s₁.heap = s.heap := by rw [B.state]; rfl
      have ht : c.exceptionTable.toList = tableOf d.2.2.2.2.2 := by
        obtain ⟨meth9, c9, h1, h2, -, -, -, -, h7, -⟩ := Cond.code_spec B.named (hc ▸ atoms_spec (ws := xCode d :: G.tb) B.pre _ List.mem_cons_self)
        cases Option.some.inj (h1.symm.trans B.method)
        cases Option.some.inj (h2.symm.trans (Stand.of_body B).code)
        rw [hE, Array.isEmpty_iff.mp h7]
        rfl
      have X0 : Stand p G.l e (headSpec (xCode d :: G.tb) (xRoom d mc ms)).room (s.setDrawn s.drawn) m a9 below meth c s₁ [] 0 0 := Stand.of_body B
      obtain ⟨t, a1, o, b1, b2, d9, hd9, b3⟩ := body p e s m a9 below meth c s₁ B hml ht hP s₁ hh0 X0
      exact ⟨t, o, a1, b1, b2, d9, hd9, b3⟩
  · have hc : xCode d = Cond.codeWith d.1 d.2.1 d.2.2.1 d.2.2.2.1 d.2.2.2.2.2 := if_neg hE
    refine MetFree.of_bodyS (code := d.2.1) (maxLocals := d.2.2.1) (ret := d.2.2.2.1) hy ?_ ?_
    · intro a9 s m h9 hn
      obtain ⟨m9, meth, c, hn9, h1, h2, h3, h4, -, h5, h6, -⟩ := Cond.codeWith_spec (hc ▸ atoms_spec (ws := xCode d :: G.tb) h9 _ List.mem_cons_self)
      cases hn.symm.trans hn9
      exact ⟨meth, c, h1, h2, h3, h4, h5, h6⟩
    · intro p e s m a9 below meth c s₁ B hml hP _
      have hh0 : s₁.heap = s.heap := by rw [B.state]; rfl
      have ht : c.exceptionTable.toList = tableOf d.2.2.2.2.2 := vx_table (x := d.1) B (hc ▸ atoms_spec (ws := xCode d :: G.tb) B.pre _ List.mem_cons_self)
      have X0 : Stand p G.l e (headSpec (xCode d :: G.tb) (xRoom d mc ms)).room (s.setDrawn s.drawn) m a9 below meth c s₁ [] 0 0 := Stand.of_body B
      obtain ⟨t, a1, o, b1, b2, d9, hd9, b3⟩ := body p e s m a9 below meth c s₁ B hml ht hP s₁ hh0 X0
      exact ⟨t, o, a1, b1, b2, d9, hd9, b3⟩
/-- the words are good ones -/
theorem x_ncB {a : Array Value} {C T : String} {U : State} (h : va_Nc C T U) : (Cond.not (.castable C T)).before a U = true := by
  obtain ⟨c, t, h1, h2, h3⟩ := h
  simp [Cond.before, Cond.holds, Cond.value, h1, h2, h3]
def xKw : Cond → Bool
  | .castable _ _ => true
  | .methodLinkNest _ _ _ _ => true
  | .declares _ => true
  | .not (.castable _ _) => true
  | w => goodWord w
theorem xKw_at {args a' : Array Value} {s U : State} (hW : s.WarmedH U.vm) {w : Cond} (hg : xKw w = true) (h : w.before args s = true) : w.before a' U = true := by
  unfold xKw at hg
  split at hg
  · exact va_Nw.use rfl (va_Nw.warmC hW (va_Nw.of rfl h))
  · exact va_Nw.use rfl (va_Nw.warmM hW (va_Nw.of rfl h))
  · exact Cond.onTables_atFace hW (Cond.declares_passes _) h
  · exact x_ncB (va_Nc.moved hW.alike (va_Nc.of h))
  · exact word_at hW (good_of_word hg) h
def xGood (G : xGt) : Prop := ∀ w ∈ G.tb, xKw w = true
variable {d : xDt} {pc : Nat}
/-- what a call of z in d wants of the tables -/
def xCallOk (G : xGt) (d dz : xDt) (n m : Nat) : Prop := xGood G ∧ xCode dz ∈ G.tb ∧ True ∧ Cond.initialized dz.1.cls ∈ G.tb ∧ plainName dz.1.cls = true ∧ (dz.1.cls ≠ "java/lang/invoke/MethodHandle" ∧ dz.1.cls ≠ "java/lang/invoke/VarHandle") ∧
  dz.2.2.2.2.1 + 1 ≤ d.2.2.2.2.1 ∧ dz.2.2.1 + 19 ≤ 100 ∧ m ≤ dz.2.2.1 ∧ ∀ sig, parseMethodDescriptor dz.1.desc = some sig → n = sig.parameters.length
theorem xCk_spec {n m : Nat} {st : List Value} (h : xCk n m st = true) : n ≤ st.length ∧ xCat (st.drop n) ≤ 8 ∧ xCat (st.take n) ≤ m := by
  simp only [xCk, Bool.and_eq_true, decide_eq_true_eq] at h
  exact ⟨h.1.1, h.1.2, h.2⟩
theorem xCat_rev (st : List Value) : xCat st.reverse = xCat st := by
  unfold xCat
  rw [List.map_reverse, List.sum_reverse]
/-- behind a call -/
theorem x_backto {l : xL} {rest : List Value} {h : xH} {b b' : Nat × Nat} {Q : xQ} {K : xK} (hK : ∀ l st h b, K l st h b → xOKat G d (pc + 3) l st h b Q)
    {p : Program} {e : Env} {R : Room} {s : State} {m : MethodId} {args : Array Value} {below : List Frame} {meth : Method} {c : Code} {ad0 : Nat → Nat} {ok0 : Nat → Prop} (C : xCx G d p R s m args meth c)
    {ad : Nat → Nat} {locs : List Loc} {cells slots mc ms : Nat} {ls : Array Slot} {d1 : Drawn} (hd1 : s.drawn.sameBut d1 lw_cs) (hl : lv_has ls d.2.2.1 (l.map (xCvL ad))) (hok : ∀ i, ok0 i → xOk h i ∧ ad i = ad0 i) (hz : ∀ z ∈ locs, G.B0 ≤ z.base)
    (hc : cells + mc + b'.1 ≤ R.cells) (hs : slots + ms + b'.2 ≤ R.slots) (hst : ∀ v ∈ rest, xOkV h v) (hlo : ∀ q ∈ l, xOkV h q.2) {H1 : Heap} {L : List Loc} (hL : ∀ q ∈ L, G.B0 ≤ q.base) {v : Option Value} (hrt : xRT G ad (xOk h) (xTo Q K l rest b') v H1) :
    W p G.l e R (s.setDrawn d1) m args below meth c H1 (locs ++ L) (cells + mc) (slots + ms) (xMQ below (xRT G ad0 ok0 Q) (xTH G ad0 ok0 Q) s R.cells R.slots (fun q => G.B0 ≤ q)) (F0 m (pc + 3) ls (v.toList ++ rest.map (xCv ad))) := by
  obtain ⟨ad', h', r, b9, hq, rfl, hro, hr', hok'⟩ := hrt
  have hkeep : ∀ w, xOkV h w → xCv ad' w = xCv ad w ∧ xOkV h' w := fun w hw => by
    cases w with
    | ref i => exact ⟨by show Value.ref (ad' i) = Value.ref (ad i); rw [(hok' i hw).2], (hok' i hw).1⟩
    | _ => exact ⟨rfl, trivial⟩
  have hm : l.map (xCvL ad') = l.map (xCvL ad) := List.map_congr_left fun q hq => by
    show (q.1, xCv ad' q.2) = (q.1, xCv ad q.2)
    rw [(hkeep q.2 (hlo q hq)).1]
  have hr9 : rest.map (xCv ad') = rest.map (xCv ad) := List.map_congr_left fun w hw => (hkeep w (hst w hw)).1
  have h5 := hK l (r.toList ++ rest) h' b' hq p e R s m args below meth c ad0 ok0 C ad' H1 (locs ++ L) (cells + mc) (slots + ms) ls d1 hd1 (by rw [hm]; exact hl) hr'
    (fun i hi => ⟨(hok' i (hok i hi).1).1, (hok' i (hok i hi).1).2.trans (hok i hi).2⟩) (fun z hzz => (List.mem_append.mp hzz).elim (hz z) (hL z)) hc hs
    (fun w hw => (List.mem_append.mp hw).elim (fun z => hro w (by cases r <;> simp_all)) (fun z => (hkeep w (hst w z)).2)) (fun q hq => (hkeep q.2 (hlo q hq)).2)
  have e9 : (r.toList ++ rest).map (xCv ad') = (r.map (xCv ad')).toList ++ rest.map (xCv ad) := by
    rw [List.map_append, hr9]
    cases r <;> rfl
  rw [e9] at h5
  exact h5
/-- behind a throw in a call that is not caught here -/
theorem x_outto {l : xL} {rest : List Value} {h : xH} {b' : Nat × Nat} {Q : xQ} {K : xK} (hE : d.2.2.2.2.2 = [])
    {p : Program} {e : Env} {R : Room} {s : State} {m : MethodId} {args : Array Value} {below : List Frame} {meth : Method} {c : Code} {ad0 : Nat → Nat} {ok0 : Nat → Prop} (C : xCx G d p R s m args meth c)
    {ad : Nat → Nat} {locs : List Loc} {cells slots mc ms : Nat} {ls : Array Slot} {d1 : Drawn} (hd1 : s.drawn.sameBut d1 lw_cs) (hok : ∀ i, ok0 i → xOk h i ∧ ad i = ad0 i) (hz : ∀ z ∈ locs, G.B0 ≤ z.base)
    (hc : cells + mc ≤ R.cells) (hs : slots + ms ≤ R.slots) {H1 : Heap} {L : List Loc} (hL : ∀ q ∈ L, G.B0 ≤ q.base) {E : String} {ce : Cell} {q : Addr} (hcell : H1[q]? = some ce) (hv : ce.vm = .none) (hcl : s.vm.findClass E = some ce.cls) (hth : xTH G ad (xOk h) (xTo Q K l rest b') E H1) {st9 : List Value} :
    vx_W p G.l e R (s.setDrawn d1) m args below meth c H1 (locs ++ L) (cells + mc) (slots + ms) (xMQ below (xRT G ad0 ok0 Q) (xTH G ad0 ok0 Q) s R.cells R.slots (fun q => G.B0 ≤ q)) (F0 m pc ls st9) q := by
  obtain ⟨ad', h', b9, hq, hr', hok'⟩ := hth
  have htab : c.exceptionTable.toList = [] := by
    have := C.2.2.2.2.2.2.2.2.2.2.2.1
    rw [hE] at this
    exact this
  refine x_out (s := s) hd1 (fun x hx => by rw [htab] at hx; cases hx) C.2.2.2.2.1 hcell hv hcl ?_ (fun z hzz => (List.mem_append.mp hzz).elim (hz z) (hL z)) hc hs
  exact ⟨ad', h', b', hq, hr', fun i hi => ⟨(hok' i (hok i hi).1).1, (hok' i (hok i hi).1).2.trans (hok i hi).2⟩⟩
theorem x_cb {dz : xDt} {n m9 : Nat} (ho : xCallOk G d dz n m9) {h : xH} {args9 : List Value} {mc ms : Nat} {Q' : xQ} (hk : xOKat G dz 0 (lv_args 0 args9) [] h (mc, ms) Q') (hv : ∀ v ∈ args9, xOkV h v) (hm : xCat args9 ≤ m9)
    {p : Program} {R : Room} {s : State} {m : MethodId} {args : Array Value} {meth : Method} {c : Code} (C : xCx G d p R s m args meth c) {ad : Nat → Nat} (d1 : Drawn) :
    xCB G.l R (s.setDrawn d1) args dz.1 dz.2.1 dz.2.2.1 dz.2.2.2.1 dz.2.2.2.2.2 (xCode dz :: G.tb) (xRoom dz mc ms) (xPc G ad h args9) (xRT G ad (xOk h) Q') (xTH G ad (xOk h) Q') mc ms (fun q => G.B0 ≤ q) := by
  obtain ⟨hg, hcd, -, hini, hpl, hne, hdp, hml, hmm, -⟩ := ho
  have hts := dr_words C.2.2.2.2.2.2.1 d1
  have hall : ∀ w ∈ G.tb, ∀ (a' : Array Value) (U : State), (s.setDrawn d1).WarmedH U.vm → w.before a' U = true := fun w hw a' U hW => xKw_at hW (hg w hw) (hts w hw)
  have hfr := C.2.2.2.2.2.2.2.1
  have hlo := C.2.2.2.2.2.2.2.2.1
  refine ⟨x_met hk hpl C.2.2.2.2.2.2.2.2.2.2.2.2.1 hv (by omega), xPc_blind, rfl, rfl, ?_, ?_, fun w hw a' U hW => ?_, ?_, fun a' U hW => hall _ hini a' U hW, ?_, hne⟩
  · show dz.2.2.2.2.1 + 1 ≤ R.frames
    omega
  · show 8 + (dz.2.2.1 + 11) + 100 * dz.2.2.2.2.1 ≤ R.locals
    omega
  · rcases List.mem_cons.mp hw with rfl | hw
    · exact hall _ hcd a' U hW
    · exact hall w hw a' U hW
  · exact List.mem_cons_self
  · exact hts _ hcd
theorem x_split {n m : Nat} {st : List Value} {ad : Nat → Nat} (h : xCk n m st = true) : st.map (xCv ad) = ((st.take n).reverse.map (xCv ad)).reverse ++ (st.drop n).map (xCv ad) := by
  rw [← List.map_reverse, List.reverse_reverse, ← List.map_append, List.take_append_drop]
theorem x_len {n m : Nat} {st : List Value} (h : xCk n m st = true) : (st.take n).reverse.length = n := by
  rw [List.length_reverse, List.length_take]
  have := (xCk_spec h).1
  omega
theorem ok_take {h : xH} {n : Nat} {st : List Value} (hs : ∀ v ∈ st, xOkV h v) : ∀ v ∈ (st.take n).reverse, xOkV h v := fun v hv => hs v (List.mem_of_mem_take (List.mem_reverse.mp hv))
theorem ok_drop {h : xH} {n : Nat} {st : List Value} (hs : ∀ v ∈ st, xOkV h v) : ∀ v ∈ st.drop n, xOkV h v := fun v hv => hs v (List.mem_of_mem_drop hv)
theorem s_invSG {z n m9 idx : Nat} {dz : xDt} {host : String} (hz9 : G.dat z = dz) (ho : xCallOk G d dz n m9) (hE : d.2.2.2.2.2 = []) (hw1 : Cond.methodLink d.1.cls idx dz.1 ∈ G.tb ∨ Cond.methodLinkNest d.1.cls idx dz.1 host ∈ G.tb) (hw2 : Cond.static dz.1 ∈ G.tb) (hd : decode d.2.1 pc = .ok (.invokestatic idx, 3)) : xSnd G d pc (i_invSA z n m9) 3 := by
  intro P Q K hP hK l st h b hs
  obtain ⟨hck, mc, ms, hb1, hb2, hs⟩ := hs
  have hk := hP _ _ _ _ _ _ _ hs
  rw [hz9] at hk
  intro p e R s m args below meth c ad0 ok0 C ad H locs cells slots ls d0 hd0 hl hr hok hz hcc hsl hst hlo
  have hts := dr_words C.2.2.2.2.2.2.1 d0
  obtain ⟨-, hrest, harg⟩ := xCk_spec hck
  have cb := x_cb ho hk (ok_take hst) (by rw [xCat_rev]; exact harg) C (ad := ad) d0
  refine x_callS (l := G.l) (e := e) (R := R) (s := s.setDrawn d0) (args := args) (below := below) (meth := meth) (H := H) (locs := locs) (Q := xMQ below (xRT G ad0 ok0 Q) (xTH G ad0 ok0 Q) s R.cells R.slots (fun q => G.B0 ≤ q)) (mc := mc) (ms := ms) (cells := cells) (slots := slots) (As := (st.take n).reverse.map (xCv ad)) (rest := (st.drop n).map (xCv ad)) C.1 C.2.1 (hl.1.trans C.2.2.1.symm) C.2.2.2.2.2.1 (hw1.elim (fun h => Or.inl (hts _ h)) (fun h => Or.inr (hts _ h))) (hts _ hw2) cb
    (fun sig hsig => by rw [List.length_map, x_len hck]; exact ho.2.2.2.2.2.2.2.2.2 sig hsig) (by have := xCat_map ad (st.drop n); unfold xCat at this hrest; rw [this]; exact hrest) hd ⟨by omega, by omega⟩
    (fun U hU hW => ⟨rfl, by rw [hU]; exact hr, xKs_warm hW (xKs_same (u := s) rfl C.2.2.2.2.2.2.2.2.2.2.1)⟩) ?_ ?_ (x_split hck)
  · intro d1 H1 L v hd1 hL hrt
    exact x_backto (b := b) hK C (Drawn.sameBut.trans hd0 hd1) hl hok hz (by show cells + mc + (b.1 - mc) ≤ _; omega) (by show slots + ms + (b.2 - ms) ≤ _; omega) (ok_drop hst) hlo hL hrt
  · intro d1 H1 L q E ce hd1 hL hth hcell hv hcl
    exact x_outto hE C (Drawn.sameBut.trans hd0 hd1) hok hz (by omega) (by omega) hL hcell hv hcl hth
theorem s_invIG {z n m9 idx : Nat} {dz : xDt} {host : String} (hz9 : G.dat z = dz) (ho : xCallOk G d dz n m9) (hE : d.2.2.2.2.2 = []) (hz0 : dz.2.2.2.2.2 = []) (hini : dz.1.name = "<init>") (hret : dz.2.2.2.1 = none) (hw1 : Cond.methodLink d.1.cls idx dz.1 ∈ G.tb ∨ Cond.methodLinkNest d.1.cls idx dz.1 host ∈ G.tb) (hw2 : Cond.instanceMethod dz.1 ∈ G.tb) (hd : decode d.2.1 pc = .ok (.invokespecial idx, 3)) {c9 : Nat} : xSnd G d pc (i_invVA c9 z (n + 1) m9) 3 := by
  intro P Q K hP hK l st h b hs
  obtain ⟨hck, hrc, mc, ms, hb1, hb2, hs⟩ := hs
  have hk := hP _ _ _ _ _ _ _ hs
  rw [hz9] at hk
  intro p e R s m args below meth c ad0 ok0 C ad H locs cells slots ls d0 hd0 hl hr hok hz hcc hsl hst hlo
  have hts := dr_words C.2.2.2.2.2.2.1 d0
  obtain ⟨-, hrest, harg⟩ := xCk_spec hck
  have cb := x_cb ho hk (ok_take hst) (by rw [xCat_rev]; exact harg) C (ad := ad) d0
  have hlen := x_len hck
  have hsp := x_split (ad := ad) hck
  cases hT : (st.take (n + 1)).reverse with
  | nil => rw [hT] at hrc; exact hrc.elim
  | cons w As =>
    cases w with
    | ref o =>
      rw [hT] at cb hlen hsp
      rw [hret, hz0] at cb
      have hsp' : st.map (xCv ad) = (As.map (xCv ad)).reverse ++ .ref (ad o) :: (st.drop (n + 1)).map (xCv ad) := by
        rw [hsp, List.map_cons, List.reverse_cons, List.append_assoc]
        rfl
      refine x_callI (l := G.l) (e := e) (R := R) (s := s.setDrawn d0) (args := args) (below := below) (meth := meth) (H := H) (locs := locs) (Q := xMQ below (xRT G ad0 ok0 Q) (xTH G ad0 ok0 Q) s R.cells R.slots (fun q => G.B0 ≤ q)) (mc := mc) (ms := ms) (cells := cells) (slots := slots) (As := As.map (xCv ad)) (b := ad o) (rest := (st.drop (n + 1)).map (xCv ad)) C.1 C.2.1 (hl.1.trans C.2.2.1.symm) C.2.2.2.2.2.1 hini (hw1.elim (fun h => Or.inl (hts _ h)) (fun h => Or.inr (hts _ h))) (hts _ hw2) cb
        (fun sig hsig => by rw [List.length_map, ← ho.2.2.2.2.2.2.2.2.2 sig hsig]; simp only [List.length_cons] at hlen; omega) (by have := xCat_map ad (st.drop (n + 1)); unfold xCat at this hrest; rw [this]; exact hrest) hd ⟨by omega, by omega⟩
        (fun U hU hW => ⟨rfl, by rw [hU]; exact hr, xKs_warm hW (xKs_same (u := s) rfl C.2.2.2.2.2.2.2.2.2.2.1)⟩) ?_ ?_ hsp'
      · intro d1 H1 L v hd1 hL hrt
        exact x_backto (b := b) hK C (Drawn.sameBut.trans hd0 hd1) hl hok hz (by show cells + mc + (b.1 - mc) ≤ _; omega) (by show slots + ms + (b.2 - ms) ≤ _; omega) (ok_drop hst) hlo hL hrt
      · intro d1 H1 L q E ce hd1 hL hth hcell hv hcl
        exact x_outto hE C (Drawn.sameBut.trans hd0 hd1) hok hz (by omega) (by omega) hL hcell hv hcl hth
    | _ => rw [hT] at hrc; exact hrc.elim
theorem s_invVG {c9 z n m9 idx : Nat} {dz : xDt} (hz9 : G.dat z = dz) (ho : xCallOk G d dz n m9) (hE : d.2.2.2.2.2 = []) (hcl9 : xClsOk G c9) (hw1 : Cond.methodLink d.1.cls idx dz.1 ∈ G.tb) (hw2 : Cond.instanceMethod dz.1 ∈ G.tb) (hw3 : Cond.selects (G.cl c9).1 dz.1 dz.1 ∈ G.tb) (hd : decode d.2.1 pc = .ok (.invokevirtual idx, 3)) : xSnd G d pc (i_invVA c9 z (n + 1) m9) 3 := by
  intro P Q K hP hK l st h b hs
  obtain ⟨hck, hrc, mc, ms, hb1, hb2, hs⟩ := hs
  have hk := hP _ _ _ _ _ _ _ hs
  rw [hz9] at hk
  intro p e R s m args below meth c ad0 ok0 C ad H locs cells slots ls d0 hd0 hl hr hok hz hcc hsl hst hlo
  have hts := dr_words C.2.2.2.2.2.2.1 d0
  obtain ⟨-, hrest, harg⟩ := xCk_spec hck
  have cb := x_cb ho hk (ok_take hst) (by rw [xCat_rev]; exact harg) C (ad := ad) d0
  have hlen := x_len hck
  have hsp := x_split (ad := ad) hck
  cases hT : (st.take (n + 1)).reverse with
  | nil => rw [hT] at hrc; exact hrc.elim
  | cons w As =>
    cases w with
    | ref o =>
      rw [hT] at cb hlen hsp hrc
      obtain ⟨cell, q1, q2, q3, q5, q4⟩ := x_objR hr (show (gS h o).1 = c9 from hrc) hcl9
      have hsp' : st.map (xCv ad) = (As.map (xCv ad)).reverse ++ .ref (ad o) :: (st.drop (n + 1)).map (xCv ad) := by
        rw [hsp, List.map_cons, List.reverse_cons, List.append_assoc]
        rfl
      refine x_callV (l := G.l) (e := e) (R := R) (s := s.setDrawn d0) (args := args) (below := below) (meth := meth) (H := H) (locs := locs) (Q := xMQ below (xRT G ad0 ok0 Q) (xTH G ad0 ok0 Q) s R.cells R.slots (fun q => G.B0 ≤ q)) (mc := mc) (ms := ms) (cells := cells) (slots := slots) (C := (G.cl c9).1) (As := As.map (xCv ad)) (b := ad o) (rest := (st.drop (n + 1)).map (xCv ad)) C.1 C.2.1 (hl.1.trans C.2.2.1.symm) C.2.2.2.2.2.1 (hts _ hw1) (hts _ hw2) (hts _ hw3) cb q1 q3 (by rw [q2]; exact (C.2.2.2.2.2.2.2.2.2.2.1.1 c9 hcl9.1 hcl9.2.1).2.1)
        (fun sig hsig => by rw [List.length_map, ← ho.2.2.2.2.2.2.2.2.2 sig hsig]; simp only [List.length_cons] at hlen; omega) (by have := xCat_map ad (st.drop (n + 1)); unfold xCat at this hrest; rw [this]; exact hrest) hd ⟨by omega, by omega⟩
        (fun U hU hW => ⟨rfl, by rw [hU]; exact hr, xKs_warm hW (xKs_same (u := s) rfl C.2.2.2.2.2.2.2.2.2.2.1)⟩) ?_ ?_ hsp'
      · intro d1 H1 L v hd1 hL hrt
        exact x_backto (b := b) hK C (Drawn.sameBut.trans hd0 hd1) hl hok hz (by show cells + mc + (b.1 - mc) ≤ _; omega) (by show slots + ms + (b.2 - ms) ≤ _; omega) (ok_drop hst) hlo hL hrt
      · intro d1 H1 L q E ce hd1 hL hth hcell hv hcl
        exact x_outto hE C (Drawn.sameBut.trans hd0 hd1) hok hz (by omega) (by omega) hL hcell hv hcl hth
    | _ => rw [hT] at hrc; exact hrc.elim
theorem s_invUG {c9 z n m9 idx : Nat} {dz : xDt} (hz9 : G.dat z = dz) (ho : xCallOk G d dz n m9) (hE : d.2.2.2.2.2 = []) (hcl9 : xClsOk G c9) (hw1 : Cond.methodLink d.1.cls idx dz.1 ∈ G.tb) (hw4 : Cond.sameMethod dz.1.cls dz.1.cls dz.1.name dz.1.desc ∈ G.tb) (hw5 : Cond.superclass d.1.cls dz.1.cls ∈ G.tb) (hw2 : Cond.instanceMethod dz.1 ∈ G.tb) (hno : dz.1.name ≠ "<init>") (hd : decode d.2.1 pc = .ok (.invokespecial idx, 3)) : xSnd G d pc (i_invVA c9 z (n + 1) m9) 3 := by
  intro P Q K hP hK l st h b hs
  obtain ⟨hck, hrc, mc, ms, hb1, hb2, hs⟩ := hs
  have hk := hP _ _ _ _ _ _ _ hs
  rw [hz9] at hk
  intro p e R s m args below meth c ad0 ok0 C ad H locs cells slots ls d0 hd0 hl hr hok hz hcc hsl hst hlo
  have hts := dr_words C.2.2.2.2.2.2.1 d0
  obtain ⟨-, hrest, harg⟩ := xCk_spec hck
  have cb := x_cb ho hk (ok_take hst) (by rw [xCat_rev]; exact harg) C (ad := ad) d0
  have hlen := x_len hck
  have hsp := x_split (ad := ad) hck
  cases hT : (st.take (n + 1)).reverse with
  | nil => rw [hT] at hrc; exact hrc.elim
  | cons w As =>
    cases w with
    | ref o =>
      rw [hT] at cb hlen hsp hrc
      obtain ⟨cell, q1, q2, q3, q5, q4⟩ := x_objR hr (show (gS h o).1 = c9 from hrc) hcl9
      have hsp' : st.map (xCv ad) = (As.map (xCv ad)).reverse ++ .ref (ad o) :: (st.drop (n + 1)).map (xCv ad) := by
        rw [hsp, List.map_cons, List.reverse_cons, List.append_assoc]
        rfl
      obtain ⟨kB, hkB, -⟩ := (C.2.2.2.2.2.2.2.2.2.2.1.1 c9 hcl9.1 hcl9.2.1).2.2
      refine x_callSU (l := G.l) (e := e) (R := R) (s := s.setDrawn d0) (args := args) (below := below) (meth := meth) (H := H) (locs := locs) (Q := xMQ below (xRT G ad0 ok0 Q) (xTH G ad0 ok0 Q) s R.cells R.slots (fun q => G.B0 ≤ q)) (mc := mc) (ms := ms) (cells := cells) (slots := slots) (kB := kB) (As := As.map (xCv ad)) (b := ad o) (rest := (st.drop (n + 1)).map (xCv ad)) C.1 C.2.1 (hl.1.trans C.2.2.1.symm) C.2.2.2.2.2.1 (hts _ hw1) (hts _ hw4) (hts _ hw5) (hts _ hw2) hno cb q1 q3 (by rw [q2]; exact hkB)
        (fun sig hsig => by rw [List.length_map, ← ho.2.2.2.2.2.2.2.2.2 sig hsig]; simp only [List.length_cons] at hlen; omega) (by have := xCat_map ad (st.drop (n + 1)); unfold xCat at this hrest; rw [this]; exact hrest) hd ⟨by omega, by omega⟩
        (fun U hU hW => ⟨rfl, by rw [hU]; exact hr, xKs_warm hW (xKs_same (u := s) rfl C.2.2.2.2.2.2.2.2.2.2.1)⟩) ?_ ?_ hsp'
      · intro d1 H1 L v hd1 hL hrt
        exact x_backto (b := b) hK C (Drawn.sameBut.trans hd0 hd1) hl hok hz (by show cells + mc + (b.1 - mc) ≤ _; omega) (by show slots + ms + (b.2 - ms) ≤ _; omega) (ok_drop hst) hlo hL hrt
      · intro d1 H1 L q E ce hd1 hL hth hcell hv hcl
        exact x_outto hE C (Drawn.sameBut.trans hd0 hd1) hok hz (by omega) (by omega) hL hcell hv hcl hth
    | _ => rw [hT] at hrc; exact hrc.elim
/-- calls that make nothing -/
theorem s_invS0 {z n m9 : Nat} (hk : xSnd G d pc (i_invSA z n m9) 3) : xSnd G d pc (i_invS0 z n m9) 3 := fun P Q K hP hK l st h b hs => by
  refine hk P Q K hP hK l st h b ⟨hs.1, 0, 0, Nat.zero_le _, Nat.zero_le _, ?_⟩
  exact hs.2
theorem s_invV0 {c9 z n m9 : Nat} (hk : xSnd G d pc (i_invVA c9 z n m9) 3) : xSnd G d pc (i_invV0 c9 z n m9) 3 := fun P Q K hP hK l st h b hs => by
  refine hk P Q K hP hK l st h b ⟨hs.1, hs.2.1, 0, 0, Nat.zero_le _, Nat.zero_le _, ?_⟩
  exact hs.2.2
end XV
