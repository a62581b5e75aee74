/-! ===== new things and ends ===== -/
section XN
variable {G : xGt} {d : xDt} {pc : Nat}
theorem xMapNew {ad : Nat → Nat} {h : xH} {o z : Nat} (hf : xFree h o) {st : List Value} (hv : ∀ v ∈ st, xOkV h v) : st.map (xCv (fun i => if i = o then z else ad i)) = st.map (xCv ad) :=
  List.map_congr_left fun v hvv => xCv_new hf (hv v hvv)
theorem xMapNewL {ad : Nat → Nat} {h : xH} {o z : Nat} (hf : xFree h o) {l : xL} (hv : ∀ q ∈ l, xOkV h q.2) : l.map (xCvL (fun i => if i = o then z else ad i)) = l.map (xCvL ad) :=
  List.map_congr_left fun q hq => by
    show (q.1, xCv _ q.2) = (q.1, xCv ad q.2)
    rw [xCv_new hf (hv q hq)]
theorem xOk_ne {h : xH} {o j : Nat} (hf : xFree h o) (hj : xOk h j) : j ≠ o := fun e => by
  subst e
  rcases hj with w | w
  · exact w hf.1
  · have := hf.2; omega
theorem xFv_zero {ad : Nat → Nat} {cl : Nat → vw_C} {h : xH} {c o k : Nat} {sh : Nat × Nat} : xFv ad cl (nS h o sh) c o k = xDef (xTy ((cl c).2.1 k).2.2.1) := by
  unfold xFv xDef
  rw [gI_nS, gL_nS, gD_nS, gR_nS, if_pos rfl, if_pos rfl, if_pos rfl, if_pos rfl]
  rfl
theorem s_new {c n idx : Nat} (hcl : xClsOk G c) (hro : ¬ xRo c) (hn : n = (G.cl c).2.2) (hd : decode d.2.1 pc = .ok (.new idx, 3)) (hw1 : Cond.classLink d.1.cls idx (G.cl c).1 ∈ G.tb) (hw2 : Cond.instantiable (G.cl c).1 n ∈ G.tb) (hw3 : Cond.initialized (G.cl c).1 ∈ G.tb) : xSnd G d pc (i_new c n) 3 := by
  intro P Q K hP hK l st h b hs
  obtain ⟨hb1, hb2, o, hf, hs⟩ := hs
  intro p e R s m args below meth cd ad0 ok0 C ad H locs cells slots ls d0 hd0 hl hr hok hz hcc hsl hst hlo
  have hts := dr_words C.2.2.2.2.2.2.1 d0
  have hK0 : xKs G (s.setDrawn d0) := xKs_same (u := s) rfl C.2.2.2.2.2.2.2.2.2.2.1
  have hKn := hK0.1 c hcl.1 hcl.2.1
  refine W.newcK (own := d.1.cls) (C := (G.cl c).1) (n := n) (l := G.l) (e := e) (R := R) (s := s.setDrawn d0) (args := args) (below := below) (meth := meth) (locs := locs) (cells := cells) (slots := slots) (Q := xMQ below (xRT G ad0 ok0 Q) (xTH G ad0 ok0 Q) s R.cells R.slots (fun q => G.B0 ≤ q)) (g := F0 m pc ls (st.map (xCv ad))) C.1 C.2.1 C.2.2.2.2.2.1 (hts _ hw1) (hts _ hw2) (hts _ hw3) rfl hd (by omega) (by omega) hKn.2.1 rfl (fun H' kC hkC e1 z1 o1 => ?_)
  have hr' : xRel G (fun i => if i = o then H.size else ad i) (nS h o (c, 0)) H' := by
    refine xRel_new hr hf (by have := hcl.1; show c ≠ 0; omega) hro (Or.inl ?_) o1 z1
    rw [gS_nS, if_pos rfl]
    refine ⟨hcl.2.1, hro, ?_⟩
    show t_OB (if o = o then H.size else ad o) (G.dC c) (G.cl c).2.2 (G.dI c) H' _
    rw [if_pos rfl]
    obtain ⟨ty, hty⟩ := hcl.2.2.2.1
    refine (u_born ty hts hcl.2.2.1 hKn hkC e1 (fun k hk => (hty k hk).1)).to (fun k hk => ?_)
    show defaultValue (ty k) = _
    rw [(hty k hk).2, xFv_zero]
  have h5 := hK _ _ _ _ hs p e R s m args below meth cd ad0 ok0 C (fun i => if i = o then H.size else ad i) H' locs (cells + 1) (slots + n) ls d0 hd0 (by rw [xMapNewL hf hlo]; exact hl) hr'
    (fun i hi => ⟨xOk_new hf (hok i hi).1, by show (if i = o then H.size else ad i) = ad0 i; rw [if_neg (xOk_ne hf (hok i hi).1)]; exact (hok i hi).2⟩) hz (by show cells + 1 + (b.1 - 1) ≤ _; omega) (by show slots + n + (b.2 - n) ≤ _; omega)
    (ok_cons (v := .ref o) (Or.inl (by rw [gS_nS, if_pos rfl]; have := hcl.1; show c ≠ 0; omega)) (fun w hw => xOkV_new hf (hst w hw))) (fun q hq => xOkV_new hf (hlo q hq))
  have e9 : (Value.ref o :: st).map (xCv (fun i => if i = o then H.size else ad i)) = .ref H.size :: st.map (xCv ad) := by
    rw [List.map_cons, xMapNew hf hst]
    show Value.ref (if o = o then H.size else ad o) :: _ = _
    rw [if_pos rfl]
  rw [e9] at h5
  exact h5
theorem s_newa {c w : Nat} {at_ : ArrayType} (hc1 : 100 ≤ c) (hc2 : c < 106) (hat : newarray.typeOf at_ = xEt c) (hwd : componentBytes (xEt c) = w) (hdf : ∀ o j h sh, xAv (nS h o sh) c o j = defaultValue (xEt c)) (hd : decode d.2.1 pc = .ok (.newarray at_, 2)) (hw1 : Cond.arrayClass (xEt c) ∈ G.tb) : xSnd G d pc (i_newa c w) 2 := by
  intro P Q K hP hK l st h b hs
  unfold i_newa at hs
  split at hs
  · rename_i n r
    obtain ⟨hn0, hbytes, hb1, hb2, o, hf, hs⟩ := hs
    intro p e R s m args below meth cd ad0 ok0 C ad H locs cells slots ls d0 hd0 hl hr hok hz hcc hsl hst hlo
    have hts := dr_words C.2.2.2.2.2.2.1 d0
    have hfc : (s.setDrawn d0).vm.findClass ("[" ++ (xEt c).toString) = some (G.cA c) := (C.2.2.2.2.2.2.2.2.2.2.1.2.1 c (Or.inl ⟨hc1, hc2⟩)).2
    have harr : (Cond.arrayClass (newarray.typeOf at_)).before args (s.setDrawn d0) = true := by rw [hat]; exact hts _ hw1
    refine va_newaK (N := ix n) (n := n) (l := G.l) (e := e) (R := R) (s := s.setDrawn d0) (args := args) (below := below) (meth := meth) (locs := locs) (cells := cells) (slots := slots) (Q := xMQ below (xRT G ad0 ok0 Q) (xTH G ad0 ok0 Q) s R.cells R.slots (fun q => G.B0 ≤ q)) (rest := r.map (xCv ad)) (g := F0 m pc ls (.int n :: r.map (xCv ad))) C.1 C.2.1 harr rfl hd rfl hn0 rfl (by rw [hat, hwd]; exact hbytes) (by omega) (by omega) rfl (fun H' cA e1 z1 o1 hA hcA => ?_)
    rw [hat] at e1 hcA
    cases hfc.symm.trans hcA
    have hN : ix n < 2 ^ 31 := by
      have h1 := Int32.toInt_lt n
      unfold ix Int32.toNatClampNeg
      omega
    have hr' : xRel G (fun i => if i = o then H.size else ad i) (nS h o (c, ix n)) H' := by
      refine xRel_new hr hf (by show c ≠ 0; omega) (by show ¬ xRo c; unfold xRo; omega) (Or.inr (Or.inl ?_)) o1 z1
      rw [gS_nS, if_pos rfl]
      refine ⟨hc1, by show ¬ xRo c; unfold xRo; omega, hN, ?_⟩
      show H'[if o = o then H.size else ad o]? = _
      rw [if_pos rfl, e1]
      congr 2
      funext j
      exact (hdf o j h _).symm
    have h5 := hK _ _ _ _ hs p e R s m args below meth cd ad0 ok0 C (fun i => if i = o then H.size else ad i) H' locs (cells + 1) (slots + ix n) ls d0 hd0 (by rw [xMapNewL hf hlo]; exact hl) hr'
      (fun i hi => ⟨xOk_new hf (hok i hi).1, by show (if i = o then H.size else ad i) = ad0 i; rw [if_neg (xOk_ne hf (hok i hi).1)]; exact (hok i hi).2⟩) hz (by show cells + 1 + (b.1 - 1) ≤ _; omega) (by show slots + ix n + (b.2 - ix n) ≤ _; omega)
      (ok_cons (v := .ref o) (Or.inl (by rw [gS_nS, if_pos rfl]; show c ≠ 0; omega)) (fun w hw => xOkV_new hf (ok_tl hst w hw))) (fun q hq => xOkV_new hf (hlo q hq))
    have e9 : (Value.ref o :: r).map (xCv (fun i => if i = o then H.size else ad i)) = .ref H.size :: r.map (xCv ad) := by
      rw [List.map_cons, xMapNew hf (ok_tl hst)]
      show Value.ref (if o = o then H.size else ad o) :: _ = _
      rw [if_pos rfl]
    rw [e9] at h5
    exact h5
  · exact hs.elim
theorem s_obj {idx : Nat} (hd : decode d.2.1 pc = .ok (.invokespecial idx, 3)) (h1 : 1 ≤ d.2.2.2.2.1) (hw1 : Cond.methodLink d.1.cls idx Lib.objectInit ∈ G.tb) (hw2 : Cond.instanceMethod Lib.objectInit ∈ G.tb) (hw3 : Cond.code Lib.objectInit ⟨#[0xb1]⟩ 1 none ∈ G.tb) : xSnd G d pc i_obj 3 := by
  intro P Q K hP hK l st h b hs
  unfold i_obj at hs
  split at hs
  · rename_i o r
    obtain ⟨hcat, hs⟩ := hs
    intro p e R s m args below meth cd ad0 ok0 C ad H locs cells slots ls d0 hd0 hl hr hok hz hcc hsl hst hlo
    have hts := dr_words C.2.2.2.2.2.2.1 d0
    have h5 := hK _ _ _ _ hs p e R s m args below meth cd ad0 ok0 C ad H locs cells slots ls d0 hd0 hl hr hok hz hcc hsl (ok_tl hst) hlo
    have hcat9 : ((r.map (xCv ad)).map fun v => v.category).sum ≤ 8 := by
      rw [List.map_map]
      have : (r.map ((fun v => v.category) ∘ xCv ad)) = r.map fun v => v.category := List.map_congr_left fun v _ => xCv_cat ad v
      rw [this]
      exact hcat
    have hfr := C.2.2.2.2.2.2.2.1
    have hlo9 := C.2.2.2.2.2.2.2.2.1
    exact W.objInit (own := d.1.cls) (l := G.l) (e := e) (R := R) (s := s.setDrawn d0) (args := args) (below := below) (meth := meth) (locs := locs) (cells := cells) (slots := slots) (Q := xMQ below (xRT G ad0 ok0 Q) (xTH G ad0 ok0 Q) s R.cells R.slots (fun q => G.B0 ≤ q)) (a := ad o) (rest := r.map (xCv ad)) (g := F0 m pc ls (.ref (ad o) :: r.map (xCv ad))) C.1 C.2.1 C.2.2.2.2.2.1 (hts _ hw1) (hts _ hw2) (hts _ hw3) rfl (hl.1.trans C.2.2.1.symm) rfl hd (by omega) (by
      show 2 * 0 + _ + 12 ≤ R.locals
      omega) h5
  · exact hs.elim
/-- a return -/
theorem x_end {l : xL} {st : List Value} {h : xH} {b : Nat × Nat} {Q : xQ} {r : Option Value} (hq : Q (.ok r) h b) (hst9 : st = r.toList)
    (row : ∀ {p : Program} {e : Env} {R : Room} {s : State} {m : MethodId} {args : Array Value} {below : List Frame} {meth : Method} {c : Code} {H : Heap} {locs : List Loc} {cells slots : Nat} {ls : Array Slot} {ad : Nat → Nat} {Qc : Array Value → State → Outcome → State → Prop} {free : Addr → Prop},
      p.tables.exec = Jvm.exec → c.code = d.2.1 → meth.sig.returnType = d.2.2.2.1 → meth.locks = false → (∀ t : State, t.heap = H → s.WarmedH t.vm → Qc args s (.returned (r.map (xCv ad))) t) → (∀ q ∈ locs, free q.base) → W p G.l e R s m args below meth c H locs cells slots (MQ below Qc args s cells slots free) (F0 m pc ls ((r.map (xCv ad)).toList))) : xOKat G d pc l st h b Q := by
  intro p e R s m args below meth cd ad0 ok0 C ad H locs cells slots ls d0 hd0 hl hr hok hz hcc hsl hst hlo
  subst hst9
  have k := row (e := e) (R := R) (s := s.setDrawn d0) (m := m) (args := args) (below := below) (H := H) (locs := locs) (cells := cells) (slots := slots) (ls := ls) (ad := ad) (Qc := fun _ _ o t => ∃ v, o = .returned v ∧ xRT G ad0 ok0 Q v t.heap) (free := fun q => G.B0 ≤ q) C.1 C.2.1 C.2.2.2.1 C.2.2.2.2.1
    (fun t ht _ => ⟨_, rfl, by rw [ht]; exact ⟨ad, h, r, b, hq, rfl, fun w hw => hst w (by rw [hw]; exact List.mem_cons_self), hr, hok⟩⟩) hz
  have e9 : (r.map (xCv ad)).toList = r.toList.map (xCv ad) := by cases r <;> rfl
  rw [e9] at k
  exact x_ret (s := s) hd0 (by omega) (by omega) k
theorem s_ret (hd : decode d.2.1 pc = .ok (.return_, 1)) (hr : d.2.2.2.1 = none) : xSnd G d pc i_ret 1 := by
  intro P Q K hP hK l st h b hs
  unfold i_ret at hs
  split at hs
  · exact x_end (r := none) hs rfl (fun h1 h2 h3 h4 h5 h6 => W.vret h1 h2 (h3.trans hr) h5 h6 hd h4)
  · exact hs.elim
theorem s_iret (hd : decode d.2.1 pc = .ok (.ireturn, 1)) (hr : d.2.2.2.1 = some .int) : xSnd G d pc i_iret 1 := by
  intro P Q K hP hK l st h b hs
  unfold i_iret at hs
  split at hs
  · exact x_end (r := some (.int _)) hs rfl (fun h1 h2 h3 h4 h5 h6 => W.iret h1 h2 (h3.trans hr) h5 h6 hd h4)
  · exact hs.elim
theorem s_zret (hd : decode d.2.1 pc = .ok (.ireturn, 1)) (hr : d.2.2.2.1 = some .boolean) : xSnd G d pc i_zret 1 := by
  intro P Q K hP hK l st h b hs
  unfold i_zret at hs
  split at hs
  · obtain ⟨hv, hs⟩ := hs
    exact x_end (r := some (.int _)) hs rfl (fun h1 h2 h3 h4 h5 h6 => W.zret h1 h2 (h3.trans hr) (by rcases hv with rfl | rfl <;> rfl) h5 h6 hd h4)
  · exact hs.elim
/-- byte, char, short -/
def i_nret (ty : FieldType) : xSem := fun _ Q _ _ st h b => match st with
  | [.int v] => narrow ty (.int v) = .int v ∧ Q (.ok (some (.int v))) h b
  | _ => False
theorem s_nret {ty : FieldType} (hd : decode d.2.1 pc = .ok (.ireturn, 1)) (hr : d.2.2.2.1 = some ty) : xSnd G d pc (i_nret ty) 1 := by
  intro P Q K hP hK l st h b hs
  unfold i_nret at hs
  split at hs
  · obtain ⟨hv, hs⟩ := hs
    exact x_end (r := some (.int _)) hs rfl (fun h1 h2 h3 h4 h5 h6 => W.zret h1 h2 (h3.trans hr) hv h5 h6 hd h4)
  · exact hs.elim
theorem s_lret (hd : decode d.2.1 pc = .ok (.lreturn, 1)) (hr : d.2.2.2.1 = some .long) : xSnd G d pc i_lret 1 := by
  intro P Q K hP hK l st h b hs
  unfold i_lret at hs
  split at hs
  · exact x_end (r := some (.long _)) hs rfl (fun h1 h2 h3 h4 h5 h6 => W.lret h1 h2 (h3.trans hr) h5 h6 hd h4)
  · exact hs.elim
theorem s_fret (hd : decode d.2.1 pc = .ok (.freturn, 1)) (hr : d.2.2.2.1 = some .float) : xSnd G d pc i_fret 1 := by
  intro P Q K hP hK l st h b hs
  unfold i_fret at hs
  split at hs
  · exact x_end (r := some (.float _)) hs rfl (fun h1 h2 h3 h4 h5 h6 => W.fret h1 h2 (h3.trans hr) h5 h6 hd h4)
  · exact hs.elim
theorem s_dret (hd : decode d.2.1 pc = .ok (.dreturn, 1)) (hr : d.2.2.2.1 = some .double) : xSnd G d pc i_dret 1 := by
  intro P Q K hP hK l st h b hs
  unfold i_dret at hs
  split at hs
  · exact x_end (r := some (.double _)) hs rfl (fun h1 h2 h3 h4 h5 h6 => W.dret h1 h2 (h3.trans hr) h5 h6 hd h4)
  · exact hs.elim
theorem s_aret {cn : String} (hd : decode d.2.1 pc = .ok (.areturn, 1)) (hr : d.2.2.2.1 = some (.object cn)) : xSnd G d pc i_aret 1 := by
  intro P Q K hP hK l st h b hs
  unfold i_aret at hs
  split at hs
  · exact x_end (r := some (.ref _)) hs rfl (fun h1 h2 h3 h4 h5 h6 => W.aret h1 h2 (h3.trans hr) (Or.inl ⟨cn, rfl⟩) (Or.inr ⟨_, rfl⟩) h5 h6 hd h4)
  · exact hs.elim
end XN
