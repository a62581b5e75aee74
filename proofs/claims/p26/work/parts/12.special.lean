/-! ===== texts, statics, throws, copies ===== -/
section XS
variable {G : xGt} {d : xDt} {pc : Nat}
theorem x_Ks {p : Program} {R : Room} {s : State} {m : MethodId} {args : Array Value} {meth : Method} {c : Code} (h : ∃ s0 d0, s = s0.setDrawn d0 ∧ xCx G d p R s0 m args meth c) : xKs G s := by
  obtain ⟨s0, d0, rfl, C⟩ := h
  exact xKs_same (u := s0) rfl C.2.2.2.2.2.2.2.2.2.2.1
/-- a constant text -/
theorem s_ldcS {i k : Nat} {tx : String} (hd : decode d.2.1 pc = .ok (.ldc i, 2)) (hw : (d.1.cls, i, tx, k) ∈ G.sr) : xSnd G d pc (i_push (.ref (900000 + k))) 2 := by
  intro P Q K hP hK l st h b hs
  refine x_pure (fun h1 _ => ok_cons (v := .ref (900000 + k)) (Or.inr (by omega)) h1) (fun {_ _ _ _ _ _ _ _ _ _ _ _ _ _ _ ad} h1 h2 h3 h4 h5 kk => va_ldcS h1 h2 (x_own h5) (have q9 := (x_Ks h5).2.2.1 _ hw; q9) hd ?_) (hK _ _ _ _ hs)
  have e : xCv ad (.ref (900000 + k)) = .ref (G.aC (900000 + k)) := by
    show Value.ref (ad (900000 + k)) = _
    rw [h4.2.2.2.2.2 _ (by omega)]
  rw [List.map_cons, e] at kk
  exact kk
/-- a static that nobody writes: v as it stands here, w in the plain machine -/
theorem s_gets {idx : Nat} {C n dd : String} {v w : Value} (hd : decode d.2.1 pc = .ok (.getstatic idx, 3)) (hs : (C, n, dd, v) ∈ G.sv) (hw : Cond.fieldLink d.1.cls idx C n dd ∈ G.tb) (hv : (∀ ad, xCv ad w = v) ∨ ∃ k, 900000 ≤ k ∧ w = .ref k ∧ v = .ref (G.aC k)) (hok : ∀ h, xOkV h w) : xSnd G d pc (i_push w) 3 := by
  intro P Q K hP hK l st h b hk
  refine x_pure (fun h1 _ => ok_cons (hok h) h1) (fun {_ _ _ _ _ _ _ _ _ H _ _ _ _ _ ad} h1 h2 h3 h4 h5 kk => ?_) (hK _ _ _ _ hk)
  have e : xCv ad w = v := by
    rcases hv with hv | ⟨k, hk9, rfl, rfl⟩
    · exact hv ad
    · show Value.ref (ad k) = _
      rw [h4.2.2.2.2.2 _ hk9]
  rw [List.map_cons, e] at kk
  obtain ⟨cf, kf, fi, f, a, cell, g1, g2, g3, g4, g5, g6, g7, g8⟩ := (x_Ks h5).2.2.2.1 _ hs
  have hcell : H[a]? = some cell := by
    rw [h4.2.2.2.1 a (Nat.not_le.mp g8)]; exact g5
  exact W.gets h1 h2 (x_own h5) (x_word h5 hw) g1 g2 g3 g4 hcell (fun e => by rw [e] at g6; cases g6) g7 rfl hd kk
/-- a static that holds null or some reference, for passing on alone -/
def i_gsq : xSem := fun _ _ K l st h b => ∀ v : Value, v = .null ∨ v = .ref 900502 → K l (v :: st) h b
theorem s_gsq {idx : Nat} {C n dd : String} {v : Value} (hd : decode d.2.1 pc = .ok (.getstatic idx, 3)) (hs : (C, n, dd, v) ∈ G.sv) (hw : Cond.fieldLink d.1.cls idx C n dd ∈ G.tb) (hv : v = .null ∨ v = .ref (G.aC 900502)) : xSnd G d pc i_gsq 3 := by
  intro P Q K hP hK l st h b hk
  rcases hv with rfl | rfl
  · exact s_gets (w := .null) hd hs hw (Or.inl fun _ => rfl) (fun _ => trivial) P Q K hP hK l st h b (hk .null (Or.inl rfl))
  · exact s_gets (w := .ref 900502) hd hs hw (Or.inr ⟨900502, by decide, rfl, rfl⟩) (fun _ => Or.inr (by decide)) P Q K hP hK l st h b (hk _ (Or.inr rfl))
/-- throw new E("text"), not caught here -/
def i_thr (E : String) : xSem := fun _ Q _ _ st h b => 1 ≤ b.1 ∧ 6 ≤ b.2 ∧ xCat st ≤ 8 ∧ Q (.error E) h (b.1 - 1, b.2 - 6)
theorem xRel_low {ad : Nat → Nat} {h : xH} {H H1 : Heap} (hr : xRel G ad h H) (hz : H.size ≤ H1.size) (hq : ∀ q : Nat, q < H.size → H1[q]? = H[q]?) : xRel G ad h H1 := by
  obtain ⟨r1, r2, r3, r4, r5, r6⟩ := hr
  refine ⟨fun a ha => ⟨?_, (r1 a ha).2⟩, r2, r3, fun q hq9 => by rw [hq q (by omega)]; exact r4 q hq9, by omega, r6⟩
  exact xAt_same ⟨rfl, fun _ => rfl, fun _ => rfl, fun _ => rfl, fun _ => rfl⟩ rfl (fun _ _ _ => rfl) (hq _ (xRel_lt (r1 a ha).1)) (r1 a ha).1
theorem x_thrG {E tx : String} {names : List String} {ik is ic len : Nat} (hE : d.2.2.2.2.2 = []) (hfr : names.length + 4 ≤ d.2.2.2.2.1) (hfit : Bundle.fit E = true) (hnames : ∀ n ∈ names, Bundle.fit n = true)
    (hw1 : Cond.classLink d.1.cls ik E ∈ G.tb) (hw2 : Cond.initialized E ∈ G.tb) {k : Nat} (hstr : (d.1.cls, is, tx, k) ∈ G.sr) (hat : ∀ w ∈ vx_atS d.1.cls ic E names, w ∈ G.tb) (hgood : ∀ w ∈ Cond.classLink d.1.cls ik E :: Cond.initialized E :: vx_atS d.1.cls ic E names, vx_ot w = true)
    (hd : (decode d.2.1 pc = .ok (.new ik, 3) ∧ decode d.2.1 (pc + 3) = .ok (.dup, 1) ∧ decode d.2.1 (pc + 4) = .ok (.ldc is, 2) ∧ decode d.2.1 (pc + 6) = .ok (.invokespecial ic, 3) ∧ decode d.2.1 (pc + 9) = .ok (.athrow, 1)) ∨
      (decode d.2.1 pc = .ok (.new ik, 3) ∧ decode d.2.1 (pc + 3) = .ok (.dup, 1) ∧ decode d.2.1 (pc + 4) = .ok (.ldc_w is, 3) ∧ decode d.2.1 (pc + 7) = .ok (.invokespecial ic, 3) ∧ decode d.2.1 (pc + 10) = .ok (.athrow, 1))) : xSnd G d pc (i_thr E) len := by
  intro P Q K hP hK l st h b hs
  obtain ⟨hb1, hb2, hcat, hq⟩ := hs
  intro p e R s m args below meth cd ad0 ok0 C ad H locs cells slots ls d0 hd0 hl hr hok hz hcc hsl hst hlo
  intro T hT X
  have hts := dr_words C.2.2.2.2.2.2.1 d0
  have hK0 : xKs G (s.setDrawn d0) := xKs_same (u := s) rfl C.2.2.2.2.2.2.2.2.2.2.1
  have hlow : xLow G (s.setDrawn d0).heap := C.2.2.2.2.2.2.2.2.2.2.2.2.2
  have hS : va_S (fun a => G.B0 ≤ a) (s.setDrawn d0).heap H locs := by
    obtain ⟨f1, f2⟩ := vx_frame (s := s.setDrawn d0) (U := T) X.same
    rw [hT] at f1 f2
    exact ⟨f1, fun q h1 h2 => f2 q h1 (fun z hz9 e9 => h2 (by show G.B0 ≤ q; rw [← e9]; exact hz z hz9)), hz⟩
  have stat : ∀ {Cn n9 d9 : String}, vx_Zq Cn n9 d9 (fun a => G.B0 ≤ a) (s.setDrawn d0) G.HB → vx_Zq Cn n9 d9 (fun a => G.B0 ≤ a) (s.setDrawn d0) (s.setDrawn d0).heap := fun {Cn n9 d9} hZ =>
    vx_Zq.kept hZ (fun a _ h2 => hlow.1 a (Nat.not_le.mp h2))
  have hU := stat hK0.2.2.2.2.1
  have hN := stat hK0.2.2.2.2.2.1
  have htab : ∀ x ∈ cd.exceptionTable.toList, False := fun x hx => by
    rw [C.2.2.2.2.2.2.2.2.2.2.2.1, hE] at hx
    cases hx
  have hcat9 : ((st.map (xCv ad)).map fun v => v.category).sum ≤ 8 := by
    have := xCat_map ad st
    unfold xCat at this hcat
    rw [this]; exact hcat
  have hfr9 := C.2.2.2.2.2.2.2.1
  have hlo9 := C.2.2.2.2.2.2.2.2.1
  have hx9 : ∀ t : State, (s.setDrawn d0).vm.Alike t.vm → H.size ≤ t.heap.size → (∀ q : Nat, q < H.size → t.heap[q]? = H[q]?) → xTH G ad0 ok0 Q E t.heap := fun t _ h1 h2 => ⟨ad, h, _, hq, xRel_low hr h1 h2, hok⟩
  have key : W p G.l e R (s.setDrawn d0) m args below meth cd H locs cells slots (vx_MQ below (fun _ _ _ _ => False) (fun E9 _ t => xTH G ad0 ok0 Q E9 t.heap ∧ E9 = E) args (s.setDrawn d0) R.cells R.slots (fun q => G.B0 ≤ q)) (F0 m pc ls (st.map (xCv ad))) := by
    rcases hd with ⟨e0, e3, e4, e6, e9⟩ | ⟨e0, e3, e4, e7, e10⟩
    · exact vx_throwS (own := d.1.cls) (cls := E) (text := tx) (names := names) (ik := ik) (is := is) (ic := ic) (A := fun a => G.B0 ≤ a) C.1 C.2.1 C.2.2.2.2.2.2.2.2.2.2.2.2.1 C.2.2.2.2.2.1 hfit hnames (hts _ hw1) (hts _ hw2) (have q9 := hK0.2.2.1 _ hstr; q9) (fun w hw => hts w (hat w hw)) hgood hU hN hS (hl.1.trans C.2.2.1.symm) e0 e3 e4 e6 e9
        (fun x hx => (htab x hx).elim) (by omega) (by omega) (by omega) (by omega) C.2.2.2.2.1 (fun t h1 h2 h3 => ⟨hx9 t h1 h2 h3, rfl⟩) hz (by omega) (by omega)
    · exact vx_throwSW (own := d.1.cls) (cls := E) (text := tx) (names := names) (ik := ik) (is := is) (ic := ic) (A := fun a => G.B0 ≤ a) C.1 C.2.1 C.2.2.2.2.2.2.2.2.2.2.2.2.1 C.2.2.2.2.2.1 hfit hnames (hts _ hw1) (hts _ hw2) (have q9 := hK0.2.2.1 _ hstr; q9) (fun w hw => hts w (hat w hw)) hgood hU hN hS (hl.1.trans C.2.2.1.symm) e0 e3 e4 e7 e10
        (fun x hx => (htab x hx).elim) (by omega) (by omega) (by omega) (by omega) C.2.2.2.2.1 (fun t h1 h2 h3 => ⟨hx9 t h1 h2 h3, rfl⟩) hz (by omega) (by omega)
  obtain ⟨t, a1, o, b1, b2, b3⟩ := key T hT X
  rcases b3 with ⟨hf, -⟩ | ⟨q, rfl, E9, ce, L, ⟨hth, rfl⟩, hce, hcv, hcl, hW, hsm, hL⟩
  · exact hf.elim
  · exact ⟨t, a1, _, b1, b2, d0, hd0, L, hL, hW, hsm, Or.inr ⟨q, _, ce, rfl, hce, hcv, hcl, hth⟩⟩
/-- System.arraycopy of numbers -/
def cpI (h : xH) (a0 a sp dp n : Nat) : xH := (h.1, fun o k => if o = a ∧ dp ≤ k ∧ k < dp + n then h.2.1 a0 (sp + (k - dp)) else h.2.1 o k, h.2.2.1, h.2.2.2.1, h.2.2.2.2)
def cpL (h : xH) (a0 a sp dp n : Nat) : xH := (h.1, h.2.1, fun o k => if o = a ∧ dp ≤ k ∧ k < dp + n then h.2.2.1 a0 (sp + (k - dp)) else h.2.2.1 o k, h.2.2.2.1, h.2.2.2.2)
theorem gI_cpI (h : xH) (a0 a sp dp n o k : Nat) : gI (cpI h a0 a sp dp n) o k = if o = a ∧ dp ≤ k ∧ k < dp + n then gI h a0 (sp + (k - dp)) else gI h o k := rfl
theorem gL_cpL (h : xH) (a0 a sp dp n o k : Nat) : gL (cpL h a0 a sp dp n) o k = if o = a ∧ dp ≤ k ∧ k < dp + n then gL h a0 (sp + (k - dp)) else gL h o k := rfl
theorem gS_cpI (h : xH) (a0 a sp dp n o : Nat) : gS (cpI h a0 a sp dp n) o = gS h o := rfl
theorem gL_cpI (h : xH) (a0 a sp dp n o k : Nat) : gL (cpI h a0 a sp dp n) o k = gL h o k := rfl
theorem gD_cpI (h : xH) (a0 a sp dp n o k : Nat) : gD (cpI h a0 a sp dp n) o k = gD h o k := rfl
theorem gR_cpI (h : xH) (a0 a sp dp n o k : Nat) : gR (cpI h a0 a sp dp n) o k = gR h o k := rfl
theorem gS_cpL (h : xH) (a0 a sp dp n o : Nat) : gS (cpL h a0 a sp dp n) o = gS h o := rfl
theorem gI_cpL (h : xH) (a0 a sp dp n o k : Nat) : gI (cpL h a0 a sp dp n) o k = gI h o k := rfl
theorem gD_cpL (h : xH) (a0 a sp dp n o k : Nat) : gD (cpL h a0 a sp dp n) o k = gD h o k := rfl
theorem gR_cpL (h : xH) (a0 a sp dp n o k : Nat) : gR (cpL h a0 a sp dp n) o k = gR h o k := rfl
def i_copy (c : Nat) : xSem := fun _ _ K l st h b => match st with
  | .int n :: .int dp :: .ref a :: .int sp :: .ref a0 :: r => xCat r ≤ 8 ∧ (gS h a0).1 = c ∧ (gS h a).1 = c ∧ ¬ sp < 0 ∧ ¬ dp < 0 ∧ ¬ n < 0 ∧ ix sp + ix n ≤ (gS h a0).2 ∧ ix dp + ix n ≤ (gS h a).2 ∧ (∀ i, i < ix n → fits (xEt c) (xAv h c a0 (ix sp + i)) = true) ∧
    K l r (if c = 101 then cpL h a0 a (ix sp) (ix dp) (ix n) else cpI h a0 a (ix sp) (ix dp) (ix n)) b
  | _ => False
theorem xAv_cp {h : xH} {c a0 a sp dp n : Nat} (hc2 : c ≠ 102) (j : Nat) : xAv (if c = 101 then cpL h a0 a sp dp n else cpI h a0 a sp dp n) c a j = va_cpy (xAv h c a0) (xAv h c a) sp dp n j := by
  unfold va_cpy xAv
  by_cases e : c = 101
  · rw [if_pos e, if_pos e, if_pos e, if_pos e, gL_cpL]
    by_cases w : dp ≤ j ∧ j < dp + n
    · rw [if_pos ⟨rfl, w⟩, if_pos w]
    · rw [if_neg (fun z => w z.2), if_neg w]
  · rw [if_neg e, if_neg e, if_neg e, if_neg e, if_neg hc2, if_neg hc2, if_neg hc2, gI_cpI]
    by_cases w : dp ≤ j ∧ j < dp + n
    · rw [if_pos ⟨rfl, w⟩, if_pos w]
    · rw [if_neg (fun z => w z.2), if_neg w]
theorem s_copy {c idx : Nat} (hc : c = 100 ∨ c = 101 ∨ c = 103) (h1f : 1 ≤ d.2.2.2.2.1) (hw1 : Cond.methodLink d.1.cls idx arraycopyName ∈ G.tb) (hw2 : Cond.native arraycopyName ∈ G.tb) (hw3 : Cond.static arraycopyName ∈ G.tb) (hw4 : Cond.initialized "java/lang/System" ∈ G.tb) (hd : decode d.2.1 pc = .ok (.invokestatic idx, 3)) : xSnd G d pc (i_copy c) 3 := by
  intro P Q K hP hK l st h b hs
  unfold i_copy at hs
  split at hs
  · rename_i n dp a sp a0 r
    obtain ⟨hcat, hk0, hk1, h1, h2, h3, h4, h5, hfit, hs⟩ := hs
    intro p e R s m args below meth cd ad0 ok0 C ad H locs cells slots ls d0 hd0 hl hr hok hz hcc hsl hst hlo
    have hro : ¬ xRo c := by rcases hc with rfl | rfl | rfl <;> decide
    have hc100 : 100 ≤ c := by rcases hc with rfl | rfl | rfl <;> decide
    have hxa : xAk c := by rcases hc with rfl | rfl | rfl <;> decide
    have hc2 : c ≠ 102 := by rcases hc with rfl | rfl | rfl <;> decide
    have hprim : refKind (xEt c) = false := by rcases hc with rfl | rfl | rfl <;> rfl
    obtain ⟨hN0, hcell0⟩ := x_arr hr hk0 hc100 hro
    obtain ⟨hN1, hcell1⟩ := x_arr hr hk1 hc100 hro
    have hts := dr_words C.2.2.2.2.2.2.1 d0
    have hA : ArrOfT (s.setDrawn d0) (G.cA c) (xEt c) := (C.2.2.2.2.2.2.2.2.2.2.1.2.1 c hxa).1
    have hlive : (gS h a).1 ≠ 0 := by rw [hk1]; omega
    have hbase : G.B0 ≤ ad a := by
      rcases (hr.1 a hlive).2 with z | z
      · exact z.2.1
      · rw [hk1] at z; exact absurd z.2.2 hro
    have nn : ∀ z : Int32, ¬ z < 0 → z.toInt = (z.toNatClampNeg : Int) := by
      intro z hz
      have hz0 : (0 : Int) ≤ z.toInt := by
        have := Int32.not_lt.mp hz
        simpa using Int32.le_iff_toInt_le.mp this
      show z.toInt = ((z.toInt.toNat : Nat) : Int)
      omega
    intro T hT X
    obtain ⟨-, k0, hkk, cm, hkind⟩ := hA 0 (fun _ => .null)
    have hfr9 := C.2.2.2.2.2.2.2.1
    have hlo9 := C.2.2.2.2.2.2.2.2.1
    have hcat9 : ((r.map (xCv ad)).map fun v => v.category).sum ≤ 8 := by
      have := xCat_map ad r
      unfold xCat at this hcat
      rw [this]; exact hcat
    have h4' : sp.toNatClampNeg + n.toNatClampNeg ≤ (gS h a0).2 := h4
    have h5' : dp.toNatClampNeg + n.toNatClampNeg ≤ (gS h a).2 := h5
    obtain ⟨vm', X', step⟩ := X.arraycopy C.1 C.2.2.2.2.2.1 (hts _ hw1) (hts _ hw2) (hts _ hw3) (hts _ hw4) (src := ad a0) (dst := ad a) (cs := arrV (G.cA c) (gS h a0).2 (xAv h c a0)) (cd := arrV (G.cA c) (gS h a).2 (xAv h c a)) (srcPos := sp) (destPos := dp) (n := n) (by rw [hT]; exact hcell0) (by rw [hT]; exact hcell1)
      (fun _ h => by cases h) (fun _ h => by cases h) (fun h => by cases h) (fun h => by cases h) hkk hkk hkind hkind (by simp [hprim]) h1 h2 h3
      (by rw [nn sp h1, nn n h3]; show ¬ _ > ((arrV (G.cA c) (gS h a0).2 (xAv h c a0)).slots.size : Int); rw [arrV_size]; omega)
      (by rw [nn dp h2, nn n h3]; show ¬ _ > ((arrV (G.cA c) (gS h a).2 (xAv h c a)).slots.size : Int); rw [arrV_size]; omega)
      (fun vm₁ _ i hi => by
        have e : (arrV (G.cA c) (gS h a0).2 (xAv h c a0)).slots.getD (sp.toNatClampNeg + i) .null = xAv h c a0 (sp.toNatClampNeg + i) := by
          rw [Array.getD_eq_getD_getElem?, arrV_read _ _ (by omega)]
          rfl
        refine ⟨?_, ?_⟩
        · rw [e]
          exact hfit i hi
        · rw [e]
          unfold xAv
          split
          · exact trivial
          · first
              | exact trivial
              | (split <;> exact trivial))
      (g := F0 m pc ls (.int n :: .int dp :: .ref (ad a) :: .int sp :: .ref (ad a0) :: r.map (xCv ad))) rfl (hl.1.trans C.2.2.1.symm) (rest := r.map (xCv ad)) rfl (by rw [C.2.1]; exact hd) (by omega) (by
        have h90 : nativeFrameWords "java/lang/System" "arraycopy" 5 + 11 ≤ 92 := by decide +kernel
        show 2 * 0 + _ + _ ≤ _
        omega)
    have e1 : copied (arrV (G.cA c) (gS h a0).2 (xAv h c a0)) (arrV (G.cA c) (gS h a).2 (xAv h c a)) sp dp n = arrV (G.cA c) (gS h a).2 (va_cpy (xAv h c a0) (xAv h c a) (ix sp) (ix dp) (ix n)) := va_copied (fun z => z) (G.cA c) (G.cA c) (xAv h c a0) (xAv h c a) h4
    rw [e1] at X' step
    have hlt : ad a < H.size := (Array.getElem?_eq_some_iff.mp hcell1).1
    have hheap : ((T.setVm vm').setCell (ad a) (arrV (G.cA c) (gS h a).2 (va_cpy (xAv h c a0) (xAv h c a) (ix sp) (ix dp) (ix n)))).heap = H.setIfInBounds (ad a) (arrV (G.cA c) (gS h a).2 (va_cpy (xAv h c a0) (xAv h c a) (ix sp) (ix dp) (ix n))) := by rw [← hT]; rfl
    have hr' : xRel G ad (if c = 101 then cpL h a0 a (ix sp) (ix dp) (ix n) else cpI h a0 a (ix sp) (ix dp) (ix n)) (H.setIfInBounds (ad a) (arrV (G.cA c) (gS h a).2 (va_cpy (xAv h c a0) (xAv h c a) (ix sp) (ix dp) (ix n)))) := by
      have hS9 : ∀ o, gS (if c = 101 then cpL h a0 a (ix sp) (ix dp) (ix n) else cpI h a0 a (ix sp) (ix dp) (ix n)) o = gS h o := fun o => by split <;> rfl
      refine xRel_upd (o := a) hr (hS9 a) hlive (by rw [hk1]; exact hro) (fun o ho => ?_) (Or.inr (Or.inl ?_)) (fun q hq => by simp [Array.getElem?_setIfInBounds, Ne.symm hq]) (by simp) (fun k j hj => ?_)
      · by_cases e9 : c = 101
        · rw [if_pos e9]
          exact ⟨rfl, fun _ => rfl, fun k => by rw [gL_cpL, if_neg (fun z => ho z.1)], fun _ => rfl, fun _ => rfl⟩
        · rw [if_neg e9]
          exact ⟨rfl, fun k => by rw [gI_cpI, if_neg (fun z => ho z.1)], fun _ => rfl, fun _ => rfl, fun _ => rfl⟩
      · rw [hS9, hk1]
        refine ⟨hc100, hro, hN1, ?_⟩
        have e5 : ∀ x : Cell, (H.setIfInBounds (ad a) x)[ad a]? = some x := fun x => by simp [Array.getElem?_setIfInBounds, hlt]
        rw [e5]
        have e6 : va_cpy (xAv h c a0) (xAv h c a) (ix sp) (ix dp) (ix n) = xAv (if c = 101 then cpL h a0 a (ix sp) (ix dp) (ix n) else cpI h a0 a (ix sp) (ix dp) (ix n)) c a := funext fun j => (xAv_cp hc2 j).symm
        rw [e6]
      · refine hr.2.2.1 a k j hlive ?_
        have : gR (if c = 101 then cpL h a0 a (ix sp) (ix dp) (ix n) else cpI h a0 a (ix sp) (ix dp) (ix n)) a k = gR h a k := by split <;> rfl
        rw [this] at hj; exact hj
    have hS9 : ∀ o, gS (if c = 101 then cpL h a0 a (ix sp) (ix dp) (ix n) else cpI h a0 a (ix sp) (ix dp) (ix n)) o = gS h o := fun o => by split <;> rfl
    have h5k := fun (L9 : List Loc) (hz9 : ∀ z ∈ L9, G.B0 ≤ z.base) => hK _ _ _ _ hs p e R s m args below meth cd ad0 ok0 C ad _ L9 cells slots ls d0 hd0 hl hr' (fun i hi => ⟨by have := (hok i hi).1; unfold xOk at this ⊢; rw [hS9]; exact this, (hok i hi).2⟩) hz9 hcc hsl (fun w hw => xOkV_same hS9 (ok_tl (ok_tl (ok_tl (ok_tl (ok_tl hst)))) w hw)) (fun q hq => xOkV_same hS9 (hlo q hq))
    obtain ⟨t, a1, b1⟩ := h5k _ (fun z hzz => by
      rcases List.mem_append.mp hzz with w | w
      · exact hz z w
      · obtain ⟨z9, -, hz9⟩ := List.mem_map.mp w
        rw [← hz9]
        exact hbase) _ hheap X'
    exact ⟨t, step t a1, b1⟩
  · exact hs.elim
end XS
/-! ===== every step is monotone ===== -/
theorem m_push (v : Value) : xMon (i_push v) := fun P P' Q Q' K K' hP hQ hK l st h b hs => hK _ _ _ _ hs
theorem m_iload (n : Nat) : xMon (i_iload n) := by
  intro P P' Q Q' K K' hP hQ hK l st h b hs
  unfold i_iload at hs ⊢
  split at hs
  · exact hK _ _ _ _ hs
  · exact hs.elim
theorem m_lload (n : Nat) : xMon (i_lload n) := by
  intro P P' Q Q' K K' hP hQ hK l st h b hs
  unfold i_lload at hs ⊢
  split at hs
  · exact hK _ _ _ _ hs
  · exact hs.elim
theorem m_dload (n : Nat) : xMon (i_dload n) := by
  intro P P' Q Q' K K' hP hQ hK l st h b hs
  unfold i_dload at hs ⊢
  split at hs
  · exact hK _ _ _ _ hs
  · exact hs.elim
theorem m_aload (n : Nat) : xMon (i_aload n) := by
  intro P P' Q Q' K K' hP hQ hK l st h b hs
  unfold i_aload at hs ⊢
  split at hs
  · exact hK _ _ _ _ hs
  · exact hs.elim
theorem m_istore (n : Nat) : xMon (i_istore n) := by
  intro P P' Q Q' K K' hP hQ hK l st h b hs
  unfold i_istore at hs ⊢
  split at hs
  · exact hK _ _ _ _ hs
  · exact hs.elim
theorem m_astore (n : Nat) : xMon (i_astore n) := by
  intro P P' Q Q' K K' hP hQ hK l st h b hs
  unfold i_astore at hs ⊢
  split at hs
  · exact hK _ _ _ _ hs
  · exact hs.elim
theorem m_lstore (n : Nat) : xMon (i_lstore n) := by
  intro P P' Q Q' K K' hP hQ hK l st h b hs
  unfold i_lstore at hs ⊢
  split at hs
  · exact hK _ _ _ _ hs
  · exact hs.elim
theorem m_dstore (n : Nat) : xMon (i_dstore n) := by
  intro P P' Q Q' K K' hP hQ hK l st h b hs
  unfold i_dstore at hs ⊢
  split at hs
  · exact hK _ _ _ _ hs
  · exact hs.elim
theorem m_iinc (n : Nat) (v : Int32) : xMon (i_iinc n v) := by
  intro P P' Q Q' K K' hP hQ hK l st h b hs
  unfold i_iinc at hs ⊢
  split at hs
  · exact hK _ _ _ _ hs
  · exact hs.elim
theorem m_ii (f : Int32 → Int32 → Int32) : xMon (i_ii f) := by
  intro P P' Q Q' K K' hP hQ hK l st h b hs
  unfold i_ii at hs ⊢
  split at hs
  · exact hK _ _ _ _ hs
  · exact hs.elim
theorem m_ll (f : Int64 → Int64 → Int64) : xMon (i_ll f) := by
  intro P P' Q Q' K K' hP hQ hK l st h b hs
  unfold i_ll at hs ⊢
  split at hs
  · exact hK _ _ _ _ hs
  · exact hs.elim
theorem m_lli (f : Int64 → Int64 → Int32) : xMon (i_lli f) := by
  intro P P' Q Q' K K' hP hQ hK l st h b hs
  unfold i_lli at hs ⊢
  split at hs
  · exact hK _ _ _ _ hs
  · exact hs.elim
theorem m_li (f : Int64 → Int32 → Int64) : xMon (i_li f) := by
  intro P P' Q Q' K K' hP hQ hK l st h b hs
  unfold i_li at hs ⊢
  split at hs
  · exact hK _ _ _ _ hs
  · exact hs.elim
theorem m_i (f : Int32 → Int32) : xMon (i_i f) := by
  intro P P' Q Q' K K' hP hQ hK l st h b hs
  unfold i_i at hs ⊢
  split at hs
  · exact hK _ _ _ _ hs
  · exact hs.elim
theorem m_ddi (f : UInt64 → UInt64 → Int32) : xMon (i_ddi f) := by
  intro P P' Q Q' K K' hP hQ hK l st h b hs
  unfold i_ddi at hs ⊢
  split at hs
  · exact hK _ _ _ _ hs
  · exact hs.elim
theorem m_iiz (f : Int32 → Int32 → Int32) : xMon (i_iiz f) := by
  intro P P' Q Q' K K' hP hQ hK l st h b hs
  unfold i_iiz at hs ⊢
  split at hs
  · exact ⟨hs.1, hK _ _ _ _ hs.2⟩
  · exact hs.elim
theorem m_llz (f : Int64 → Int64 → Int64) : xMon (i_llz f) := by
  intro P P' Q Q' K K' hP hQ hK l st h b hs
  unfold i_llz at hs ⊢
  split at hs
  · exact ⟨hs.1, hK _ _ _ _ hs.2⟩
  · exact hs.elim
theorem m_i2l  : xMon (i_i2l) := by
  intro P P' Q Q' K K' hP hQ hK l st h b hs
  unfold i_i2l at hs ⊢
  split at hs
  · exact hK _ _ _ _ hs
  · exact hs.elim
theorem m_l2i  : xMon (i_l2i) := by
  intro P P' Q Q' K K' hP hQ hK l st h b hs
  unfold i_l2i at hs ⊢
  split at hs
  · exact hK _ _ _ _ hs
  · exact hs.elim
theorem m_i2d  : xMon (i_i2d) := by
  intro P P' Q Q' K K' hP hQ hK l st h b hs
  unfold i_i2d at hs ⊢
  split at hs
  · exact hK _ _ _ _ hs
  · exact hs.elim
theorem m_i2f  : xMon (i_i2f) := by
  intro P P' Q Q' K K' hP hQ hK l st h b hs
  unfold i_i2f at hs ⊢
  split at hs
  · exact hK _ _ _ _ hs
  · exact hs.elim
theorem m_l2d  : xMon (i_l2d) := by
  intro P P' Q Q' K K' hP hQ hK l st h b hs
  unfold i_l2d at hs ⊢
  split at hs
  · exact hK _ _ _ _ hs
  · exact hs.elim
theorem m_d2i  : xMon (i_d2i) := by
  intro P P' Q Q' K K' hP hQ hK l st h b hs
  unfold i_d2i at hs ⊢
  split at hs
  · exact hK _ _ _ _ hs
  · exact hs.elim
theorem m_dup  : xMon (i_dup) := by
  intro P P' Q Q' K K' hP hQ hK l st h b hs
  unfold i_dup at hs ⊢
  split at hs
  · exact ⟨hs.1, hK _ _ _ _ hs.2⟩
  · exact hs.elim
theorem m_dup2w  : xMon (i_dup2w) := by
  intro P P' Q Q' K K' hP hQ hK l st h b hs
  unfold i_dup2w at hs ⊢
  split at hs
  · exact ⟨hs.1, hK _ _ _ _ hs.2⟩
  · exact hs.elim
theorem m_pop  : xMon (i_pop) := by
  intro P P' Q Q' K K' hP hQ hK l st h b hs
  unfold i_pop at hs ⊢
  split at hs
  · exact ⟨hs.1, hK _ _ _ _ hs.2⟩
  · exact hs.elim
theorem m_pop2  : xMon (i_pop2) := by
  intro P P' Q Q' K K' hP hQ hK l st h b hs
  unfold i_pop2 at hs ⊢
  split at hs
  · exact ⟨hs.1, hK _ _ _ _ hs.2⟩
  · exact hs.elim
theorem m_dup2  : xMon (i_dup2) := by
  intro P P' Q Q' K K' hP hQ hK l st h b hs
  unfold i_dup2 at hs ⊢
  split at hs
  · exact ⟨hs.1, hs.2.1, hK _ _ _ _ hs.2.2⟩
  · exact hs.elim
theorem m_dd (f : UInt64 → UInt64 → UInt64) : xMon (i_dd f) := by
  intro P P' Q Q' K K' hP hQ hK l st h b hs
  unfold i_dd at hs ⊢
  split at hs
  · exact fun v hv => hK _ _ _ _ (hs v hv)
  · exact hs.elim
theorem m_ff (f : UInt32 → UInt32 → UInt32) : xMon (i_ff f) := by
  intro P P' Q Q' K K' hP hQ hK l st h b hs
  unfold i_ff at hs ⊢
  split at hs
  · exact fun v hv => hK _ _ _ _ (hs v hv)
  · exact hs.elim
theorem m_f2d  : xMon (i_f2d) := by
  intro P P' Q Q' K K' hP hQ hK l st h b hs
  unfold i_f2d at hs ⊢
  split at hs
  · exact fun v hv => hK _ _ _ _ (hs v hv)
  · exact hs.elim
theorem m_goto (y t : Nat) (ks : List Nat) : xMon (i_goto y t ks) := fun P P' Q Q' K K' hP hQ hK l st h b hs => hP _ _ _ _ _ _ _ _ hs hQ
theorem m_ifc (c : Int32 → Prop) (y t : Nat) (ks : List Nat) : xMon (i_ifc c y t ks) := by
  intro P P' Q Q' K K' hP hQ hK l st h b hs
  unfold i_ifc at hs ⊢
  split at hs
  · exact ⟨fun z => hP _ _ _ _ _ _ _ _ (hs.1 z) hQ, fun z => hK _ _ _ _ (hs.2 z)⟩
  · exact hs.elim
theorem m_icmp (c : Int32 → Int32 → Prop) (y t : Nat) (ks : List Nat) : xMon (i_icmp c y t ks) := by
  intro P P' Q Q' K K' hP hQ hK l st h b hs
  unfold i_icmp at hs ⊢
  split at hs
  · exact ⟨fun z => hP _ _ _ _ _ _ _ _ (hs.1 z) hQ, fun z => hK _ _ _ _ (hs.2 z)⟩
  · exact hs.elim
theorem xSw_mono {F F' : Nat → Prop} (hF : ∀ z, F z → F' z) {x : Int32} : ∀ {ps : List (Int32 × Nat)} {t : Nat}, xSw F x ps t → xSw F' x ps t
  | [], _, h => hF _ h
  | _ :: _, _, h => ⟨fun e => hF _ (h.1 e), fun e => xSw_mono hF (h.2 e)⟩
theorem m_sw (ps : List (Int32 × Nat)) (y t : Nat) (ks : List Nat) : xMon (i_sw ps y t ks) := by
  intro P P' Q Q' K K' hP hQ hK l st h b hs
  unfold i_sw at hs ⊢
  split at hs
  · exact xSw_mono (fun z hz => hP _ _ _ _ _ _ _ _ hz hQ) hs
  · exact hs.elim
theorem m_getI (c k : Nat) : xMon (i_getI c k) := by
  intro P P' Q Q' K K' hP hQ hK l st h b hs
  unfold i_getI at hs ⊢
  split at hs
  · exact ⟨hs.1, hK _ _ _ _ hs.2⟩
  · exact hs.elim
theorem m_getL (c k : Nat) : xMon (i_getL c k) := by
  intro P P' Q Q' K K' hP hQ hK l st h b hs
  unfold i_getL at hs ⊢
  split at hs
  · exact ⟨hs.1, hK _ _ _ _ hs.2⟩
  · exact hs.elim
theorem m_getR (c k : Nat) : xMon (i_getR c k) := by
  intro P P' Q Q' K K' hP hQ hK l st h b hs
  unfold i_getR at hs ⊢
  split at hs
  · exact ⟨hs.1, hK _ _ _ _ hs.2⟩
  · exact hs.elim
theorem m_putI (c k : Nat) : xMon (i_putI c k) := by
  intro P P' Q Q' K K' hP hQ hK l st h b hs
  unfold i_putI at hs ⊢
  split at hs
  · exact ⟨hs.1, hK _ _ _ _ hs.2⟩
  · exact hs.elim
theorem m_putL (c k : Nat) : xMon (i_putL c k) := by
  intro P P' Q Q' K K' hP hQ hK l st h b hs
  unfold i_putL at hs ⊢
  split at hs
  · exact ⟨hs.1, hK _ _ _ _ hs.2⟩
  · exact hs.elim
theorem m_putR (c k : Nat) : xMon (i_putR c k) := by
  intro P P' Q Q' K K' hP hQ hK l st h b hs
  unfold i_putR at hs ⊢
  split at hs
  · exact ⟨hs.1, hK _ _ _ _ hs.2⟩
  · exact hs.elim
theorem m_putZ (c k : Nat) : xMon (i_putZ c k) := by
  intro P P' Q Q' K K' hP hQ hK l st h b hs
  unfold i_putZ at hs ⊢
  split at hs
  · exact ⟨hs.1, hs.2.1, hK _ _ _ _ hs.2.2⟩
  · exact hs.elim
theorem m_aldI (c : Nat) : xMon (i_aldI c) := by
  intro P P' Q Q' K K' hP hQ hK l st h b hs
  unfold i_aldI at hs ⊢
  split at hs
  · exact ⟨hs.1, hs.2.1, hK _ _ _ _ hs.2.2⟩
  · exact hs.elim
theorem m_aldB  : xMon (i_aldB) := by
  intro P P' Q Q' K K' hP hQ hK l st h b hs
  unfold i_aldB at hs ⊢
  split at hs
  · exact ⟨hs.1, hs.2.1, hK _ _ _ _ hs.2.2⟩
  · exact hs.elim
theorem m_aldL  : xMon (i_aldL) := by
  intro P P' Q Q' K K' hP hQ hK l st h b hs
  unfold i_aldL at hs ⊢
  split at hs
  · exact ⟨hs.1, hs.2.1, hK _ _ _ _ hs.2.2⟩
  · exact hs.elim
theorem m_aldD  : xMon (i_aldD) := by
  intro P P' Q Q' K K' hP hQ hK l st h b hs
  unfold i_aldD at hs ⊢
  split at hs
  · exact ⟨hs.1, hs.2.1, hK _ _ _ _ hs.2.2⟩
  · exact hs.elim
theorem m_astL  : xMon (i_astL) := by
  intro P P' Q Q' K K' hP hQ hK l st h b hs
  unfold i_astL at hs ⊢
  split at hs
  · exact ⟨hs.1, hs.2.1, hK _ _ _ _ hs.2.2⟩
  · exact hs.elim
theorem m_astD  : xMon (i_astD) := by
  intro P P' Q Q' K K' hP hQ hK l st h b hs
  unfold i_astD at hs ⊢
  split at hs
  · exact ⟨hs.1, hs.2.1, hK _ _ _ _ hs.2.2⟩
  · exact hs.elim
theorem m_astI (c : Nat) (f : Int32 → Int32) : xMon (i_astI c f) := by
  intro P P' Q Q' K K' hP hQ hK l st h b hs
  unfold i_astI at hs ⊢
  split at hs
  · exact ⟨hs.1, hs.2.1, hK _ _ _ _ hs.2.2⟩
  · exact hs.elim
theorem m_alen  : xMon (i_alen) := by
  intro P P' Q Q' K K' hP hQ hK l st h b hs
  unfold i_alen at hs ⊢
  split at hs
  · exact ⟨hs.1, hK _ _ _ _ hs.2⟩
  · exact hs.elim
theorem m_new (c n : Nat) : xMon (i_new c n) := by
  intro P P' Q Q' K K' hP hQ hK l st h b hs
  obtain ⟨h1, h2, i, h3, h4⟩ := hs
  exact ⟨h1, h2, i, h3, hK _ _ _ _ h4⟩
theorem m_newa (c w : Nat) : xMon (i_newa c w) := by
  intro P P' Q Q' K K' hP hQ hK l st h b hs
  unfold i_newa at hs ⊢
  split at hs
  · obtain ⟨h1, h2, h3, h4, i, h5, h6⟩ := hs
    exact ⟨h1, h2, h3, h4, i, h5, hK _ _ _ _ h6⟩
  · exact hs.elim
theorem m_ret  : xMon (i_ret) := by
  intro P P' Q Q' K K' hP hQ hK l st h b hs
  unfold i_ret at hs ⊢
  split at hs
  · exact hQ _ _ _ hs
  · exact hs.elim
theorem m_iret  : xMon (i_iret) := by
  intro P P' Q Q' K K' hP hQ hK l st h b hs
  unfold i_iret at hs ⊢
  split at hs
  · exact hQ _ _ _ hs
  · exact hs.elim
theorem m_lret  : xMon (i_lret) := by
  intro P P' Q Q' K K' hP hQ hK l st h b hs
  unfold i_lret at hs ⊢
  split at hs
  · exact hQ _ _ _ hs
  · exact hs.elim
theorem m_fret  : xMon (i_fret) := by
  intro P P' Q Q' K K' hP hQ hK l st h b hs
  unfold i_fret at hs ⊢
  split at hs
  · exact hQ _ _ _ hs
  · exact hs.elim
theorem m_dret  : xMon (i_dret) := by
  intro P P' Q Q' K K' hP hQ hK l st h b hs
  unfold i_dret at hs ⊢
  split at hs
  · exact hQ _ _ _ hs
  · exact hs.elim
theorem m_aret  : xMon (i_aret) := by
  intro P P' Q Q' K K' hP hQ hK l st h b hs
  unfold i_aret at hs ⊢
  split at hs
  · exact hQ _ _ _ hs
  · exact hs.elim
theorem m_zret  : xMon (i_zret) := by
  intro P P' Q Q' K K' hP hQ hK l st h b hs
  unfold i_zret at hs ⊢
  split at hs
  · exact ⟨hs.1, hQ _ _ _ hs.2⟩
  · exact hs.elim
theorem m_nret (ty : FieldType) : xMon (i_nret ty) := by
  intro P P' Q Q' K K' hP hQ hK l st h b hs
  unfold i_nret at hs ⊢
  split at hs
  · exact ⟨hs.1, hQ _ _ _ hs.2⟩
  · exact hs.elim
theorem m_obj  : xMon (i_obj) := by
  intro P P' Q Q' K K' hP hQ hK l st h b hs
  unfold i_obj at hs ⊢
  split at hs
  · exact ⟨hs.1, hK _ _ _ _ hs.2⟩
  · exact hs.elim
theorem xTo_mono {Q Q' : xQ} {K K' : xK} (hQ : ∀ o h b, Q o h b → Q' o h b) (hK : ∀ l st h b, K l st h b → K' l st h b) {l : xL} {rest : List Value} {b : Nat × Nat} : ∀ o h b9, xTo Q K l rest b o h b9 → xTo Q' K' l rest b o h b9
  | .ok _, _, _, h => hK _ _ _ _ h
  | .error _, _, _, h => hQ _ _ _ h
theorem m_invS0 (z n m : Nat) : xMon (i_invS0 z n m) := fun P P' Q Q' K K' hP hQ hK l st h b hs => ⟨hs.1, hP _ _ _ _ _ _ _ _ hs.2 (xTo_mono hQ hK)⟩
theorem m_invSA (z n m : Nat) : xMon (i_invSA z n m) := fun P P' Q Q' K K' hP hQ hK l st h b hs => by
  obtain ⟨h1, mc, ms, h2, h3, h4⟩ := hs
  exact ⟨h1, mc, ms, h2, h3, hP _ _ _ _ _ _ _ _ h4 (xTo_mono hQ hK)⟩
theorem m_invV0 (c z n m : Nat) : xMon (i_invV0 c z n m) := fun P P' Q Q' K K' hP hQ hK l st h b hs => ⟨hs.1, hs.2.1, hP _ _ _ _ _ _ _ _ hs.2.2 (xTo_mono hQ hK)⟩
theorem m_invVA (c z n m : Nat) : xMon (i_invVA c z n m) := fun P P' Q Q' K K' hP hQ hK l st h b hs => by
  obtain ⟨h1, h0, mc, ms, h2, h3, h4⟩ := hs
  exact ⟨h1, h0, mc, ms, h2, h3, hP _ _ _ _ _ _ _ _ h4 (xTo_mono hQ hK)⟩
theorem m_gsq : xMon i_gsq := fun P P' Q Q' K K' hP hQ hK l st h b hs => fun v hv => hK _ _ _ _ (hs v hv)
theorem m_thr (E : String) : xMon (i_thr E) := fun P P' Q Q' K K' hP hQ hK l st h b hs => ⟨hs.1, hs.2.1, hs.2.2.1, hQ _ _ _ hs.2.2.2⟩
theorem m_copy (c : Nat) : xMon (i_copy c) := by
  intro P P' Q Q' K K' hP hQ hK l st h b hs
  unfold i_copy at hs ⊢
  split at hs
  · exact ⟨hs.1, hs.2.1, hs.2.2.1, hs.2.2.2.1, hs.2.2.2.2.1, hs.2.2.2.2.2.1, hs.2.2.2.2.2.2.1, hs.2.2.2.2.2.2.2.1, hs.2.2.2.2.2.2.2.2.1, hK _ _ _ _ hs.2.2.2.2.2.2.2.2.2⟩
  · exact hs.elim
theorem xM_nil : ∀ i ∈ ([] : List xSem), xMon i := fun _ h => by cases h
theorem xM_cons {i : xSem} {r : List xSem} (h : xMon i) (hr : ∀ i ∈ r, xMon i) : ∀ j ∈ i :: r, xMon j := fun j hj => by
  rcases List.mem_cons.mp hj with rfl | hj
  · exact h
  · exact hr j hj
/-- a block is monotone and sound -/
def xOkB (G : xGt) (d : xDt) (pc : Nat) (is : List xSem) : Prop := (∀ i ∈ is, xMon i) ∧ xSndB G d pc is
theorem xB_nil {G : xGt} {d : xDt} {pc : Nat} : xOkB G d pc [] := ⟨xM_nil, x_nil⟩
theorem xB {G : xGt} {d : xDt} {pc len : Nat} {i : xSem} {r : List xSem} (hm : xMon i) (hi : xSnd G d pc i len) (hr : xOkB G d (pc + len) r) : xOkB G d pc (i :: r) := ⟨xM_cons hm hr.1, x_cons hi hr.2⟩
/-- the equation of running -/
theorem xRun_eq {T : Nat → Nat → List xSem} (hT : ∀ y t, ∀ i ∈ T y t, xMon i) (y t : Nat) (l : xL) (st : List Value) (h : xH) (b : Nat × Nat) (Q : xQ) : xRun T y t l st h b Q = xSeq (xRun T) Q (T y t) l st h b := by
  refine propext ⟨fun hr => ?_, xRun_step hT⟩
  exact hr (fun y t l st h b Q => xSeq (xRun T) Q (T y t) l st h b) (fun y t l st h b Q hs => xSeq_mono (fun y t l st h b Q => xSeq (xRun T) Q (T y t) l st h b) (xRun T) Q Q (fun y t l st h b Q Q' h1 h2 => xRun_conseq hT (fun y t l st h b Q hs => xRun_step hT hs) (xRun_step hT h1) h2) (fun _ _ _ h => h) _ (hT y t) l st h b hs)

/-! ===== a few more instructions ===== -/
def i_l (f : Int64 → Int64) : xSem := fun _ _ K l st h b => match st with
  | .long x :: r => K l (.long (f x) :: r) h b
  | _ => False
def i_dupx1 : xSem := fun _ _ K l st h b => match st with
  | x :: y :: r => x.category = 1 ∧ y.category = 1 ∧ K l (x :: y :: x :: r) h b
  | _ => False
def jI2c (x : Int32) : Int32 := (x.toUInt32 % 65536).toInt32
theorem m_l (f : Int64 → Int64) : xMon (i_l f) := by
  intro P P' Q Q' K K' hP hQ hK l st h b hs
  unfold i_l at hs ⊢
  split at hs
  · exact hK _ _ _ _ hs
  · exact hs.elim
theorem m_dupx1 : xMon i_dupx1 := by
  intro P P' Q Q' K K' hP hQ hK l st h b hs
  unfold i_dupx1 at hs ⊢
  split at hs
  · exact ⟨hs.1, hs.2.1, hK _ _ _ _ hs.2.2⟩
  · exact hs.elim
/-- a byte that is 0 or 1 -/
def i_putB (c k : Nat) : xSem := fun _ _ K l st h b => match st with
  | .int v :: .ref o :: r => (gS h o).1 = c ∧ (v = 0 ∨ v = 1) ∧ K l r (sI h o k v) b
  | _ => False
theorem m_putB (c k : Nat) : xMon (i_putB c k) := by
  intro P P' Q Q' K K' hP hQ hK l st h b hs
  unfold i_putB at hs ⊢
  split at hs
  · exact ⟨hs.1, hs.2.1, hK _ _ _ _ hs.2.2⟩
  · exact hs.elim
section XZ
variable {G : xGt} {d : xDt} {pc : Nat}
theorem s_putB {c k idx : Nat} (hcl : xClsOk G c) (hro : ¬ xRo c) (hk : k < (G.cl c).2.2) (hw : Cond.fieldLink d.1.cls idx ((G.cl c).2.1 k).1 ((G.cl c).2.1 k).2.1 ((G.cl c).2.1 k).2.2.1 ∈ G.tb) (hfin : ((G.cl c).2.1 k).2.2.2 = false ∨ (((G.cl c).2.1 k).2.2.2 = true ∧ d.1.name = "<init>" ∧ ((G.cl c).2.1 k).1 = d.1.cls)) (hd : decode d.2.1 pc = .ok (.putfield idx, 3)) (hdesc : ((G.cl c).2.1 k).2.2.1 = "B") : xSnd G d pc (i_putB c k) 3 :=
  s_putG (ty := .byte) hcl hro hk hw hfin (by rw [hdesc]; decide +kernel) hd (fun P Q K l st h b hs => by
    unfold i_putB at hs
    split at hs
    · rename_i v o r
      exact ⟨.int v, o, r, sI h o k v, rfl, hs.1, hs.2.2, fun _ => by rcases hs.2.1 with rfl | rfl <;> exact ⟨rfl, rfl⟩, fun _ => rfl, xSame_I h o k v, fun ad j => xFv_I (by rw [hdesc]; decide +kernel) j, fun j z hz => Or.inl hz⟩
    · exact hs.elim)
theorem s_aretA {t : FieldType} (hd : decode d.2.1 pc = .ok (.areturn, 1)) (hr : d.2.2.2.1 = some (.array t)) : xSnd G d pc i_aret 1 := by
  intro P Q K hP hK l st h b hs
  unfold i_aret at hs
  split at hs
  · exact x_end (r := some (.ref _)) hs rfl (fun h1 h2 h3 h4 h5 h6 => W.aret h1 h2 (h3.trans hr) (Or.inr ⟨t, rfl⟩) (Or.inr ⟨_, rfl⟩) h5 h6 hd h4)
  · exact hs.elim
theorem s_lneg (hd : decode d.2.1 pc = .ok (.lneg, 1)) : xSnd G d pc (i_l (fun x => -x)) 1 := by
  intro P Q K hP hK l st h b hs
  unfold i_l at hs
  split at hs
  · exact x_pure (fun h1 _ => ok_cons (v := Value.long _) trivial (ok_tl h1)) (fun h1 h2 h3 _ _ k => lv_lneg h1 h2 hd k) (hK _ _ _ _ hs)
  · exact hs.elim
theorem s_i2c (hd : decode d.2.1 pc = .ok (.i2c, 1)) : xSnd G d pc (i_i jI2c) 1 := by
  intro P Q K hP hK l st h b hs
  unfold i_i at hs
  split at hs
  · exact x_pure (fun h1 _ => ok_cons (v := Value.int _) trivial (ok_tl h1)) (fun h1 h2 h3 _ _ k => lv_i2c h1 h2 hd rfl k) (hK _ _ _ _ hs)
  · exact hs.elim
theorem s_dupx1 (hd : decode d.2.1 pc = .ok (.dup_x1, 1)) : xSnd G d pc i_dupx1 1 := by
  intro P Q K hP hK l st h b hs
  unfold i_dupx1 at hs
  split at hs
  · obtain ⟨hne, hne2, hs⟩ := hs
    exact x_pure (fun h1 _ => ok_cons (ok_hd h1) (ok_cons (ok_hd (ok_tl h1)) (ok_cons (ok_hd h1) (ok_tl (ok_tl h1))))) (fun h1 h2 h3 _ _ k => lv_dup_x1 h1 h2 hd (by rw [xCv_cat]; exact hne) (by rw [xCv_cat]; exact hne2) k) (hK _ _ _ _ hs)
  · exact hs.elim
def xLs (pc : Nat) : List (Int × Int) → List (Int32 × Nat) → Bool
  | [], [] => true
  | w :: r, q :: r' => decide (q.1.toInt = w.1) && decide ((pc : Int) + w.2 = (q.2 : Int)) && xLs pc r r'
  | _, _ => false
theorem xLs_at {F : Nat → Prop} {x : Int32} {dflt : Int} {t : Nat} (ht : (pc : Int) + dflt = (t : Int)) : ∀ {tb : List (Int × Int)} {ps : List (Int32 × Nat)}, xLs pc tb ps = true → xSw F x ps t → ∃ z : Nat, F z ∧ (pc : Int) + Op.lookupswitch.offset tb dflt x.toInt = (z : Int)
  | [], [], _, h => ⟨t, h, ht⟩
  | w :: r, q :: r', hc, h => by
    simp only [xLs, Bool.and_eq_true, decide_eq_true_eq] at hc
    obtain ⟨⟨h1, h2⟩, h3⟩ := hc
    by_cases e : x = q.1
    · refine ⟨q.2, h.1 e, ?_⟩
      rw [← h2, e, Op.lookupswitch.offset_cons, if_pos (by simp [h1])]
    · obtain ⟨z, hz1, hz2⟩ := xLs_at ht h3 (h.2 e)
      refine ⟨z, hz1, ?_⟩
      rw [Op.lookupswitch.offset_cons, if_neg (by
        intro z9
        apply e
        apply Int32.toInt_inj.mp
        rw [h1]
        first | exact (by simpa using z9) | exact (by simpa using z9.symm))]
      exact hz2
  | [], _ :: _, hc, _ => by cases hc
  | _ :: _, [], hc, _ => by cases hc
theorem s_lsw {y t len : Nat} {ks : List Nat} {ps : List (Int32 × Nat)} {dflt : Int} {tb : Array (Int × Int)} (hy : G.dat y = d) (hd : decode d.2.1 pc = .ok (.lookupswitch dflt tb, len)) (ht : (pc : Int) + dflt = (t : Int)) (hp : (tb.toList.zip (tb.toList.drop 1)).all (fun (a, next) => a.1 < next.1) = true) (hck : xLs pc tb.toList ps = true) : xSnd G d pc (i_sw ps y t ks) len := by
  intro P Q K hP hK l st h b hs
  unfold i_sw at hs
  split at hs
  · rename_i x r
    intro p e R s m args below meth cd ad0 ok0 C ad H locs cells slots ls d0 hd0 hl hr hok hz hc hsl hst hlo
    obtain ⟨z, hpz, hof⟩ := xLs_at ht hck hs
    have hq9 := hP _ _ _ _ _ _ _ hpz
    rw [hy] at hq9
    exact lv_lookup C.1 C.2.1 hd hp rfl hof (hq9 p e R s m args below meth cd ad0 ok0 C ad H locs cells slots ls d0 hd0 (lkp_has hl ks) hr hok hz hc hsl (ok_tl hst) (lkp_ok hlo ks))
  · exact hs.elim
def xDr (c : ByteArray) (r : Nat × Instr × Nat) : Bool := decide (decode c r.1 = .ok r.2)
/-- what a call of dz wants of the tables, whoever calls -/
def xCal (G : xGt) (dz : xDt) (n m : Nat) : Prop := xGood G ∧ xCode dz ∈ G.tb ∧ True ∧ Cond.initialized dz.1.cls ∈ G.tb ∧ plainName dz.1.cls = true ∧ (dz.1.cls ≠ "java/lang/invoke/MethodHandle" ∧ dz.1.cls ≠ "java/lang/invoke/VarHandle") ∧
  dz.2.2.1 + 19 ≤ 100 ∧ m ≤ dz.2.2.1 ∧ (parseMethodDescriptor dz.1.desc).map (fun g => g.parameters.length) = some n
theorem xco {dz : xDt} {n m : Nat} (h : xCal G dz n m) (hd : dz.2.2.2.2.1 + 1 ≤ d.2.2.2.2.1) : xCallOk G d dz n m := by
  obtain ⟨h1, h2, h3, h4, h5, h6, h7, h8, h9⟩ := h
  refine ⟨h1, h2, h3, h4, h5, h6, hd, h7, h8, fun sig hs => ?_⟩
  rw [hs] at h9
  simp only [Option.map_some, Option.some.injEq] at h9
  exact h9.symm
theorem xC {len n : Nat} {i : xSem} {r : List xSem} (hm : xMon i) (hi : xSnd G d pc i len) (e : pc + len = n) (hr : xOkB G d n r) : xOkB G d pc (i :: r) := by
  subst e
  exact xB hm hi hr
def xFind : List (Nat × List xSem) → Nat → List xSem
  | [], _ => []
  | q :: r, t => if q.1 = t then q.2 else xFind r t
def xZip (G : xGt) : List xDt → List (List (Nat × List xSem)) → Prop
  | [], [] => True
  | d :: ds, m :: ms => (∀ p ∈ m, xOkB G d p.1 p.2) ∧ xZip G ds ms
  | _, _ => False
theorem xFind_ok : ∀ {m : List (Nat × List xSem)} (_ : ∀ p ∈ m, xOkB G d p.1 p.2) (t : Nat), xOkB G d t (xFind m t)
  | [], _, _ => xB_nil
  | q :: r, h, t => by
    unfold xFind
    split
    · rename_i e
      rw [← e]
      exact h q List.mem_cons_self
    · exact xFind_ok (fun p hp => h p (List.mem_cons_of_mem _ hp)) t
theorem xZip_ok {d0 : xDt} : ∀ {ds : List xDt} {ms : List (List (Nat × List xSem))} (_ : xZip G ds ms) (y t : Nat), xOkB G (ds.getD y d0) t (xFind (ms.getD y []) t)
  | [], [], _, y, t => by
    simp only [List.getD_nil]
    exact xB_nil
  | d :: ds, m :: ms, h, 0, t => xFind_ok h.1 t
  | d :: ds, m :: ms, h, y + 1, t => by
    simp only [List.getD_cons_succ]
    exact xZip_ok h.2 y t
theorem dr {c : ByteArray} {R : List (Nat × Instr × Nat)} (h : R.all (xDr c) = true) (k : Nat) {pc len : Nat} {i : Instr} (hk : R[k]? = some (pc, i, len)) : decode c pc = .ok (i, len) := by
  have h1 : xDr c (pc, i, len) = true := List.all_eq_true.mp h _ (List.mem_of_getElem? hk)
  unfold xDr at h1
  exact of_decide_eq_true h1
end XZ
/-! a call of a superclass's own method from an object of a class below it -/
theorem x_selP {C : String} {y y0 : MethodName} {s : State} {a : Array Value} (hy : y.cls ≠ "java/lang/invoke/MethodHandle" ∧ y.cls ≠ "java/lang/invoke/VarHandle") (hyc : y0.cls = y.cls)
    (hs0 : (Cond.selects C y0 y0).before a s = true) (hpriv : (Cond.privateMethod y).before a s = true) (hinst : (Cond.instanceMethod y).before a s = true) :
    (Cond.selects C y y).before a s = true := by
  obtain ⟨c2, r2, m2, q1, q2, q3, q4, kP, hkP, hkPi⟩ := Cond.selects_spec hs0
  obtain ⟨mk, methM, hnamed, hmethM, -, -⟩ := Cond.instanceMethod_spec hinst
  have hfound : s.methodFound? y.cls y.name y.desc = some mk := State.methodFound?_of_named hnamed hy
  have e : m2.cls = mk.cls := Option.some.inj ((findClass_of_methodNamed q3).symm.trans ((by rw [hyc] : s.vm.findClass y0.cls = s.vm.findClass y.cls).trans (findClass_of_methodNamed hnamed)))
  rw [e] at hkP
  have hsel : selectMethod {} s.vm c2 mk = .method mk := selectMethod_private hmethM (Cond.privateMethod_at hpriv mk methM hnamed hmethM)
  simp only [Cond.before, Cond.holds, Cond.value, q1, hfound, hnamed, hsel, hkP]
  simp; exact hkPi
/-! what the plain machine has no rule for: never reached -/
def i_no : xSem := fun _ _ _ _ _ _ _ => False
theorem m_no : xMon i_no := fun _ _ _ _ _ _ _ _ _ _ _ _ _ hs => hs
theorem s_no {G : xGt} {d : xDt} {pc n : Nat} : xSnd G d pc i_no n := fun _ _ _ _ _ _ _ _ _ hs => hs.elim
theorem x_ldcwS {p : Program} {l : Launch} {e : Env} {R : Room} {s : State} {m : MethodId} {args : Array Value} {below : List Frame} {meth : Method} {c : Code} {H : Heap} {locs : List Loc} {cells slots : Nat} {Q : State → Prop} {cc : ByteArray} {pc : Nat} {ls : Array Slot} {rest : List Value}
    (hexec : p.tables.exec = Jvm.exec) (hb : c.code = cc) {own tx : String} {index q : Nat} (hown : s.vm.findClass own = some m.cls) (hZ : vk_R own index tx q s) (hdg : decode cc pc = .ok (.ldc_w index, 3))
    (k : W p l e R s m args below meth c H locs cells slots Q (F0 m (pc + 3) ls (.ref q :: rest))) : W p l e R s m args below meth c H locs cells slots Q (F0 m pc ls rest) := by
  intro T hT X
  obtain ⟨t, a1, b1⟩ := k T hT X
  exact ⟨t, X.ldcStringW hexec (own := own) (text := tx) (index := index) (a := q) hown hZ.1 hZ.2 (g := F0 m pc ls rest) rfl (by rw [hb]; exact hdg) t a1, b1⟩
theorem s_ldcwS {G : xGt} {d : xDt} {pc i k : Nat} {tx : String} (hd : decode d.2.1 pc = .ok (.ldc_w i, 3)) (hw : (d.1.cls, i, tx, k) ∈ G.sr) : xSnd G d pc (i_push (.ref (900000 + k))) 3 := by
  intro P Q K hP hK l st h b hs
  refine x_pure (fun h1 _ => ok_cons (v := .ref (900000 + k)) (Or.inr (by omega)) h1) (fun {_ _ _ _ _ _ _ _ _ _ _ _ _ _ _ ad} h1 h2 h3 h4 h5 kk => x_ldcwS h1 h2 (x_own h5) (have q9 := (x_Ks h5).2.2.1 _ hw; q9) hd ?_) (hK _ _ _ _ hs)
  have e : xCv ad (.ref (900000 + k)) = .ref (G.aC (900000 + k)) := by
    show Value.ref (ad (900000 + k)) = _
    rw [h4.2.2.2.2.2 _ (by omega)]
  rw [List.map_cons, e] at kk
  exact kk
/-! the library's numbers of java.lang.Math -/
def i_m2 (f : Int32 → Int32 → Int32) : xSem := fun _ _ K l st h b => match st with
  | .int y :: .int x :: r => xCat r ≤ 8 ∧ K l (.int (f x y) :: r) h b
  | _ => False
def i_m1 (f : Int32 → Int32) : xSem := fun _ _ K l st h b => match st with
  | .int x :: r => xCat r ≤ 8 ∧ K l (.int (f x) :: r) h b
  | _ => False
def i_ml (f : Int64 → Int64) : xSem := fun _ _ K l st h b => match st with
  | .long x :: r => xCat r ≤ 8 ∧ K l (.long (f x) :: r) h b
  | _ => False
def jMax (x y : Int32) : Int32 := if x < y then y else x
def jMin (x y : Int32) : Int32 := if y < x then y else x
def jAbs (x : Int32) : Int32 := if 0 ≤ x then x else 0 - x
def jAbsL (x : Int64) : Int64 := if 0 < x then x else -x
theorem m_m2 (f : Int32 → Int32 → Int32) : xMon (i_m2 f) := by
  intro P P' Q Q' K K' hP hQ hK l st h b hs
  unfold i_m2 at hs ⊢
  split at hs
  · exact ⟨hs.1, hK _ _ _ _ hs.2⟩
  · exact hs.elim
theorem m_m1 (f : Int32 → Int32) : xMon (i_m1 f) := by
  intro P P' Q Q' K K' hP hQ hK l st h b hs
  unfold i_m1 at hs ⊢
  split at hs
  · exact ⟨hs.1, hK _ _ _ _ hs.2⟩
  · exact hs.elim
theorem m_ml (f : Int64 → Int64) : xMon (i_ml f) := by
  intro P P' Q Q' K K' hP hQ hK l st h b hs
  unfold i_ml at hs ⊢
  split at hs
  · exact ⟨hs.1, hK _ _ _ _ hs.2⟩
  · exact hs.elim
section XM
variable {G : xGt} {d : xDt} {pc : Nat}
theorem x_mroom (ad : Nat → Nat) {r : List Value} {R : Room} (h : xCat r ≤ 8) (h0 : 1 ≤ d.2.2.2.2.1) (hf : d.2.2.2.2.1 ≤ R.frames) (hl : 100 * d.2.2.2.2.1 ≤ R.locals) : 1 ≤ R.frames ∧ ((r.map (xCv ad)).map fun v => v.category).sum + 13 ≤ R.locals := by
  have := xCat_map ad r
  unfold xCat at this h
  rw [this]
  omega
theorem s_mmax {i : Nat} (h0 : 1 ≤ d.2.2.2.2.1) (hw : Cond.methodLink d.1.cls i Lib.Math.max.name ∈ G.tb) (h1 : Cond.static Lib.Math.max.name ∈ G.tb) (h2 : Cond.initialized "java/lang/Math" ∈ G.tb) (h3 : Cond.code Lib.Math.max.name Lib.Math.max.code 2 (some .int) ∈ G.tb) (hd : decode d.2.1 pc = .ok (.invokestatic i, 3)) : xSnd G d pc (i_m2 jMax) 3 := by
  intro P Q K hP hK l st h b hs
  unfold i_m2 at hs
  split at hs
  · rename_i u2 u1 r9
    have hk := hK _ _ _ _ hs.2
    intro p e R s m args below meth c ad0 ok0 C ad H locs cells slots ls d0 hd0 hl hr hok hz hc hsl hst hlo
    have hts := dr_words C.2.2.2.2.2.2.1 d0
    have hm := x_mroom ad hs.1 h0 C.2.2.2.2.2.2.2.1 C.2.2.2.2.2.2.2.2.1
    exact va_mmax (s := s.setDrawn d0) (cells := cells) (slots := slots) (y := u2) (x := u1) C.1 C.2.1 (hl.1.trans C.2.2.1.symm).symm C.2.2.2.2.2.1 (hts _ hw) (hts _ h1) (hts _ h2) (hts _ h3) hm.1 hm.2 (Nat.le_trans (Nat.le_add_right _ _) hc) (Nat.le_trans (Nat.le_add_right _ _) hsl) hd
      (hk p e R s m args below meth c ad0 ok0 C ad H locs cells slots ls d0 hd0 hl hr hok hz hc hsl (ok_cons (v := Value.int _) trivial (ok_tl (ok_tl hst))) hlo)
  · exact hs.elim
theorem s_mmin {i : Nat} (h0 : 1 ≤ d.2.2.2.2.1) (hw : Cond.methodLink d.1.cls i Lib.Math.min.name ∈ G.tb) (h1 : Cond.static Lib.Math.min.name ∈ G.tb) (h2 : Cond.initialized "java/lang/Math" ∈ G.tb) (h3 : Cond.code Lib.Math.min.name Lib.Math.min.code 2 (some .int) ∈ G.tb) (hd : decode d.2.1 pc = .ok (.invokestatic i, 3)) : xSnd G d pc (i_m2 jMin) 3 := by
  intro P Q K hP hK l st h b hs
  unfold i_m2 at hs
  split at hs
  · rename_i u2 u1 r9
    have hk := hK _ _ _ _ hs.2
    intro p e R s m args below meth c ad0 ok0 C ad H locs cells slots ls d0 hd0 hl hr hok hz hc hsl hst hlo
    have hts := dr_words C.2.2.2.2.2.2.1 d0
    have hm := x_mroom ad hs.1 h0 C.2.2.2.2.2.2.2.1 C.2.2.2.2.2.2.2.2.1
    exact va_mmin (s := s.setDrawn d0) (cells := cells) (slots := slots) (y := u2) (x := u1) C.1 C.2.1 (hl.1.trans C.2.2.1.symm).symm C.2.2.2.2.2.1 (hts _ hw) (hts _ h1) (hts _ h2) (hts _ h3) hm.1 hm.2 (Nat.le_trans (Nat.le_add_right _ _) hc) (Nat.le_trans (Nat.le_add_right _ _) hsl) hd
      (hk p e R s m args below meth c ad0 ok0 C ad H locs cells slots ls d0 hd0 hl hr hok hz hc hsl (ok_cons (v := Value.int _) trivial (ok_tl (ok_tl hst))) hlo)
  · exact hs.elim
theorem s_mabs {i : Nat} (h0 : 1 ≤ d.2.2.2.2.1) (hw : Cond.methodLink d.1.cls i Lib.Math.abs.name ∈ G.tb) (h1 : Cond.static Lib.Math.abs.name ∈ G.tb) (h2 : Cond.initialized "java/lang/Math" ∈ G.tb) (h3 : Cond.code Lib.Math.abs.name Lib.Math.abs.code 1 (some .int) ∈ G.tb) (hd : decode d.2.1 pc = .ok (.invokestatic i, 3)) : xSnd G d pc (i_m1 jAbs) 3 := by
  intro P Q K hP hK l st h b hs
  unfold i_m1 at hs
  split at hs
  · rename_i u1 r9
    have hk := hK _ _ _ _ hs.2
    intro p e R s m args below meth c ad0 ok0 C ad H locs cells slots ls d0 hd0 hl hr hok hz hc hsl hst hlo
    have hts := dr_words C.2.2.2.2.2.2.1 d0
    have hm := x_mroom ad hs.1 h0 C.2.2.2.2.2.2.2.1 C.2.2.2.2.2.2.2.2.1
    exact va_mabs (s := s.setDrawn d0) (cells := cells) (slots := slots) (x := u1) C.1 C.2.1 (hl.1.trans C.2.2.1.symm).symm C.2.2.2.2.2.1 (hts _ hw) (hts _ h1) (hts _ h2) (hts _ h3) hm.1 hm.2 (Nat.le_trans (Nat.le_add_right _ _) hc) (Nat.le_trans (Nat.le_add_right _ _) hsl) hd
      (hk p e R s m args below meth c ad0 ok0 C ad H locs cells slots ls d0 hd0 hl hr hok hz hc hsl (ok_cons (v := Value.int _) trivial (ok_tl hst)) hlo)
  · exact hs.elim
theorem s_mabsl {i : Nat} (h0 : 1 ≤ d.2.2.2.2.1) (hw : Cond.methodLink d.1.cls i Lib.MathLoose.abs_long.x ∈ G.tb) (h1 : Cond.static Lib.MathLoose.abs_long.x ∈ G.tb) (h2 : Cond.initialized "java/lang/Math" ∈ G.tb) (h3 : Cond.code Lib.MathLoose.abs_long.x Lib.MathLoose.abs_long.code 2 (some .long) ∈ G.tb) (hd : decode d.2.1 pc = .ok (.invokestatic i, 3)) : xSnd G d pc (i_ml jAbsL) 3 := by
  intro P Q K hP hK l st h b hs
  unfold i_ml at hs
  split at hs
  · rename_i u1 r9
    have hk := hK _ _ _ _ hs.2
    intro p e R s m args below meth c ad0 ok0 C ad H locs cells slots ls d0 hd0 hl hr hok hz hc hsl hst hlo
    have hts := dr_words C.2.2.2.2.2.2.1 d0
    have hm := x_mroom ad hs.1 h0 C.2.2.2.2.2.2.2.1 C.2.2.2.2.2.2.2.2.1
    exact va_mabs_long (s := s.setDrawn d0) (cells := cells) (slots := slots) (x := u1) C.1 C.2.1 (hl.1.trans C.2.2.1.symm).symm C.2.2.2.2.2.1 (hts _ hw) (hts _ h1) (hts _ h2) (hts _ h3) hm.1 hm.2 (Nat.le_trans (Nat.le_add_right _ _) hc) (Nat.le_trans (Nat.le_add_right _ _) hsl) hd
      (hk p e R s m args below meth c ad0 ok0 C ad H locs cells slots ls d0 hd0 hl hr hok hz hc hsl (ok_cons (v := Value.long _) trivial (ok_tl hst)) hlo)
  · exact hs.elim
end XM
/-! ===== a call whose throw is caught here: the handler puts the exception away and answers a number ===== -/
/-- the list: an exception's class, what is answered, the handler's place, its entry in the pool -/
abbrev xHs : Type := List (String × Int32 × Nat × Nat)
def xHf : xHs → String → Option Int32
  | [], _ => none
  | q :: r, E => if q.1 = E then some q.2.1 else xHf r E
def xToT (Q : xQ) (K : xK) (hs : xHs) (l : xL) (rest : List Value) (b : Nat × Nat) : xQ := fun o h' _ => match o with
  | .ok v => K l (v.toList ++ rest) h' b
  | .error E => match xHf hs E with
    | some c => Q (.ok (some (.int c))) h' b
    | none => False
def i_tryVA (hs : xHs) (c z n m : Nat) : xSem := fun P Q K l st h b => xCk n m st = true ∧ xRc c h (st.take n).reverse ∧ ∃ mc ms, mc ≤ b.1 ∧ ms ≤ b.2 ∧ P z 0 (lv_args 0 (st.take n).reverse) [] h (mc, ms) (xToT Q K hs l (st.drop n) (b.1 - mc, b.2 - ms))
theorem m_tryVA (hs : xHs) (c z n m : Nat) : xMon (i_tryVA hs c z n m) := by
  intro P P' Q Q' K K' hP hQ hK l st h b hx
  obtain ⟨h1, h2, mc, ms, h3, h4, h5⟩ := hx
  refine ⟨h1, h2, mc, ms, h3, h4, hP _ _ _ _ _ _ _ _ h5 fun o h' b' ho => ?_⟩
  cases o with
  | ok v => exact hK _ _ _ _ ho
  | error E =>
    cases hf : xHf hs E with
    | none => simp only [xToT, hf] at ho
    | some c =>
      simp only [xToT, hf] at ho ⊢
      exact hQ _ _ _ ho
section XTRY
variable {G : xGt} {d : xDt} {pc : Nat}
/-- what a handler wants -/
def xHok (G : xGt) (d : xDt) (pre : xHs) (q : String × Int32 × Nat × Nat) : Prop :=
  q.2.2.2 ≠ 0 ∧ Cond.classLink d.1.cls q.2.2.2 q.1 ∈ G.tb ∧ Cond.castable q.1 q.1 ∈ G.tb ∧ (∀ z ∈ pre, Cond.not (.castable q.1 z.1) ∈ G.tb) ∧
  ∃ a len, ((decode d.2.1 q.2.2.1 = .ok (.astore a, 2) ∧ len = 2) ∨ ∃ k : Fin 4, decode d.2.1 q.2.2.1 = .ok (.astore_n k, 1) ∧ (k : Nat) = a ∧ len = 1) ∧ a < d.2.2.1 ∧ xSndB G d (q.2.2.1 + len) [i_push (.int q.2.1), i_iret]
def xHall (G : xGt) (d : xDt) : xHs → xHs → Prop
  | _, [] => True
  | pre, q :: r => xHok G d pre q ∧ xHall G d (pre ++ [q]) r
theorem xHf_split {G : xGt} {d : xDt} : ∀ {hs pre : xHs} {E : String} {c : Int32}, xHall G d pre hs → xHf hs E = some c → ∃ pr q su, hs = pr ++ q :: su ∧ q.1 = E ∧ q.2.1 = c ∧ xHok G d (pre ++ pr) q ∧ ∀ z ∈ pre ++ pr, ∃ pr0, xHok G d pr0 z ∨ z ∈ pre
  | [], _, _, _, _, h => by simp [xHf] at h
  | q :: r, pre, E, c, ha, h => by
    unfold xHf at h
    split at h
    · rename_i e
      exact ⟨[], q, r, rfl, e, Option.some.inj h, by rw [List.append_nil]; exact ha.1, fun z hz => ⟨[], Or.inr (by simpa using hz)⟩⟩
    · obtain ⟨pr, q', su, e1, e2, e3, e4, e5⟩ := xHf_split ha.2 h
      refine ⟨q :: pr, q', su, by rw [e1]; rfl, e2, e3, by rw [List.append_assoc] at e4; exact e4, fun z hz => ?_⟩
      have hz' : z ∈ pre ++ [q] ++ pr := by rw [List.append_assoc]; exact hz
      obtain ⟨pr0, h9⟩ := e5 z hz'
      rcases h9 with h9 | h9
      · exact ⟨pr0, Or.inl h9⟩
      · rcases List.mem_append.mp h9 with h9 | h9
        · exact ⟨[], Or.inr h9⟩
        · rw [List.mem_singleton.mp h9]
          exact ⟨pre, Or.inl ha.1⟩
/-- behind a throw in a call that is caught here -/
theorem x_caught {hs : xHs} {sp ep : Nat} (hE : d.2.2.2.2.2 = hs.map fun q => (sp, ep, q.2.2.1, q.2.2.2)) (hcov : sp ≤ pc ∧ pc < ep) (hall : xHall G d [] hs) {P : xP} {Q : xQ} (hP : xPok G P)
    {l : xL} {rest : List Value} {h : xH} {b' : Nat × Nat} {K : xK}
    {p : Program} {e : Env} {R : Room} {s : State} {m : MethodId} {args : Array Value} {below : List Frame} {meth : Method} {c : Code} {ad0 : Nat → Nat} {ok0 : Nat → Prop} (C : xCx G d p R s m args meth c)
    {ad : Nat → Nat} {locs : List Loc} {cells slots mc ms : Nat} {ls : Array Slot} {d1 : Drawn} (hd1 : s.drawn.sameBut d1 lw_cs) (hl : lv_has ls d.2.2.1 (l.map (xCvL ad))) (hok : ∀ i, ok0 i → xOk h i ∧ ad i = ad0 i) (hz : ∀ z ∈ locs, G.B0 ≤ z.base)
    (hc : cells + mc + b'.1 ≤ R.cells) (hsl : slots + ms + b'.2 ≤ R.slots) {H1 : Heap} {L : List Loc} (hL : ∀ q ∈ L, G.B0 ≤ q.base) {E : String} {ce : Cell} {q : Addr} (hcell : H1[q]? = some ce) (hv : ce.vm = .none) (hcl : s.vm.findClass E = some ce.cls) (hth : xTH G ad (xOk h) (xToT Q K hs l rest b') E H1) {st9 : List Value} :
    vx_W p G.l e R (s.setDrawn d1) m args below meth c H1 (locs ++ L) (cells + mc) (slots + ms) (xMQ below (xRT G ad0 ok0 Q) (xTH G ad0 ok0 Q) s R.cells R.slots (fun q => G.B0 ≤ q)) (F0 m pc ls st9) q := by
  obtain ⟨ad', h', b9, hq, hr', hok'⟩ := hth
  have hts := dr_words C.2.2.2.2.2.2.1 d1
  cases hf : xHf hs E with
  | none => simp only [xToT, hf] at hq
  | some v =>
    have hq' : Q (.ok (some (.int v))) h' b' := by simpa only [xToT, hf] using hq
    obtain ⟨pr, x, su, e1, e2, e3, hx, hpre⟩ := xHf_split hall hf
    obtain ⟨hx0, hxl, hxc, hxn, a, len, hda, hal, hrest⟩ := hx
    rw [List.nil_append] at hxn hpre
    have htab : c.exceptionTable.toList = tableOf (pr.map fun q => (sp, ep, q.2.2.1, q.2.2.2)) ++ ⟨sp, ep, x.2.2.1, x.2.2.2⟩ :: tableOf (su.map fun q => (sp, ep, q.2.2.1, q.2.2.2)) := by
      have h9 := C.2.2.2.2.2.2.2.2.2.2.2.1
      rw [hE, e1, List.map_append, List.map_cons] at h9
      rw [h9]
      unfold tableOf
      rw [List.map_append, List.map_cons]
    subst e2
    refine vx_catch (s := s.setDrawn d1) (own := d.1.cls) (name := x.1) (E := x.1) (ce := ce) (q := q) C.2.2.2.2.2.1 _ ⟨sp, ep, x.2.2.1, x.2.2.2⟩ _ htab ?_ ?_ hx0 (hts _ hxl) (hts _ hxc) hcell hv hcl ?_
    · intro z hz9
      right
      obtain ⟨y, hy, rfl⟩ := List.mem_map.mp (show z ∈ ((pr.map fun q => (sp, ep, q.2.2.1, q.2.2.2)).map fun q => (⟨q.1, q.2.1, q.2.2.1, q.2.2.2⟩ : ExceptionTableEntry)) from hz9)
      obtain ⟨w, hw, rfl⟩ := List.mem_map.mp hy
      obtain ⟨pr0, h9⟩ := hpre w hw
      rcases h9 with h9 | h9
      · exact ⟨h9.1, w.1, hts _ h9.2.1, va_Nc.of (hts _ (hxn w hw))⟩
      · cases h9
    · show covers _ _ = true
      simp only [covers, Bool.and_eq_true, decide_eq_true_eq]
      exact hcov
    · have hk : xOKat G d (x.2.2.1 + len) [] [] h' b' Q := hrest P Q hP [] [] h' b' (by
        show i_push (.int x.2.1) P Q _ [] [] h' b'
        rw [e3]
        exact hq')
      have goon : ∀ ls' : Array Slot, lv_has ls' d.2.2.1 [] → W p G.l e R (s.setDrawn d1) m args below meth c H1 (locs ++ L) (cells + mc) (slots + ms) (xMQ below (xRT G ad0 ok0 Q) (xTH G ad0 ok0 Q) s R.cells R.slots (fun q => G.B0 ≤ q)) (F0 m (x.2.2.1 + len) ls' []) := fun ls' hl' =>
        hk p e R s m args below meth c ad0 ok0 C ad' H1 (locs ++ L) (cells + mc) (slots + ms) ls' d1 hd1 hl' hr' (fun i hi => ⟨(hok' i (hok i hi).1).1, (hok' i (hok i hi).1).2.trans (hok i hi).2⟩)
          (fun z hzz => (List.mem_append.mp hzz).elim (hz z) (hL z)) hc hsl (fun v hv => nomatch hv) (fun v hv => nomatch hv)
      have weak : ∀ {ls' : Array Slot} {lv : List (Nat × Value)}, lv_has ls' d.2.2.1 lv → lv_has ls' d.2.2.1 [] := fun h9 => ⟨h9.1, h9.2.1, fun q hq => nomatch hq⟩
      rcases hda with ⟨hda, rfl⟩ | ⟨k, hda, hka, rfl⟩
      · exact lv_astore C.1 C.2.1 hda hl hal rfl (fun ls' hl' => goon ls' (weak hl'))
      · exact lv_astore_n C.1 C.2.1 hda hka hl hal rfl (fun ls' hl' => goon ls' (weak hl'))
theorem s_tryVG {hs : xHs} {sp ep : Nat} {c9 z n m9 idx : Nat} {dz : xDt} (hE : d.2.2.2.2.2 = hs.map fun q => (sp, ep, q.2.2.1, q.2.2.2)) (hcov : sp ≤ pc ∧ pc < ep) (hall : xHall G d [] hs) (hz9 : G.dat z = dz) (ho : xCallOk G d dz n m9) (hcl9 : xClsOk G c9) (hw1 : Cond.methodLink d.1.cls idx dz.1 ∈ G.tb) (hw2 : Cond.instanceMethod dz.1 ∈ G.tb) (hw3 : Cond.selects (G.cl c9).1 dz.1 dz.1 ∈ G.tb) (hd : decode d.2.1 pc = .ok (.invokevirtual idx, 3)) : xSnd G d pc (i_tryVA hs c9 z (n + 1) m9) 3 := by
  intro P Q K hP hK l st h b hs9
  obtain ⟨hck, hrc, mc, ms, hb1, hb2, hs9⟩ := hs9
  have hk := hP _ _ _ _ _ _ _ hs9
  rw [hz9] at hk
  intro p e R s m args below meth c ad0 ok0 C ad H locs cells slots ls d0 hd0 hl hr hok hz hcc hsl hst hlo
  have hts := dr_words C.2.2.2.2.2.2.1 d0
  obtain ⟨-, hrest, harg⟩ := xCk_spec hck
  have cb := x_cb ho hk (ok_take hst) (by rw [xCat_rev]; exact harg) C (ad := ad) d0
  have hlen := x_len hck
  have hsp := x_split (ad := ad) hck
  cases hT : (st.take (n + 1)).reverse with
  | nil => rw [hT] at hrc; exact hrc.elim
  | cons w As =>
    cases w with
    | ref o =>
      rw [hT] at cb hlen hsp hrc
      obtain ⟨cell, q1, q2, q3, q5, q4⟩ := x_objR hr (show (gS h o).1 = c9 from hrc) hcl9
      have hsp' : st.map (xCv ad) = (As.map (xCv ad)).reverse ++ .ref (ad o) :: (st.drop (n + 1)).map (xCv ad) := by
        rw [hsp, List.map_cons, List.reverse_cons, List.append_assoc]
        rfl
      refine x_callV (l := G.l) (e := e) (R := R) (s := s.setDrawn d0) (args := args) (below := below) (meth := meth) (H := H) (locs := locs) (Q := xMQ below (xRT G ad0 ok0 Q) (xTH G ad0 ok0 Q) s R.cells R.slots (fun q => G.B0 ≤ q)) (mc := mc) (ms := ms) (cells := cells) (slots := slots) (C := (G.cl c9).1) (As := As.map (xCv ad)) (b := ad o) (rest := (st.drop (n + 1)).map (xCv ad)) C.1 C.2.1 (hl.1.trans C.2.2.1.symm) C.2.2.2.2.2.1 (hts _ hw1) (hts _ hw2) (hts _ hw3) cb q1 q3 (by rw [q2]; exact (C.2.2.2.2.2.2.2.2.2.2.1.1 c9 hcl9.1 hcl9.2.1).2.1)
        (fun sig hsig => by rw [List.length_map, ← ho.2.2.2.2.2.2.2.2.2 sig hsig]; simp only [List.length_cons] at hlen; omega) (by have := xCat_map ad (st.drop (n + 1)); unfold xCat at this hrest; rw [this]; exact hrest) hd ⟨by omega, by omega⟩
        (fun U hU hW => ⟨rfl, by rw [hU]; exact hr, xKs_warm hW (xKs_same (u := s) rfl C.2.2.2.2.2.2.2.2.2.2.1)⟩) ?_ ?_ hsp'
      · intro d1 H1 L v hd1 hL hrt
        have hrt' : xRT G ad (xOk h) (xTo Q K l (st.drop (n + 1)) (b.1 - mc, b.2 - ms)) v H1 := by
          obtain ⟨ad', h', r, b9, hq, e, hro, hr', hok'⟩ := hrt
          exact ⟨ad', h', r, b9, hq, e, hro, hr', hok'⟩
        exact x_backto (b := b) hK C (Drawn.sameBut.trans hd0 hd1) hl hok hz (by show cells + mc + (b.1 - mc) ≤ _; omega) (by show slots + ms + (b.2 - ms) ≤ _; omega) (ok_drop hst) hlo hL hrt'
      · intro d1 H1 L q E ce hd1 hL hth hcell hv hcl
        exact x_caught hE hcov hall hP C (Drawn.sameBut.trans hd0 hd1) hl hok hz (by show cells + mc + (b.1 - mc) ≤ _; omega) (by show slots + ms + (b.2 - ms) ≤ _; omega) hL hcell hv hcl hth
    | _ => rw [hT] at hrc; exact hrc.elim
end XTRY
/-! ===== 'throw new E("text")' where E's constructor links its superclass's at ix (java.util.NoSuchElementException: 13); after the library's ctorThrowS and its chainSX ===== -/
section XNSE
variable {p : Program} {l : Launch} {e : Env} {R : Room} {s : State} {m : MethodId} {args : Array Value} {below : List Frame} {meth : Method} {c : Code} {H : Heap} {locs : List Loc} {cells slots : Nat} {Q : State → Prop}
set_option maxHeartbeats 1000000 in
theorem x_ctorX {W0 : State} (X : Stand p l e R s m args below meth c W0 locs cells slots) (hexec : p.tables.exec = Jvm.exec) (htr : e.platform.stackTraces = false) {own cls : String} {names : List String} {ic ix : Nat} {rx : ByteArray}
    (x0 : decode rx 0 = .ok (.aload_n 0, 1)) (x1 : decode rx 1 = .ok (.aload_n 1, 1)) (x2 : decode rx 2 = .ok (.invokespecial ix, 3)) (x5 : decode rx 5 = .ok (.return_, 1))
    (hown : s.vm.findClass own = some m.cls) (hcls : Bundle.fit cls = true) (hnames : ∀ n ∈ names, Bundle.fit n = true) (h : ∀ a ∈ Bundle.ownAtomsX own ic cls ix rx names, a.before args s = true)
    (hlocs : ∀ x ∈ locs, ∀ cell, s.heap[x.base]? = some cell → cell.vm.isStatics = false)
    {a : Addr} {cX : ClassId} {kX : Class} (hfoundX : s.vm.findClass cls = some cX) (hkX : s.vm.classes[cX]? = some kX) (hcell : W0.heap[a]? = some (freshCell cX kX)) (hnew : s.heap.size ≤ a)
    {msg : Value} (hmsg : msg.isRef = true) {g : JFrame} (hg : g.method = m) (hsize : g.locals.size = c.maxLocals) (hlocked : g.locked = none) (hentered : g.entered = []) {rest : List Value} (hstack : g.stack = msg :: .ref a :: .ref a :: rest)
    (hd6 : decode c.code g.pc = .ok (.invokespecial ic, 3)) (hd9 : decode c.code (g.pc + 3) = .ok (.athrow, 1)) (hout : ∀ x ∈ c.exceptionTable.toList, covers x (g.pc + 3) = false)
    (hRframes : names.length + 3 < R.frames) (hRlocals : 2 * g.monitorRoom + ((Value.ref a :: rest).map fun v => v.category).sum + (13 * (names.length + 1) + 42) ≤ R.locals) (hlocks : meth.locks = false) :
    ∃ U : State, Steps p.tables e below (W0.setTop g) U ∧ U.status = .running ∧ Ended U below (.threw a) ∧ s.WarmedH U.vm ∧ s.sameButNew ({ U with vm := s.vm } : State) locs cells slots ∧
      ∃ ce, U.heap[a]? = some ce ∧ ce.vm = .none ∧ s.vm.findClass cls = some ce.cls := by
  have howns : e.platform.frameOwnsMonitors = true := by rw [X.admits.platform]
  have hfin : e.platform.finalization = false := by rw [X.admits.platform]
  have hpl : e.platform.magicAccessors = ({} : Platform).magicAccessors := by rw [X.admits.platform]
  have a' : ∀ x, x ∈ Bundle.ownAtomsX own ic cls ix rx names → x.holds args s none s [] = true := fun x hx => h x hx
  obtain ⟨T, Z0, L, -, Y⟩ := ThrowableC.of_atoms (args := args) howns hfin hpl (fun x hx => h x (by simp [Bundle.ownAtomsX, hx]))
  obtain ⟨Z, M, LZ, LM, hnZ⟩ := Init0T.ofS_atoms (args := args) hpl L Y (fun x hx => h x (by simp [Bundle.ownAtomsX, hx]))
  obtain ⟨P1, Ps, hlen, L1, hL, hP1m, hlink1, hlink⟩ := Bundle.chainSX (args := args) hpl hnZ x0 x1 x2 x5 names cls hcls hnames (fun x hx => h x (by simp [Bundle.ownAtomsX, hx]))
  have hfound : s.vm.findClass cls = some P1.m.cls := findClass_of_methodNamed hP1m
  cases Option.some.inj (hfoundX.symm.trans hfound)
  obtain ⟨c1, kX', hc1, hk, hord, -, -, hn6⟩ := Cond.instantiable_spec (a' (.instantiable cls 6) (by simp [Bundle.ownAtomsX]))
  cases Option.some.inj (hc1.symm.trans hfound)
  cases Option.some.inj (hkX.symm.trans hk)
  have hsel0 : selectMethod e.platform s.vm P1.m.cls T.fill0 = .method T.fill0 := by
    obtain ⟨c2, r2, m2, q1, q2, q3, q4, -⟩ := Cond.selects_spec (a' (.selects cls Bundle.tFill0 Bundle.tFill0) (by simp [Bundle.ownAtomsX]))
    cases Option.some.inj (q1.symm.trans hfound)
    cases Option.some.inj (q2.symm.trans (State.methodFound?_of_named Y.fill0 (by decide)))
    cases Option.some.inj (q3.symm.trans Y.fill0)
    rw [Launch.admits_selectMethod X.admits]; exact q4
  have hselF : selectMethod e.platform s.vm P1.m.cls T.fill = .method T.fill := by
    obtain ⟨c2, r2, m2, q1, q2, q3, q4, -⟩ := Cond.selects_spec (a' (.selects cls Bundle.tFill Bundle.tFill) (by simp [Bundle.ownAtomsX]))
    cases Option.some.inj (q1.symm.trans hfound)
    cases Option.some.inj (q2.symm.trans (State.methodFound?_of_named Y.fill (by decide)))
    cases Option.some.inj (q3.symm.trans Y.fill)
    rw [Launch.admits_selectMethod X.admits]; exact q4
  obtain ⟨cellS0, hcS0, hiss⟩ := Y.statics
  obtain ⟨u0, hu0⟩ := Cond.staticRefV Y.unassigned L.unassignedStatic L.statics hcS0 hiss (a' (.isRef (.static Bundle.tN "UNASSIGNED_STACK" Bundle.steD)) (by simp [Bundle.ownAtomsX]))
  obtain ⟨sen, hsen⟩ := Cond.staticRefV Y.sentinel L.sentinelStatic L.statics hcS0 hiss (a' (.isRef (.static Bundle.tN "SUPPRESSED_SENTINEL" Bundle.listD)) (by simp [Bundle.ownAtomsX]))
  obtain ⟨ci198, i198, fB, hk198, hg198, ha198, hsB, -, hnB, htB, hffB⟩ := Cond.ownField (t := .object "java/lang/Object") Y.found L.cls (by decide +kernel) (a' (.fieldLink Bundle.tN 198 Bundle.tN "backtrace" "Ljava/lang/Object;") (by simp [Bundle.ownAtomsX])) (a' (.lays Bundle.tN Bundle.tN "backtrace" "Ljava/lang/Object;") (by simp [Bundle.ownAtomsX])) e.platform hpl
  obtain ⟨cellS, hcS', heS, -, hkeep⟩ := X.same.2.2.2.2.2 T.aS cellS0 hcS0
  have hcellS : W0.heap[T.aS]? = some cellS := hcS'
  have hout' : ∀ i, (⟨T.aS, i⟩ : Loc) ∉ locs := fun i hmem => by
    have := hlocs _ hmem cellS0 hcS0
    rw [hiss] at this; cases this
  have hknownS : cellS.vm ≠ .unknown := by
    rw [heS]; intro hu
    rw [show cellS0.vm = .unknown from hu] at hiss
    cases hiss
  have hneS : T.aS ≠ a := Nat.ne_of_lt (Nat.lt_of_lt_of_le (Array.getElem?_eq_some_iff.mp hcS0).1 hnew)
  obtain ⟨iM, hffM⟩ := Y.msg
  obtain ⟨tyC, dC, hdC, hdnC⟩ := Cond.laysAt hfound hk Y.cause (a' (.lays cls Bundle.tN "cause" "Ljava/lang/Throwable;") (by simp [Bundle.ownAtomsX]))
  obtain ⟨tyS, dS, hdS, hdnS⟩ := Cond.laysAt hfound hk Y.stack (a' (.lays cls Bundle.tN "stackTrace" Bundle.steD) (by simp [Bundle.ownAtomsX]))
  obtain ⟨tyP, dP, hdP, hdnP⟩ := Cond.laysAt hfound hk Y.supp (a' (.lays cls Bundle.tN "suppressedExceptions" Bundle.listD) (by simp [Bundle.ownAtomsX]))
  obtain ⟨tyM, dM, hdM, hdnM⟩ := Cond.laysAt hfound hk hffM (a' (.lays cls Bundle.tN "detailMessage" "Ljava/lang/String;") (by simp [Bundle.ownAtomsX]))
  obtain ⟨tyB, dB, hdB, hdnB⟩ := Cond.laysAt hfound hk hffB (a' (.lays cls Bundle.tN "backtrace" "Ljava/lang/Object;") (by simp [Bundle.ownAtomsX]))
  have bC := Cond.laysApart hdB hdC hdnB hdnC (by rw [hnB, Y.causeName]; decide)
  have bS := Cond.laysApart hdB hdS hdnB hdnS (by rw [hnB, Y.stackName]; decide)
  have bP := Cond.laysApart hdB hdP hdnB hdnP (by rw [hnB, Y.suppName]; decide)
  have hskip : SkipFacts T e.platform s (fun u => u) u0 ((preparedCellV T.toThrowableT (freshCell P1.m.cls kX) a u0 sen).withEntry W0.cur) :=
    ⟨{ ci198 := ci198, i198 := i198, fBack := fB }, ⟨hk198, hg198, ha198, hsB⟩, by
      have := fresh_default (c := P1.m.cls) tyB
      rw [htB] at this
      simpa [preparedCellV, Cell.setSlot, Cell.withEntry, Array.getElem?_setIfInBounds, bC, bS, bP, bC.symm, bS.symm, bP.symm, defaultValue] using this, fun _ _ => rfl⟩
  obtain ⟨tm, methC, cdC, kC, vm₁, hnC, -, -, -, -, -, -, -, hW₁, st1⟩ := Steps.initColdS (tb := p.tables) (e := e) (below := below) (s := s) (U := W0) X.here hexec X.warmed hpl hown (t := Bundle.initS cls) rfl rfl (Bundle.fit_spec hcls).2
    (a' (.methodLink own ic (Bundle.initS cls)) (by simp [Bundle.ownAtomsX])) (h (.instanceMethod (Bundle.initS cls)) (by cases names <;> simp [Bundle.ownAtomsX, Bundle.chainSAtomsX, Bundle.passSAtoms])) (bytes := rx) (maxL := 2) (h (.code (Bundle.initS cls) rx 2 none) (by cases names <;> simp [Bundle.ownAtomsX, Bundle.chainSAtomsX, Bundle.passSAtoms]))
    (f := g) hg (a := a) (msg := msg) (rest := .ref a :: rest) hstack hd6
  cases Option.some.inj (hnC.symm.trans hP1m)
  have X₁ := X.noted hW₁
  obtain ⟨vm₂, X₂, st2⟩ := X₁.ctorMessageOffV hexec (g := { g with stack := .ref a :: rest }) hg hsize T L Z LZ M LM (P1 :: Ps)
    (fun P hP => by rcases List.mem_cons.mp hP with rfl | hP; exact L1; exact hL P hP) ⟨hlink1, hlink⟩ (u0 := u0) (sen := sen) (self := a) hmsg (cell := freshCell P1.m.cls kX) (cellS := cellS)
    hcell (fun _ => by simp) (by simp) rfl rfl hsel0 hselF hcellS hneS hknownS (by rw [hkeep _ (hout' _)]; exact hu0) (by rw [hkeep _ (hout' _)]; exact hsen)
    (Takes.of_laid hk hord tyC (by rw [Y.causeType]; rfl)) (Takes.of_laid hk hord tyS (by rw [Y.stackType]; exact fits_refV_array _ u0)) (Takes.of_laid hk hord tyP (by rw [Y.suppType]; exact fits_refV_object _ sen))
    (Takes.of_laid hk hord tyM (by rw [Y.msgType]; exact fits_refV_object _ ⟨msg, hmsg⟩)) Y.objLocals hskip htr [] hd6
    (by simp only [List.length_cons, hlen]; omega) (by simp only [List.length_cons, hlen]; exact hRlocals)
  obtain ⟨hwalk, hrun, hended, hWU, hsame⟩ := X₂.athrowLeaves hexec (g := { g with stack := .ref a :: rest, pc := g.pc + 3 }) hg hlocked hentered hout (a := a) (rest := rest) rfl hd9
  have hlt : a < ((W0.setVm vm₁).setVm vm₂).heap.size := (Array.getElem?_eq_some_iff.mp hcell).1
  have hU := heapAt_setCell_self (s := (W0.setVm vm₁).setVm vm₂) (plainBareV T.toThrowableT (freshCell P1.m.cls kX) a u0 sen msg) hlt
  refine ⟨_, st1 _ (fun acts => ?_), hrun, hended, hWU, hsame.weaken (fun y hy hlt' => ?_) (Nat.le_refl _) (Nat.le_refl _), _, hU, rfl, hfound⟩
  · rw [doInvoke_state]
    exact st2 _ hwalk
  · rcases List.mem_append.mp hy with h1 | h1
    · exact h1
    · exfalso
      have hb : y.base = a := by
        simp only [List.mem_cons, List.not_mem_nil, or_false] at h1
        rcases h1 with rfl | rfl | rfl | rfl | rfl <;> rfl
      rw [hb] at hlt'
      exact Nat.not_lt.mpr hnew hlt'
def x_atX (own : String) (ic : Nat) (X : String) (ix : Nat) (rx : ByteArray) (names : List String) : List Cond := (Bundle.ownAtomsX own ic X ix rx names).filter vx_no
variable {G : xGt} {d : xDt} {pc : Nat}
theorem x_thrX {E tx : String} {names : List String} {ik is ic ix len : Nat} {rx : ByteArray} (x0 : decode rx 0 = .ok (.aload_n 0, 1)) (x1 : decode rx 1 = .ok (.aload_n 1, 1)) (x2 : decode rx 2 = .ok (.invokespecial ix, 3)) (x5 : decode rx 5 = .ok (.return_, 1))
    (hE : d.2.2.2.2.2 = []) (hfr : names.length + 4 ≤ d.2.2.2.2.1) (hfit : Bundle.fit E = true) (hnames : ∀ n ∈ names, Bundle.fit n = true)
    (hw1 : Cond.classLink d.1.cls ik E ∈ G.tb) (hw2 : Cond.initialized E ∈ G.tb) {k : Nat} (hstr : (d.1.cls, is, tx, k) ∈ G.sr) (hat : ∀ w ∈ x_atX d.1.cls ic E ix rx names, w ∈ G.tb) (hgood : ∀ w ∈ Cond.classLink d.1.cls ik E :: Cond.initialized E :: x_atX d.1.cls ic E ix rx names, vx_ot w = true)
    (e0 : decode d.2.1 pc = .ok (.new ik, 3)) (e3 : decode d.2.1 (pc + 3) = .ok (.dup, 1)) (e4 : decode d.2.1 (pc + 4) = .ok (.ldc_w is, 3)) (e7 : decode d.2.1 (pc + 7) = .ok (.invokespecial ic, 3)) (e10 : decode d.2.1 (pc + 10) = .ok (.athrow, 1)) : xSnd G d pc (i_thr E) len := by
  intro P Q K hP hK l0 st h b hs
  obtain ⟨hb1, hb2, hcat, hq⟩ := hs
  intro p e R s m args below meth cd ad0 ok0 C ad H locs cells slots ls d0 hd0 hl hr hok hz hcc hsl hst hlo
  intro T hT X
  have hts := dr_words C.2.2.2.2.2.2.1 d0
  have hK0 : xKs G (s.setDrawn d0) := xKs_same (u := s) rfl C.2.2.2.2.2.2.2.2.2.2.1
  have hlow : xLow G (s.setDrawn d0).heap := C.2.2.2.2.2.2.2.2.2.2.2.2.2
  have hS : va_S (fun a => G.B0 ≤ a) (s.setDrawn d0).heap H locs := by
    obtain ⟨f1, f2⟩ := vx_frame (s := s.setDrawn d0) (U := T) X.same
    rw [hT] at f1 f2
    exact ⟨f1, fun q h1 h2 => f2 q h1 (fun z hz9 e9 => h2 (by show G.B0 ≤ q; rw [← e9]; exact hz z hz9)), hz⟩
  have stat : ∀ {Cn n9 d9 : String}, vx_Zq Cn n9 d9 (fun a => G.B0 ≤ a) (s.setDrawn d0) G.HB → vx_Zq Cn n9 d9 (fun a => G.B0 ≤ a) (s.setDrawn d0) (s.setDrawn d0).heap := fun {Cn n9 d9} hZ =>
    vx_Zq.kept hZ (fun a _ h2 => hlow.1 a (Nat.not_le.mp h2))
  have hU := stat hK0.2.2.2.2.1
  have hN := stat hK0.2.2.2.2.2.1
  have htab : ∀ x ∈ cd.exceptionTable.toList, False := fun x hx => by
    rw [C.2.2.2.2.2.2.2.2.2.2.2.1, hE] at hx
    cases hx
  have hcat9 : ((st.map (xCv ad)).map fun v => v.category).sum ≤ 8 := by
    have := xCat_map ad st
    unfold xCat at this hcat
    rw [this]; exact hcat
  have hfr9 := C.2.2.2.2.2.2.2.1
  have hlo9 := C.2.2.2.2.2.2.2.2.1
  have htr : e.platform.stackTraces = false := (show e.platform.stackTraces = G.l.stackTraces by rw [X.admits.platform]).trans C.2.2.2.2.2.2.2.2.2.2.2.2.1
  have Y := vx_rebase X (R' := { frames := R.frames, locals := R.locals, cells := 1, slots := 6 }) (Nat.le_refl _) (Nat.le_refl _) (by show cells + 1 ≤ _; omega) (by show slots + 6 ≤ _; omega)
  obtain ⟨s', hA⟩ : ∃ z, z = (T.setVm (s.setDrawn d0).vm).setFrames (.invoking m args :: below) := ⟨_, rfl⟩
  rw [← hA] at Y
  have hvm : s'.vm = (s.setDrawn d0).vm := by rw [hA]; rfl
  have hhp : s'.heap = H := by rw [hA]; exact hT
  have hW0 : (s.setDrawn d0).WarmedH s'.vm := by rw [hvm]; exact State.WarmedH.refl _
  have hat' : ∀ w ∈ x_atX d.1.cls ic E ix rx names, w.before args s' = true := fun w hw => vx_ot_at hW0 hvm.symm (hgood w (List.mem_cons_of_mem _ (List.mem_cons_of_mem _ hw))) (hts w (hat w hw))
  have hk' : (Cond.classLink d.1.cls ik E).before args s' = true := vx_ot_at hW0 hvm.symm (hgood _ List.mem_cons_self) (hts _ hw1)
  have hini' : (Cond.initialized E).before args s' = true := vx_ot_at hW0 hvm.symm (hgood _ (List.mem_cons_of_mem _ List.mem_cons_self)) (hts _ hw2)
  have hU' : vx_Zq Bundle.tN "UNASSIGNED_STACK" Bundle.steD (fun a => G.B0 ≤ a) s' s'.heap := by rw [hhp]; exact vx_Zq.moved hW0.alike (hU.kept hS.2.1)
  have hN' : vx_Zq Bundle.tN "SUPPRESSED_SENTINEL" Bundle.listD (fun a => G.B0 ≤ a) s' s'.heap := by rw [hhp]; exact vx_Zq.moved hW0.alike (hN.kept hS.2.1)
  have h9 : ∀ w ∈ Bundle.ownAtomsX d.1.cls ic E ix rx names, w.before args s' = true := vx_own hat' (vx_isRefq hU'.1) (vx_isRefq hN'.1) hU'.2.word hN'.2.word
  have hown' : s'.vm.findClass d.1.cls = some m.cls := by rw [hvm]; exact C.2.2.2.2.2.1
  have hins : (Cond.instantiable E 6).before args s' = true := h9 _ (by simp [Bundle.ownAtomsX])
  obtain ⟨vm₁, cX, kX, hfX, hkX, -, -, X₁, st1⟩ := Y.newCold C.1 (own := d.1.cls) (C := E) (index := ik) (n := 6) hown' hk' hins hini'
    (g := F0 m pc ls (st.map (xCv ad))) rfl (by rw [C.2.1]; exact e0) (Nat.le_refl _) (Nat.le_refl _)
  generalize hT1 : (T.setVm vm₁).pushCell { cls := cX, slots := kX.instanceTypes.map defaultValue, vm := .none } = T1 at X₁ st1
  have hcat1 : (Value.ref T.heap.size).category = 1 := rfl
  have hcellA : T1.heap[T.heap.size]? = some (freshCell cX kX) := by rw [← hT1]; exact State.heap_pushCell_size _ _
  have d3' : decode cd.code (pc + 3) = .ok (.dup, 1) := by rw [C.2.1]; exact e3
  have d4' : decode cd.code (pc + 4) = .ok (.ldc_w is, 3) := by rw [C.2.1]; exact e4
  have hstr' : vk_R d.1.cls is tx (G.aC (900000 + k)) s' := vk_R.warm hW0 (have q9 := hK0.2.2.1 _ hstr; q9)
  obtain ⟨U, hsteps, hrun, hend, hW, hsame, ce, hce, hcv, hccl⟩ := x_ctorX X₁ C.1 htr x0 x1 x2 x5 (own := d.1.cls) (cls := E) (names := names) (ic := ic) hown' hfit hnames h9 (fun x hx => nomatch hx) hfX hkX hcellA (by rw [hhp, hT]; exact Nat.le_refl _) (msg := .ref (G.aC (900000 + k))) rfl
    (g := { method := m, pc := pc + 7, locals := ls, stack := .ref (G.aC (900000 + k)) :: .ref T.heap.size :: .ref T.heap.size :: st.map (xCv ad), locked := none }) rfl (hl.1.trans C.2.2.1.symm) rfl rfl (rest := st.map (xCv ad)) rfl
    (by rw [C.2.1]; exact e7) (by rw [C.2.1]; exact e10) (fun x hx => (htab x hx).elim) (by show _ < R.frames; omega) (by show 2 * 0 + ((Value.ref T.heap.size :: st.map (xCv ad)).map fun v => v.category).sum + (13 * (names.length + 1) + 42) ≤ R.locals; rw [List.map_cons, List.sum_cons, hcat1]; omega) C.2.2.2.2.1
  obtain ⟨f1, f2⟩ := vx_frame hsame
  rw [hhp] at f1 f2
  have hWs : (s.setDrawn d0).WarmedH U.vm := State.WarmedH.trans hW0 hW
  have hcl : (s.setDrawn d0).vm.findClass E = some ce.cls := by
    rw [hvm] at hccl
    exact hccl
  have hall : (s.setDrawn d0).sameButNew ({ U with vm := (s.setDrawn d0).vm } : State) locs R.cells R.slots := by
    subst hA
    obtain ⟨g1, g2⟩ := hsame
    rw [State.setFrames_setFrames] at g1
    have h2 : (T.setVm (s.setDrawn d0).vm).sameButNew ({ U with vm := (s.setDrawn d0).vm } : State) [] (0 + 1) (0 + 6) := ⟨g1, g2⟩
    have h3 := X.same.trans h2
    rw [List.append_nil] at h3
    exact h3.mono (by omega) (by omega)
  have hx9 : xTH G ad0 ok0 Q E U.heap := ⟨ad, h, _, hq, xRel_low hr f1 (fun q hq9 => f2 q hq9 (fun z hz9 => nomatch hz9)), hok⟩
  refine ⟨U, ?_, .threw T.heap.size, hrun, hend, d0, hd0, locs, hz, hWs, hall, Or.inr ⟨_, E, ce, rfl, hce, hcv, hcl, hx9⟩⟩
  refine st1 _ ?_
  show Steps p.tables e below (T1.setTop { method := m, pc := pc + 3, locals := ls, stack := .ref T.heap.size :: st.map (xCv ad), locked := none }) _
  jvm_step X₁.here [X₁.here.top, C.1, d3', Value.category]
  exact X₁.ldcStringW C.1 (own := d.1.cls) (text := tx) (index := is) (a := G.aC (900000 + k)) hown' hstr'.1 hstr'.2
    (g := { method := m, pc := pc + 4, locals := ls, stack := .ref T.heap.size :: .ref T.heap.size :: st.map (xCv ad), locked := none }) rfl d4' _ hsteps
end XNSE
