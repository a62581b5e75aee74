/-! ===== texts, statics, throws, copies ===== -/
section XS
variable {G : xGt} {d : xDt} {pc : Nat}
theorem x_Ks {p : Program} {R : Room} {s : State} {m : MethodId} {args : Array Value} {meth : Method} {c : Code} (h : ∃ s0 d0, s = s0.setDrawn d0 ∧ xCx G d p R s0 m args meth c) : xKs G s := by
  obtain ⟨s0, d0, rfl, C⟩ := h
  exact xKs_same (u := s0) rfl C.2.2.2.2.2.2.2.2.2.2.1
/-- a constant text -/
theorem s_ldcS {i k : Nat} {tx : String} (hd : decode d.2.1 pc = .ok (.ldc i, 2)) (hw : (d.1.cls, i, tx, k) ∈ G.sr) : xSnd G d pc (i_push (.ref (900000 + k))) 2 := by
  intro P Q K hP hK l st h b hs
  refine x_pure (fun h1 _ => ok_cons (v := .ref (900000 + k)) (Or.inr (by omega)) h1) (fun {_ _ _ _ _ _ _ _ _ _ _ _ _ _ _ ad} h1 h2 h3 h4 h5 kk => va_ldcS h1 h2 (x_own h5) (have q9 := (x_Ks h5).2.2.1 _ hw; q9) hd ?_) (hK _ _ _ _ hs)
  have e : xCv ad (.ref (900000 + k)) = .ref (G.aC (900000 + k)) := by
    show Value.ref (ad (900000 + k)) = _
    rw [h4.2.2.2.2.2 _ (by omega)]
  rw [List.map_cons, e] at kk
  exact kk
/-- a static that nobody writes: v as it stands here, w in the plain machine -/
theorem s_gets {idx : Nat} {C n dd : String} {v w : Value} (hd : decode d.2.1 pc = .ok (.getstatic idx, 3)) (hs : (C, n, dd, v) ∈ G.sv) (hw : Cond.fieldLink d.1.cls idx C n dd ∈ G.tb) (hv : (∀ ad, xCv ad w = v) ∨ ∃ k, 900000 ≤ k ∧ w = .ref k ∧ v = .ref (G.aC k)) (hok : ∀ h, xOkV h w) : xSnd G d pc (i_push w) 3 := by
  intro P Q K hP hK l st h b hk
  refine x_pure (fun h1 _ => ok_cons (hok h) h1) (fun {_ _ _ _ _ _ _ _ _ H _ _ _ _ _ ad} h1 h2 h3 h4 h5 kk => ?_) (hK _ _ _ _ hk)
  have e : xCv ad w = v := by
    rcases hv with hv | ⟨k, hk9, rfl, rfl⟩
    · exact hv ad
    · show Value.ref (ad k) = _
      rw [h4.2.2.2.2.2 _ hk9]
  rw [List.map_cons, e] at kk
  obtain ⟨cf, kf, fi, f, a, cell, g1, g2, g3, g4, g5, g6, g7, g8⟩ := (x_Ks h5).2.2.2.1 _ hs
  have hcell : H[a]? = some cell := by
    rw [h4.2.2.2.1 a (Nat.not_le.mp g8)]; exact g5
  exact W.gets h1 h2 (x_own h5) (x_word h5 hw) g1 g2 g3 g4 hcell (fun e => by rw [e] at g6; cases g6) g7 rfl hd kk
/-- a static that holds null or some reference, for passing on alone -/
def i_gsq : xSem := fun _ _ K l st h b => ∀ v : Value, v = .null ∨ v = .ref 900502 → K l (v :: st) h b
theorem s_gsq {idx : Nat} {C n dd : String} {v : Value} (hd : decode d.2.1 pc = .ok (.getstatic idx, 3)) (hs : (C, n, dd, v) ∈ G.sv) (hw : Cond.fieldLink d.1.cls idx C n dd ∈ G.tb) (hv : v = .null ∨ v = .ref (G.aC 900502)) : xSnd G d pc i_gsq 3 := by
  intro P Q K hP hK l st h b hk
  rcases hv with rfl | rfl
  · exact s_gets (w := .null) hd hs hw (Or.inl fun _ => rfl) (fun _ => trivial) P Q K hP hK l st h b (hk .null (Or.inl rfl))
  · exact s_gets (w := .ref 900502) hd hs hw (Or.inr ⟨900502, by decide, rfl, rfl⟩) (fun _ => Or.inr (by decide)) P Q K hP hK l st h b (hk _ (Or.inr rfl))
/-- throw new E("text"), not caught here -/
def i_thr (E : String) : xSem := fun _ Q _ _ st h b => 1 ≤ b.1 ∧ 6 ≤ b.2 ∧ xCat st ≤ 8 ∧ Q (.error E) h (b.1 - 1, b.2 - 6)
theorem xRel_low {ad : Nat → Nat} {h : xH} {H H1 : Heap} (hr : xRel G ad h H) (hz : H.size ≤ H1.size) (hq : ∀ q : Nat, q < H.size → H1[q]? = H[q]?) : xRel G ad h H1 := by
  obtain ⟨r1, r2, r3, r4, r5, r6⟩ := hr
  refine ⟨fun a ha => ⟨?_, (r1 a ha).2⟩, r2, r3, fun q hq9 => by rw [hq q (by omega)]; exact r4 q hq9, by omega, r6⟩
  exact xAt_same ⟨rfl, fun _ => rfl, fun _ => rfl, fun _ => rfl, fun _ => rfl⟩ rfl (fun _ _ _ => rfl) (hq _ (xRel_lt (r1 a ha).1)) (r1 a ha).1
theorem x_thrG {E tx : String} {names : List String} {ik is ic len : Nat} (hE : d.2.2.2.2.2 = []) (hfr : names.length + 4 ≤ d.2.2.2.2.1) (hfit : Bundle.fit E = true) (hnames : ∀ n ∈ names, Bundle.fit n = true)
    (hw1 : Cond.classLink d.1.cls ik E ∈ G.tb) (hw2 : Cond.initialized E ∈ G.tb) {k : Nat} (hstr : (d.1.cls, is, tx, k) ∈ G.sr) (hat : ∀ w ∈ vx_atS d.1.cls ic E names, w ∈ G.tb) (hgood : ∀ w ∈ Cond.classLink d.1.cls ik E :: Cond.initialized E :: vx_atS d.1.cls ic E names, vx_ot w = true)
    (hd : (decode d.2.1 pc = .ok (.new ik, 3) ∧ decode d.2.1 (pc + 3) = .ok (.dup, 1) ∧ decode d.2.1 (pc + 4) = .ok (.ldc is, 2) ∧ decode d.2.1 (pc + 6) = .ok (.invokespecial ic, 3) ∧ decode d.2.1 (pc + 9) = .ok (.athrow, 1)) ∨
      (decode d.2.1 pc = .ok (.new ik, 3) ∧ decode d.2.1 (pc + 3) = .ok (.dup, 1) ∧ decode d.2.1 (pc + 4) = .ok (.ldc_w is, 3) ∧ decode d.2.1 (pc + 7) = .ok (.invokespecial ic, 3) ∧ decode d.2.1 (pc + 10) = .ok (.athrow, 1))) : xSnd G d pc (i_thr E) len := by
  intro P Q K hP hK l st h b hs
  obtain ⟨hb1, hb2, hcat, hq⟩ := hs
  intro p e R s m args below meth cd ad0 ok0 C ad H locs cells slots ls d0 hd0 hl hr hok hz hcc hsl hst hlo
  intro T hT X
  have hts := dr_words C.2.2.2.2.2.2.1 d0
  have hK0 : xKs G (s.setDrawn d0) := xKs_same (u := s) rfl C.2.2.2.2.2.2.2.2.2.2.1
  have hlow : xLow G (s.setDrawn d0).heap := C.2.2.2.2.2.2.2.2.2.2.2.2.2
  have hS : va_S (fun a => G.B0 ≤ a) (s.setDrawn d0).heap H locs := by
    obtain ⟨f1, f2⟩ := vx_frame (s := s.setDrawn d0) (U := T) X.same
    rw [hT] at f1 f2
    exact ⟨f1, fun q h1 h2 => f2 q h1 (fun z hz9 e9 => h2 (by show G.B0 ≤ q; rw [← e9]; exact hz z hz9)), hz⟩
  have stat : ∀ {Cn n9 d9 : String}, vx_Zq Cn n9 d9 (fun a => G.B0 ≤ a) (s.setDrawn d0) G.HB → vx_Zq Cn n9 d9 (fun a => G.B0 ≤ a) (s.setDrawn d0) (s.setDrawn d0).heap := fun {Cn n9 d9} hZ =>
    vx_Zq.kept hZ (fun a _ h2 => hlow.1 a (Nat.not_le.mp h2))
  have hU := stat hK0.2.2.2.2.1
  have hN := stat hK0.2.2.2.2.2.1
  have htab : ∀ x ∈ cd.exceptionTable.toList, False := fun x hx => by
    rw [C.2.2.2.2.2.2.2.2.2.2.2.1, hE] at hx
    cases hx
  have hcat9 : ((st.map (xCv ad)).map fun v => v.category).sum ≤ 8 := by
    have := xCat_map ad st
    unfold xCat at this hcat
    rw [this]; exact hcat
  have hfr9 := C.2.2.2.2.2.2.2.1
  have hlo9 := C.2.2.2.2.2.2.2.2.1
  have hx9 : ∀ t : State, (s.setDrawn d0).vm.Alike t.vm → H.size ≤ t.heap.size → (∀ q : Nat, q < H.size → t.heap[q]? = H[q]?) → xTH G ad0 ok0 Q E t.heap := fun t _ h1 h2 => ⟨ad, h, _, hq, xRel_low hr h1 h2, hok⟩
  have key : W p G.l e R (s.setDrawn d0) m args below meth cd H locs cells slots (vx_MQ below (fun _ _ _ _ => False) (fun E9 _ t => xTH G ad0 ok0 Q E9 t.heap ∧ E9 = E) args (s.setDrawn d0) R.cells R.slots (fun q => G.B0 ≤ q)) (F0 m pc ls (st.map (xCv ad))) := by
    rcases hd with ⟨e0, e3, e4, e6, e9⟩ | ⟨e0, e3, e4, e7, e10⟩
    · exact vx_throwS (own := d.1.cls) (cls := E) (text := tx) (names := names) (ik := ik) (is := is) (ic := ic) (A := fun a => G.B0 ≤ a) C.1 C.2.1 C.2.2.2.2.2.2.2.2.2.2.2.2.1 C.2.2.2.2.2.1 hfit hnames (hts _ hw1) (hts _ hw2) (have q9 := hK0.2.2.1 _ hstr; q9) (fun w hw => hts w (hat w hw)) hgood hU hN hS (hl.1.trans C.2.2.1.symm) e0 e3 e4 e6 e9
        (fun x hx => (htab x hx).elim) (by omega) (by omega) (by omega) (by omega) C.2.2.2.2.1 (fun t h1 h2 h3 => ⟨hx9 t h1 h2 h3, rfl⟩) hz (by omega) (by omega)
    · exact vx_throwSW (own := d.1.cls) (cls := E) (text := tx) (names := names) (ik := ik) (is := is) (ic := ic) (A := fun a => G.B0 ≤ a) C.1 C.2.1 C.2.2.2.2.2.2.2.2.2.2.2.2.1 C.2.2.2.2.2.1 hfit hnames (hts _ hw1) (hts _ hw2) (have q9 := hK0.2.2.1 _ hstr; q9) (fun w hw => hts w (hat w hw)) hgood hU hN hS (hl.1.trans C.2.2.1.symm) e0 e3 e4 e7 e10
        (fun x hx => (htab x hx).elim) (by omega) (by omega) (by omega) (by omega) C.2.2.2.2.1 (fun t h1 h2 h3 => ⟨hx9 t h1 h2 h3, rfl⟩) hz (by omega) (by omega)
  obtain ⟨t, a1, o, b1, b2, b3⟩ := key T hT X
  rcases b3 with ⟨hf, -⟩ | ⟨q, rfl, E9, ce, L, ⟨hth, rfl⟩, hce, hcv, hcl, hW, hsm, hL⟩
  · exact hf.elim
  · exact ⟨t, a1, _, b1, b2, d0, hd0, L, hL, hW, hsm, Or.inr ⟨q, _, ce, rfl, hce, hcv, hcl, hth⟩⟩
/-- System.arraycopy of numbers -/
def cpI (h : xH) (a0 a sp dp n : Nat) : xH := (h.1, fun o k => if o = a ∧ dp ≤ k ∧ k < dp + n then h.2.1 a0 (sp + (k - dp)) else h.2.1 o k, h.2.2.1, h.2.2.2.1, h.2.2.2.2)
def cpL (h : xH) (a0 a sp dp n : Nat) : xH := (h.1, h.2.1, fun o k => if o = a ∧ dp ≤ k ∧ k < dp + n then h.2.2.1 a0 (sp + (k - dp)) else h.2.2.1 o k, h.2.2.2.1, h.2.2.2.2)
theorem gI_cpI (h : xH) (a0 a sp dp n o k : Nat) : gI (cpI h a0 a sp dp n) o k = if o = a ∧ dp ≤ k ∧ k < dp + n then gI h a0 (sp + (k - dp)) else gI h o k := rfl
theorem gL_cpL (h : xH) (a0 a sp dp n o k : Nat) : gL (cpL h a0 a sp dp n) o k = if o = a ∧ dp ≤ k ∧ k < dp + n then gL h a0 (sp + (k - dp)) else gL h o k := rfl
theorem gS_cpI (h : xH) (a0 a sp dp n o : Nat) : gS (cpI h a0 a sp dp n) o = gS h o := rfl
theorem gL_cpI (h : xH) (a0 a sp dp n o k : Nat) : gL (cpI h a0 a sp dp n) o k = gL h o k := rfl
theorem gD_cpI (h : xH) (a0 a sp dp n o k : Nat) : gD (cpI h a0 a sp dp n) o k = gD h o k := rfl
theorem gR_cpI (h : xH) (a0 a sp dp n o k : Nat) : gR (cpI h a0 a sp dp n) o k = gR h o k := rfl
theorem gS_cpL (h : xH) (a0 a sp dp n o : Nat) : gS (cpL h a0 a sp dp n) o = gS h o := rfl
theorem gI_cpL (h : xH) (a0 a sp dp n o k : Nat) : gI (cpL h a0 a sp dp n) o k = gI h o k := rfl
theorem gD_cpL (h : xH) (a0 a sp dp n o k : Nat) : gD (cpL h a0 a sp dp n) o k = gD h o k := rfl
theorem gR_cpL (h : xH) (a0 a sp dp n o k : Nat) : gR (cpL h a0 a sp dp n) o k = gR h o k := rfl
def i_copy (c : Nat) : xSem := fun _ _ K l st h b => match st with
  | .int n :: .int dp :: .ref a :: .int sp :: .ref a0 :: r => xCat r ≤ 8 ∧ (gS h a0).1 = c ∧ (gS h a).1 = c ∧ ¬ sp < 0 ∧ ¬ dp < 0 ∧ ¬ n < 0 ∧ ix sp + ix n ≤ (gS h a0).2 ∧ ix dp + ix n ≤ (gS h a).2 ∧ (∀ i, i < ix n → fits (xEt c) (xAv h c a0 (ix sp + i)) = true) ∧
    K l r (if c = 101 then cpL h a0 a (ix sp) (ix dp) (ix n) else cpI h a0 a (ix sp) (ix dp) (ix n)) b
  | _ => False
theorem xAv_cp {h : xH} {c a0 a sp dp n : Nat} (hc2 : c ≠ 102) (j : Nat) : xAv (if c = 101 then cpL h a0 a sp dp n else cpI h a0 a sp dp n) c a j = va_cpy (xAv h c a0) (xAv h c a) sp dp n j := by
  unfold va_cpy xAv
  by_cases e : c = 101
  · rw [if_pos e, if_pos e, if_pos e, if_pos e, gL_cpL]
    by_cases w : dp ≤ j ∧ j < dp + n
    · rw [if_pos ⟨rfl, w⟩, if_pos w]
    · rw [if_neg (fun z => w z.2), if_neg w]
  · rw [if_neg e, if_neg e, if_neg e, if_neg e, if_neg hc2, if_neg hc2, if_neg hc2, gI_cpI]
    by_cases w : dp ≤ j ∧ j < dp + n
    · rw [if_pos ⟨rfl, w⟩, if_pos w]
    · rw [if_neg (fun z => w z.2), if_neg w]
theorem s_copy {c idx : Nat} (hc : c = 100 ∨ c = 101 ∨ c = 103) (h1f : 1 ≤ d.2.2.2.2.1) (hw1 : Cond.methodLink d.1.cls idx arraycopyName ∈ G.tb) (hw2 : Cond.native arraycopyName ∈ G.tb) (hw3 : Cond.static arraycopyName ∈ G.tb) (hw4 : Cond.initialized "java/lang/System" ∈ G.tb) (hd : decode d.2.1 pc = .ok (.invokestatic idx, 3)) : xSnd G d pc (i_copy c) 3 := by
  intro P Q K hP hK l st h b hs
  unfold i_copy at hs
  split at hs
  · rename_i n dp a sp a0 r
    obtain ⟨hcat, hk0, hk1, h1, h2, h3, h4, h5, hfit, hs⟩ := hs
    intro p e R s m args below meth cd ad0 ok0 C ad H locs cells slots ls d0 hd0 hl hr hok hz hcc hsl hst hlo
    have hro : ¬ xRo c := by rcases hc with rfl | rfl | rfl <;> decide
    have hc100 : 100 ≤ c := by rcases hc with rfl | rfl | rfl <;> decide
    have hxa : xAk c := by rcases hc with rfl | rfl | rfl <;> decide
    have hc2 : c ≠ 102 := by rcases hc with rfl | rfl | rfl <;> decide
    have hprim : refKind (xEt c) = false := by rcases hc with rfl | rfl | rfl <;> rfl
    obtain ⟨hN0, hcell0⟩ := x_arr hr hk0 hc100 hro
    obtain ⟨hN1, hcell1⟩ := x_arr hr hk1 hc100 hro
    have hts := dr_words C.2.2.2.2.2.2.1 d0
    have hA : ArrOfT (s.setDrawn d0) (G.cA c) (xEt c) := (C.2.2.2.2.2.2.2.2.2.2.1.2.1 c hxa).1
    have hlive : (gS h a).1 ≠ 0 := by rw [hk1]; omega
    have hbase : G.B0 ≤ ad a := by
      rcases (hr.1 a hlive).2 with z | z
      · exact z.2.1
      · rw [hk1] at z; exact absurd z.2.2 hro
    have nn : ∀ z : Int32, ¬ z < 0 → z.toInt = (z.toNatClampNeg : Int) := by
      intro z hz
      have hz0 : (0 : Int) ≤ z.toInt := by
        have := Int32.not_lt.mp hz
        simpa using Int32.le_iff_toInt_le.mp this
      show z.toInt = ((z.toInt.toNat : Nat) : Int)
      omega
    intro T hT X
    obtain ⟨-, k0, hkk, cm, hkind⟩ := hA 0 (fun _ => .null)
    have hfr9 := C.2.2.2.2.2.2.2.1
    have hlo9 := C.2.2.2.2.2.2.2.2.1
    have hcat9 : ((r.map (xCv ad)).map fun v => v.category).sum ≤ 8 := by
      have := xCat_map ad r
      unfold xCat at this hcat
      rw [this]; exact hcat
    have h4' : sp.toNatClampNeg + n.toNatClampNeg ≤ (gS h a0).2 := h4
    have h5' : dp.toNatClampNeg + n.toNatClampNeg ≤ (gS h a).2 := h5
    obtain ⟨vm', X', step⟩ := X.arraycopy C.1 C.2.2.2.2.2.1 (hts _ hw1) (hts _ hw2) (hts _ hw3) (hts _ hw4) (src := ad a0) (dst := ad a) (cs := arrV (G.cA c) (gS h a0).2 (xAv h c a0)) (cd := arrV (G.cA c) (gS h a).2 (xAv h c a)) (srcPos := sp) (destPos := dp) (n := n) (by rw [hT]; exact hcell0) (by rw [hT]; exact hcell1)
      (fun _ h => by cases h) (fun _ h => by cases h) (fun h => by cases h) (fun h => by cases h) hkk hkk hkind hkind (by simp [hprim]) h1 h2 h3
      (by rw [nn sp h1, nn n h3]; show ¬ _ > ((arrV (G.cA c) (gS h a0).2 (xAv h c a0)).slots.size : Int); rw [arrV_size]; omega)
      (by rw [nn dp h2, nn n h3]; show ¬ _ > ((arrV (G.cA c) (gS h a).2 (xAv h c a)).slots.size : Int); rw [arrV_size]; omega)
      (fun vm₁ _ i hi => by
        have e : (arrV (G.cA c) (gS h a0).2 (xAv h c a0)).slots.getD (sp.toNatClampNeg + i) .null = xAv h c a0 (sp.toNatClampNeg + i) := by
          rw [Array.getD_eq_getD_getElem?, arrV_read _ _ (by omega)]
          rfl
        refine ⟨?_, ?_⟩
        · rw [e]
          exact hfit i hi
        · rw [e]
          unfold xAv
          split
          · exact trivial
          · first
              | exact trivial
              | (split <;> exact trivial))
      (g := F0 m pc ls (.int n :: .int dp :: .ref (ad a) :: .int sp :: .ref (ad a0) :: r.map (xCv ad))) rfl (hl.1.trans C.2.2.1.symm) (rest := r.map (xCv ad)) rfl (by rw [C.2.1]; exact hd) (by omega) (by
        have h90 : nativeFrameWords "java/lang/System" "arraycopy" 5 + 11 ≤ 92 := by decide +kernel
        show 2 * 0 + _ + _ ≤ _
        omega)
    have e1 : copied (arrV (G.cA c) (gS h a0).2 (xAv h c a0)) (arrV (G.cA c) (gS h a).2 (xAv h c a)) sp dp n = arrV (G.cA c) (gS h a).2 (va_cpy (xAv h c a0) (xAv h c a) (ix sp) (ix dp) (ix n)) := va_copied (fun z => z) (G.cA c) (G.cA c) (xAv h c a0) (xAv h c a) h4
    rw [e1] at X' step
    have hlt : ad a < H.size := (Array.getElem?_eq_some_iff.mp hcell1).1
    have hheap : ((T.setVm vm').setCell (ad a) (arrV (G.cA c) (gS h a).2 (va_cpy (xAv h c a0) (xAv h c a) (ix sp) (ix dp) (ix n)))).heap = H.setIfInBounds (ad a) (arrV (G.cA c) (gS h a).2 (va_cpy (xAv h c a0) (xAv h c a) (ix sp) (ix dp) (ix n))) := by rw [← hT]; rfl
    have hr' : xRel G ad (if c = 101 then cpL h a0 a (ix sp) (ix dp) (ix n) else cpI h a0 a (ix sp) (ix dp) (ix n)) (H.setIfInBounds (ad a) (arrV (G.cA c) (gS h a).2 (va_cpy (xAv h c a0) (xAv h c a) (ix sp) (ix dp) (ix n)))) := by
      have hS9 : ∀ o, gS (if c = 101 then cpL h a0 a (ix sp) (ix dp) (ix n) else cpI h a0 a (ix sp) (ix dp) (ix n)) o = gS h o := fun o => by split <;> rfl
      refine xRel_upd (o := a) hr (hS9 a) hlive (by rw [hk1]; exact hro) (fun o ho => ?_) (Or.inr (Or.inl ?_)) (fun q hq => by simp [Array.getElem?_setIfInBounds, Ne.symm hq]) (by simp) (fun k j hj => ?_)
      · by_cases e9 : c = 101
        · rw [if_pos e9]
          exact ⟨rfl, fun _ => rfl, fun k => by rw [gL_cpL, if_neg (fun z => ho z.1)], fun _ => rfl, fun _ => rfl⟩
        · rw [if_neg e9]
          exact ⟨rfl, fun k => by rw [gI_cpI, if_neg (fun z => ho z.1)], fun _ => rfl, fun _ => rfl, fun _ => rfl⟩
      · rw [hS9, hk1]
        refine ⟨hc100, hro, hN1, ?_⟩
        have e5 : ∀ x : Cell, (H.setIfInBounds (ad a) x)[ad a]? = some x := fun x => by simp [Array.getElem?_setIfInBounds, hlt]
        rw [e5]
        have e6 : va_cpy (xAv h c a0) (xAv h c a) (ix sp) (ix dp) (ix n) = xAv (if c = 101 then cpL h a0 a (ix sp) (ix dp) (ix n) else cpI h a0 a (ix sp) (ix dp) (ix n)) c a := funext fun j => (xAv_cp hc2 j).symm
        rw [e6]
      · refine hr.2.2.1 a k j hlive ?_
        have : gR (if c = 101 then cpL h a0 a (ix sp) (ix dp) (ix n) else cpI h a0 a (ix sp) (ix dp) (ix n)) a k = gR h a k := by split <;> rfl
        rw [this] at hj; exact hj
    have hS9 : ∀ o, gS (if c = 101 then cpL h a0 a (ix sp) (ix dp) (ix n) else cpI h a0 a (ix sp) (ix dp) (ix n)) o = gS h o := fun o => by split <;> rfl
    have h5k := fun (L9 : List Loc) (hz9 : ∀ z ∈ L9, G.B0 ≤ z.base) => hK _ _ _ _ hs p e R s m args below meth cd ad0 ok0 C ad _ L9 cells slots ls d0 hd0 hl hr' (fun i hi => ⟨by have := (hok i hi).1; unfold xOk at this ⊢; rw [hS9]; exact this, (hok i hi).2⟩) hz9 hcc hsl (fun w hw => xOkV_same hS9 (ok_tl (ok_tl (ok_tl (ok_tl (ok_tl hst)))) w hw)) (fun q hq => xOkV_same hS9 (hlo q hq))
    obtain ⟨t, a1, b1⟩ := h5k _ (fun z hzz => by
      rcases List.mem_append.mp hzz with w | w
      · exact hz z w
      · obtain ⟨z9, -, hz9⟩ := List.mem_map.mp w
        rw [← hz9]
        exact hbase) _ hheap X'
    exact ⟨t, step t a1, b1⟩
  · exact hs.elim
end XS
