/-! ===== puts, arrays, new things, ends ===== -/
section XK
variable {G : xGt} {d : xDt} {pc : Nat}
theorem xSame_I (h : xH) (o k : Nat) (v : Int32) : ∀ a, a ≠ o → xSame h (sI h o k v) a := fun a e => ⟨rfl, fun j => by rw [gI_sI, if_neg (fun z => e z.1)], fun _ => rfl, fun _ => rfl, fun _ => rfl⟩
theorem xSame_L (h : xH) (o k : Nat) (v : Int64) : ∀ a, a ≠ o → xSame h (sL h o k v) a := fun a e => ⟨rfl, fun _ => rfl, fun j => by rw [gL_sL, if_neg (fun z => e z.1)], fun _ => rfl, fun _ => rfl⟩
theorem xSame_D (h : xH) (o k : Nat) (v : UInt64) : ∀ a, a ≠ o → xSame h (sD h o k v) a := fun a e => ⟨rfl, fun _ => rfl, fun _ => rfl, fun j => by rw [gD_sD, if_neg (fun z => e z.1)], fun _ => rfl⟩
theorem xSame_R (h : xH) (o k : Nat) (v : Option Nat) : ∀ a, a ≠ o → xSame h (sR h o k v) a := fun a e => ⟨rfl, fun _ => rfl, fun _ => rfl, fun _ => rfl, fun j => by rw [gR_sR, if_neg (fun z => e z.1)]⟩
theorem xFv_I {ad : Nat → Nat} {cl : Nat → vw_C} {h : xH} {c o k : Nat} {v : Int32} (hty : xTy ((cl c).2.1 k).2.2.1 = 0) (j : Nat) : xFv ad cl (sI h o k v) c o j = if j = k then .int v else xFv ad cl h c o j := by
  by_cases e : j = k
  · subst e
    unfold xFv
    rw [hty, if_pos rfl]
    show Value.int (gI (sI h o j v) o j) = _
    rw [gI_sI, if_pos ⟨rfl, rfl⟩]
  · rw [if_neg e]
    unfold xFv
    rw [gI_sI, if_neg (fun z => e z.2)]
    rfl
theorem xFv_L {ad : Nat → Nat} {cl : Nat → vw_C} {h : xH} {c o k : Nat} {v : Int64} (hty : xTy ((cl c).2.1 k).2.2.1 = 1) (j : Nat) : xFv ad cl (sL h o k v) c o j = if j = k then .long v else xFv ad cl h c o j := by
  by_cases e : j = k
  · subst e
    unfold xFv
    rw [hty, if_pos rfl]
    show Value.long (gL (sL h o j v) o j) = _
    rw [gL_sL, if_pos ⟨rfl, rfl⟩]
  · rw [if_neg e]
    unfold xFv
    rw [gL_sL, if_neg (fun z => e z.2)]
    rfl
theorem xFv_R {ad : Nat → Nat} {cl : Nat → vw_C} {h : xH} {c o k : Nat} {v : Option Nat} (hty : xTy ((cl c).2.1 k).2.2.1 = 3) (j : Nat) : xFv ad cl (sR h o k v) c o j = if j = k then xRv ad v else xFv ad cl h c o j := by
  by_cases e : j = k
  · subst e
    unfold xFv
    rw [hty, if_pos rfl]
    show xRv ad (gR (sR h o j v) o j) = _
    rw [gR_sR, if_pos ⟨rfl, rfl⟩]
  · rw [if_neg e]
    unfold xFv
    rw [gR_sR, if_neg (fun z => e z.2)]
    rfl

theorem s_putI {c k idx : Nat} (hcl : xClsOk G c) (hro : ¬ xRo c) (hk : k < (G.cl c).2.2) (hw : Cond.fieldLink d.1.cls idx ((G.cl c).2.1 k).1 ((G.cl c).2.1 k).2.1 ((G.cl c).2.1 k).2.2.1 ∈ G.tb) (hfin : ((G.cl c).2.1 k).2.2.2 = false ∨ (((G.cl c).2.1 k).2.2.2 = true ∧ d.1.name = "<init>" ∧ ((G.cl c).2.1 k).1 = d.1.cls)) (hd : decode d.2.1 pc = .ok (.putfield idx, 3)) (hdesc : ((G.cl c).2.1 k).2.2.1 = "I") : xSnd G d pc (i_putI c k) 3 :=
  s_putG (ty := .int) hcl hro hk hw hfin (by rw [hdesc]; decide +kernel) hd (fun P Q K l st h b hs => by
    unfold i_putI at hs
    split at hs
    · rename_i v o r
      exact ⟨.int v, o, r, sI h o k v, rfl, hs.1, hs.2, fun _ => ⟨rfl, rfl⟩, fun _ => rfl, xSame_I h o k v, fun ad j => xFv_I (by rw [hdesc]; decide +kernel) j, fun j z hz => Or.inl hz⟩
    · exact hs.elim)
theorem s_putZ {c k idx : Nat} (hcl : xClsOk G c) (hro : ¬ xRo c) (hk : k < (G.cl c).2.2) (hw : Cond.fieldLink d.1.cls idx ((G.cl c).2.1 k).1 ((G.cl c).2.1 k).2.1 ((G.cl c).2.1 k).2.2.1 ∈ G.tb) (hfin : ((G.cl c).2.1 k).2.2.2 = false ∨ (((G.cl c).2.1 k).2.2.2 = true ∧ d.1.name = "<init>" ∧ ((G.cl c).2.1 k).1 = d.1.cls)) (hd : decode d.2.1 pc = .ok (.putfield idx, 3)) (hdesc : ((G.cl c).2.1 k).2.2.1 = "Z") : xSnd G d pc (i_putZ c k) 3 :=
  s_putG (ty := .boolean) hcl hro hk hw hfin (by rw [hdesc]; decide +kernel) hd (fun P Q K l st h b hs => by
    unfold i_putZ at hs
    split at hs
    · rename_i v o r
      exact ⟨.int v, o, r, sI h o k v, rfl, hs.1, hs.2.2, fun _ => by rcases hs.2.1 with rfl | rfl <;> exact ⟨rfl, rfl⟩, fun _ => rfl, xSame_I h o k v, fun ad j => xFv_I (by rw [hdesc]; decide +kernel) j, fun j z hz => Or.inl hz⟩
    · exact hs.elim)
theorem s_putL {c k idx : Nat} (hcl : xClsOk G c) (hro : ¬ xRo c) (hk : k < (G.cl c).2.2) (hw : Cond.fieldLink d.1.cls idx ((G.cl c).2.1 k).1 ((G.cl c).2.1 k).2.1 ((G.cl c).2.1 k).2.2.1 ∈ G.tb) (hfin : ((G.cl c).2.1 k).2.2.2 = false ∨ (((G.cl c).2.1 k).2.2.2 = true ∧ d.1.name = "<init>" ∧ ((G.cl c).2.1 k).1 = d.1.cls)) (hd : decode d.2.1 pc = .ok (.putfield idx, 3)) (hdesc : ((G.cl c).2.1 k).2.2.1 = "J") : xSnd G d pc (i_putL c k) 3 :=
  s_putG (ty := .long) hcl hro hk hw hfin (by rw [hdesc]; decide +kernel) hd (fun P Q K l st h b hs => by
    unfold i_putL at hs
    split at hs
    · rename_i v o r
      exact ⟨.long v, o, r, sL h o k v, rfl, hs.1, hs.2, fun _ => ⟨rfl, rfl⟩, fun _ => rfl, xSame_L h o k v, fun ad j => xFv_L (by rw [hdesc]; decide +kernel) j, fun j z hz => Or.inl hz⟩
    · exact hs.elim)
theorem s_putR {c k idx : Nat} {ty : FieldType} (hcl : xClsOk G c) (hro : ¬ xRo c) (hk : k < (G.cl c).2.2) (hw : Cond.fieldLink d.1.cls idx ((G.cl c).2.1 k).1 ((G.cl c).2.1 k).2.1 ((G.cl c).2.1 k).2.2.1 ∈ G.tb) (hfin : ((G.cl c).2.1 k).2.2.2 = false ∨ (((G.cl c).2.1 k).2.2.2 = true ∧ d.1.name = "<init>" ∧ ((G.cl c).2.1 k).1 = d.1.cls)) (hd : decode d.2.1 pc = .ok (.putfield idx, 3)) (hty3 : xTy ((G.cl c).2.1 k).2.2.1 = 3) (hdesc : parseFieldDescriptor ((G.cl c).2.1 k).2.2.1 = some ty) (hre : ∀ q : Nat, narrow ty (.ref q) = .ref q ∧ fits ty (.ref q) = true) : xSnd G d pc (i_putR c k) 3 :=
  s_putG (ty := ty) hcl hro hk hw hfin hdesc hd (fun P Q K l st h b hs => by
    unfold i_putR at hs
    split at hs
    · rename_i v o r
      refine ⟨.ref v, o, r, sR h o k (some v), rfl, hs.1, hs.2, fun ad => hre (ad v), fun _ => rfl, xSame_R h o k (some v), fun ad j => xFv_R hty3 j, fun j z hz => ?_⟩
      rw [gR_sR] at hz
      split at hz
      · cases hz; exact Or.inr rfl
      · exact Or.inl hz
    · exact hs.elim)

theorem s_iald (hd : decode d.2.1 pc = .ok (.iaload, 1)) : xSnd G d pc (i_aldI 100) 1 := by
  intro P Q K hP hK l st h b hs
  unfold i_aldI at hs
  split at hs
  · rename_i i o r
    obtain ⟨hc, hin, hs⟩ := hs
    intro p e R s m args below meth cd ad0 ok0 C ad H locs cells slots ls d0 hd0 hl hr hok hz hcc hsl hst hlo
    obtain ⟨hN, cell, hcell, hcls, hst9, hkn, hsz, hrd⟩ := x_arrR hr hc (by decide)
    have hA : ArrOfT (s.setDrawn d0) (G.cA 100) .int := (C.2.2.2.2.2.2.2.2.2.2.1.2.1 100 (Or.inl (by decide))).1
    have hlt : i.toNatClampNeg < (gS h o).2 := Nat.not_le.mp fun q => hin (Or.inr q)
    have hin9 : ¬ (i < 0 ∨ cell.slots.size ≤ i.toNatClampNeg) := by rw [hsz]; exact hin
    have hv9 : cell.slots[i.toNatClampNeg]? = some (.int (gI h o (ix i))) := by rw [hrd _ hlt]; rfl
    have h5 := hK _ _ _ _ hs p e R s m args below meth cd ad0 ok0 C ad H locs cells slots ls d0 hd0 hl hr hok hz hcc hsl (ok_cons (v := Value.int _) trivial (ok_tl (ok_tl hst))) hlo
    exact W.iald (l := G.l) (e := e) (R := R) (s := s.setDrawn d0) (args := args) (below := below) (meth := meth) (locs := locs) (cells := cells) (slots := slots) (Q := xMQ below (xRT G ad0 ok0 Q) (xTH G ad0 ok0 Q) s R.cells R.slots (fun q => G.B0 ≤ q)) (a := ad o) (rest := r.map (xCv ad)) (g := F0 m pc ls (.int i :: .ref (ad o) :: r.map (xCv ad))) C.1 C.2.1 hcell (x_isArr hA hcls hst9) hkn hin9 hv9 rfl rfl hd h5
  · exact hs.elim

theorem s_bald (hd : decode d.2.1 pc = .ok (.baload, 1)) : xSnd G d pc (i_aldI 103) 1 := by
  intro P Q K hP hK l st h b hs
  unfold i_aldI at hs
  split at hs
  · rename_i i o r
    obtain ⟨hc, hin, hs⟩ := hs
    intro p e R s m args below meth cd ad0 ok0 C ad H locs cells slots ls d0 hd0 hl hr hok hz hcc hsl hst hlo
    obtain ⟨hN, cell, hcell, hcls, hst9, hkn, hsz, hrd⟩ := x_arrR hr hc (by decide)
    have hA : ArrOfT (s.setDrawn d0) (G.cA 103) .byte := (C.2.2.2.2.2.2.2.2.2.2.1.2.1 103 (Or.inl (by decide))).1
    have hlt : i.toNatClampNeg < (gS h o).2 := Nat.not_le.mp fun q => hin (Or.inr q)
    have hin9 : ¬ (i < 0 ∨ cell.slots.size ≤ i.toNatClampNeg) := by rw [hsz]; exact hin
    have hv9 : cell.slots[i.toNatClampNeg]? = some (.int (gI h o (ix i))) := by rw [hrd _ hlt]; rfl
    have h5 := hK _ _ _ _ hs p e R s m args below meth cd ad0 ok0 C ad H locs cells slots ls d0 hd0 hl hr hok hz hcc hsl (ok_cons (v := Value.int _) trivial (ok_tl (ok_tl hst))) hlo
    exact W.bald (l := G.l) (e := e) (R := R) (s := s.setDrawn d0) (args := args) (below := below) (meth := meth) (locs := locs) (cells := cells) (slots := slots) (Q := xMQ below (xRT G ad0 ok0 Q) (xTH G ad0 ok0 Q) s R.cells R.slots (fun q => G.B0 ≤ q)) (a := ad o) (rest := r.map (xCv ad)) (g := F0 m pc ls (.int i :: .ref (ad o) :: r.map (xCv ad))) C.1 C.2.1 hcell (x_isArr hA hcls hst9) hkn hin9 hv9 rfl rfl hd h5
  · exact hs.elim

theorem s_zald (hd : decode d.2.1 pc = .ok (.baload, 1)) : xSnd G d pc (i_aldI 105) 1 := by
  intro P Q K hP hK l st h b hs
  unfold i_aldI at hs
  split at hs
  · rename_i i o r
    obtain ⟨hc, hin, hs⟩ := hs
    intro p e R s m args below meth cd ad0 ok0 C ad H locs cells slots ls d0 hd0 hl hr hok hz hcc hsl hst hlo
    obtain ⟨hN, cell, hcell, hcls, hst9, hkn, hsz, hrd⟩ := x_arrR hr hc (by decide)
    have hA : ArrOfT (s.setDrawn d0) (G.cA 105) .boolean := (C.2.2.2.2.2.2.2.2.2.2.1.2.1 105 (Or.inl (by decide))).1
    have hlt : i.toNatClampNeg < (gS h o).2 := Nat.not_le.mp fun q => hin (Or.inr q)
    have hin9 : ¬ (i < 0 ∨ cell.slots.size ≤ i.toNatClampNeg) := by rw [hsz]; exact hin
    have hv9 : cell.slots[i.toNatClampNeg]? = some (.int (gI h o (ix i))) := by rw [hrd _ hlt]; rfl
    have h5 := hK _ _ _ _ hs p e R s m args below meth cd ad0 ok0 C ad H locs cells slots ls d0 hd0 hl hr hok hz hcc hsl (ok_cons (v := Value.int _) trivial (ok_tl (ok_tl hst))) hlo
    exact W.zald (l := G.l) (e := e) (R := R) (s := s.setDrawn d0) (args := args) (below := below) (meth := meth) (locs := locs) (cells := cells) (slots := slots) (Q := xMQ below (xRT G ad0 ok0 Q) (xTH G ad0 ok0 Q) s R.cells R.slots (fun q => G.B0 ≤ q)) (a := ad o) (rest := r.map (xCv ad)) (g := F0 m pc ls (.int i :: .ref (ad o) :: r.map (xCv ad))) C.1 C.2.1 hcell (x_isArr hA hcls hst9) hkn hin9 hv9 rfl rfl hd h5
  · exact hs.elim

theorem s_sald (hd : decode d.2.1 pc = .ok (.saload, 1)) : xSnd G d pc (i_aldI 104) 1 := by
  intro P Q K hP hK l st h b hs
  unfold i_aldI at hs
  split at hs
  · rename_i i o r
    obtain ⟨hc, hin, hs⟩ := hs
    intro p e R s m args below meth cd ad0 ok0 C ad H locs cells slots ls d0 hd0 hl hr hok hz hcc hsl hst hlo
    obtain ⟨hN, cell, hcell, hcls, hst9, hkn, hsz, hrd⟩ := x_arrR hr hc (by decide)
    have hA : ArrOfT (s.setDrawn d0) (G.cA 104) .short := (C.2.2.2.2.2.2.2.2.2.2.1.2.1 104 (Or.inl (by decide))).1
    have hlt : i.toNatClampNeg < (gS h o).2 := Nat.not_le.mp fun q => hin (Or.inr q)
    have hin9 : ¬ (i < 0 ∨ cell.slots.size ≤ i.toNatClampNeg) := by rw [hsz]; exact hin
    have hv9 : cell.slots[i.toNatClampNeg]? = some (.int (gI h o (ix i))) := by rw [hrd _ hlt]; rfl
    have h5 := hK _ _ _ _ hs p e R s m args below meth cd ad0 ok0 C ad H locs cells slots ls d0 hd0 hl hr hok hz hcc hsl (ok_cons (v := Value.int _) trivial (ok_tl (ok_tl hst))) hlo
    exact W.sald (l := G.l) (e := e) (R := R) (s := s.setDrawn d0) (args := args) (below := below) (meth := meth) (locs := locs) (cells := cells) (slots := slots) (Q := xMQ below (xRT G ad0 ok0 Q) (xTH G ad0 ok0 Q) s R.cells R.slots (fun q => G.B0 ≤ q)) (a := ad o) (rest := r.map (xCv ad)) (g := F0 m pc ls (.int i :: .ref (ad o) :: r.map (xCv ad))) C.1 C.2.1 hcell (x_isArr hA hcls hst9) hkn hin9 hv9 rfl rfl hd h5
  · exact hs.elim

theorem s_lald (hd : decode d.2.1 pc = .ok (.laload, 1)) : xSnd G d pc (i_aldL) 1 := by
  intro P Q K hP hK l st h b hs
  unfold i_aldL at hs
  split at hs
  · rename_i i o r
    obtain ⟨hc, hin, hs⟩ := hs
    intro p e R s m args below meth cd ad0 ok0 C ad H locs cells slots ls d0 hd0 hl hr hok hz hcc hsl hst hlo
    obtain ⟨hN, cell, hcell, hcls, hst9, hkn, hsz, hrd⟩ := x_arrR hr hc (by decide)
    have hA : ArrOfT (s.setDrawn d0) (G.cA 101) .long := (C.2.2.2.2.2.2.2.2.2.2.1.2.1 101 (Or.inl (by decide))).1
    have hlt : i.toNatClampNeg < (gS h o).2 := Nat.not_le.mp fun q => hin (Or.inr q)
    have hin9 : ¬ (i < 0 ∨ cell.slots.size ≤ i.toNatClampNeg) := by rw [hsz]; exact hin
    have hv9 : cell.slots[i.toNatClampNeg]? = some (.long (gL h o (ix i))) := by rw [hrd _ hlt]; rfl
    have h5 := hK _ _ _ _ hs p e R s m args below meth cd ad0 ok0 C ad H locs cells slots ls d0 hd0 hl hr hok hz hcc hsl (ok_cons (v := Value.long _) trivial (ok_tl (ok_tl hst))) hlo
    exact W.lald (l := G.l) (e := e) (R := R) (s := s.setDrawn d0) (args := args) (below := below) (meth := meth) (locs := locs) (cells := cells) (slots := slots) (Q := xMQ below (xRT G ad0 ok0 Q) (xTH G ad0 ok0 Q) s R.cells R.slots (fun q => G.B0 ≤ q)) (a := ad o) (rest := r.map (xCv ad)) (g := F0 m pc ls (.int i :: .ref (ad o) :: r.map (xCv ad))) C.1 C.2.1 hcell (x_isArr hA hcls hst9) hkn hin9 hv9 rfl rfl hd h5
  · exact hs.elim

theorem s_dald (hd : decode d.2.1 pc = .ok (.daload, 1)) : xSnd G d pc (i_aldD) 1 := by
  intro P Q K hP hK l st h b hs
  unfold i_aldD at hs
  split at hs
  · rename_i i o r
    obtain ⟨hc, hin, hs⟩ := hs
    intro p e R s m args below meth cd ad0 ok0 C ad H locs cells slots ls d0 hd0 hl hr hok hz hcc hsl hst hlo
    obtain ⟨hN, cell, hcell, hcls, hst9, hkn, hsz, hrd⟩ := x_arrR hr hc (by decide)
    have hA : ArrOfT (s.setDrawn d0) (G.cA 102) .double := (C.2.2.2.2.2.2.2.2.2.2.1.2.1 102 (Or.inl (by decide))).1
    have hlt : i.toNatClampNeg < (gS h o).2 := Nat.not_le.mp fun q => hin (Or.inr q)
    have hin9 : ¬ (i < 0 ∨ cell.slots.size ≤ i.toNatClampNeg) := by rw [hsz]; exact hin
    have hv9 : cell.slots[i.toNatClampNeg]? = some (.double (gD h o (ix i))) := by rw [hrd _ hlt]; rfl
    have h5 := hK _ _ _ _ hs p e R s m args below meth cd ad0 ok0 C ad H locs cells slots ls d0 hd0 hl hr hok hz hcc hsl (ok_cons (v := Value.double _) trivial (ok_tl (ok_tl hst))) hlo
    exact W.dald (l := G.l) (e := e) (R := R) (s := s.setDrawn d0) (args := args) (below := below) (meth := meth) (locs := locs) (cells := cells) (slots := slots) (Q := xMQ below (xRT G ad0 ok0 Q) (xTH G ad0 ok0 Q) s R.cells R.slots (fun q => G.B0 ≤ q)) (a := ad o) (rest := r.map (xCv ad)) (g := F0 m pc ls (.int i :: .ref (ad o) :: r.map (xCv ad))) C.1 C.2.1 hcell (x_isArr hA hcls hst9) hkn hin9 hv9 rfl rfl hd h5
  · exact hs.elim

theorem s_iast (hd : decode d.2.1 pc = .ok (.iastore, 1)) : xSnd G d pc (i_astI 100 (fun x => x)) 1 := by
  intro P Q K hP hK l st h b hs
  unfold i_astI at hs
  split at hs
  · rename_i v i o r
    obtain ⟨hc, hin, hs⟩ := hs
    intro p e R s m args below meth cd ad0 ok0 C ad H locs cells slots ls d0 hd0 hl hr hok hz hcc hsl hst hlo
    obtain ⟨hN, hcell⟩ := x_arr hr hc (by decide) (by decide)
    have hA : ArrOfT (s.setDrawn d0) (G.cA 100) .int := (C.2.2.2.2.2.2.2.2.2.2.1.2.1 100 (Or.inl (by decide))).1
    have hlive : (gS h o).1 ≠ 0 := by rw [hc]; decide
    have hin9 : ¬ (i < 0 ∨ (arrV (G.cA 100) (gS h o).2 (xAv h 100 o)).slots.size ≤ i.toNatClampNeg) := by rw [arrV_size]; exact hin
    refine W.iast (l := G.l) (e := e) (R := R) (s := s.setDrawn d0) (args := args) (below := below) (meth := meth) (locs := locs) (cells := cells) (slots := slots) (Q := xMQ below (xRT G ad0 ok0 Q) (xTH G ad0 ok0 Q) s R.cells R.slots (fun q => G.B0 ≤ q)) (a := ad o) (x := v) (rest := r.map (xCv ad)) (g := F0 m pc ls (.int v :: .int i :: .ref (ad o) :: r.map (xCv ad))) C.1 C.2.1 hcell (hA _ _) (fun z => by cases z) hin9 rfl rfl hd (fun H' e1 e2 e3 => ?_)
    have hr' : xRel G ad (sI h o (ix i) v) H' := by
      refine xRel_upd hr rfl hlive (by rw [hc]; decide) (xSame_I h o (ix i) v) ?_ e3 e2 (fun k j hj => hr.2.2.1 o k j hlive hj)
      refine Or.inr (Or.inl ⟨by show 100 ≤ (gS h o).1; rw [hc]; decide, by show ¬ xRo (gS h o).1; rw [hc]; decide, hN, ?_⟩)
      show H'[ad o]? = some (arrV (G.cA (gS h o).1) (gS h o).2 (xAv (sI h o (ix i) v) (gS h o).1 o))
      rw [e1, hc, arrV_store]
      congr 2
      funext q
      show updV _ _ _ _ = Value.int (gI (sI h o (ix i) v) o q)
      rw [gI_sI]
      by_cases hq : q = ix i
      · rw [if_pos ⟨rfl, hq⟩]
        exact if_pos hq
      · rw [if_neg (fun z => hq z.2)]
        exact if_neg hq
    exact hK _ _ _ _ hs p e R s m args below meth cd ad0 ok0 C ad H' (locs ++ [⟨ad o, i.toNatClampNeg⟩]) cells slots ls d0 hd0 hl hr' hok (fun z hzz => (List.mem_append.mp hzz).elim (hz z) (fun w => by rw [List.mem_singleton.mp w]; exact (hr.1 o hlive).2.elim (fun z9 => z9.2.1) (fun z9 => absurd z9.2.2 (by rw [hc]; decide)))) hcc hsl (fun w hw => xOkV_same (fun _ => rfl) (ok_tl (ok_tl (ok_tl hst)) w hw)) (fun q hq => xOkV_same (fun _ => rfl) (hlo q hq))
  · exact hs.elim

theorem s_bast (hd : decode d.2.1 pc = .ok (.bastore, 1)) : xSnd G d pc (i_astI 103 (vp_nar .byte)) 1 := by
  intro P Q K hP hK l st h b hs
  unfold i_astI at hs
  split at hs
  · rename_i v i o r
    obtain ⟨hc, hin, hs⟩ := hs
    intro p e R s m args below meth cd ad0 ok0 C ad H locs cells slots ls d0 hd0 hl hr hok hz hcc hsl hst hlo
    obtain ⟨hN, hcell⟩ := x_arr hr hc (by decide) (by decide)
    have hA : ArrOfT (s.setDrawn d0) (G.cA 103) .byte := (C.2.2.2.2.2.2.2.2.2.2.1.2.1 103 (Or.inl (by decide))).1
    have hlive : (gS h o).1 ≠ 0 := by rw [hc]; decide
    have hin9 : ¬ (i < 0 ∨ (arrV (G.cA 103) (gS h o).2 (xAv h 103 o)).slots.size ≤ i.toNatClampNeg) := by rw [arrV_size]; exact hin
    refine W.bast (l := G.l) (e := e) (R := R) (s := s.setDrawn d0) (args := args) (below := below) (meth := meth) (locs := locs) (cells := cells) (slots := slots) (Q := xMQ below (xRT G ad0 ok0 Q) (xTH G ad0 ok0 Q) s R.cells R.slots (fun q => G.B0 ≤ q)) (a := ad o) (x := v) (rest := r.map (xCv ad)) (g := F0 m pc ls (.int v :: .int i :: .ref (ad o) :: r.map (xCv ad))) C.1 C.2.1 hcell (hA _ _) (fun z => by cases z) hin9 rfl rfl hd (fun H' e1 e2 e3 => ?_)
    have hr' : xRel G ad (sI h o (ix i) (vp_nar .byte v)) H' := by
      refine xRel_upd hr rfl hlive (by rw [hc]; decide) (xSame_I h o (ix i) (vp_nar .byte v)) ?_ e3 e2 (fun k j hj => hr.2.2.1 o k j hlive hj)
      refine Or.inr (Or.inl ⟨by show 100 ≤ (gS h o).1; rw [hc]; decide, by show ¬ xRo (gS h o).1; rw [hc]; decide, hN, ?_⟩)
      show H'[ad o]? = some (arrV (G.cA (gS h o).1) (gS h o).2 (xAv (sI h o (ix i) (vp_nar .byte v)) (gS h o).1 o))
      rw [e1, hc, arrV_store]
      congr 2
      funext q
      show updV _ _ _ _ = Value.int (gI (sI h o (ix i) (vp_nar .byte v)) o q)
      rw [gI_sI]
      by_cases hq : q = ix i
      · rw [if_pos ⟨rfl, hq⟩]
        exact if_pos hq
      · rw [if_neg (fun z => hq z.2)]
        exact if_neg hq
    exact hK _ _ _ _ hs p e R s m args below meth cd ad0 ok0 C ad H' (locs ++ [⟨ad o, i.toNatClampNeg⟩]) cells slots ls d0 hd0 hl hr' hok (fun z hzz => (List.mem_append.mp hzz).elim (hz z) (fun w => by rw [List.mem_singleton.mp w]; exact (hr.1 o hlive).2.elim (fun z9 => z9.2.1) (fun z9 => absurd z9.2.2 (by rw [hc]; decide)))) hcc hsl (fun w hw => xOkV_same (fun _ => rfl) (ok_tl (ok_tl (ok_tl hst)) w hw)) (fun q hq => xOkV_same (fun _ => rfl) (hlo q hq))
  · exact hs.elim

theorem s_zast (hd : decode d.2.1 pc = .ok (.bastore, 1)) : xSnd G d pc (i_astI 105 (vp_nar .boolean)) 1 := by
  intro P Q K hP hK l st h b hs
  unfold i_astI at hs
  split at hs
  · rename_i v i o r
    obtain ⟨hc, hin, hs⟩ := hs
    intro p e R s m args below meth cd ad0 ok0 C ad H locs cells slots ls d0 hd0 hl hr hok hz hcc hsl hst hlo
    obtain ⟨hN, hcell⟩ := x_arr hr hc (by decide) (by decide)
    have hA : ArrOfT (s.setDrawn d0) (G.cA 105) .boolean := (C.2.2.2.2.2.2.2.2.2.2.1.2.1 105 (Or.inl (by decide))).1
    have hlive : (gS h o).1 ≠ 0 := by rw [hc]; decide
    have hin9 : ¬ (i < 0 ∨ (arrV (G.cA 105) (gS h o).2 (xAv h 105 o)).slots.size ≤ i.toNatClampNeg) := by rw [arrV_size]; exact hin
    refine W.zast (l := G.l) (e := e) (R := R) (s := s.setDrawn d0) (args := args) (below := below) (meth := meth) (locs := locs) (cells := cells) (slots := slots) (Q := xMQ below (xRT G ad0 ok0 Q) (xTH G ad0 ok0 Q) s R.cells R.slots (fun q => G.B0 ≤ q)) (a := ad o) (x := v) (rest := r.map (xCv ad)) (g := F0 m pc ls (.int v :: .int i :: .ref (ad o) :: r.map (xCv ad))) C.1 C.2.1 hcell (hA _ _) (fun z => by cases z) hin9 rfl rfl hd (fun H' e1 e2 e3 => ?_)
    have hr' : xRel G ad (sI h o (ix i) (vp_nar .boolean v)) H' := by
      refine xRel_upd hr rfl hlive (by rw [hc]; decide) (xSame_I h o (ix i) (vp_nar .boolean v)) ?_ e3 e2 (fun k j hj => hr.2.2.1 o k j hlive hj)
      refine Or.inr (Or.inl ⟨by show 100 ≤ (gS h o).1; rw [hc]; decide, by show ¬ xRo (gS h o).1; rw [hc]; decide, hN, ?_⟩)
      show H'[ad o]? = some (arrV (G.cA (gS h o).1) (gS h o).2 (xAv (sI h o (ix i) (vp_nar .boolean v)) (gS h o).1 o))
      rw [e1, hc, arrV_store]
      congr 2
      funext q
      show updV _ _ _ _ = Value.int (gI (sI h o (ix i) (vp_nar .boolean v)) o q)
      rw [gI_sI]
      by_cases hq : q = ix i
      · rw [if_pos ⟨rfl, hq⟩]
        exact if_pos hq
      · rw [if_neg (fun z => hq z.2)]
        exact if_neg hq
    exact hK _ _ _ _ hs p e R s m args below meth cd ad0 ok0 C ad H' (locs ++ [⟨ad o, i.toNatClampNeg⟩]) cells slots ls d0 hd0 hl hr' hok (fun z hzz => (List.mem_append.mp hzz).elim (hz z) (fun w => by rw [List.mem_singleton.mp w]; exact (hr.1 o hlive).2.elim (fun z9 => z9.2.1) (fun z9 => absurd z9.2.2 (by rw [hc]; decide)))) hcc hsl (fun w hw => xOkV_same (fun _ => rfl) (ok_tl (ok_tl (ok_tl hst)) w hw)) (fun q hq => xOkV_same (fun _ => rfl) (hlo q hq))
  · exact hs.elim

theorem s_sast (hd : decode d.2.1 pc = .ok (.sastore, 1)) : xSnd G d pc (i_astI 104 (vp_nar .short)) 1 := by
  intro P Q K hP hK l st h b hs
  unfold i_astI at hs
  split at hs
  · rename_i v i o r
    obtain ⟨hc, hin, hs⟩ := hs
    intro p e R s m args below meth cd ad0 ok0 C ad H locs cells slots ls d0 hd0 hl hr hok hz hcc hsl hst hlo
    obtain ⟨hN, hcell⟩ := x_arr hr hc (by decide) (by decide)
    have hA : ArrOfT (s.setDrawn d0) (G.cA 104) .short := (C.2.2.2.2.2.2.2.2.2.2.1.2.1 104 (Or.inl (by decide))).1
    have hlive : (gS h o).1 ≠ 0 := by rw [hc]; decide
    have hin9 : ¬ (i < 0 ∨ (arrV (G.cA 104) (gS h o).2 (xAv h 104 o)).slots.size ≤ i.toNatClampNeg) := by rw [arrV_size]; exact hin
    refine W.sast (l := G.l) (e := e) (R := R) (s := s.setDrawn d0) (args := args) (below := below) (meth := meth) (locs := locs) (cells := cells) (slots := slots) (Q := xMQ below (xRT G ad0 ok0 Q) (xTH G ad0 ok0 Q) s R.cells R.slots (fun q => G.B0 ≤ q)) (a := ad o) (x := v) (rest := r.map (xCv ad)) (g := F0 m pc ls (.int v :: .int i :: .ref (ad o) :: r.map (xCv ad))) C.1 C.2.1 hcell (hA _ _) (fun z => by cases z) hin9 rfl rfl hd (fun H' e1 e2 e3 => ?_)
    have hr' : xRel G ad (sI h o (ix i) (vp_nar .short v)) H' := by
      refine xRel_upd hr rfl hlive (by rw [hc]; decide) (xSame_I h o (ix i) (vp_nar .short v)) ?_ e3 e2 (fun k j hj => hr.2.2.1 o k j hlive hj)
      refine Or.inr (Or.inl ⟨by show 100 ≤ (gS h o).1; rw [hc]; decide, by show ¬ xRo (gS h o).1; rw [hc]; decide, hN, ?_⟩)
      show H'[ad o]? = some (arrV (G.cA (gS h o).1) (gS h o).2 (xAv (sI h o (ix i) (vp_nar .short v)) (gS h o).1 o))
      rw [e1, hc, arrV_store]
      congr 2
      funext q
      show updV _ _ _ _ = Value.int (gI (sI h o (ix i) (vp_nar .short v)) o q)
      rw [gI_sI]
      by_cases hq : q = ix i
      · rw [if_pos ⟨rfl, hq⟩]
        exact if_pos hq
      · rw [if_neg (fun z => hq z.2)]
        exact if_neg hq
    exact hK _ _ _ _ hs p e R s m args below meth cd ad0 ok0 C ad H' (locs ++ [⟨ad o, i.toNatClampNeg⟩]) cells slots ls d0 hd0 hl hr' hok (fun z hzz => (List.mem_append.mp hzz).elim (hz z) (fun w => by rw [List.mem_singleton.mp w]; exact (hr.1 o hlive).2.elim (fun z9 => z9.2.1) (fun z9 => absurd z9.2.2 (by rw [hc]; decide)))) hcc hsl (fun w hw => xOkV_same (fun _ => rfl) (ok_tl (ok_tl (ok_tl hst)) w hw)) (fun q hq => xOkV_same (fun _ => rfl) (hlo q hq))
  · exact hs.elim

theorem s_last (hd : decode d.2.1 pc = .ok (.lastore, 1)) : xSnd G d pc (i_astL) 1 := by
  intro P Q K hP hK l st h b hs
  unfold i_astL at hs
  split at hs
  · rename_i v i o r
    obtain ⟨hc, hin, hs⟩ := hs
    intro p e R s m args below meth cd ad0 ok0 C ad H locs cells slots ls d0 hd0 hl hr hok hz hcc hsl hst hlo
    obtain ⟨hN, hcell⟩ := x_arr hr hc (by decide) (by decide)
    have hA : ArrOfT (s.setDrawn d0) (G.cA 101) .long := (C.2.2.2.2.2.2.2.2.2.2.1.2.1 101 (Or.inl (by decide))).1
    have hlive : (gS h o).1 ≠ 0 := by rw [hc]; decide
    have hin9 : ¬ (i < 0 ∨ (arrV (G.cA 101) (gS h o).2 (xAv h 101 o)).slots.size ≤ i.toNatClampNeg) := by rw [arrV_size]; exact hin
    refine W.last (l := G.l) (e := e) (R := R) (s := s.setDrawn d0) (args := args) (below := below) (meth := meth) (locs := locs) (cells := cells) (slots := slots) (Q := xMQ below (xRT G ad0 ok0 Q) (xTH G ad0 ok0 Q) s R.cells R.slots (fun q => G.B0 ≤ q)) (a := ad o) (x := v) (rest := r.map (xCv ad)) (g := F0 m pc ls (.long v :: .int i :: .ref (ad o) :: r.map (xCv ad))) C.1 C.2.1 hcell (hA _ _) (fun z => by cases z) hin9 rfl rfl hd (fun H' e1 e2 e3 => ?_)
    have hr' : xRel G ad (sL h o (ix i) v) H' := by
      refine xRel_upd hr rfl hlive (by rw [hc]; decide) (xSame_L h o (ix i) v) ?_ e3 e2 (fun k j hj => hr.2.2.1 o k j hlive hj)
      refine Or.inr (Or.inl ⟨by show 100 ≤ (gS h o).1; rw [hc]; decide, by show ¬ xRo (gS h o).1; rw [hc]; decide, hN, ?_⟩)
      show H'[ad o]? = some (arrV (G.cA (gS h o).1) (gS h o).2 (xAv (sL h o (ix i) v) (gS h o).1 o))
      rw [e1, hc, arrV_store]
      congr 2
      funext q
      show updV _ _ _ _ = Value.long (gL (sL h o (ix i) v) o q)
      rw [gL_sL]
      by_cases hq : q = ix i
      · rw [if_pos ⟨rfl, hq⟩]
        exact if_pos hq
      · rw [if_neg (fun z => hq z.2)]
        exact if_neg hq
    exact hK _ _ _ _ hs p e R s m args below meth cd ad0 ok0 C ad H' (locs ++ [⟨ad o, i.toNatClampNeg⟩]) cells slots ls d0 hd0 hl hr' hok (fun z hzz => (List.mem_append.mp hzz).elim (hz z) (fun w => by rw [List.mem_singleton.mp w]; exact (hr.1 o hlive).2.elim (fun z9 => z9.2.1) (fun z9 => absurd z9.2.2 (by rw [hc]; decide)))) hcc hsl (fun w hw => xOkV_same (fun _ => rfl) (ok_tl (ok_tl (ok_tl hst)) w hw)) (fun q hq => xOkV_same (fun _ => rfl) (hlo q hq))
  · exact hs.elim

theorem s_dast (hd : decode d.2.1 pc = .ok (.dastore, 1)) : xSnd G d pc (i_astD) 1 := by
  intro P Q K hP hK l st h b hs
  unfold i_astD at hs
  split at hs
  · rename_i v i o r
    obtain ⟨hc, hin, hs⟩ := hs
    intro p e R s m args below meth cd ad0 ok0 C ad H locs cells slots ls d0 hd0 hl hr hok hz hcc hsl hst hlo
    obtain ⟨hN, hcell⟩ := x_arr hr hc (by decide) (by decide)
    have hA : ArrOfT (s.setDrawn d0) (G.cA 102) .double := (C.2.2.2.2.2.2.2.2.2.2.1.2.1 102 (Or.inl (by decide))).1
    have hlive : (gS h o).1 ≠ 0 := by rw [hc]; decide
    have hin9 : ¬ (i < 0 ∨ (arrV (G.cA 102) (gS h o).2 (xAv h 102 o)).slots.size ≤ i.toNatClampNeg) := by rw [arrV_size]; exact hin
    refine W.dast (l := G.l) (e := e) (R := R) (s := s.setDrawn d0) (args := args) (below := below) (meth := meth) (locs := locs) (cells := cells) (slots := slots) (Q := xMQ below (xRT G ad0 ok0 Q) (xTH G ad0 ok0 Q) s R.cells R.slots (fun q => G.B0 ≤ q)) (a := ad o) (x := v) (rest := r.map (xCv ad)) (g := F0 m pc ls (.double v :: .int i :: .ref (ad o) :: r.map (xCv ad))) C.1 C.2.1 hcell (hA _ _) (fun z => by cases z) hin9 rfl rfl hd (fun H' e1 e2 e3 => ?_)
    have hr' : xRel G ad (sD h o (ix i) v) H' := by
      refine xRel_upd hr rfl hlive (by rw [hc]; decide) (xSame_D h o (ix i) v) ?_ e3 e2 (fun k j hj => hr.2.2.1 o k j hlive hj)
      refine Or.inr (Or.inl ⟨by show 100 ≤ (gS h o).1; rw [hc]; decide, by show ¬ xRo (gS h o).1; rw [hc]; decide, hN, ?_⟩)
      show H'[ad o]? = some (arrV (G.cA (gS h o).1) (gS h o).2 (xAv (sD h o (ix i) v) (gS h o).1 o))
      rw [e1, hc, arrV_store]
      congr 2
      funext q
      show updV _ _ _ _ = Value.double (gD (sD h o (ix i) v) o q)
      rw [gD_sD]
      by_cases hq : q = ix i
      · rw [if_pos ⟨rfl, hq⟩]
        exact if_pos hq
      · rw [if_neg (fun z => hq z.2)]
        exact if_neg hq
    exact hK _ _ _ _ hs p e R s m args below meth cd ad0 ok0 C ad H' (locs ++ [⟨ad o, i.toNatClampNeg⟩]) cells slots ls d0 hd0 hl hr' hok (fun z hzz => (List.mem_append.mp hzz).elim (hz z) (fun w => by rw [List.mem_singleton.mp w]; exact (hr.1 o hlive).2.elim (fun z9 => z9.2.1) (fun z9 => absurd z9.2.2 (by rw [hc]; decide)))) hcc hsl (fun w hw => xOkV_same (fun _ => rfl) (ok_tl (ok_tl (ok_tl hst)) w hw)) (fun q hq => xOkV_same (fun _ => rfl) (hlo q hq))
  · exact hs.elim

theorem s_alen (hd : decode d.2.1 pc = .ok (.arraylength, 1)) : xSnd G d pc i_alen 1 := by
  intro P Q K hP hK l st h b hs
  unfold i_alen at hs
  split at hs
  · rename_i o r
    obtain ⟨hc, hs⟩ := hs
    intro p e R s m args below meth cd ad0 ok0 C ad H locs cells slots ls d0 hd0 hl hr hok hz hcc hsl hst hlo
    obtain ⟨hN, cell, hcell, hcls, hst9, hkn, hsz, hrd⟩ := x_arrO (o := o) hr rfl (by rcases hc with z | z | z <;> omega)
    have h5 := hK _ _ _ _ hs p e R s m args below meth cd ad0 ok0 C ad H locs cells slots ls d0 hd0 hl hr hok hz hcc hsl (ok_cons (v := Value.int _) trivial (ok_tl hst)) hlo
    have hA : (s.setDrawn d0).isArrayOf cell (xEt (gS h o).1) := x_isO (xKs_same (u := s) rfl C.2.2.2.2.2.2.2.2.2.2.1) hc hcls hst9
    exact W.alen (n := nI (gS h o).2) (l := G.l) (e := e) (R := R) (s := s.setDrawn d0) (args := args) (below := below) (meth := meth) (locs := locs) (cells := cells) (slots := slots) (Q := xMQ below (xRT G ad0 ok0 Q) (xTH G ad0 ok0 Q) s R.cells R.slots (fun q => G.B0 ≤ q)) (a := ad o) (rest := r.map (xCv ad)) (g := F0 m pc ls (.ref (ad o) :: r.map (xCv ad))) C.1 C.2.1 hcell hA hsz.2 rfl rfl hd h5
  · exact hs.elim
theorem s_aldB (hd : decode d.2.1 pc = .ok (.baload, 1)) : xSnd G d pc i_aldB 1 := by
  intro P Q K hP hK l st h b hs
  unfold i_aldB at hs
  split at hs
  · rename_i i o r
    obtain ⟨hc, hin, hs⟩ := hs
    intro p e R s m args below meth cd ad0 ok0 C ad H locs cells slots ls d0 hd0 hl hr hok hz hcc hsl hst hlo
    obtain ⟨hN, cell, hcell, hcls, hst9, hkn, hsz, hrd⟩ := x_arrO (o := o) hr rfl (by rcases hc with z | z <;> omega)
    have hA : (s.setDrawn d0).isArrayOf cell .byte := by
      have h9 := x_isO (o := o) (xKs_same (u := s) (U := s.setDrawn d0) rfl C.2.2.2.2.2.2.2.2.2.2.1) (show xAk (gS h o).1 by rcases hc with z | z <;> rw [z] <;> decide) hcls hst9
      rcases hc with z | z <;> rw [z] at h9 <;> exact h9
    have hlt : i.toNatClampNeg < (gS h o).2 := Nat.not_le.mp fun q => hin (Or.inr q)
    have hin9 : ¬ (i < 0 ∨ cell.slots.size ≤ i.toNatClampNeg) := fun z => hin (z.imp id (Nat.le_trans hsz.1))
    have hv9 : cell.slots[i.toNatClampNeg]? = some (.int (gI h o (ix i))) := by
      rw [hrd _ hlt]
      rcases hc with z | z <;> rw [z] <;> rfl
    have h5 := hK _ _ _ _ hs p e R s m args below meth cd ad0 ok0 C ad H locs cells slots ls d0 hd0 hl hr hok hz hcc hsl (ok_cons (v := Value.int _) trivial (ok_tl (ok_tl hst))) hlo
    exact W.bald (l := G.l) (e := e) (R := R) (s := s.setDrawn d0) (args := args) (below := below) (meth := meth) (locs := locs) (cells := cells) (slots := slots) (Q := xMQ below (xRT G ad0 ok0 Q) (xTH G ad0 ok0 Q) s R.cells R.slots (fun q => G.B0 ≤ q)) (a := ad o) (rest := r.map (xCv ad)) (g := F0 m pc ls (.int i :: .ref (ad o) :: r.map (xCv ad))) C.1 C.2.1 hcell hA hkn hin9 hv9 rfl rfl hd h5
  · exact hs.elim
theorem s_sld (hd : decode d.2.1 pc = .ok (.iaload, 1)) : xSnd G d pc (i_aldI 108) 1 := by
  intro P Q K hP hK l st h b hs
  unfold i_aldI at hs
  split at hs
  · rename_i i o r
    obtain ⟨hc, hin, hs⟩ := hs
    intro p e R s m args below meth cd ad0 ok0 C ad H locs cells slots ls d0 hd0 hl hr hok hz hcc hsl hst hlo
    obtain ⟨hN, cell, hcell, hcls, hst9, hkn, hsz, hrd⟩ := x_arrO hr hc (by decide)
    have hA : (s.setDrawn d0).isArrayOf cell .int := x_isO (c := 108) (xKs_same (u := s) (U := s.setDrawn d0) rfl C.2.2.2.2.2.2.2.2.2.2.1) (Or.inr (Or.inr rfl)) hcls hst9
    have hlt : i.toNatClampNeg < (gS h o).2 := Nat.not_le.mp fun q => hin (Or.inr q)
    have hin9 : ¬ (i < 0 ∨ cell.slots.size ≤ i.toNatClampNeg) := fun z => hin (z.imp id (Nat.le_trans hsz.1))
    have hv9 : cell.slots[i.toNatClampNeg]? = some (.int (gI h o (ix i))) := by rw [hrd _ hlt]; rfl
    have h5 := hK _ _ _ _ hs p e R s m args below meth cd ad0 ok0 C ad H locs cells slots ls d0 hd0 hl hr hok hz hcc hsl (ok_cons (v := Value.int _) trivial (ok_tl (ok_tl hst))) hlo
    exact W.iald (l := G.l) (e := e) (R := R) (s := s.setDrawn d0) (args := args) (below := below) (meth := meth) (locs := locs) (cells := cells) (slots := slots) (Q := xMQ below (xRT G ad0 ok0 Q) (xTH G ad0 ok0 Q) s R.cells R.slots (fun q => G.B0 ≤ q)) (a := ad o) (rest := r.map (xCv ad)) (g := F0 m pc ls (.int i :: .ref (ad o) :: r.map (xCv ad))) C.1 C.2.1 hcell hA hkn hin9 hv9 rfl rfl hd h5
  · exact hs.elim
end XK
