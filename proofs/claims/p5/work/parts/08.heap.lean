/-! ===== fields, arrays, new cells ===== -/
section XH
variable {G : xGt} {d : xDt} {pc : Nat}
def xSame (h h' : xH) (a : Nat) : Prop := gS h' a = gS h a ∧ (∀ k, gI h' a k = gI h a k) ∧ (∀ k, gL h' a k = gL h a k) ∧ (∀ k, gD h' a k = gD h a k) ∧ ∀ k, gR h' a k = gR h a k
theorem xFv_same {ad ad' : Nat → Nat} {cl : Nat → vw_C} {h h' : xH} {c a : Nat} (hs : xSame h h' a) (hr : ∀ k j, gR h a k = some j → ad' j = ad j) : xFv ad' cl h' c a = xFv ad cl h c a := by
  funext k
  unfold xFv
  split
  · rw [hs.2.1]
  · rw [hs.2.2.1]
  · rw [hs.2.2.2.1]
  · rw [hs.2.2.2.2]
    cases hk : gR h a k with
    | none => rfl
    | some j => show Value.ref (ad' j) = Value.ref (ad j); rw [hr k j hk]
theorem xAv_same {h h' : xH} {c a : Nat} (hs : xSame h h' a) : xAv h' c a = xAv h c a := by
  funext k
  unfold xAv
  rw [hs.2.1, hs.2.2.1, hs.2.2.2.1]
theorem xAt_same {ad ad' : Nat → Nat} {h h' : xH} {a : Nat} {H H' : Heap} (hs : xSame h h' a) (ha : ad' a = ad a) (hr : ∀ k j, gR h a k = some j → ad' j = ad j) (hH : H'[ad a]? = H[ad a]?) (hx : xAt G ad h a H) : xAt G ad' h' a H' := by
  unfold xAt at hx ⊢
  rw [hs.1, ha]
  rcases hx with ⟨h1, h0, h2⟩ | ⟨h1, h0, h2, h3⟩ | ⟨h1, cell, h2, h3⟩ | ⟨h1, h2, cell, h3, h4⟩
  · exact Or.inl ⟨h1, h0, by rw [xFv_same hs hr]; exact h2.kept hH⟩
  · exact Or.inr (Or.inl ⟨h1, h0, h2, by rw [xAv_same hs, hH]; exact h3⟩)
  · exact Or.inr (Or.inr (Or.inl ⟨h1, cell, by rw [hH]; exact h2, by rw [xFv_same hs hr]; exact h3⟩))
  · exact Or.inr (Or.inr (Or.inr ⟨h1, h2, cell, by rw [hH]; exact h3, by rw [xAv_same hs]; exact h4⟩))
theorem xRel_lt {ad : Nat → Nat} {h : xH} {a : Nat} {H : Heap} (hx : xAt G ad h a H) : ad a < H.size := by
  rcases hx with ⟨-, -, cell, h2, -⟩ | ⟨-, -, -, h3⟩ | ⟨-, cell, h2, -⟩ | ⟨-, -, cell, h2, -⟩
  · exact (Array.getElem?_eq_some_iff.mp h2).1
  · exact (Array.getElem?_eq_some_iff.mp h3).1
  · exact (Array.getElem?_eq_some_iff.mp h2).1
  · exact (Array.getElem?_eq_some_iff.mp h2).1
/-- one cell has changed -/
theorem xRel_upd {ad : Nat → Nat} {h h' : xH} {H H' : Heap} {o : Nat} (hr : xRel G ad h H) (hS : gS h' o = gS h o) (ho : (gS h o).1 ≠ 0) (hro : ¬ xRo (gS h o).1) (hm : ∀ a, a ≠ o → xSame h h' a) (hat : xAt G ad h' o H')
    (hq : ∀ q : Nat, q ≠ ad o → H'[q]? = H[q]?) (hz : H'.size = H.size) (href : ∀ k j, gR h' o k = some j → xOk h j) : xRel G ad h' H' := by
  obtain ⟨r1, r2, r3, r4, r5, r6⟩ := hr
  have hS' : ∀ a, gS h' a = gS h a := fun a => by
    by_cases e : a = o
    · rw [e]; exact hS
    · exact (hm a e).1
  have hok : ∀ j, xOk h j → xOk h' j := fun j hj => by unfold xOk at hj ⊢; rw [hS']; exact hj
  have ho2 : o < 900000 ∧ G.B0 ≤ ad o := by
    rcases (r1 o ho).2 with z | z
    · exact ⟨z.1, z.2.1⟩
    · exact absurd z.2.2 hro
  refine ⟨fun a ha => ?_, fun a a' ha ha' => ?_, fun a k j ha hj => ?_, fun q hq' => ?_, by rw [hz]; exact r5, r6⟩
  · rw [hS'] at ha
    obtain ⟨g3, g1⟩ := r1 a ha
    refine ⟨?_, by rw [hS']; exact g1⟩
    by_cases e : a = o
    · rw [e]; exact hat
    · refine xAt_same (hm a e) rfl (fun _ _ _ => rfl) (hq _ (fun z => ?_)) g3
      rcases g1 with w | w
      · exact e (r2 a o ha ho w.1 ho2.1 z)
      · have := w.2.1
        omega
  · rw [hS'] at ha ha'
    exact r2 a a' ha ha'
  · rw [hS'] at ha
    by_cases e : a = o
    · subst e
      exact hok j (href k j hj)
    · rw [(hm a e).2.2.2.2] at hj
      exact hok j (r3 a k j ha hj)
  · have : q ≠ ad o := fun z => by
      have := ho2.2
      omega
    rw [hq q this]
    exact r4 q hq'
/-- a new cell at a number that was free -/
theorem xRel_new {ad : Nat → Nat} {h : xH} {H H' : Heap} {o : Nat} {sh : Nat × Nat} (hr : xRel G ad h H) (hf : xFree h o) (hsh : sh.1 ≠ 0) (hro : ¬ xRo sh.1) (hat : xAt G (fun i => if i = o then H.size else ad i) (nS h o sh) o H')
    (hq : ∀ q : Nat, q < H.size → H'[q]? = H[q]?) (hz : H'.size = H.size + 1) : xRel G (fun i => if i = o then H.size else ad i) (nS h o sh) H' := by
  obtain ⟨r1, r2, r3, r4, r5, r6⟩ := hr
  obtain ⟨f1, f2⟩ := hf
  have hok : ∀ j, xOk h j → xOk (nS h o sh) j ∧ j ≠ o := fun j hj => by
    have hne : j ≠ o := fun e => by
      subst e
      rcases hj with z | z
      · exact z f1
      · omega
    refine ⟨?_, hne⟩
    unfold xOk at hj ⊢
    rw [gS_nS, if_neg hne]
    exact hj
  have hS : ∀ a, a ≠ o → xSame h (nS h o sh) a := fun a e => ⟨by rw [gS_nS, if_neg e], fun k => by rw [gI_nS, if_neg e], fun k => by rw [gL_nS, if_neg e], fun k => by rw [gD_nS, if_neg e], fun k => by rw [gR_nS, if_neg e]⟩
  refine ⟨fun a ha => ?_, fun a a' ha ha' hn hn' he => ?_, fun a k j ha hj => ?_, fun q hq' => ?_, by omega, fun i hi => ?_⟩
  · by_cases e : a = o
    · subst e
      refine ⟨hat, Or.inl ⟨f2, ?_, by rw [gS_nS, if_pos rfl]; exact hro⟩⟩
      show G.B0 ≤ (if a = a then H.size else ad a)
      rw [if_pos rfl]; exact r5
    · rw [gS_nS, if_neg e] at ha
      obtain ⟨g3, g2⟩ := r1 a ha
      refine ⟨xAt_same (hS a e) (if_neg e) (fun k j hj => if_neg (hok j (r3 a k j ha hj)).2) (hq _ (xRel_lt g3)) g3, ?_⟩
      rw [gS_nS, if_neg e]
      show (_ ∧ G.B0 ≤ (if a = o then H.size else ad a) ∧ _) ∨ (_ ∧ (if a = o then H.size else ad a) < G.B0 ∧ _)
      rw [if_neg e]; exact g2
  · have key : ∀ a, a ≠ o → (gS (nS h o sh) a).1 ≠ 0 → ad a < H.size := fun a e ha => by
      rw [gS_nS, if_neg e] at ha
      exact xRel_lt (r1 a ha).1
    have he : (if a = o then H.size else ad a) = (if a' = o then H.size else ad a') := he
    by_cases e : a = o <;> by_cases e' : a' = o
    · rw [e, e']
    · rw [if_pos e, if_neg e'] at he
      have := key a' e' ha'
      omega
    · rw [if_neg e, if_pos e'] at he
      have := key a e ha
      omega
    · rw [if_neg e, if_neg e'] at he
      rw [gS_nS, if_neg e] at ha
      rw [gS_nS, if_neg e'] at ha'
      exact r2 a a' ha ha' hn hn' he
  · by_cases e : a = o
    · subst e
      rw [gR_nS, if_pos rfl] at hj
      cases hj
    · rw [gS_nS, if_neg e] at ha
      rw [gR_nS, if_neg e] at hj
      exact (hok j (r3 a k j ha hj)).1
  · rw [hq q (by omega)]
    exact r4 q hq'
  · show (if i = o then H.size else ad i) = G.aC i
    rw [if_neg (by omega)]
    exact r6 i hi
theorem xCv_new {ad : Nat → Nat} {h : xH} {o z : Nat} (hf : xFree h o) {v : Value} (hv : xOkV h v) : xCv (fun i => if i = o then z else ad i) v = xCv ad v := by
  cases v with
  | ref i =>
    have hne : i ≠ o := fun e => by
      subst e
      rcases hv with w | w
      · exact w hf.1
      · have := hf.2; omega
    show Value.ref (if i = o then z else ad i) = Value.ref (ad i)
    rw [if_neg hne]
  | _ => rfl
theorem xOk_new {h : xH} {o : Nat} {sh : Nat × Nat} (hf : xFree h o) {j : Nat} (hj : xOk h j) : xOk (nS h o sh) j := by
  unfold xOk at hj ⊢
  rw [gS_nS]
  by_cases e : j = o
  · subst e
    rcases hj with w | w
    · exact absurd hf.1 w
    · exact Or.inr w
  · rw [if_neg e]; exact hj
theorem xOkV_new {h : xH} {o : Nat} {sh : Nat × Nat} (hf : xFree h o) {v : Value} (hv : xOkV h v) : xOkV (nS h o sh) v := by
  cases v with
  | ref i => exact xOk_new hf hv
  | _ => trivial
theorem xOkV_same {h h' : xH} (hS : ∀ a, gS h' a = gS h a) {v : Value} (hv : xOkV h v) : xOkV h' v := by
  cases v with
  | ref i => show xOk h' i; unfold xOk; rw [hS]; exact hv
  | _ => trivial
def xDef (n : Nat) : Value := match n with
  | 0 => .int 0
  | 1 => .long 0
  | 2 => .double 0
  | _ => .null
/-- what is to be known of a class of the list -/
def xClsOk (G : xGt) (c : Nat) : Prop := 1 ≤ c ∧ c < 100 ∧ (∀ w ∈ u_ws (G.cl c).1 (G.cl c).2.1 (G.cl c).2.2, w ∈ G.tb) ∧ (∃ ty : Nat → FieldType, ∀ k, k < (G.cl c).2.2 → parseFieldDescriptor ((G.cl c).2.1 k).2.2.1 = some (ty k) ∧ defaultValue (ty k) = xDef (xTy ((G.cl c).2.1 k).2.2.1)) ∧
  ∀ a, a < (G.cl c).2.2 → ∀ b, b < (G.cl c).2.2 → a ≠ b → ((G.cl c).2.1 a).2.1 ≠ ((G.cl c).2.1 b).2.1
theorem x_obj {ad : Nat → Nat} {h : xH} {o c : Nat} {H : Heap} (hr : xRel G ad h H) (hc : (gS h o).1 = c) (hcl : xClsOk G c) (hro : ¬ xRo c) : t_OB (ad o) (G.dC c) (G.cl c).2.2 (G.dI c) H (xFv ad G.cl h c o) := by
  subst hc
  have h1 := hcl.1
  have h2 := hcl.2.1
  rcases (hr.1 o (by omega)).1 with ⟨-, -, z⟩ | ⟨z, -⟩ | ⟨z, -⟩ | ⟨z, -⟩
  · exact z
  · omega
  · exact absurd (Or.inl z) hro
  · rcases z with z | z <;> omega
theorem x_objR {ad : Nat → Nat} {h : xH} {o c : Nat} {H : Heap} (hr : xRel G ad h H) (hc : (gS h o).1 = c) (hcl : xClsOk G c) : ∃ cell : Cell, H[ad o]? = some cell ∧ cell.cls = G.dC c ∧ cell.vm.isStatics = false ∧ cell.vm ≠ .unknown ∧ ∀ k, k < (G.cl c).2.2 → (c = 10 → k < 2) → cell.slots[G.dI c k]? = some (xFv ad G.cl h c o k) := by
  subst hc
  have h1 := hcl.1
  have h2 := hcl.2.1
  rcases (hr.1 o (by omega)).1 with ⟨-, -, cell, q1, q2, q3, q4⟩ | ⟨z, -⟩ | ⟨z, cell, q1, q2, q3, q4, q5⟩ | ⟨z, -⟩
  · exact ⟨cell, q1, q2, by rw [q3]; rfl, by rw [q3]; exact (fun z => by cases z), fun k hk _ => q4 k hk⟩
  · omega
  · rw [z]
    exact ⟨cell, q1, q2, q3, q4, fun k _ hk => q5 k (hk rfl)⟩
  · rcases z with z | z <;> omega
theorem x_arr {ad : Nat → Nat} {h : xH} {o c : Nat} {H : Heap} (hr : xRel G ad h H) (hc : (gS h o).1 = c) (hl : 100 ≤ c) (hro : ¬ xRo c) : (gS h o).2 < 2 ^ 31 ∧ H[ad o]? = some (arrV (G.cA c) (gS h o).2 (xAv h c o)) := by
  subst hc
  rcases (hr.1 o (by omega)).1 with ⟨z, -⟩ | ⟨-, -, z1, z2⟩ | ⟨z, -⟩ | ⟨z, -⟩
  · omega
  · exact ⟨z1, z2⟩
  · omega
  · exact absurd (Or.inr z) hro
theorem x_arrR {ad : Nat → Nat} {h : xH} {o c : Nat} {H : Heap} (hr : xRel G ad h H) (hc : (gS h o).1 = c) (hl : 100 ≤ c ∧ c < 106) : (gS h o).2 < 2 ^ 31 ∧ ∃ cell : Cell, H[ad o]? = some cell ∧ cell.cls = G.cA c ∧ cell.vm.isStatics = false ∧ cell.vm ≠ .unknown ∧ cell.slots.size = (gS h o).2 ∧ ∀ j, j < (gS h o).2 → cell.slots[j]? = some (xAv h c o j) := by
  subst hc
  rcases (hr.1 o (by omega)).1 with ⟨z, -⟩ | ⟨-, -, z1, z2⟩ | ⟨z, -⟩ | ⟨z, z1, z2⟩
  · omega
  · exact ⟨z1, _, z2, rfl, rfl, (fun z => by cases z), arrV_size _ _ _, fun j hj => arrV_read _ _ hj⟩
  · omega
  · omega
theorem x_arrO {ad : Nat → Nat} {h : xH} {o c : Nat} {H : Heap} (hr : xRel G ad h H) (hc : (gS h o).1 = c) (hl : 100 ≤ c) : (gS h o).2 < 2 ^ 31 ∧ ∃ cell : Cell, H[ad o]? = some cell ∧ (cell.cls = G.cA c ∨ (900000 ≤ o ∧ cell.cls = G.dC o ∧ c = xKo o)) ∧ cell.vm.isStatics = false ∧ cell.vm ≠ .unknown ∧ ((gS h o).2 ≤ cell.slots.size ∧ cell.slots.size.toInt32 = nI (gS h o).2) ∧ ∀ j, j < (gS h o).2 → cell.slots[j]? = some (xAv h c o j) := by
  subst hc
  have hr2 := (hr.1 o (by omega)).2
  rcases (hr.1 o (by omega)).1 with ⟨z, -⟩ | ⟨-, -, z1, z2⟩ | ⟨z, -⟩ | ⟨z, z1, cell, q1, q2, q3⟩
  · omega
  · exact ⟨z1, _, z2, Or.inl rfl, rfl, (fun z => by cases z), ⟨Nat.le_of_eq (arrV_size _ _ _).symm, by rw [arrV_size]; rfl⟩, fun j hj => arrV_read _ _ hj⟩
  · omega
  · refine ⟨z1, cell, q1, Or.inr ⟨?_, q2.1, q2.2⟩, q3⟩
    rcases hr2 with ⟨-, -, w⟩ | ⟨w, -⟩
    · exact absurd (Or.inr z) w
    · exact w
theorem x_isArr {U : State} {cA : ClassId} {ty : FieldType} (h : ArrOfT U cA ty) {cell : Cell} (hc : cell.cls = cA) (hv : cell.vm.isStatics = false) : U.isArrayOf cell ty := by
  obtain ⟨-, k, h1, h2⟩ := h 0 (fun _ => .null)
  exact ⟨fun z hz => (by rw [hz] at hv; cases hv), k, (by rw [hc]; exact h1), h2⟩
theorem x_isO {U : State} {o c : Nat} (hK : xKs G U) (hk : xAk c) {cell : Cell} (hc : cell.cls = G.cA c ∨ (900000 ≤ o ∧ cell.cls = G.dC o ∧ c = xKo o)) (hv : cell.vm.isStatics = false) : U.isArrayOf cell (xEt c) := by
  rcases hc with hc | ⟨h9, hc, e⟩
  · exact x_isArr (hK.2.1 c hk).1 hc hv
  · rw [e]
    exact x_isArr (hK.2.2.2.2.2.2 o h9) hc hv
/-- getfield -/
theorem s_getG {c k idx : Nat} {f : xH → Nat → Value} {i : xSem} (hcl : xClsOk G c) (hk : k < (G.cl c).2.2) (hk2 : c = 10 → k < 2) (hw : Cond.fieldLink d.1.cls idx ((G.cl c).2.1 k).1 ((G.cl c).2.1 k).2.1 ((G.cl c).2.1 k).2.2.1 ∈ G.tb) (hd : decode d.2.1 pc = .ok (.getfield idx, 3))
    (hi : ∀ (P : xP) (Q : xQ) (K : xK) l st h b, i P Q K l st h b → ∃ o r, st = .ref o :: r ∧ (gS h o).1 = c ∧ K l (f h o :: r) h b) (hf : ∀ (ad : Nat → Nat) (h : xH) (o : Nat), xFv ad G.cl h c o k = xCv ad (f h o)) (hv : ∀ (h : xH) (o : Nat), (∀ k j, gR h o k = some j → xOk h j) → xOkV h (f h o)) : xSnd G d pc i 3 := by
  intro P Q K hP hK l st h b hs
  obtain ⟨o, r, rfl, hc, hs⟩ := hi P Q K l st h b hs
  intro p e R s m args below meth cd ad0 ok0 C ad H locs cells slots ls d0 hd0 hl hr hok hz hcc hsl hst hlo
  obtain ⟨cell, q1, q2, q3, hkn, q4⟩ := x_objR hr hc hcl
  have hts := dr_words C.2.2.2.2.2.2.1 d0
  have hK0 : xKs G (s.setDrawn d0) := xKs_same (u := s) rfl C.2.2.2.2.2.2.2.2.2.2.1
  obtain ⟨hSl, hfc, kC, hkC, hkind⟩ := hK0.1 c hcl.1 hcl.2.1
  obtain ⟨cf, kf, fi, fd, hfi, hsl9⟩ := hSl k hk
  have hlive : (gS h o).1 ≠ 0 := by have := hcl.1; omega
  have hst9 := (u_facts (s := s.setDrawn d0) hfc hkC (u_lays hts hcl.2.2.1 hk) hfi).1
  have hv9 : cell.slots[fd.slot]? = some (xCv ad (f h o)) := by rw [hsl9, q4 k hk hk2, hf]
  show W p G.l e R (s.setDrawn d0) m args below meth cd H locs cells slots _ (F0 m pc ls (.ref (ad o) :: r.map (xCv ad)))
  have h1 : p.tables.exec = Jvm.exec := C.1
  have h2 : cd.code = d.2.1 := C.2.1
  have h3 : s.vm.findClass d.1.cls = some m.cls := C.2.2.2.2.2.1
  have h4 := hts _ hw
  have h5 := hK _ _ _ _ hs p e R s m args below meth cd ad0 ok0 C ad H locs cells slots ls d0 hd0 hl hr hok hz hcc hsl (ok_cons (hv h o (fun k j => hr.2.2.1 o k j hlive)) (ok_tl hst)) hlo
  have h6 := W.getf (l := G.l) (R := R) (s := s.setDrawn d0) (below := below) (meth := meth) (locs := locs) (cells := cells) (slots := slots) (Q := xMQ below (xRT G ad0 ok0 Q) (xTH G ad0 ok0 Q) s R.cells R.slots (fun q => G.B0 ≤ q)) (e := e) (a := ad o) (rest := r.map (xCv ad)) (g := F0 m pc ls (.ref (ad o) :: r.map (xCv ad))) h1 h2 (own := d.1.cls) h3 h4 (f := fd) hfi hst9 q1 hkn hv9
  exact h6 rfl rfl hd h5
theorem s_getI {c k idx : Nat} (hcl : xClsOk G c) (hk : k < (G.cl c).2.2) (hk2 : c = 10 → k < 2) (hty : xTy ((G.cl c).2.1 k).2.2.1 = 0) (hw : Cond.fieldLink d.1.cls idx ((G.cl c).2.1 k).1 ((G.cl c).2.1 k).2.1 ((G.cl c).2.1 k).2.2.1 ∈ G.tb) (hd : decode d.2.1 pc = .ok (.getfield idx, 3)) : xSnd G d pc (i_getI c k) 3 :=
  s_getG (f := fun h o => .int (gI h o k)) hcl hk hk2 hw hd (fun P Q K l st h b hs => by
    unfold i_getI at hs
    split at hs
    · exact ⟨_, _, rfl, hs.1, hs.2⟩
    · exact hs.elim) (fun ad h o => by unfold xFv; rw [hty]; rfl) (fun _ _ _ => trivial)
theorem s_getL {c k idx : Nat} (hcl : xClsOk G c) (hk : k < (G.cl c).2.2) (hk2 : c = 10 → k < 2) (hty : xTy ((G.cl c).2.1 k).2.2.1 = 1) (hw : Cond.fieldLink d.1.cls idx ((G.cl c).2.1 k).1 ((G.cl c).2.1 k).2.1 ((G.cl c).2.1 k).2.2.1 ∈ G.tb) (hd : decode d.2.1 pc = .ok (.getfield idx, 3)) : xSnd G d pc (i_getL c k) 3 :=
  s_getG (f := fun h o => .long (gL h o k)) hcl hk hk2 hw hd (fun P Q K l st h b hs => by
    unfold i_getL at hs
    split at hs
    · exact ⟨_, _, rfl, hs.1, hs.2⟩
    · exact hs.elim) (fun ad h o => by unfold xFv; rw [hty]; rfl) (fun _ _ _ => trivial)
theorem s_getR {c k idx : Nat} (hcl : xClsOk G c) (hk : k < (G.cl c).2.2) (hk2 : c = 10 → k < 2) (hty : xTy ((G.cl c).2.1 k).2.2.1 = 3) (hw : Cond.fieldLink d.1.cls idx ((G.cl c).2.1 k).1 ((G.cl c).2.1 k).2.1 ((G.cl c).2.1 k).2.2.1 ∈ G.tb) (hd : decode d.2.1 pc = .ok (.getfield idx, 3)) : xSnd G d pc (i_getR c k) 3 :=
  s_getG (f := fun h o => rV (gR h o k)) hcl hk hk2 hw hd (fun P Q K l st h b hs => by
    unfold i_getR at hs
    split at hs
    · exact ⟨_, _, rfl, hs.1, hs.2⟩
    · exact hs.elim) (fun ad h o => by
      unfold xFv
      rw [hty]
      show xRv ad (gR h o k) = xCv ad (rV (gR h o k))
      cases gR h o k <;> rfl) (fun h o hj => by
      show xOkV h (rV (gR h o k))
      cases e : gR h o k with
      | none => trivial
      | some j => exact hj k j e)
/-- putfield: not final, or final in the class's own constructor -/
theorem s_putG {c k idx : Nat} {ty : FieldType} {i : xSem} (hcl : xClsOk G c) (hro : ¬ xRo c) (hk : k < (G.cl c).2.2) (hw : Cond.fieldLink d.1.cls idx ((G.cl c).2.1 k).1 ((G.cl c).2.1 k).2.1 ((G.cl c).2.1 k).2.2.1 ∈ G.tb)
    (hfin : ((G.cl c).2.1 k).2.2.2 = false ∨ (((G.cl c).2.1 k).2.2.2 = true ∧ d.1.name = "<init>" ∧ ((G.cl c).2.1 k).1 = d.1.cls)) (hdty : parseFieldDescriptor ((G.cl c).2.1 k).2.2.1 = some ty) (hd : decode d.2.1 pc = .ok (.putfield idx, 3))
    (hi : ∀ (P : xP) (Q : xQ) (K : xK) l st h b, i P Q K l st h b → ∃ v o r h', st = v :: .ref o :: r ∧ (gS h o).1 = c ∧ K l r h' b ∧ (∀ ad, narrow ty (xCv ad v) = xCv ad v ∧ fits ty (xCv ad v) = true) ∧ (∀ a, gS h' a = gS h a) ∧ (∀ a, a ≠ o → xSame h h' a) ∧
      (∀ ad j, xFv ad G.cl h' c o j = if j = k then xCv ad v else xFv ad G.cl h c o j) ∧ (∀ j z, gR h' o j = some z → gR h o j = some z ∨ v = .ref z)) : xSnd G d pc i 3 := by
  intro P Q K hP hK l st h b hs
  obtain ⟨v, o, r, h', rfl, hc, hs, hnf, hS, hm, hfv, href⟩ := hi P Q K l st h b hs
  intro p e R s m args below meth cd ad0 ok0 C ad H locs cells slots ls d0 hd0 hl hr hok hz hcc hsl hst hlo
  obtain ⟨cell, q1, q2, q3, q4⟩ := x_obj hr hc hcl hro
  have hts := dr_words C.2.2.2.2.2.2.1 d0
  have hK0 : xKs G (s.setDrawn d0) := xKs_same (u := s) rfl C.2.2.2.2.2.2.2.2.2.2.1
  obtain ⟨hSl, hfc, kC, hkC, hkind⟩ := hK0.1 c hcl.1 hcl.2.1
  have hap : ∀ x y, x < (G.cl c).2.2 → y < (G.cl c).2.2 → x ≠ y → G.dI c x ≠ G.dI c y := by
    obtain ⟨ty0, hty0⟩ := hcl.2.2.2.1
    intro x y hx hy hne
    obtain ⟨_, _, _, fa, hia, ea⟩ := hSl x hx
    obtain ⟨_, _, _, fb, hib, eb⟩ := hSl y hy
    rw [← ea, ← eb]
    refine u_apart (s := s.setDrawn d0) (u_lays hts hcl.2.2.1 hx) (u_lays hts hcl.2.2.1 hy) hia hib ?_
    rw [(State.fieldFound?_type hia (hty0 x hx).1).1, (State.fieldFound?_type hib (hty0 y hy).1).1]
    exact hcl.2.2.2.2 x hx y hy hne
  obtain ⟨cf, kf, fi, fd, hfi, hsl9⟩ := hSl k hk
  have hlive : (gS h o).1 ≠ 0 := by have := hcl.1; omega
  have hst9 := (u_facts (s := s.setDrawn d0) hfc hkC (u_lays hts hcl.2.2.1 hk) hfi).1
  have hvo : xOkV h v := ok_hd hst
  have fin : ∀ H' : Heap, H'[ad o]? = some (cell.setSlot fd.slot (xCv ad v)) → H'.size = H.size → (∀ q, q ≠ ad o → H'[q]? = H[q]?) →
      W p G.l e R (s.setDrawn d0) m args below meth cd H' (locs ++ [⟨ad o, fd.slot⟩]) cells slots (xMQ below (xRT G ad0 ok0 Q) (xTH G ad0 ok0 Q) s R.cells R.slots (fun q => G.B0 ≤ q)) (F0 m (pc + 3) ls (r.map (xCv ad))) := by
    intro H' e1 e2 e3
    rw [hsl9] at e1
    have hr' : xRel G ad h' H' := by
      refine xRel_upd hr (hS o) hlive (by rw [hc]; exact hro) hm ?_ e3 e2 (fun j z hj => ?_)
      · refine Or.inl ⟨by rw [hS, hc]; exact hcl.2.1, by rw [hS, hc]; exact hro, ?_⟩
        rw [hS, hc]
        refine ⟨_, e1, q2, q3, fun j hj => ?_⟩
        rw [t_set q4 hap hk (xCv ad v) j hj, hfv]
        rfl
      · rcases href j z hj with w | w
        · exact hr.2.2.1 o j z hlive w
        · subst w; exact hvo
    refine hK _ _ _ _ hs p e R s m args below meth cd ad0 ok0 C ad H' (locs ++ [⟨ad o, fd.slot⟩]) cells slots ls d0 hd0 hl hr' (fun i hi => ?_) (fun z hzz => ?_) hcc hsl (fun w hw => xOkV_same hS (ok_tl (ok_tl hst) w hw)) (fun q hq => xOkV_same hS (hlo q hq))
    · refine ⟨?_, (hok i hi).2⟩
      have := (hok i hi).1
      unfold xOk at this ⊢
      rw [hS]; exact this
    · rcases List.mem_append.mp hzz with w | w
      · exact hz z w
      · rw [List.mem_singleton.mp w]
        rcases (hr.1 o hlive).2 with z9 | z9
        · exact z9.2.1
        · rw [hc] at z9; exact absurd z9.2.2 hro
  have hlay := hts _ (hcl.2.2.1 _ (u_in_lay hk))
  unfold u_lay at hlay
  rcases hfin with hfin | ⟨hfin, hinit, hdecl⟩
  · rw [if_neg (by rw [hfin]; decide)] at hlay
    have h6 := u_store (s := s.setDrawn d0) hfc hkC hkind hlay hfi hdty (hnf ad).1 (hnf ad).2
    have h7 : k2_Sd (s.setDrawn d0) fd cell.cls (xCv ad v) := by rw [q2]; exact h6
    have h8 : fd.slot < cell.slots.size := by rw [hsl9]; exact k2_hasslot (q4 k hk)
    exact W.putK (l := G.l) (e := e) (R := R) (s := s.setDrawn d0) (args := args) (below := below) (meth := meth) (locs := locs) (cells := cells) (slots := slots) (Q := xMQ below (xRT G ad0 ok0 Q) (xTH G ad0 ok0 Q) s R.cells R.slots (fun q => G.B0 ≤ q)) (a := ad o) (v := xCv ad v) (rest := r.map (xCv ad)) (g := F0 m pc ls (xCv ad v :: .ref (ad o) :: r.map (xCv ad))) C.1 C.2.1 (own := d.1.cls) (f := fd) ⟨C.2.2.2.2.2.1, hts _ hw, ⟨_, _, _, hfi⟩, hst9⟩ h7 q1 q3 h8 rfl rfl hd fin
  · rw [if_pos hfin] at hlay
    have hcf : m.cls = cf := by
      obtain ⟨_, _, c', _, _, _, -, -, hf', -, -, -, hown2, -⟩ := Cond.laysFinal_spec hlay
      have e1 : c' = cf := by have := hfi.symm.trans hf'; simp at this; exact this.1.symm
      rw [hdecl] at hown2
      rw [← e1]; exact Option.some.inj (C.2.2.2.2.2.1.symm.trans hown2)
    have h6 := u_fits (s := s.setDrawn d0) hfc hkC hkind (Or.inr hlay) hfi hdty (hnf ad).1 (hnf ad).2
    have h7 : narrow fd.type (xCv ad v) = xCv ad v ∧ (s.setDrawn d0).fitsSlot cell.cls .none fd.slot (xCv ad v) = true := by rw [q2]; exact h6
    have h8 : fd.slot < cell.slots.size := by rw [hsl9]; exact k2_hasslot (q4 k hk)
    exact W.putFinK (l := G.l) (e := e) (R := R) (s := s.setDrawn d0) (args := args) (below := below) (meth := meth) (locs := locs) (cells := cells) (slots := slots) (Q := xMQ below (xRT G ad0 ok0 Q) (xTH G ad0 ok0 Q) s R.cells R.slots (fun q => G.B0 ≤ q)) (a := ad o) (v := xCv ad v) (rest := r.map (xCv ad)) (g := F0 m pc ls (xCv ad v :: .ref (ad o) :: r.map (xCv ad))) C.1 C.2.1 (own := d.1.cls) C.2.2.2.2.2.1 (hts _ hw) hfi hst9 hcf (C.2.2.2.2.2.2.2.2.2.1.trans hinit) h7 q1 q3 h8 rfl rfl hd fin
end XH
