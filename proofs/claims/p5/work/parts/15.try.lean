/-! ===== a call whose throw is caught here: the handler puts the exception away and answers a number ===== -/
/-- the list: an exception's class, what is answered, the handler's place, its entry in the pool -/
abbrev xHs : Type := List (String × Int32 × Nat × Nat)
def xHf : xHs → String → Option Int32
  | [], _ => none
  | q :: r, E => if q.1 = E then some q.2.1 else xHf r E
def xToT (Q : xQ) (K : xK) (hs : xHs) (l : xL) (rest : List Value) (b : Nat × Nat) : xQ := fun o h' _ => match o with
  | .ok v => K l (v.toList ++ rest) h' b
  | .error E => match xHf hs E with
    | some c => Q (.ok (some (.int c))) h' b
    | none => False
def i_tryVA (hs : xHs) (c z n m : Nat) : xSem := fun P Q K l st h b => xCk n m st = true ∧ xRc c h (st.take n).reverse ∧ ∃ mc ms, mc ≤ b.1 ∧ ms ≤ b.2 ∧ P z 0 (lv_args 0 (st.take n).reverse) [] h (mc, ms) (xToT Q K hs l (st.drop n) (b.1 - mc, b.2 - ms))
theorem m_tryVA (hs : xHs) (c z n m : Nat) : xMon (i_tryVA hs c z n m) := by
  intro P P' Q Q' K K' hP hQ hK l st h b hx
  obtain ⟨h1, h2, mc, ms, h3, h4, h5⟩ := hx
  refine ⟨h1, h2, mc, ms, h3, h4, hP _ _ _ _ _ _ _ _ h5 fun o h' b' ho => ?_⟩
  cases o with
  | ok v => exact hK _ _ _ _ ho
  | error E =>
    cases hf : xHf hs E with
    | none => simp only [xToT, hf] at ho
    | some c =>
      simp only [xToT, hf] at ho ⊢
      exact hQ _ _ _ ho
section XTRY
variable {G : xGt} {d : xDt} {pc : Nat}
/-- what a handler wants -/
def xHok (G : xGt) (d : xDt) (pre : xHs) (q : String × Int32 × Nat × Nat) : Prop :=
  q.2.2.2 ≠ 0 ∧ Cond.classLink d.1.cls q.2.2.2 q.1 ∈ G.tb ∧ Cond.castable q.1 q.1 ∈ G.tb ∧ (∀ z ∈ pre, Cond.not (.castable q.1 z.1) ∈ G.tb) ∧
  ∃ a len, ((decode d.2.1 q.2.2.1 = .ok (.astore a, 2) ∧ len = 2) ∨ ∃ k : Fin 4, decode d.2.1 q.2.2.1 = .ok (.astore_n k, 1) ∧ (k : Nat) = a ∧ len = 1) ∧ a < d.2.2.1 ∧ xSndB G d (q.2.2.1 + len) [i_push (.int q.2.1), i_iret]
def xHall (G : xGt) (d : xDt) : xHs → xHs → Prop
  | _, [] => True
  | pre, q :: r => xHok G d pre q ∧ xHall G d (pre ++ [q]) r
theorem xHf_split {G : xGt} {d : xDt} : ∀ {hs pre : xHs} {E : String} {c : Int32}, xHall G d pre hs → xHf hs E = some c → ∃ pr q su, hs = pr ++ q :: su ∧ q.1 = E ∧ q.2.1 = c ∧ xHok G d (pre ++ pr) q ∧ ∀ z ∈ pre ++ pr, ∃ pr0, xHok G d pr0 z ∨ z ∈ pre
  | [], _, _, _, _, h => by simp [xHf] at h
  | q :: r, pre, E, c, ha, h => by
    unfold xHf at h
    split at h
    · rename_i e
      exact ⟨[], q, r, rfl, e, Option.some.inj h, by rw [List.append_nil]; exact ha.1, fun z hz => ⟨[], Or.inr (by simpa using hz)⟩⟩
    · obtain ⟨pr, q', su, e1, e2, e3, e4, e5⟩ := xHf_split ha.2 h
      refine ⟨q :: pr, q', su, by rw [e1]; rfl, e2, e3, by rw [List.append_assoc] at e4; exact e4, fun z hz => ?_⟩
      have hz' : z ∈ pre ++ [q] ++ pr := by rw [List.append_assoc]; exact hz
      obtain ⟨pr0, h9⟩ := e5 z hz'
      rcases h9 with h9 | h9
      · exact ⟨pr0, Or.inl h9⟩
      · rcases List.mem_append.mp h9 with h9 | h9
        · exact ⟨[], Or.inr h9⟩
        · rw [List.mem_singleton.mp h9]
          exact ⟨pre, Or.inl ha.1⟩
/-- behind a throw in a call that is caught here -/
theorem x_caught {hs : xHs} {sp ep : Nat} (hE : d.2.2.2.2.2 = hs.map fun q => (sp, ep, q.2.2.1, q.2.2.2)) (hcov : sp ≤ pc ∧ pc < ep) (hall : xHall G d [] hs) {P : xP} {Q : xQ} (hP : xPok G P)
    {l : xL} {rest : List Value} {h : xH} {b' : Nat × Nat} {K : xK}
    {p : Program} {e : Env} {R : Room} {s : State} {m : MethodId} {args : Array Value} {below : List Frame} {meth : Method} {c : Code} {ad0 : Nat → Nat} {ok0 : Nat → Prop} (C : xCx G d p R s m args meth c)
    {ad : Nat → Nat} {locs : List Loc} {cells slots mc ms : Nat} {ls : Array Slot} {d1 : Drawn} (hd1 : s.drawn.sameBut d1 lw_cs) (hl : lv_has ls d.2.2.1 (l.map (xCvL ad))) (hok : ∀ i, ok0 i → xOk h i ∧ ad i = ad0 i) (hz : ∀ z ∈ locs, G.B0 ≤ z.base)
    (hc : cells + mc + b'.1 ≤ R.cells) (hsl : slots + ms + b'.2 ≤ R.slots) {H1 : Heap} {L : List Loc} (hL : ∀ q ∈ L, G.B0 ≤ q.base) {E : String} {ce : Cell} {q : Addr} (hcell : H1[q]? = some ce) (hv : ce.vm = .none) (hcl : s.vm.findClass E = some ce.cls) (hth : xTH G ad (xOk h) (xToT Q K hs l rest b') E H1) {st9 : List Value} :
    vx_W p G.l e R (s.setDrawn d1) m args below meth c H1 (locs ++ L) (cells + mc) (slots + ms) (xMQ below (xRT G ad0 ok0 Q) (xTH G ad0 ok0 Q) s R.cells R.slots (fun q => G.B0 ≤ q)) (F0 m pc ls st9) q := by
  obtain ⟨ad', h', b9, hq, hr', hok'⟩ := hth
  have hts := dr_words C.2.2.2.2.2.2.1 d1
  cases hf : xHf hs E with
  | none => simp only [xToT, hf] at hq
  | some v =>
    have hq' : Q (.ok (some (.int v))) h' b' := by simpa only [xToT, hf] using hq
    obtain ⟨pr, x, su, e1, e2, e3, hx, hpre⟩ := xHf_split hall hf
    obtain ⟨hx0, hxl, hxc, hxn, a, len, hda, hal, hrest⟩ := hx
    rw [List.nil_append] at hxn hpre
    have htab : c.exceptionTable.toList = tableOf (pr.map fun q => (sp, ep, q.2.2.1, q.2.2.2)) ++ ⟨sp, ep, x.2.2.1, x.2.2.2⟩ :: tableOf (su.map fun q => (sp, ep, q.2.2.1, q.2.2.2)) := by
      have h9 := C.2.2.2.2.2.2.2.2.2.2.2.1
      rw [hE, e1, List.map_append, List.map_cons] at h9
      rw [h9]
      unfold tableOf
      rw [List.map_append, List.map_cons]
    subst e2
    refine vx_catch (s := s.setDrawn d1) (own := d.1.cls) (name := x.1) (E := x.1) (ce := ce) (q := q) C.2.2.2.2.2.1 _ ⟨sp, ep, x.2.2.1, x.2.2.2⟩ _ htab ?_ ?_ hx0 (hts _ hxl) (hts _ hxc) hcell hv hcl ?_
    · intro z hz9
      right
      obtain ⟨y, hy, rfl⟩ := List.mem_map.mp (show z ∈ ((pr.map fun q => (sp, ep, q.2.2.1, q.2.2.2)).map fun q => (⟨q.1, q.2.1, q.2.2.1, q.2.2.2⟩ : ExceptionTableEntry)) from hz9)
      obtain ⟨w, hw, rfl⟩ := List.mem_map.mp hy
      obtain ⟨pr0, h9⟩ := hpre w hw
      rcases h9 with h9 | h9
      · exact ⟨h9.1, w.1, hts _ h9.2.1, va_Nc.of (hts _ (hxn w hw))⟩
      · cases h9
    · show covers _ _ = true
      simp only [covers, Bool.and_eq_true, decide_eq_true_eq]
      exact hcov
    · have hk : xOKat G d (x.2.2.1 + len) [] [] h' b' Q := hrest P Q hP [] [] h' b' (by
        show i_push (.int x.2.1) P Q _ [] [] h' b'
        rw [e3]
        exact hq')
      have goon : ∀ ls' : Array Slot, lv_has ls' d.2.2.1 [] → W p G.l e R (s.setDrawn d1) m args below meth c H1 (locs ++ L) (cells + mc) (slots + ms) (xMQ below (xRT G ad0 ok0 Q) (xTH G ad0 ok0 Q) s R.cells R.slots (fun q => G.B0 ≤ q)) (F0 m (x.2.2.1 + len) ls' []) := fun ls' hl' =>
        hk p e R s m args below meth c ad0 ok0 C ad' H1 (locs ++ L) (cells + mc) (slots + ms) ls' d1 hd1 hl' hr' (fun i hi => ⟨(hok' i (hok i hi).1).1, (hok' i (hok i hi).1).2.trans (hok i hi).2⟩)
          (fun z hzz => (List.mem_append.mp hzz).elim (hz z) (hL z)) hc hsl (fun v hv => nomatch hv) (fun v hv => nomatch hv)
      have weak : ∀ {ls' : Array Slot} {lv : List (Nat × Value)}, lv_has ls' d.2.2.1 lv → lv_has ls' d.2.2.1 [] := fun h9 => ⟨h9.1, h9.2.1, fun q hq => nomatch hq⟩
      rcases hda with ⟨hda, rfl⟩ | ⟨k, hda, hka, rfl⟩
      · exact lv_astore C.1 C.2.1 hda hl hal rfl (fun ls' hl' => goon ls' (weak hl'))
      · exact lv_astore_n C.1 C.2.1 hda hka hl hal rfl (fun ls' hl' => goon ls' (weak hl'))
theorem s_tryVG {hs : xHs} {sp ep : Nat} {c9 z n m9 idx : Nat} {dz : xDt} (hE : d.2.2.2.2.2 = hs.map fun q => (sp, ep, q.2.2.1, q.2.2.2)) (hcov : sp ≤ pc ∧ pc < ep) (hall : xHall G d [] hs) (hz9 : G.dat z = dz) (ho : xCallOk G d dz n m9) (hcl9 : xClsOk G c9) (hw1 : Cond.methodLink d.1.cls idx dz.1 ∈ G.tb) (hw2 : Cond.instanceMethod dz.1 ∈ G.tb) (hw3 : Cond.selects (G.cl c9).1 dz.1 dz.1 ∈ G.tb) (hd : decode d.2.1 pc = .ok (.invokevirtual idx, 3)) : xSnd G d pc (i_tryVA hs c9 z (n + 1) m9) 3 := by
  intro P Q K hP hK l st h b hs9
  obtain ⟨hck, hrc, mc, ms, hb1, hb2, hs9⟩ := hs9
  have hk := hP _ _ _ _ _ _ _ hs9
  rw [hz9] at hk
  intro p e R s m args below meth c ad0 ok0 C ad H locs cells slots ls d0 hd0 hl hr hok hz hcc hsl hst hlo
  have hts := dr_words C.2.2.2.2.2.2.1 d0
  obtain ⟨-, hrest, harg⟩ := xCk_spec hck
  have cb := x_cb ho hk (ok_take hst) (by rw [xCat_rev]; exact harg) C (ad := ad) d0
  have hlen := x_len hck
  have hsp := x_split (ad := ad) hck
  cases hT : (st.take (n + 1)).reverse with
  | nil => rw [hT] at hrc; exact hrc.elim
  | cons w As =>
    cases w with
    | ref o =>
      rw [hT] at cb hlen hsp hrc
      obtain ⟨cell, q1, q2, q3, q5, q4⟩ := x_objR hr (show (gS h o).1 = c9 from hrc) hcl9
      have hsp' : st.map (xCv ad) = (As.map (xCv ad)).reverse ++ .ref (ad o) :: (st.drop (n + 1)).map (xCv ad) := by
        rw [hsp, List.map_cons, List.reverse_cons, List.append_assoc]
        rfl
      refine x_callV (l := G.l) (e := e) (R := R) (s := s.setDrawn d0) (args := args) (below := below) (meth := meth) (H := H) (locs := locs) (Q := xMQ below (xRT G ad0 ok0 Q) (xTH G ad0 ok0 Q) s R.cells R.slots (fun q => G.B0 ≤ q)) (mc := mc) (ms := ms) (cells := cells) (slots := slots) (C := (G.cl c9).1) (As := As.map (xCv ad)) (b := ad o) (rest := (st.drop (n + 1)).map (xCv ad)) C.1 C.2.1 (hl.1.trans C.2.2.1.symm) C.2.2.2.2.2.1 (hts _ hw1) (hts _ hw2) (hts _ hw3) cb q1 q3 (by rw [q2]; exact (C.2.2.2.2.2.2.2.2.2.2.1.1 c9 hcl9.1 hcl9.2.1).2.1)
        (fun sig hsig => by rw [List.length_map, ← ho.2.2.2.2.2.2.2.2.2 sig hsig]; simp only [List.length_cons] at hlen; omega) (by have := xCat_map ad (st.drop (n + 1)); unfold xCat at this hrest; rw [this]; exact hrest) hd ⟨by omega, by omega⟩
        (fun U hU hW => ⟨rfl, by rw [hU]; exact hr, xKs_warm hW (xKs_same (u := s) rfl C.2.2.2.2.2.2.2.2.2.2.1)⟩) ?_ ?_ hsp'
      · intro d1 H1 L v hd1 hL hrt
        have hrt' : xRT G ad (xOk h) (xTo Q K l (st.drop (n + 1)) (b.1 - mc, b.2 - ms)) v H1 := by
          obtain ⟨ad', h', r, b9, hq, e, hro, hr', hok'⟩ := hrt
          exact ⟨ad', h', r, b9, hq, e, hro, hr', hok'⟩
        exact x_backto (b := b) hK C (Drawn.sameBut.trans hd0 hd1) hl hok hz (by show cells + mc + (b.1 - mc) ≤ _; omega) (by show slots + ms + (b.2 - ms) ≤ _; omega) (ok_drop hst) hlo hL hrt'
      · intro d1 H1 L q E ce hd1 hL hth hcell hv hcl
        exact x_caught hE hcov hall hP C (Drawn.sameBut.trans hd0 hd1) hl hok hz (by show cells + mc + (b.1 - mc) ≤ _; omega) (by show slots + ms + (b.2 - ms) ≤ _; omega) hL hcell hv hcl hth
    | _ => rw [hT] at hrc; exact hrc.elim
end XTRY
