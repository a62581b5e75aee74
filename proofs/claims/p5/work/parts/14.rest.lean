/-! ===== a few more instructions ===== -/
def i_l (f : Int64 → Int64) : xSem := fun _ _ K l st h b => match st with
  | .long x :: r => K l (.long (f x) :: r) h b
  | _ => False
def i_dupx1 : xSem := fun _ _ K l st h b => match st with
  | x :: y :: r => x.category = 1 ∧ y.category = 1 ∧ K l (x :: y :: x :: r) h b
  | _ => False
def jI2c (x : Int32) : Int32 := (x.toUInt32 % 65536).toInt32
theorem m_l (f : Int64 → Int64) : xMon (i_l f) := by
  intro P P' Q Q' K K' hP hQ hK l st h b hs
  unfold i_l at hs ⊢
  split at hs
  · exact hK _ _ _ _ hs
  · exact hs.elim
theorem m_dupx1 : xMon i_dupx1 := by
  intro P P' Q Q' K K' hP hQ hK l st h b hs
  unfold i_dupx1 at hs ⊢
  split at hs
  · exact ⟨hs.1, hs.2.1, hK _ _ _ _ hs.2.2⟩
  · exact hs.elim
/-- a byte that is 0 or 1 -/
def i_putB (c k : Nat) : xSem := fun _ _ K l st h b => match st with
  | .int v :: .ref o :: r => (gS h o).1 = c ∧ (v = 0 ∨ v = 1) ∧ K l r (sI h o k v) b
  | _ => False
theorem m_putB (c k : Nat) : xMon (i_putB c k) := by
  intro P P' Q Q' K K' hP hQ hK l st h b hs
  unfold i_putB at hs ⊢
  split at hs
  · exact ⟨hs.1, hs.2.1, hK _ _ _ _ hs.2.2⟩
  · exact hs.elim
section XZ
variable {G : xGt} {d : xDt} {pc : Nat}
theorem s_putB {c k idx : Nat} (hcl : xClsOk G c) (hro : ¬ xRo c) (hk : k < (G.cl c).2.2) (hw : Cond.fieldLink d.1.cls idx ((G.cl c).2.1 k).1 ((G.cl c).2.1 k).2.1 ((G.cl c).2.1 k).2.2.1 ∈ G.tb) (hfin : ((G.cl c).2.1 k).2.2.2 = false ∨ (((G.cl c).2.1 k).2.2.2 = true ∧ d.1.name = "<init>" ∧ ((G.cl c).2.1 k).1 = d.1.cls)) (hd : decode d.2.1 pc = .ok (.putfield idx, 3)) (hdesc : ((G.cl c).2.1 k).2.2.1 = "B") : xSnd G d pc (i_putB c k) 3 :=
  s_putG (ty := .byte) hcl hro hk hw hfin (by rw [hdesc]; decide +kernel) hd (fun P Q K l st h b hs => by
    unfold i_putB at hs
    split at hs
    · rename_i v o r
      exact ⟨.int v, o, r, sI h o k v, rfl, hs.1, hs.2.2, fun _ => by rcases hs.2.1 with rfl | rfl <;> exact ⟨rfl, rfl⟩, fun _ => rfl, xSame_I h o k v, fun ad j => xFv_I (by rw [hdesc]; decide +kernel) j, fun j z hz => Or.inl hz⟩
    · exact hs.elim)
theorem s_aretA {t : FieldType} (hd : decode d.2.1 pc = .ok (.areturn, 1)) (hr : d.2.2.2.1 = some (.array t)) : xSnd G d pc i_aret 1 := by
  intro P Q K hP hK l st h b hs
  unfold i_aret at hs
  split at hs
  · exact x_end (r := some (.ref _)) hs rfl (fun h1 h2 h3 h4 h5 h6 => W.aret h1 h2 (h3.trans hr) (Or.inr ⟨t, rfl⟩) (Or.inr ⟨_, rfl⟩) h5 h6 hd h4)
  · exact hs.elim
theorem s_lneg (hd : decode d.2.1 pc = .ok (.lneg, 1)) : xSnd G d pc (i_l (fun x => -x)) 1 := by
  intro P Q K hP hK l st h b hs
  unfold i_l at hs
  split at hs
  · exact x_pure (fun h1 _ => ok_cons (v := Value.long _) trivial (ok_tl h1)) (fun h1 h2 h3 _ _ k => lv_lneg h1 h2 hd k) (hK _ _ _ _ hs)
  · exact hs.elim
theorem s_i2c (hd : decode d.2.1 pc = .ok (.i2c, 1)) : xSnd G d pc (i_i jI2c) 1 := by
  intro P Q K hP hK l st h b hs
  unfold i_i at hs
  split at hs
  · exact x_pure (fun h1 _ => ok_cons (v := Value.int _) trivial (ok_tl h1)) (fun h1 h2 h3 _ _ k => lv_i2c h1 h2 hd rfl k) (hK _ _ _ _ hs)
  · exact hs.elim
theorem s_dupx1 (hd : decode d.2.1 pc = .ok (.dup_x1, 1)) : xSnd G d pc i_dupx1 1 := by
  intro P Q K hP hK l st h b hs
  unfold i_dupx1 at hs
  split at hs
  · obtain ⟨hne, hne2, hs⟩ := hs
    exact x_pure (fun h1 _ => ok_cons (ok_hd h1) (ok_cons (ok_hd (ok_tl h1)) (ok_cons (ok_hd h1) (ok_tl (ok_tl h1))))) (fun h1 h2 h3 _ _ k => lv_dup_x1 h1 h2 hd (by rw [xCv_cat]; exact hne) (by rw [xCv_cat]; exact hne2) k) (hK _ _ _ _ hs)
  · exact hs.elim
def xLs (pc : Nat) : List (Int × Int) → List (Int32 × Nat) → Bool
  | [], [] => true
  | w :: r, q :: r' => decide (q.1.toInt = w.1) && decide ((pc : Int) + w.2 = (q.2 : Int)) && xLs pc r r'
  | _, _ => false
theorem xLs_at {F : Nat → Prop} {x : Int32} {dflt : Int} {t : Nat} (ht : (pc : Int) + dflt = (t : Int)) : ∀ {tb : List (Int × Int)} {ps : List (Int32 × Nat)}, xLs pc tb ps = true → xSw F x ps t → ∃ z : Nat, F z ∧ (pc : Int) + Op.lookupswitch.offset tb dflt x.toInt = (z : Int)
  | [], [], _, h => ⟨t, h, ht⟩
  | w :: r, q :: r', hc, h => by
    simp only [xLs, Bool.and_eq_true, decide_eq_true_eq] at hc
    obtain ⟨⟨h1, h2⟩, h3⟩ := hc
    by_cases e : x = q.1
    · refine ⟨q.2, h.1 e, ?_⟩
      rw [← h2, e, Op.lookupswitch.offset_cons, if_pos (by simp [h1])]
    · obtain ⟨z, hz1, hz2⟩ := xLs_at ht h3 (h.2 e)
      refine ⟨z, hz1, ?_⟩
      rw [Op.lookupswitch.offset_cons, if_neg (by
        intro z9
        apply e
        apply Int32.toInt_inj.mp
        rw [h1]
        first | exact (by simpa using z9) | exact (by simpa using z9.symm))]
      exact hz2
  | [], _ :: _, hc, _ => by cases hc
  | _ :: _, [], hc, _ => by cases hc
theorem s_lsw {y t len : Nat} {ks : List Nat} {ps : List (Int32 × Nat)} {dflt : Int} {tb : Array (Int × Int)} (hy : G.dat y = d) (hd : decode d.2.1 pc = .ok (.lookupswitch dflt tb, len)) (ht : (pc : Int) + dflt = (t : Int)) (hp : (tb.toList.zip (tb.toList.drop 1)).all (fun (a, next) => a.1 < next.1) = true) (hck : xLs pc tb.toList ps = true) : xSnd G d pc (i_sw ps y t ks) len := by
  intro P Q K hP hK l st h b hs
  unfold i_sw at hs
  split at hs
  · rename_i x r
    intro p e R s m args below meth cd ad0 ok0 C ad H locs cells slots ls d0 hd0 hl hr hok hz hc hsl hst hlo
    obtain ⟨z, hpz, hof⟩ := xLs_at ht hck hs
    have hq9 := hP _ _ _ _ _ _ _ hpz
    rw [hy] at hq9
    exact lv_lookup C.1 C.2.1 hd hp rfl hof (hq9 p e R s m args below meth cd ad0 ok0 C ad H locs cells slots ls d0 hd0 (lkp_has hl ks) hr hok hz hc hsl (ok_tl hst) (lkp_ok hlo ks))
  · exact hs.elim
def xDr (c : ByteArray) (r : Nat × Instr × Nat) : Bool := decide (decode c r.1 = .ok r.2)
/-- what a call of dz wants of the tables, whoever calls -/
def xCal (G : xGt) (dz : xDt) (n m : Nat) : Prop := xGood G ∧ xCode dz ∈ G.tb ∧ True ∧ Cond.initialized dz.1.cls ∈ G.tb ∧ plainName dz.1.cls = true ∧ (dz.1.cls ≠ "java/lang/invoke/MethodHandle" ∧ dz.1.cls ≠ "java/lang/invoke/VarHandle") ∧
  dz.2.2.1 + 19 ≤ 100 ∧ m ≤ dz.2.2.1 ∧ (parseMethodDescriptor dz.1.desc).map (fun g => g.parameters.length) = some n
theorem xco {dz : xDt} {n m : Nat} (h : xCal G dz n m) (hd : dz.2.2.2.2.1 + 1 ≤ d.2.2.2.2.1) : xCallOk G d dz n m := by
  obtain ⟨h1, h2, h3, h4, h5, h6, h7, h8, h9⟩ := h
  refine ⟨h1, h2, h3, h4, h5, h6, hd, h7, h8, fun sig hs => ?_⟩
  rw [hs] at h9
  simp only [Option.map_some, Option.some.injEq] at h9
  exact h9.symm
theorem xC {len n : Nat} {i : xSem} {r : List xSem} (hm : xMon i) (hi : xSnd G d pc i len) (e : pc + len = n) (hr : xOkB G d n r) : xOkB G d pc (i :: r) := by
  subst e
  exact xB hm hi hr
def xFind : List (Nat × List xSem) → Nat → List xSem
  | [], _ => []
  | q :: r, t => if q.1 = t then q.2 else xFind r t
def xZip (G : xGt) : List xDt → List (List (Nat × List xSem)) → Prop
  | [], [] => True
  | d :: ds, m :: ms => (∀ p ∈ m, xOkB G d p.1 p.2) ∧ xZip G ds ms
  | _, _ => False
theorem xFind_ok : ∀ {m : List (Nat × List xSem)} (_ : ∀ p ∈ m, xOkB G d p.1 p.2) (t : Nat), xOkB G d t (xFind m t)
  | [], _, _ => xB_nil
  | q :: r, h, t => by
    unfold xFind
    split
    · rename_i e
      rw [← e]
      exact h q List.mem_cons_self
    · exact xFind_ok (fun p hp => h p (List.mem_cons_of_mem _ hp)) t
theorem xZip_ok {d0 : xDt} : ∀ {ds : List xDt} {ms : List (List (Nat × List xSem))} (_ : xZip G ds ms) (y t : Nat), xOkB G (ds.getD y d0) t (xFind (ms.getD y []) t)
  | [], [], _, y, t => by
    simp only [List.getD_nil]
    exact xB_nil
  | d :: ds, m :: ms, h, 0, t => xFind_ok h.1 t
  | d :: ds, m :: ms, h, y + 1, t => by
    simp only [List.getD_cons_succ]
    exact xZip_ok h.2 y t
theorem dr {c : ByteArray} {R : List (Nat × Instr × Nat)} (h : R.all (xDr c) = true) (k : Nat) {pc len : Nat} {i : Instr} (hk : R[k]? = some (pc, i, len)) : decode c pc = .ok (i, len) := by
  have h1 : xDr c (pc, i, len) = true := List.all_eq_true.mp h _ (List.mem_of_getElem? hk)
  unfold xDr at h1
  exact of_decide_eq_true h1
end XZ
/-! a call of a superclass's own method from an object of a class below it -/
theorem x_selP {C : String} {y y0 : MethodName} {s : State} {a : Array Value} (hy : y.cls ≠ "java/lang/invoke/MethodHandle" ∧ y.cls ≠ "java/lang/invoke/VarHandle") (hyc : y0.cls = y.cls)
    (hs0 : (Cond.selects C y0 y0).before a s = true) (hpriv : (Cond.privateMethod y).before a s = true) (hinst : (Cond.instanceMethod y).before a s = true) :
    (Cond.selects C y y).before a s = true := by
  obtain ⟨c2, r2, m2, q1, q2, q3, q4, kP, hkP, hkPi⟩ := Cond.selects_spec hs0
  obtain ⟨mk, methM, hnamed, hmethM, -, -⟩ := Cond.instanceMethod_spec hinst
  have hfound : s.methodFound? y.cls y.name y.desc = some mk := State.methodFound?_of_named hnamed hy
  have e : m2.cls = mk.cls := Option.some.inj ((findClass_of_methodNamed q3).symm.trans ((by rw [hyc] : s.vm.findClass y0.cls = s.vm.findClass y.cls).trans (findClass_of_methodNamed hnamed)))
  rw [e] at hkP
  have hsel : selectMethod {} s.vm c2 mk = .method mk := selectMethod_private hmethM (Cond.privateMethod_at hpriv mk methM hnamed hmethM)
  simp only [Cond.before, Cond.holds, Cond.value, q1, hfound, hnamed, hsel, hkP]
  simp; exact hkPi
/-! what the plain machine has no rule for: never reached -/
def i_no : xSem := fun _ _ _ _ _ _ _ => False
theorem m_no : xMon i_no := fun _ _ _ _ _ _ _ _ _ _ _ _ _ hs => hs
theorem s_no {G : xGt} {d : xDt} {pc n : Nat} : xSnd G d pc i_no n := fun _ _ _ _ _ _ _ _ _ hs => hs.elim
theorem x_ldcwS {p : Program} {l : Launch} {e : Env} {R : Room} {s : State} {m : MethodId} {args : Array Value} {below : List Frame} {meth : Method} {c : Code} {H : Heap} {locs : List Loc} {cells slots : Nat} {Q : State → Prop} {cc : ByteArray} {pc : Nat} {ls : Array Slot} {rest : List Value}
    (hexec : p.tables.exec = Jvm.exec) (hb : c.code = cc) {own tx : String} {index q : Nat} (hown : s.vm.findClass own = some m.cls) (hZ : vk_R own index tx q s) (hdg : decode cc pc = .ok (.ldc_w index, 3))
    (k : W p l e R s m args below meth c H locs cells slots Q (F0 m (pc + 3) ls (.ref q :: rest))) : W p l e R s m args below meth c H locs cells slots Q (F0 m pc ls rest) := by
  intro T hT X
  obtain ⟨t, a1, b1⟩ := k T hT X
  exact ⟨t, X.ldcStringW hexec (own := own) (text := tx) (index := index) (a := q) hown hZ.1 hZ.2 (g := F0 m pc ls rest) rfl (by rw [hb]; exact hdg) t a1, b1⟩
theorem s_ldcwS {G : xGt} {d : xDt} {pc i k : Nat} {tx : String} (hd : decode d.2.1 pc = .ok (.ldc_w i, 3)) (hw : (d.1.cls, i, tx, k) ∈ G.sr) : xSnd G d pc (i_push (.ref (900000 + k))) 3 := by
  intro P Q K hP hK l st h b hs
  refine x_pure (fun h1 _ => ok_cons (v := .ref (900000 + k)) (Or.inr (by omega)) h1) (fun {_ _ _ _ _ _ _ _ _ _ _ _ _ _ _ ad} h1 h2 h3 h4 h5 kk => x_ldcwS h1 h2 (x_own h5) (have q9 := (x_Ks h5).2.2.1 _ hw; q9) hd ?_) (hK _ _ _ _ hs)
  have e : xCv ad (.ref (900000 + k)) = .ref (G.aC (900000 + k)) := by
    show Value.ref (ad (900000 + k)) = _
    rw [h4.2.2.2.2.2 _ (by omega)]
  rw [List.map_cons, e] at kk
  exact kk
/-! the library's numbers of java.lang.Math -/
def i_m2 (f : Int32 → Int32 → Int32) : xSem := fun _ _ K l st h b => match st with
  | .int y :: .int x :: r => xCat r ≤ 8 ∧ K l (.int (f x y) :: r) h b
  | _ => False
def i_m1 (f : Int32 → Int32) : xSem := fun _ _ K l st h b => match st with
  | .int x :: r => xCat r ≤ 8 ∧ K l (.int (f x) :: r) h b
  | _ => False
def i_ml (f : Int64 → Int64) : xSem := fun _ _ K l st h b => match st with
  | .long x :: r => xCat r ≤ 8 ∧ K l (.long (f x) :: r) h b
  | _ => False
def jMax (x y : Int32) : Int32 := if x < y then y else x
def jMin (x y : Int32) : Int32 := if y < x then y else x
def jAbs (x : Int32) : Int32 := if 0 ≤ x then x else 0 - x
def jAbsL (x : Int64) : Int64 := if 0 < x then x else -x
theorem m_m2 (f : Int32 → Int32 → Int32) : xMon (i_m2 f) := by
  intro P P' Q Q' K K' hP hQ hK l st h b hs
  unfold i_m2 at hs ⊢
  split at hs
  · exact ⟨hs.1, hK _ _ _ _ hs.2⟩
  · exact hs.elim
theorem m_m1 (f : Int32 → Int32) : xMon (i_m1 f) := by
  intro P P' Q Q' K K' hP hQ hK l st h b hs
  unfold i_m1 at hs ⊢
  split at hs
  · exact ⟨hs.1, hK _ _ _ _ hs.2⟩
  · exact hs.elim
theorem m_ml (f : Int64 → Int64) : xMon (i_ml f) := by
  intro P P' Q Q' K K' hP hQ hK l st h b hs
  unfold i_ml at hs ⊢
  split at hs
  · exact ⟨hs.1, hK _ _ _ _ hs.2⟩
  · exact hs.elim
section XM
variable {G : xGt} {d : xDt} {pc : Nat}
theorem x_mroom (ad : Nat → Nat) {r : List Value} {R : Room} (h : xCat r ≤ 8) (h0 : 1 ≤ d.2.2.2.2.1) (hf : d.2.2.2.2.1 ≤ R.frames) (hl : 100 * d.2.2.2.2.1 ≤ R.locals) : 1 ≤ R.frames ∧ ((r.map (xCv ad)).map fun v => v.category).sum + 13 ≤ R.locals := by
  have := xCat_map ad r
  unfold xCat at this h
  rw [this]
  omega
theorem s_mmax {i : Nat} (h0 : 1 ≤ d.2.2.2.2.1) (hw : Cond.methodLink d.1.cls i Lib.Math.max.name ∈ G.tb) (h1 : Cond.static Lib.Math.max.name ∈ G.tb) (h2 : Cond.initialized "java/lang/Math" ∈ G.tb) (h3 : Cond.code Lib.Math.max.name Lib.Math.max.code 2 (some .int) ∈ G.tb) (hd : decode d.2.1 pc = .ok (.invokestatic i, 3)) : xSnd G d pc (i_m2 jMax) 3 := by
  intro P Q K hP hK l st h b hs
  unfold i_m2 at hs
  split at hs
  · rename_i u2 u1 r9
    have hk := hK _ _ _ _ hs.2
    intro p e R s m args below meth c ad0 ok0 C ad H locs cells slots ls d0 hd0 hl hr hok hz hc hsl hst hlo
    have hts := dr_words C.2.2.2.2.2.2.1 d0
    have hm := x_mroom ad hs.1 h0 C.2.2.2.2.2.2.2.1 C.2.2.2.2.2.2.2.2.1
    exact va_mmax (s := s.setDrawn d0) (cells := cells) (slots := slots) (y := u2) (x := u1) C.1 C.2.1 (hl.1.trans C.2.2.1.symm).symm C.2.2.2.2.2.1 (hts _ hw) (hts _ h1) (hts _ h2) (hts _ h3) hm.1 hm.2 (Nat.le_trans (Nat.le_add_right _ _) hc) (Nat.le_trans (Nat.le_add_right _ _) hsl) hd
      (hk p e R s m args below meth c ad0 ok0 C ad H locs cells slots ls d0 hd0 hl hr hok hz hc hsl (ok_cons (v := Value.int _) trivial (ok_tl (ok_tl hst))) hlo)
  · exact hs.elim
theorem s_mmin {i : Nat} (h0 : 1 ≤ d.2.2.2.2.1) (hw : Cond.methodLink d.1.cls i Lib.Math.min.name ∈ G.tb) (h1 : Cond.static Lib.Math.min.name ∈ G.tb) (h2 : Cond.initialized "java/lang/Math" ∈ G.tb) (h3 : Cond.code Lib.Math.min.name Lib.Math.min.code 2 (some .int) ∈ G.tb) (hd : decode d.2.1 pc = .ok (.invokestatic i, 3)) : xSnd G d pc (i_m2 jMin) 3 := by
  intro P Q K hP hK l st h b hs
  unfold i_m2 at hs
  split at hs
  · rename_i u2 u1 r9
    have hk := hK _ _ _ _ hs.2
    intro p e R s m args below meth c ad0 ok0 C ad H locs cells slots ls d0 hd0 hl hr hok hz hc hsl hst hlo
    have hts := dr_words C.2.2.2.2.2.2.1 d0
    have hm := x_mroom ad hs.1 h0 C.2.2.2.2.2.2.2.1 C.2.2.2.2.2.2.2.2.1
    exact va_mmin (s := s.setDrawn d0) (cells := cells) (slots := slots) (y := u2) (x := u1) C.1 C.2.1 (hl.1.trans C.2.2.1.symm).symm C.2.2.2.2.2.1 (hts _ hw) (hts _ h1) (hts _ h2) (hts _ h3) hm.1 hm.2 (Nat.le_trans (Nat.le_add_right _ _) hc) (Nat.le_trans (Nat.le_add_right _ _) hsl) hd
      (hk p e R s m args below meth c ad0 ok0 C ad H locs cells slots ls d0 hd0 hl hr hok hz hc hsl (ok_cons (v := Value.int _) trivial (ok_tl (ok_tl hst))) hlo)
  · exact hs.elim
theorem s_mabs {i : Nat} (h0 : 1 ≤ d.2.2.2.2.1) (hw : Cond.methodLink d.1.cls i Lib.Math.abs.name ∈ G.tb) (h1 : Cond.static Lib.Math.abs.name ∈ G.tb) (h2 : Cond.initialized "java/lang/Math" ∈ G.tb) (h3 : Cond.code Lib.Math.abs.name Lib.Math.abs.code 1 (some .int) ∈ G.tb) (hd : decode d.2.1 pc = .ok (.invokestatic i, 3)) : xSnd G d pc (i_m1 jAbs) 3 := by
  intro P Q K hP hK l st h b hs
  unfold i_m1 at hs
  split at hs
  · rename_i u1 r9
    have hk := hK _ _ _ _ hs.2
    intro p e R s m args below meth c ad0 ok0 C ad H locs cells slots ls d0 hd0 hl hr hok hz hc hsl hst hlo
    have hts := dr_words C.2.2.2.2.2.2.1 d0
    have hm := x_mroom ad hs.1 h0 C.2.2.2.2.2.2.2.1 C.2.2.2.2.2.2.2.2.1
    exact va_mabs (s := s.setDrawn d0) (cells := cells) (slots := slots) (x := u1) C.1 C.2.1 (hl.1.trans C.2.2.1.symm).symm C.2.2.2.2.2.1 (hts _ hw) (hts _ h1) (hts _ h2) (hts _ h3) hm.1 hm.2 (Nat.le_trans (Nat.le_add_right _ _) hc) (Nat.le_trans (Nat.le_add_right _ _) hsl) hd
      (hk p e R s m args below meth c ad0 ok0 C ad H locs cells slots ls d0 hd0 hl hr hok hz hc hsl (ok_cons (v := Value.int _) trivial (ok_tl hst)) hlo)
  · exact hs.elim
theorem s_mabsl {i : Nat} (h0 : 1 ≤ d.2.2.2.2.1) (hw : Cond.methodLink d.1.cls i Lib.MathLoose.abs_long.x ∈ G.tb) (h1 : Cond.static Lib.MathLoose.abs_long.x ∈ G.tb) (h2 : Cond.initialized "java/lang/Math" ∈ G.tb) (h3 : Cond.code Lib.MathLoose.abs_long.x Lib.MathLoose.abs_long.code 2 (some .long) ∈ G.tb) (hd : decode d.2.1 pc = .ok (.invokestatic i, 3)) : xSnd G d pc (i_ml jAbsL) 3 := by
  intro P Q K hP hK l st h b hs
  unfold i_ml at hs
  split at hs
  · rename_i u1 r9
    have hk := hK _ _ _ _ hs.2
    intro p e R s m args below meth c ad0 ok0 C ad H locs cells slots ls d0 hd0 hl hr hok hz hc hsl hst hlo
    have hts := dr_words C.2.2.2.2.2.2.1 d0
    have hm := x_mroom ad hs.1 h0 C.2.2.2.2.2.2.2.1 C.2.2.2.2.2.2.2.2.1
    exact va_mabs_long (s := s.setDrawn d0) (cells := cells) (slots := slots) (x := u1) C.1 C.2.1 (hl.1.trans C.2.2.1.symm).symm C.2.2.2.2.2.1 (hts _ hw) (hts _ h1) (hts _ h2) (hts _ h3) hm.1 hm.2 (Nat.le_trans (Nat.le_add_right _ _) hc) (Nat.le_trans (Nat.le_add_right _ _) hsl) hd
      (hk p e R s m args below meth c ad0 ok0 C ad H locs cells slots ls d0 hd0 hl hr hok hz hc hsl (ok_cons (v := Value.long _) trivial (ok_tl hst)) hlo)
  · exact hs.elim
end XM
