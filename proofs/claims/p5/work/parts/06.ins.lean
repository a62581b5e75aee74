/-! ===== each instruction: a step of the plain machine is one of the real one ===== -/
theorem xCv_cat (ad : Nat → Nat) (v : Value) : (xCv ad v).category = v.category := by cases v <;> rfl
theorem lk_at {ad : Nat → Nat} {ls : Array Slot} {nL : Nat} : ∀ {l : xL} {n : Nat} {v : Value}, lv_has ls nL (l.map (xCvL ad)) → lk l n = some v → ls[n]? = some (.val (xCv ad v))
  | [], n, v, _, h => by simp [lk] at h
  | q :: r, n, v, hl, h => by
    unfold lk at h
    split at h
    · rename_i hq
      cases h
      exact hl.2.2 (n, xCv ad q.2) (by rw [← hq]; exact List.mem_cons_self)
    · exact lk_at ⟨hl.1, hl.2.1, fun z hz => hl.2.2 z (List.mem_cons_of_mem _ hz)⟩ h
theorem lk_ok {h : xH} : ∀ {l : xL} {n : Nat} {v : Value}, (∀ q ∈ l, xOkV h q.2) → lk l n = some v → xOkV h v
  | [], n, v, _, h => by simp [lk] at h
  | q :: r, n, v, hl, h => by
    unfold lk at h
    split at h
    · cases h
      exact hl q List.mem_cons_self
    · exact lk_ok (fun z hz => hl z (List.mem_cons_of_mem _ hz)) h
theorem lkp_has {ad : Nat → Nat} {ls : Array Slot} {nL : Nat} {l : xL} (hl : lv_has ls nL (l.map (xCvL ad))) : ∀ ks : List Nat, lv_has ls nL ((lkp l ks).map (xCvL ad))
  | [] => ⟨hl.1, hl.2.1, fun q hq => by simp [lkp] at hq⟩
  | n :: r => by
    have ih := lkp_has hl r
    unfold lkp
    cases hv : lk l n with
    | none => exact ih
    | some v =>
      refine ⟨hl.1, hl.2.1, fun q hq => ?_⟩
      rcases List.mem_cons.mp hq with rfl | hq
      · exact lk_at hl hv
      · exact ih.2.2 q hq
theorem lkp_ok {h : xH} {l : xL} (hl : ∀ q ∈ l, xOkV h q.2) : ∀ ks : List Nat, ∀ q ∈ lkp l ks, xOkV h q.2
  | [], q, hq => by simp [lkp] at hq
  | n :: r, q, hq => by
    unfold lkp at hq
    cases hv : lk l n with
    | none => rw [hv] at hq; exact lkp_ok hl r q hq
    | some v =>
      rw [hv] at hq
      rcases List.mem_cons.mp hq with rfl | hq
      · exact lk_ok hl hv
      · exact lkp_ok hl r q hq
theorem stf1_sub {i : Nat} : ∀ {l : xL} {q : Nat × Value}, q ∈ stf1 i l → q ∈ l
  | [], q, h => h
  | z :: r, q, h => by
    unfold stf1 at h
    split at h
    · exact List.mem_cons_of_mem _ (stf1_sub h)
    · rcases List.mem_cons.mp h with rfl | h
      · exact List.mem_cons_self
      · exact List.mem_cons_of_mem _ (stf1_sub h)
theorem stf2_sub {i : Nat} : ∀ {l : xL} {q : Nat × Value}, q ∈ stf2 i l → q ∈ l
  | [], q, h => h
  | z :: r, q, h => by
    unfold stf2 at h
    split at h
    · exact List.mem_cons_of_mem _ (stf2_sub h)
    · rcases List.mem_cons.mp h with rfl | h
      · exact List.mem_cons_self
      · exact List.mem_cons_of_mem _ (stf2_sub h)
theorem stf1_map (ad : Nat → Nat) (i : Nat) : ∀ l : xL, (l.map (xCvL ad)).filter (fun q => !(q.1 == i) && !(q.1 + 1 == i && q.2.category == 2)) = (stf1 i l).map (xCvL ad)
  | [] => rfl
  | q :: r => by
    have ih := stf1_map ad i r
    simp only [List.map_cons, List.filter_cons, stf1]
    rw [ih]
    have hc : (xCvL ad q).2.category = q.2.category := xCv_cat ad q.2
    have h1 : (xCvL ad q).1 = q.1 := rfl
    rw [hc, h1]
    by_cases a : q.1 = i
    · simp [a]
    · by_cases b : q.1 + 1 = i ∧ q.2.category = 2
      · simp [b]
      · have : (!(q.1 == i) && !(q.1 + 1 == i && q.2.category == 2)) = true := by
          simp only [Bool.and_eq_true, Bool.not_eq_true', beq_eq_false_iff_ne, Bool.and_eq_false_iff]
          refine ⟨a, ?_⟩
          by_cases c : q.1 + 1 = i
          · exact Or.inr (fun z => b ⟨c, z⟩)
          · exact Or.inl c
        rw [if_pos this, if_neg (fun z => z.elim a b)]
        rfl
theorem stf2_map (ad : Nat → Nat) (i : Nat) : ∀ l : xL, (l.map (xCvL ad)).filter (fun q => !(q.1 == i) && (!(q.1 == i + 1) && !(q.1 + 1 == i && q.2.category == 2))) = (stf2 i l).map (xCvL ad)
  | [] => rfl
  | q :: r => by
    have ih := stf2_map ad i r
    simp only [List.map_cons, List.filter_cons, stf2]
    rw [ih]
    have hc : (xCvL ad q).2.category = q.2.category := xCv_cat ad q.2
    have h1 : (xCvL ad q).1 = q.1 := rfl
    rw [hc, h1]
    by_cases a : q.1 = i
    · simp [a]
    · by_cases a2 : q.1 = i + 1
      · simp [a2]
      · by_cases b : q.1 + 1 = i ∧ q.2.category = 2
        · simp [b]
        · have : (!(q.1 == i) && (!(q.1 == i + 1) && !(q.1 + 1 == i && q.2.category == 2))) = true := by
            simp only [Bool.and_eq_true, Bool.not_eq_true', beq_eq_false_iff_ne, Bool.and_eq_false_iff]
            refine ⟨a, a2, ?_⟩
            by_cases c : q.1 + 1 = i
            · exact Or.inr (fun z => b ⟨c, z⟩)
            · exact Or.inl c
          rw [if_pos this, if_neg (fun z => z.elim a (fun z => z.elim a2 b))]
          rfl
section XI
variable {G : xGt} {d : xDt} {pc : Nat}
/-- a step that leaves cells and locals, and draws nothing -/
theorem x_pure {pc' : Nat} {l : xL} {st st' : List Value} {h : xH} {b : Nat × Nat} {Q : xQ} (hv : (∀ v ∈ st, xOkV h v) → (∀ q ∈ l, xOkV h q.2) → ∀ v ∈ st', xOkV h v)
    (step : ∀ {p : Program} {e : Env} {R : Room} {s : State} {m : MethodId} {args : Array Value} {below : List Frame} {meth : Method} {c : Code} {H : Heap} {locs : List Loc} {cells slots : Nat} {QF : State → Prop} {ls : Array Slot} {ad : Nat → Nat},
      p.tables.exec = Jvm.exec → c.code = d.2.1 → lv_has ls d.2.2.1 (l.map (xCvL ad)) → xRel G ad h H → (∃ s0 d0, s = s0.setDrawn d0 ∧ xCx G d p R s0 m args meth c) → W p G.l e R s m args below meth c H locs cells slots QF (F0 m pc' ls (st'.map (xCv ad))) → W p G.l e R s m args below meth c H locs cells slots QF (F0 m pc ls (st.map (xCv ad))))
    (k : xOKat G d pc' l st' h b Q) : xOKat G d pc l st h b Q := by
  intro p e R s m args below meth c ad0 ok0 C ad H locs cells slots ls d0 hd0 hl hr hok hz hc hsl hst hlo
  exact step C.1 C.2.1 hl hr ⟨s, d0, rfl, C⟩ (k p e R s m args below meth c ad0 ok0 C ad H locs cells slots ls d0 hd0 hl hr hok hz hc hsl (hv hst hlo) hlo)
theorem ok_cons {h : xH} {v : Value} {st : List Value} (hv : xOkV h v) (hs : ∀ v ∈ st, xOkV h v) : ∀ w ∈ v :: st, xOkV h w := fun w hw => by
  rcases List.mem_cons.mp hw with rfl | hw
  · exact hv
  · exact hs w hw
theorem ok_tl {h : xH} {v : Value} {st : List Value} (hs : ∀ w ∈ v :: st, xOkV h w) : ∀ w ∈ st, xOkV h w := fun w hw => hs w (List.mem_cons_of_mem _ hw)
theorem ok_hd {h : xH} {v : Value} {st : List Value} (hs : ∀ w ∈ v :: st, xOkV h w) : xOkV h v := hs v List.mem_cons_self
/-- a store into a local -/
theorem x_store {pc' : Nat} {l l' : xL} {st st' : List Value} {h : xH} {b : Nat × Nat} {Q : xQ} (hv : (∀ v ∈ st, xOkV h v) → (∀ q ∈ l, xOkV h q.2) → (∀ v ∈ st', xOkV h v) ∧ ∀ q ∈ l', xOkV h q.2)
    (step : ∀ {p : Program} {e : Env} {R : Room} {s : State} {m : MethodId} {args : Array Value} {below : List Frame} {meth : Method} {c : Code} {H : Heap} {locs : List Loc} {cells slots : Nat} {QF : State → Prop} {ls : Array Slot} {ad : Nat → Nat},
      p.tables.exec = Jvm.exec → c.code = d.2.1 → lv_has ls d.2.2.1 (l.map (xCvL ad)) → (∀ ls', lv_has ls' d.2.2.1 (l'.map (xCvL ad)) → W p G.l e R s m args below meth c H locs cells slots QF (F0 m pc' ls' (st'.map (xCv ad)))) → W p G.l e R s m args below meth c H locs cells slots QF (F0 m pc ls (st.map (xCv ad))))
    (k : xOKat G d pc' l' st' h b Q) : xOKat G d pc l st h b Q := by
  intro p e R s m args below meth c ad0 ok0 C ad H locs cells slots ls d0 hd0 hl hr hok hz hc hsl hst hlo
  exact step C.1 C.2.1 hl (fun ls' hl' => k p e R s m args below meth c ad0 ok0 C ad H locs cells slots ls' d0 hd0 hl' hr hok hz hc hsl (hv hst hlo).1 (hv hst hlo).2)
theorem s_load {i len : Nat} {ins : Instr} (row : ∀ {p : Program} {e : Env} {R : Room} {s : State} {m : MethodId} {args : Array Value} {below : List Frame} {meth : Method} {c : Code} {H : Heap} {locs : List Loc} {cells slots : Nat} {QF : State → Prop} {ls : Array Slot} {rest : List Value} {x : Int32},
      p.tables.exec = Jvm.exec → c.code = d.2.1 → ls[i]? = some (.val (.int x)) → W p G.l e R s m args below meth c H locs cells slots QF (F0 m (pc + len) ls (.int x :: rest)) → W p G.l e R s m args below meth c H locs cells slots QF (F0 m pc ls rest)) : xSnd G d pc (i_iload i) len := by
  intro P Q K hP hK l st h b hs
  unfold i_iload at hs
  split at hs
  · rename_i x hx
    exact x_pure (fun h1 _ => ok_cons (v := Value.int x) trivial h1) (fun h1 h2 h3 _ _ k => row h1 h2 (lk_at h3 hx) k) (hK _ _ _ _ hs)
  · exact hs.elim
theorem s_iload {i : Nat} (hd : decode d.2.1 pc = .ok (.iload i, 2)) : xSnd G d pc (i_iload i) 2 := s_load (ins := .iload i) (fun h1 h2 h3 k => lv_iload h1 h2 hd h3 k)
theorem s_iload_n {i : Nat} {k : Fin 4} (hd : decode d.2.1 pc = .ok (.iload_n k, 1)) (hk : (k : Nat) = i) : xSnd G d pc (i_iload i) 1 := s_load (ins := .iload i) (fun h1 h2 h3 k => lv_iload_n h1 h2 hd hk h3 k)
theorem s_lloadG {i len : Nat} (row : ∀ {p : Program} {e : Env} {R : Room} {s : State} {m : MethodId} {args : Array Value} {below : List Frame} {meth : Method} {c : Code} {H : Heap} {locs : List Loc} {cells slots : Nat} {QF : State → Prop} {ls : Array Slot} {rest : List Value} {x : Int64},
      p.tables.exec = Jvm.exec → c.code = d.2.1 → ls[i]? = some (.val (.long x)) → W p G.l e R s m args below meth c H locs cells slots QF (F0 m (pc + len) ls (.long x :: rest)) → W p G.l e R s m args below meth c H locs cells slots QF (F0 m pc ls rest)) : xSnd G d pc (i_lload i) len := by
  intro P Q K hP hK l st h b hs
  unfold i_lload at hs
  split at hs
  · rename_i x hx
    exact x_pure (fun h1 _ => ok_cons (v := Value.long x) trivial h1) (fun h1 h2 h3 _ _ k => row h1 h2 (lk_at h3 hx) k) (hK _ _ _ _ hs)
  · exact hs.elim
theorem s_lload {i : Nat} (hd : decode d.2.1 pc = .ok (.lload i, 2)) : xSnd G d pc (i_lload i) 2 := s_lloadG (fun h1 h2 h3 k => lv_lload h1 h2 hd h3 k)
theorem s_lload_n {i : Nat} {k : Fin 4} (hd : decode d.2.1 pc = .ok (.lload_n k, 1)) (hk : (k : Nat) = i) : xSnd G d pc (i_lload i) 1 := s_lloadG (fun h1 h2 h3 k => lv_lload_n h1 h2 hd hk h3 k)
theorem s_dloadG {i len : Nat} (row : ∀ {p : Program} {e : Env} {R : Room} {s : State} {m : MethodId} {args : Array Value} {below : List Frame} {meth : Method} {c : Code} {H : Heap} {locs : List Loc} {cells slots : Nat} {QF : State → Prop} {ls : Array Slot} {rest : List Value} {x : UInt64},
      p.tables.exec = Jvm.exec → c.code = d.2.1 → ls[i]? = some (.val (.double x)) → W p G.l e R s m args below meth c H locs cells slots QF (F0 m (pc + len) ls (.double x :: rest)) → W p G.l e R s m args below meth c H locs cells slots QF (F0 m pc ls rest)) : xSnd G d pc (i_dload i) len := by
  intro P Q K hP hK l st h b hs
  unfold i_dload at hs
  split at hs
  · rename_i x hx
    exact x_pure (fun h1 _ => ok_cons (v := Value.double x) trivial h1) (fun h1 h2 h3 _ _ k => row h1 h2 (lk_at h3 hx) k) (hK _ _ _ _ hs)
  · exact hs.elim
theorem s_dload {i : Nat} (hd : decode d.2.1 pc = .ok (.dload i, 2)) : xSnd G d pc (i_dload i) 2 := s_dloadG (fun h1 h2 h3 k => lv_dload h1 h2 hd h3 k)
theorem s_dload_n {i : Nat} {k : Fin 4} (hd : decode d.2.1 pc = .ok (.dload_n k, 1)) (hk : (k : Nat) = i) : xSnd G d pc (i_dload i) 1 := s_dloadG (fun h1 h2 h3 k => lv_dload_n h1 h2 hd hk h3 k)
theorem s_aloadG {i len : Nat} (row : ∀ {p : Program} {e : Env} {R : Room} {s : State} {m : MethodId} {args : Array Value} {below : List Frame} {meth : Method} {c : Code} {H : Heap} {locs : List Loc} {cells slots : Nat} {QF : State → Prop} {ls : Array Slot} {rest : List Value} {x : Nat},
      p.tables.exec = Jvm.exec → c.code = d.2.1 → ls[i]? = some (.val (.ref x)) → W p G.l e R s m args below meth c H locs cells slots QF (F0 m (pc + len) ls (.ref x :: rest)) → W p G.l e R s m args below meth c H locs cells slots QF (F0 m pc ls rest)) : xSnd G d pc (i_aload i) len := by
  intro P Q K hP hK l st h b hs
  unfold i_aload at hs
  split at hs
  · rename_i x hx
    exact x_pure (fun h1 h2 => ok_cons (lk_ok h2 hx) h1) (fun h1 h2 h3 _ _ k => row h1 h2 (lk_at h3 hx) k) (hK _ _ _ _ hs)
  · exact hs.elim
theorem s_aload {i : Nat} (hd : decode d.2.1 pc = .ok (.aload i, 2)) : xSnd G d pc (i_aload i) 2 := s_aloadG (fun h1 h2 h3 k => lv_aload h1 h2 hd h3 k)
theorem s_aload_n {i : Nat} {k : Fin 4} (hd : decode d.2.1 pc = .ok (.aload_n k, 1)) (hk : (k : Nat) = i) : xSnd G d pc (i_aload i) 1 := s_aloadG (fun h1 h2 h3 k => lv_aload_n h1 h2 hd hk h3 k)
theorem st_ok {h : xH} {l : xL} {i : Nat} {v : Value} (hv : xOkV h v) (hl : ∀ q ∈ l, xOkV h q.2) : ∀ q ∈ (i, v) :: stf1 i l, xOkV h q.2 := fun q hq => by
  rcases List.mem_cons.mp hq with rfl | hq
  · exact hv
  · exact hl q (stf1_sub hq)
theorem st_ok2 {h : xH} {l : xL} {i : Nat} {v : Value} (hv : xOkV h v) (hl : ∀ q ∈ l, xOkV h q.2) : ∀ q ∈ (i, v) :: stf2 i l, xOkV h q.2 := fun q hq => by
  rcases List.mem_cons.mp hq with rfl | hq
  · exact hv
  · exact hl q (stf2_sub hq)
theorem s_istore {i : Nat} (hd : decode d.2.1 pc = .ok (.istore i, 2)) (hi : i < d.2.2.1) : xSnd G d pc (i_istore i) 2 := by
  intro P Q K hP hK l st h b hs
  unfold i_istore at hs
  split at hs
  · refine x_store (fun h1 h2 => ⟨ok_tl h1, st_ok (ok_hd h1) h2⟩) (fun {_ _ _ _ _ _ _ _ _ _ _ _ _ _ _ ad} h1 h2 h3 k => ?_) (hK _ _ _ _ hs)
    exact lv_istore h1 h2 hd h3 hi rfl (fun ls' hl' => k ls' (by rw [stf1_map] at hl'; exact hl'))
  · exact hs.elim
theorem s_istore_n {i : Nat} {k : Fin 4} (hd : decode d.2.1 pc = .ok (.istore_n k, 1)) (hk : (k : Nat) = i) (hi : i < d.2.2.1) : xSnd G d pc (i_istore i) 1 := by
  intro P Q K hP hK l st h b hs
  unfold i_istore at hs
  split at hs
  · refine x_store (fun h1 h2 => ⟨ok_tl h1, st_ok (ok_hd h1) h2⟩) (fun {_ _ _ _ _ _ _ _ _ _ _ _ _ _ _ ad} h1 h2 h3 k => ?_) (hK _ _ _ _ hs)
    exact lv_istore_n h1 h2 hd hk h3 hi rfl (fun ls' hl' => k ls' (by rw [stf1_map] at hl'; exact hl'))
  · exact hs.elim
theorem s_astore {i : Nat} (hd : decode d.2.1 pc = .ok (.astore i, 2)) (hi : i < d.2.2.1) : xSnd G d pc (i_astore i) 2 := by
  intro P Q K hP hK l st h b hs
  unfold i_astore at hs
  split at hs
  · refine x_store (fun h1 h2 => ⟨ok_tl h1, st_ok (ok_hd h1) h2⟩) (fun {_ _ _ _ _ _ _ _ _ _ _ _ _ _ _ ad} h1 h2 h3 k => ?_) (hK _ _ _ _ hs)
    exact lv_astore h1 h2 hd h3 hi rfl (fun ls' hl' => k ls' (by rw [stf1_map] at hl'; exact hl'))
  · exact hs.elim
theorem s_astore_n {i : Nat} {k : Fin 4} (hd : decode d.2.1 pc = .ok (.astore_n k, 1)) (hk : (k : Nat) = i) (hi : i < d.2.2.1) : xSnd G d pc (i_astore i) 1 := by
  intro P Q K hP hK l st h b hs
  unfold i_astore at hs
  split at hs
  · refine x_store (fun h1 h2 => ⟨ok_tl h1, st_ok (ok_hd h1) h2⟩) (fun {_ _ _ _ _ _ _ _ _ _ _ _ _ _ _ ad} h1 h2 h3 k => ?_) (hK _ _ _ _ hs)
    exact lv_astore_n h1 h2 hd hk h3 hi rfl (fun ls' hl' => k ls' (by rw [stf1_map] at hl'; exact hl'))
  · exact hs.elim
theorem s_lstore {i : Nat} (hd : decode d.2.1 pc = .ok (.lstore i, 2)) (hi : i + 1 < d.2.2.1) : xSnd G d pc (i_lstore i) 2 := by
  intro P Q K hP hK l st h b hs
  unfold i_lstore at hs
  split at hs
  · refine x_store (fun h1 h2 => ⟨ok_tl h1, st_ok2 (ok_hd h1) h2⟩) (fun {_ _ _ _ _ _ _ _ _ _ _ _ _ _ _ ad} h1 h2 h3 k => ?_) (hK _ _ _ _ hs)
    exact lv_lstore h1 h2 hd h3 hi rfl (fun ls' hl' => k ls' (by rw [stf2_map] at hl'; exact hl'))
  · exact hs.elim
theorem s_lstore_n {i : Nat} {k : Fin 4} (hd : decode d.2.1 pc = .ok (.lstore_n k, 1)) (hk : (k : Nat) = i) (hi : i + 1 < d.2.2.1) : xSnd G d pc (i_lstore i) 1 := by
  intro P Q K hP hK l st h b hs
  unfold i_lstore at hs
  split at hs
  · refine x_store (fun h1 h2 => ⟨ok_tl h1, st_ok2 (ok_hd h1) h2⟩) (fun {_ _ _ _ _ _ _ _ _ _ _ _ _ _ _ ad} h1 h2 h3 k => ?_) (hK _ _ _ _ hs)
    exact lv_lstore_n h1 h2 hd hk h3 hi rfl (fun ls' hl' => k ls' (by rw [stf2_map] at hl'; exact hl'))
  · exact hs.elim
theorem s_dstore {i : Nat} (hd : decode d.2.1 pc = .ok (.dstore i, 2)) (hi : i + 1 < d.2.2.1) : xSnd G d pc (i_dstore i) 2 := by
  intro P Q K hP hK l st h b hs
  unfold i_dstore at hs
  split at hs
  · refine x_store (fun h1 h2 => ⟨ok_tl h1, st_ok2 (ok_hd h1) h2⟩) (fun {_ _ _ _ _ _ _ _ _ _ _ _ _ _ _ ad} h1 h2 h3 k => ?_) (hK _ _ _ _ hs)
    exact lv_dstore h1 h2 hd h3 hi rfl (fun ls' hl' => k ls' (by rw [stf2_map] at hl'; exact hl'))
  · exact hs.elim
theorem s_dstore_n {i : Nat} {k : Fin 4} (hd : decode d.2.1 pc = .ok (.dstore_n k, 1)) (hk : (k : Nat) = i) (hi : i + 1 < d.2.2.1) : xSnd G d pc (i_dstore i) 1 := by
  intro P Q K hP hK l st h b hs
  unfold i_dstore at hs
  split at hs
  · refine x_store (fun h1 h2 => ⟨ok_tl h1, st_ok2 (ok_hd h1) h2⟩) (fun {_ _ _ _ _ _ _ _ _ _ _ _ _ _ _ ad} h1 h2 h3 k => ?_) (hK _ _ _ _ hs)
    exact lv_dstore_n h1 h2 hd hk h3 hi rfl (fun ls' hl' => k ls' (by rw [stf2_map] at hl'; exact hl'))
  · exact hs.elim
end XI
