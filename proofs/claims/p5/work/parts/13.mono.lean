/-! ===== every step is monotone ===== -/
theorem m_push (v : Value) : xMon (i_push v) := fun P P' Q Q' K K' hP hQ hK l st h b hs => hK _ _ _ _ hs
theorem m_iload (n : Nat) : xMon (i_iload n) := by
  intro P P' Q Q' K K' hP hQ hK l st h b hs
  unfold i_iload at hs ⊢
  split at hs
  · exact hK _ _ _ _ hs
  · exact hs.elim
theorem m_lload (n : Nat) : xMon (i_lload n) := by
  intro P P' Q Q' K K' hP hQ hK l st h b hs
  unfold i_lload at hs ⊢
  split at hs
  · exact hK _ _ _ _ hs
  · exact hs.elim
theorem m_dload (n : Nat) : xMon (i_dload n) := by
  intro P P' Q Q' K K' hP hQ hK l st h b hs
  unfold i_dload at hs ⊢
  split at hs
  · exact hK _ _ _ _ hs
  · exact hs.elim
theorem m_aload (n : Nat) : xMon (i_aload n) := by
  intro P P' Q Q' K K' hP hQ hK l st h b hs
  unfold i_aload at hs ⊢
  split at hs
  · exact hK _ _ _ _ hs
  · exact hs.elim
theorem m_istore (n : Nat) : xMon (i_istore n) := by
  intro P P' Q Q' K K' hP hQ hK l st h b hs
  unfold i_istore at hs ⊢
  split at hs
  · exact hK _ _ _ _ hs
  · exact hs.elim
theorem m_astore (n : Nat) : xMon (i_astore n) := by
  intro P P' Q Q' K K' hP hQ hK l st h b hs
  unfold i_astore at hs ⊢
  split at hs
  · exact hK _ _ _ _ hs
  · exact hs.elim
theorem m_lstore (n : Nat) : xMon (i_lstore n) := by
  intro P P' Q Q' K K' hP hQ hK l st h b hs
  unfold i_lstore at hs ⊢
  split at hs
  · exact hK _ _ _ _ hs
  · exact hs.elim
theorem m_dstore (n : Nat) : xMon (i_dstore n) := by
  intro P P' Q Q' K K' hP hQ hK l st h b hs
  unfold i_dstore at hs ⊢
  split at hs
  · exact hK _ _ _ _ hs
  · exact hs.elim
theorem m_iinc (n : Nat) (v : Int32) : xMon (i_iinc n v) := by
  intro P P' Q Q' K K' hP hQ hK l st h b hs
  unfold i_iinc at hs ⊢
  split at hs
  · exact hK _ _ _ _ hs
  · exact hs.elim
theorem m_ii (f : Int32 → Int32 → Int32) : xMon (i_ii f) := by
  intro P P' Q Q' K K' hP hQ hK l st h b hs
  unfold i_ii at hs ⊢
  split at hs
  · exact hK _ _ _ _ hs
  · exact hs.elim
theorem m_ll (f : Int64 → Int64 → Int64) : xMon (i_ll f) := by
  intro P P' Q Q' K K' hP hQ hK l st h b hs
  unfold i_ll at hs ⊢
  split at hs
  · exact hK _ _ _ _ hs
  · exact hs.elim
theorem m_lli (f : Int64 → Int64 → Int32) : xMon (i_lli f) := by
  intro P P' Q Q' K K' hP hQ hK l st h b hs
  unfold i_lli at hs ⊢
  split at hs
  · exact hK _ _ _ _ hs
  · exact hs.elim
theorem m_li (f : Int64 → Int32 → Int64) : xMon (i_li f) := by
  intro P P' Q Q' K K' hP hQ hK l st h b hs
  unfold i_li at hs ⊢
  split at hs
  · exact hK _ _ _ _ hs
  · exact hs.elim
theorem m_i (f : Int32 → Int32) : xMon (i_i f) := by
  intro P P' Q Q' K K' hP hQ hK l st h b hs
  unfold i_i at hs ⊢
  split at hs
  · exact hK _ _ _ _ hs
  · exact hs.elim
theorem m_ddi (f : UInt64 → UInt64 → Int32) : xMon (i_ddi f) := by
  intro P P' Q Q' K K' hP hQ hK l st h b hs
  unfold i_ddi at hs ⊢
  split at hs
  · exact hK _ _ _ _ hs
  · exact hs.elim
theorem m_iiz (f : Int32 → Int32 → Int32) : xMon (i_iiz f) := by
  intro P P' Q Q' K K' hP hQ hK l st h b hs
  unfold i_iiz at hs ⊢
  split at hs
  · exact ⟨hs.1, hK _ _ _ _ hs.2⟩
  · exact hs.elim
theorem m_llz (f : Int64 → Int64 → Int64) : xMon (i_llz f) := by
  intro P P' Q Q' K K' hP hQ hK l st h b hs
  unfold i_llz at hs ⊢
  split at hs
  · exact ⟨hs.1, hK _ _ _ _ hs.2⟩
  · exact hs.elim
theorem m_i2l  : xMon (i_i2l) := by
  intro P P' Q Q' K K' hP hQ hK l st h b hs
  unfold i_i2l at hs ⊢
  split at hs
  · exact hK _ _ _ _ hs
  · exact hs.elim
theorem m_l2i  : xMon (i_l2i) := by
  intro P P' Q Q' K K' hP hQ hK l st h b hs
  unfold i_l2i at hs ⊢
  split at hs
  · exact hK _ _ _ _ hs
  · exact hs.elim
theorem m_i2d  : xMon (i_i2d) := by
  intro P P' Q Q' K K' hP hQ hK l st h b hs
  unfold i_i2d at hs ⊢
  split at hs
  · exact hK _ _ _ _ hs
  · exact hs.elim
theorem m_i2f  : xMon (i_i2f) := by
  intro P P' Q Q' K K' hP hQ hK l st h b hs
  unfold i_i2f at hs ⊢
  split at hs
  · exact hK _ _ _ _ hs
  · exact hs.elim
theorem m_l2d  : xMon (i_l2d) := by
  intro P P' Q Q' K K' hP hQ hK l st h b hs
  unfold i_l2d at hs ⊢
  split at hs
  · exact hK _ _ _ _ hs
  · exact hs.elim
theorem m_d2i  : xMon (i_d2i) := by
  intro P P' Q Q' K K' hP hQ hK l st h b hs
  unfold i_d2i at hs ⊢
  split at hs
  · exact hK _ _ _ _ hs
  · exact hs.elim
theorem m_dup  : xMon (i_dup) := by
  intro P P' Q Q' K K' hP hQ hK l st h b hs
  unfold i_dup at hs ⊢
  split at hs
  · exact ⟨hs.1, hK _ _ _ _ hs.2⟩
  · exact hs.elim
theorem m_dup2w  : xMon (i_dup2w) := by
  intro P P' Q Q' K K' hP hQ hK l st h b hs
  unfold i_dup2w at hs ⊢
  split at hs
  · exact ⟨hs.1, hK _ _ _ _ hs.2⟩
  · exact hs.elim
theorem m_pop  : xMon (i_pop) := by
  intro P P' Q Q' K K' hP hQ hK l st h b hs
  unfold i_pop at hs ⊢
  split at hs
  · exact ⟨hs.1, hK _ _ _ _ hs.2⟩
  · exact hs.elim
theorem m_pop2  : xMon (i_pop2) := by
  intro P P' Q Q' K K' hP hQ hK l st h b hs
  unfold i_pop2 at hs ⊢
  split at hs
  · exact ⟨hs.1, hK _ _ _ _ hs.2⟩
  · exact hs.elim
theorem m_dup2  : xMon (i_dup2) := by
  intro P P' Q Q' K K' hP hQ hK l st h b hs
  unfold i_dup2 at hs ⊢
  split at hs
  · exact ⟨hs.1, hs.2.1, hK _ _ _ _ hs.2.2⟩
  · exact hs.elim
theorem m_dd (f : UInt64 → UInt64 → UInt64) : xMon (i_dd f) := by
  intro P P' Q Q' K K' hP hQ hK l st h b hs
  unfold i_dd at hs ⊢
  split at hs
  · exact fun v hv => hK _ _ _ _ (hs v hv)
  · exact hs.elim
theorem m_ff (f : UInt32 → UInt32 → UInt32) : xMon (i_ff f) := by
  intro P P' Q Q' K K' hP hQ hK l st h b hs
  unfold i_ff at hs ⊢
  split at hs
  · exact fun v hv => hK _ _ _ _ (hs v hv)
  · exact hs.elim
theorem m_f2d  : xMon (i_f2d) := by
  intro P P' Q Q' K K' hP hQ hK l st h b hs
  unfold i_f2d at hs ⊢
  split at hs
  · exact fun v hv => hK _ _ _ _ (hs v hv)
  · exact hs.elim
theorem m_goto (y t : Nat) (ks : List Nat) : xMon (i_goto y t ks) := fun P P' Q Q' K K' hP hQ hK l st h b hs => hP _ _ _ _ _ _ _ _ hs hQ
theorem m_ifc (c : Int32 → Prop) (y t : Nat) (ks : List Nat) : xMon (i_ifc c y t ks) := by
  intro P P' Q Q' K K' hP hQ hK l st h b hs
  unfold i_ifc at hs ⊢
  split at hs
  · exact ⟨fun z => hP _ _ _ _ _ _ _ _ (hs.1 z) hQ, fun z => hK _ _ _ _ (hs.2 z)⟩
  · exact hs.elim
theorem m_icmp (c : Int32 → Int32 → Prop) (y t : Nat) (ks : List Nat) : xMon (i_icmp c y t ks) := by
  intro P P' Q Q' K K' hP hQ hK l st h b hs
  unfold i_icmp at hs ⊢
  split at hs
  · exact ⟨fun z => hP _ _ _ _ _ _ _ _ (hs.1 z) hQ, fun z => hK _ _ _ _ (hs.2 z)⟩
  · exact hs.elim
theorem xSw_mono {F F' : Nat → Prop} (hF : ∀ z, F z → F' z) {x : Int32} : ∀ {ps : List (Int32 × Nat)} {t : Nat}, xSw F x ps t → xSw F' x ps t
  | [], _, h => hF _ h
  | _ :: _, _, h => ⟨fun e => hF _ (h.1 e), fun e => xSw_mono hF (h.2 e)⟩
theorem m_sw (ps : List (Int32 × Nat)) (y t : Nat) (ks : List Nat) : xMon (i_sw ps y t ks) := by
  intro P P' Q Q' K K' hP hQ hK l st h b hs
  unfold i_sw at hs ⊢
  split at hs
  · exact xSw_mono (fun z hz => hP _ _ _ _ _ _ _ _ hz hQ) hs
  · exact hs.elim
theorem m_getI (c k : Nat) : xMon (i_getI c k) := by
  intro P P' Q Q' K K' hP hQ hK l st h b hs
  unfold i_getI at hs ⊢
  split at hs
  · exact ⟨hs.1, hK _ _ _ _ hs.2⟩
  · exact hs.elim
theorem m_getL (c k : Nat) : xMon (i_getL c k) := by
  intro P P' Q Q' K K' hP hQ hK l st h b hs
  unfold i_getL at hs ⊢
  split at hs
  · exact ⟨hs.1, hK _ _ _ _ hs.2⟩
  · exact hs.elim
theorem m_getR (c k : Nat) : xMon (i_getR c k) := by
  intro P P' Q Q' K K' hP hQ hK l st h b hs
  unfold i_getR at hs ⊢
  split at hs
  · exact ⟨hs.1, hK _ _ _ _ hs.2⟩
  · exact hs.elim
theorem m_putI (c k : Nat) : xMon (i_putI c k) := by
  intro P P' Q Q' K K' hP hQ hK l st h b hs
  unfold i_putI at hs ⊢
  split at hs
  · exact ⟨hs.1, hK _ _ _ _ hs.2⟩
  · exact hs.elim
theorem m_putL (c k : Nat) : xMon (i_putL c k) := by
  intro P P' Q Q' K K' hP hQ hK l st h b hs
  unfold i_putL at hs ⊢
  split at hs
  · exact ⟨hs.1, hK _ _ _ _ hs.2⟩
  · exact hs.elim
theorem m_putR (c k : Nat) : xMon (i_putR c k) := by
  intro P P' Q Q' K K' hP hQ hK l st h b hs
  unfold i_putR at hs ⊢
  split at hs
  · exact ⟨hs.1, hK _ _ _ _ hs.2⟩
  · exact hs.elim
theorem m_putZ (c k : Nat) : xMon (i_putZ c k) := by
  intro P P' Q Q' K K' hP hQ hK l st h b hs
  unfold i_putZ at hs ⊢
  split at hs
  · exact ⟨hs.1, hs.2.1, hK _ _ _ _ hs.2.2⟩
  · exact hs.elim
theorem m_aldI (c : Nat) : xMon (i_aldI c) := by
  intro P P' Q Q' K K' hP hQ hK l st h b hs
  unfold i_aldI at hs ⊢
  split at hs
  · exact ⟨hs.1, hs.2.1, hK _ _ _ _ hs.2.2⟩
  · exact hs.elim
theorem m_aldB  : xMon (i_aldB) := by
  intro P P' Q Q' K K' hP hQ hK l st h b hs
  unfold i_aldB at hs ⊢
  split at hs
  · exact ⟨hs.1, hs.2.1, hK _ _ _ _ hs.2.2⟩
  · exact hs.elim
theorem m_aldL  : xMon (i_aldL) := by
  intro P P' Q Q' K K' hP hQ hK l st h b hs
  unfold i_aldL at hs ⊢
  split at hs
  · exact ⟨hs.1, hs.2.1, hK _ _ _ _ hs.2.2⟩
  · exact hs.elim
theorem m_aldD  : xMon (i_aldD) := by
  intro P P' Q Q' K K' hP hQ hK l st h b hs
  unfold i_aldD at hs ⊢
  split at hs
  · exact ⟨hs.1, hs.2.1, hK _ _ _ _ hs.2.2⟩
  · exact hs.elim
theorem m_astL  : xMon (i_astL) := by
  intro P P' Q Q' K K' hP hQ hK l st h b hs
  unfold i_astL at hs ⊢
  split at hs
  · exact ⟨hs.1, hs.2.1, hK _ _ _ _ hs.2.2⟩
  · exact hs.elim
theorem m_astD  : xMon (i_astD) := by
  intro P P' Q Q' K K' hP hQ hK l st h b hs
  unfold i_astD at hs ⊢
  split at hs
  · exact ⟨hs.1, hs.2.1, hK _ _ _ _ hs.2.2⟩
  · exact hs.elim
theorem m_astI (c : Nat) (f : Int32 → Int32) : xMon (i_astI c f) := by
  intro P P' Q Q' K K' hP hQ hK l st h b hs
  unfold i_astI at hs ⊢
  split at hs
  · exact ⟨hs.1, hs.2.1, hK _ _ _ _ hs.2.2⟩
  · exact hs.elim
theorem m_alen  : xMon (i_alen) := by
  intro P P' Q Q' K K' hP hQ hK l st h b hs
  unfold i_alen at hs ⊢
  split at hs
  · exact ⟨hs.1, hK _ _ _ _ hs.2⟩
  · exact hs.elim
theorem m_new (c n : Nat) : xMon (i_new c n) := by
  intro P P' Q Q' K K' hP hQ hK l st h b hs
  obtain ⟨h1, h2, i, h3, h4⟩ := hs
  exact ⟨h1, h2, i, h3, hK _ _ _ _ h4⟩
theorem m_newa (c w : Nat) : xMon (i_newa c w) := by
  intro P P' Q Q' K K' hP hQ hK l st h b hs
  unfold i_newa at hs ⊢
  split at hs
  · obtain ⟨h1, h2, h3, h4, i, h5, h6⟩ := hs
    exact ⟨h1, h2, h3, h4, i, h5, hK _ _ _ _ h6⟩
  · exact hs.elim
theorem m_ret  : xMon (i_ret) := by
  intro P P' Q Q' K K' hP hQ hK l st h b hs
  unfold i_ret at hs ⊢
  split at hs
  · exact hQ _ _ _ hs
  · exact hs.elim
theorem m_iret  : xMon (i_iret) := by
  intro P P' Q Q' K K' hP hQ hK l st h b hs
  unfold i_iret at hs ⊢
  split at hs
  · exact hQ _ _ _ hs
  · exact hs.elim
theorem m_lret  : xMon (i_lret) := by
  intro P P' Q Q' K K' hP hQ hK l st h b hs
  unfold i_lret at hs ⊢
  split at hs
  · exact hQ _ _ _ hs
  · exact hs.elim
theorem m_fret  : xMon (i_fret) := by
  intro P P' Q Q' K K' hP hQ hK l st h b hs
  unfold i_fret at hs ⊢
  split at hs
  · exact hQ _ _ _ hs
  · exact hs.elim
theorem m_dret  : xMon (i_dret) := by
  intro P P' Q Q' K K' hP hQ hK l st h b hs
  unfold i_dret at hs ⊢
  split at hs
  · exact hQ _ _ _ hs
  · exact hs.elim
theorem m_aret  : xMon (i_aret) := by
  intro P P' Q Q' K K' hP hQ hK l st h b hs
  unfold i_aret at hs ⊢
  split at hs
  · exact hQ _ _ _ hs
  · exact hs.elim
theorem m_zret  : xMon (i_zret) := by
  intro P P' Q Q' K K' hP hQ hK l st h b hs
  unfold i_zret at hs ⊢
  split at hs
  · exact ⟨hs.1, hQ _ _ _ hs.2⟩
  · exact hs.elim
theorem m_nret (ty : FieldType) : xMon (i_nret ty) := by
  intro P P' Q Q' K K' hP hQ hK l st h b hs
  unfold i_nret at hs ⊢
  split at hs
  · exact ⟨hs.1, hQ _ _ _ hs.2⟩
  · exact hs.elim
theorem m_obj  : xMon (i_obj) := by
  intro P P' Q Q' K K' hP hQ hK l st h b hs
  unfold i_obj at hs ⊢
  split at hs
  · exact ⟨hs.1, hK _ _ _ _ hs.2⟩
  · exact hs.elim
theorem xTo_mono {Q Q' : xQ} {K K' : xK} (hQ : ∀ o h b, Q o h b → Q' o h b) (hK : ∀ l st h b, K l st h b → K' l st h b) {l : xL} {rest : List Value} {b : Nat × Nat} : ∀ o h b9, xTo Q K l rest b o h b9 → xTo Q' K' l rest b o h b9
  | .ok _, _, _, h => hK _ _ _ _ h
  | .error _, _, _, h => hQ _ _ _ h
theorem m_invS0 (z n m : Nat) : xMon (i_invS0 z n m) := fun P P' Q Q' K K' hP hQ hK l st h b hs => ⟨hs.1, hP _ _ _ _ _ _ _ _ hs.2 (xTo_mono hQ hK)⟩
theorem m_invSA (z n m : Nat) : xMon (i_invSA z n m) := fun P P' Q Q' K K' hP hQ hK l st h b hs => by
  obtain ⟨h1, mc, ms, h2, h3, h4⟩ := hs
  exact ⟨h1, mc, ms, h2, h3, hP _ _ _ _ _ _ _ _ h4 (xTo_mono hQ hK)⟩
theorem m_invV0 (c z n m : Nat) : xMon (i_invV0 c z n m) := fun P P' Q Q' K K' hP hQ hK l st h b hs => ⟨hs.1, hs.2.1, hP _ _ _ _ _ _ _ _ hs.2.2 (xTo_mono hQ hK)⟩
theorem m_invVA (c z n m : Nat) : xMon (i_invVA c z n m) := fun P P' Q Q' K K' hP hQ hK l st h b hs => by
  obtain ⟨h1, h0, mc, ms, h2, h3, h4⟩ := hs
  exact ⟨h1, h0, mc, ms, h2, h3, hP _ _ _ _ _ _ _ _ h4 (xTo_mono hQ hK)⟩
theorem m_gsq : xMon i_gsq := fun P P' Q Q' K K' hP hQ hK l st h b hs => fun v hv => hK _ _ _ _ (hs v hv)
theorem m_thr (E : String) : xMon (i_thr E) := fun P P' Q Q' K K' hP hQ hK l st h b hs => ⟨hs.1, hs.2.1, hs.2.2.1, hQ _ _ _ hs.2.2.2⟩
theorem m_copy (c : Nat) : xMon (i_copy c) := by
  intro P P' Q Q' K K' hP hQ hK l st h b hs
  unfold i_copy at hs ⊢
  split at hs
  · exact ⟨hs.1, hs.2.1, hs.2.2.1, hs.2.2.2.1, hs.2.2.2.2.1, hs.2.2.2.2.2.1, hs.2.2.2.2.2.2.1, hs.2.2.2.2.2.2.2.1, hs.2.2.2.2.2.2.2.2.1, hK _ _ _ _ hs.2.2.2.2.2.2.2.2.2⟩
  · exact hs.elim
theorem xM_nil : ∀ i ∈ ([] : List xSem), xMon i := fun _ h => by cases h
theorem xM_cons {i : xSem} {r : List xSem} (h : xMon i) (hr : ∀ i ∈ r, xMon i) : ∀ j ∈ i :: r, xMon j := fun j hj => by
  rcases List.mem_cons.mp hj with rfl | hj
  · exact h
  · exact hr j hj
/-- a block is monotone and sound -/
def xOkB (G : xGt) (d : xDt) (pc : Nat) (is : List xSem) : Prop := (∀ i ∈ is, xMon i) ∧ xSndB G d pc is
theorem xB_nil {G : xGt} {d : xDt} {pc : Nat} : xOkB G d pc [] := ⟨xM_nil, x_nil⟩
theorem xB {G : xGt} {d : xDt} {pc len : Nat} {i : xSem} {r : List xSem} (hm : xMon i) (hi : xSnd G d pc i len) (hr : xOkB G d (pc + len) r) : xOkB G d pc (i :: r) := ⟨xM_cons hm hr.1, x_cons hi hr.2⟩
/-- the equation of running -/
theorem xRun_eq {T : Nat → Nat → List xSem} (hT : ∀ y t, ∀ i ∈ T y t, xMon i) (y t : Nat) (l : xL) (st : List Value) (h : xH) (b : Nat × Nat) (Q : xQ) : xRun T y t l st h b Q = xSeq (xRun T) Q (T y t) l st h b := by
  refine propext ⟨fun hr => ?_, xRun_step hT⟩
  exact hr (fun y t l st h b Q => xSeq (xRun T) Q (T y t) l st h b) (fun y t l st h b Q hs => xSeq_mono (fun y t l st h b Q => xSeq (xRun T) Q (T y t) l st h b) (xRun T) Q Q (fun y t l st h b Q Q' h1 h2 => xRun_conseq hT (fun y t l st h b Q hs => xRun_step hT hs) (xRun_step hT h1) h2) (fun _ _ _ h => h) _ (hT y t) l st h b hs)

