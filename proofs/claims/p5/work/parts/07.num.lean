/-! ===== numbers, branches, constants, draws ===== -/
def jRem (x y : Int32) : Int32 := x - x / y * y
def jShl (x y : Int32) : Int32 := x <<< (y &&& 31)
def jShr (x y : Int32) : Int32 := x >>> (y &&& 31)
def jUshr (x y : Int32) : Int32 := (x.toUInt32 >>> (y.toUInt32 &&& Int32.toUInt32 31)).toInt32
def jLrem (x y : Int64) : Int64 := x - x / y * y
def jLshl (x : Int64) (y : Int32) : Int64 := x <<< (y.toInt64 &&& 63)
def jLshr (x : Int64) (y : Int32) : Int64 := x >>> (y.toInt64 &&& 63)
def jLushr (x : Int64) (y : Int32) : Int64 := (x.toUInt64 >>> (y.toInt64.toUInt64 &&& Int64.toUInt64 63)).toInt64
def jI2b (x : Int32) : Int32 := x.toInt8.toInt32
def jI2s (x : Int32) : Int32 := x.toInt16.toInt32
def i_ddi (f : UInt64 → UInt64 → Int32) : xSem := fun _ _ K l st h b => match st with
  | .double y :: .double x :: r => K l (.int (f x y) :: r) h b
  | _ => False
def i_i2d : xSem := fun _ _ K l st h b => match st with
  | .int x :: r => K l (.double (FP.i2d x) :: r) h b
  | _ => False
def i_i2f : xSem := fun _ _ K l st h b => match st with
  | .int x :: r => K l (.float (FP.i2f x) :: r) h b
  | _ => False
def i_l2d : xSem := fun _ _ K l st h b => match st with
  | .long x :: r => K l (.double (FP.l2d x) :: r) h b
  | _ => False
def i_d2i : xSem := fun _ _ K l st h b => match st with
  | .double x :: r => K l (.int (FP.d2i x) :: r) h b
  | _ => False
def i_f2d : xSem := fun _ _ K l st h b => match st with
  | .float x :: r => ∀ v : UInt64, alike64 v (FP.f2d x) = true → K l (.double v :: r) h b
  | _ => False
/-- the pairs (key, place) in their order, else d -/
def xSw (F : Nat → Prop) (x : Int32) : List (Int32 × Nat) → Nat → Prop
  | [], d => F d
  | q :: r, d => (x = q.1 → F q.2) ∧ (¬ x = q.1 → xSw F x r d)
def i_sw (ps : List (Int32 × Nat)) (y t : Nat) (ks : List Nat) : xSem := fun P Q _ l st h b => match st with
  | .int x :: r => xSw (fun z => P y z (lkp l ks) r h b Q) x ps t
  | _ => False
section XJ
variable {G : xGt} {d : xDt} {pc : Nat}

theorem s_iadd (hd : decode d.2.1 pc = .ok (.iadd, 1)) : xSnd G d pc (i_ii (fun x y => x + y)) 1 := by
  intro P Q K hP hK l st h b hs
  unfold i_ii at hs
  split at hs
  · skip
    exact x_pure (fun h1 _ => ok_cons (v := Value.int _) trivial (ok_tl (ok_tl h1))) (fun h1 h2 h3 _ _ k => lv_iadd h1 h2 hd k) (hK _ _ _ _ hs)
  · exact hs.elim

theorem s_isub (hd : decode d.2.1 pc = .ok (.isub, 1)) : xSnd G d pc (i_ii (fun x y => x - y)) 1 := by
  intro P Q K hP hK l st h b hs
  unfold i_ii at hs
  split at hs
  · skip
    exact x_pure (fun h1 _ => ok_cons (v := Value.int _) trivial (ok_tl (ok_tl h1))) (fun h1 h2 h3 _ _ k => lv_isub h1 h2 hd k) (hK _ _ _ _ hs)
  · exact hs.elim

theorem s_imul (hd : decode d.2.1 pc = .ok (.imul, 1)) : xSnd G d pc (i_ii (fun x y => x * y)) 1 := by
  intro P Q K hP hK l st h b hs
  unfold i_ii at hs
  split at hs
  · skip
    exact x_pure (fun h1 _ => ok_cons (v := Value.int _) trivial (ok_tl (ok_tl h1))) (fun h1 h2 h3 _ _ k => lv_imul h1 h2 hd k) (hK _ _ _ _ hs)
  · exact hs.elim

theorem s_iand (hd : decode d.2.1 pc = .ok (.iand, 1)) : xSnd G d pc (i_ii (fun x y => x &&& y)) 1 := by
  intro P Q K hP hK l st h b hs
  unfold i_ii at hs
  split at hs
  · skip
    exact x_pure (fun h1 _ => ok_cons (v := Value.int _) trivial (ok_tl (ok_tl h1))) (fun h1 h2 h3 _ _ k => lv_iand h1 h2 hd k) (hK _ _ _ _ hs)
  · exact hs.elim

theorem s_ior (hd : decode d.2.1 pc = .ok (.ior, 1)) : xSnd G d pc (i_ii (fun x y => x ||| y)) 1 := by
  intro P Q K hP hK l st h b hs
  unfold i_ii at hs
  split at hs
  · skip
    exact x_pure (fun h1 _ => ok_cons (v := Value.int _) trivial (ok_tl (ok_tl h1))) (fun h1 h2 h3 _ _ k => lv_ior h1 h2 hd k) (hK _ _ _ _ hs)
  · exact hs.elim

theorem s_ixor (hd : decode d.2.1 pc = .ok (.ixor, 1)) : xSnd G d pc (i_ii (fun x y => x ^^^ y)) 1 := by
  intro P Q K hP hK l st h b hs
  unfold i_ii at hs
  split at hs
  · skip
    exact x_pure (fun h1 _ => ok_cons (v := Value.int _) trivial (ok_tl (ok_tl h1))) (fun h1 h2 h3 _ _ k => lv_ixor h1 h2 hd k) (hK _ _ _ _ hs)
  · exact hs.elim

theorem s_ishl (hd : decode d.2.1 pc = .ok (.ishl, 1)) : xSnd G d pc (i_ii jShl) 1 := by
  intro P Q K hP hK l st h b hs
  unfold i_ii at hs
  split at hs
  · skip
    exact x_pure (fun h1 _ => ok_cons (v := Value.int _) trivial (ok_tl (ok_tl h1))) (fun h1 h2 h3 _ _ k => lv_ishl h1 h2 hd k) (hK _ _ _ _ hs)
  · exact hs.elim

theorem s_ishr (hd : decode d.2.1 pc = .ok (.ishr, 1)) : xSnd G d pc (i_ii jShr) 1 := by
  intro P Q K hP hK l st h b hs
  unfold i_ii at hs
  split at hs
  · skip
    exact x_pure (fun h1 _ => ok_cons (v := Value.int _) trivial (ok_tl (ok_tl h1))) (fun h1 h2 h3 _ _ k => lv_ishr h1 h2 hd k) (hK _ _ _ _ hs)
  · exact hs.elim

theorem s_iushr (hd : decode d.2.1 pc = .ok (.iushr, 1)) : xSnd G d pc (i_ii jUshr) 1 := by
  intro P Q K hP hK l st h b hs
  unfold i_ii at hs
  split at hs
  · skip
    exact x_pure (fun h1 _ => ok_cons (v := Value.int _) trivial (ok_tl (ok_tl h1))) (fun h1 h2 h3 _ _ k => lv_iushr h1 h2 hd rfl k) (hK _ _ _ _ hs)
  · exact hs.elim

theorem s_idiv (hd : decode d.2.1 pc = .ok (.idiv, 1)) : xSnd G d pc (i_iiz (fun x y => x / y)) 1 := by
  intro P Q K hP hK l st h b hs
  unfold i_iiz at hs
  split at hs
  · obtain ⟨hne, hs⟩ := hs
    exact x_pure (fun h1 _ => ok_cons (v := Value.int _) trivial (ok_tl (ok_tl h1))) (fun h1 h2 h3 _ _ k => lv_idiv h1 h2 hd hne k) (hK _ _ _ _ hs)
  · exact hs.elim

theorem s_irem (hd : decode d.2.1 pc = .ok (.irem, 1)) : xSnd G d pc (i_iiz jRem) 1 := by
  intro P Q K hP hK l st h b hs
  unfold i_iiz at hs
  split at hs
  · obtain ⟨hne, hs⟩ := hs
    exact x_pure (fun h1 _ => ok_cons (v := Value.int _) trivial (ok_tl (ok_tl h1))) (fun h1 h2 h3 _ _ k => lv_irem h1 h2 hd hne k) (hK _ _ _ _ hs)
  · exact hs.elim

theorem s_ladd (hd : decode d.2.1 pc = .ok (.ladd, 1)) : xSnd G d pc (i_ll (fun x y => x + y)) 1 := by
  intro P Q K hP hK l st h b hs
  unfold i_ll at hs
  split at hs
  · skip
    exact x_pure (fun h1 _ => ok_cons (v := Value.long _) trivial (ok_tl (ok_tl h1))) (fun h1 h2 h3 _ _ k => lv_ladd h1 h2 hd k) (hK _ _ _ _ hs)
  · exact hs.elim

theorem s_lsub (hd : decode d.2.1 pc = .ok (.lsub, 1)) : xSnd G d pc (i_ll (fun x y => x - y)) 1 := by
  intro P Q K hP hK l st h b hs
  unfold i_ll at hs
  split at hs
  · skip
    exact x_pure (fun h1 _ => ok_cons (v := Value.long _) trivial (ok_tl (ok_tl h1))) (fun h1 h2 h3 _ _ k => lv_lsub h1 h2 hd k) (hK _ _ _ _ hs)
  · exact hs.elim

theorem s_lmul (hd : decode d.2.1 pc = .ok (.lmul, 1)) : xSnd G d pc (i_ll (fun x y => x * y)) 1 := by
  intro P Q K hP hK l st h b hs
  unfold i_ll at hs
  split at hs
  · skip
    exact x_pure (fun h1 _ => ok_cons (v := Value.long _) trivial (ok_tl (ok_tl h1))) (fun h1 h2 h3 _ _ k => lv_lmul h1 h2 hd k) (hK _ _ _ _ hs)
  · exact hs.elim

theorem s_land (hd : decode d.2.1 pc = .ok (.land, 1)) : xSnd G d pc (i_ll (fun x y => x &&& y)) 1 := by
  intro P Q K hP hK l st h b hs
  unfold i_ll at hs
  split at hs
  · skip
    exact x_pure (fun h1 _ => ok_cons (v := Value.long _) trivial (ok_tl (ok_tl h1))) (fun h1 h2 h3 _ _ k => lv_land h1 h2 hd k) (hK _ _ _ _ hs)
  · exact hs.elim

theorem s_lor (hd : decode d.2.1 pc = .ok (.lor, 1)) : xSnd G d pc (i_ll (fun x y => x ||| y)) 1 := by
  intro P Q K hP hK l st h b hs
  unfold i_ll at hs
  split at hs
  · skip
    exact x_pure (fun h1 _ => ok_cons (v := Value.long _) trivial (ok_tl (ok_tl h1))) (fun h1 h2 h3 _ _ k => lv_lor h1 h2 hd k) (hK _ _ _ _ hs)
  · exact hs.elim

theorem s_lxor (hd : decode d.2.1 pc = .ok (.lxor, 1)) : xSnd G d pc (i_ll (fun x y => x ^^^ y)) 1 := by
  intro P Q K hP hK l st h b hs
  unfold i_ll at hs
  split at hs
  · skip
    exact x_pure (fun h1 _ => ok_cons (v := Value.long _) trivial (ok_tl (ok_tl h1))) (fun h1 h2 h3 _ _ k => lv_lxor h1 h2 hd k) (hK _ _ _ _ hs)
  · exact hs.elim

theorem s_ldiv (hd : decode d.2.1 pc = .ok (.ldiv, 1)) : xSnd G d pc (i_llz (fun x y => x / y)) 1 := by
  intro P Q K hP hK l st h b hs
  unfold i_llz at hs
  split at hs
  · obtain ⟨hne, hs⟩ := hs
    exact x_pure (fun h1 _ => ok_cons (v := Value.long _) trivial (ok_tl (ok_tl h1))) (fun h1 h2 h3 _ _ k => lv_ldiv h1 h2 hd hne k) (hK _ _ _ _ hs)
  · exact hs.elim

theorem s_lrem (hd : decode d.2.1 pc = .ok (.lrem, 1)) : xSnd G d pc (i_llz jLrem) 1 := by
  intro P Q K hP hK l st h b hs
  unfold i_llz at hs
  split at hs
  · obtain ⟨hne, hs⟩ := hs
    exact x_pure (fun h1 _ => ok_cons (v := Value.long _) trivial (ok_tl (ok_tl h1))) (fun h1 h2 h3 _ _ k => lv_lrem h1 h2 hd hne k) (hK _ _ _ _ hs)
  · exact hs.elim

theorem s_lcmp (hd : decode d.2.1 pc = .ok (.lcmp, 1)) : xSnd G d pc (i_lli lg_cmp) 1 := by
  intro P Q K hP hK l st h b hs
  unfold i_lli at hs
  split at hs
  · skip
    exact x_pure (fun h1 _ => ok_cons (v := Value.int _) trivial (ok_tl (ok_tl h1))) (fun h1 h2 h3 _ _ k => W.lcmp h1 h2 hd k) (hK _ _ _ _ hs)
  · exact hs.elim

theorem s_lshl (hd : decode d.2.1 pc = .ok (.lshl, 1)) : xSnd G d pc (i_li jLshl) 1 := by
  intro P Q K hP hK l st h b hs
  unfold i_li at hs
  split at hs
  · skip
    exact x_pure (fun h1 _ => ok_cons (v := Value.long _) trivial (ok_tl (ok_tl h1))) (fun h1 h2 h3 _ _ k => lv_lshl h1 h2 hd rfl k) (hK _ _ _ _ hs)
  · exact hs.elim

theorem s_lshr (hd : decode d.2.1 pc = .ok (.lshr, 1)) : xSnd G d pc (i_li jLshr) 1 := by
  intro P Q K hP hK l st h b hs
  unfold i_li at hs
  split at hs
  · skip
    exact x_pure (fun h1 _ => ok_cons (v := Value.long _) trivial (ok_tl (ok_tl h1))) (fun h1 h2 h3 _ _ k => lv_lshr h1 h2 hd rfl k) (hK _ _ _ _ hs)
  · exact hs.elim

theorem s_lushr (hd : decode d.2.1 pc = .ok (.lushr, 1)) : xSnd G d pc (i_li jLushr) 1 := by
  intro P Q K hP hK l st h b hs
  unfold i_li at hs
  split at hs
  · skip
    exact x_pure (fun h1 _ => ok_cons (v := Value.long _) trivial (ok_tl (ok_tl h1))) (fun h1 h2 h3 _ _ k => lv_lushr h1 h2 hd rfl k) (hK _ _ _ _ hs)
  · exact hs.elim

theorem s_ineg (hd : decode d.2.1 pc = .ok (.ineg, 1)) : xSnd G d pc (i_i (fun x => -x)) 1 := by
  intro P Q K hP hK l st h b hs
  unfold i_i at hs
  split at hs
  · skip
    exact x_pure (fun h1 _ => ok_cons (v := Value.int _) trivial (ok_tl h1)) (fun h1 h2 h3 _ _ k => lv_ineg h1 h2 hd k) (hK _ _ _ _ hs)
  · exact hs.elim

theorem s_i2b (hd : decode d.2.1 pc = .ok (.i2b, 1)) : xSnd G d pc (i_i jI2b) 1 := by
  intro P Q K hP hK l st h b hs
  unfold i_i at hs
  split at hs
  · skip
    exact x_pure (fun h1 _ => ok_cons (v := Value.int _) trivial (ok_tl h1)) (fun h1 h2 h3 _ _ k => lv_i2b h1 h2 hd rfl k) (hK _ _ _ _ hs)
  · exact hs.elim

theorem s_i2s (hd : decode d.2.1 pc = .ok (.i2s, 1)) : xSnd G d pc (i_i jI2s) 1 := by
  intro P Q K hP hK l st h b hs
  unfold i_i at hs
  split at hs
  · skip
    exact x_pure (fun h1 _ => ok_cons (v := Value.int _) trivial (ok_tl h1)) (fun h1 h2 h3 _ _ k => lv_i2s h1 h2 hd rfl k) (hK _ _ _ _ hs)
  · exact hs.elim

theorem s_i2l (hd : decode d.2.1 pc = .ok (.i2l, 1)) : xSnd G d pc (i_i2l) 1 := by
  intro P Q K hP hK l st h b hs
  unfold i_i2l at hs
  split at hs
  · skip
    exact x_pure (fun h1 _ => ok_cons (v := Value.long _) trivial (ok_tl h1)) (fun h1 h2 h3 _ _ k => lv_i2l h1 h2 hd rfl k) (hK _ _ _ _ hs)
  · exact hs.elim

theorem s_l2i (hd : decode d.2.1 pc = .ok (.l2i, 1)) : xSnd G d pc (i_l2i) 1 := by
  intro P Q K hP hK l st h b hs
  unfold i_l2i at hs
  split at hs
  · skip
    exact x_pure (fun h1 _ => ok_cons (v := Value.int _) trivial (ok_tl h1)) (fun h1 h2 h3 _ _ k => lv_l2i h1 h2 hd rfl k) (hK _ _ _ _ hs)
  · exact hs.elim

theorem s_i2d (hd : decode d.2.1 pc = .ok (.i2d, 1)) : xSnd G d pc (i_i2d) 1 := by
  intro P Q K hP hK l st h b hs
  unfold i_i2d at hs
  split at hs
  · skip
    exact x_pure (fun h1 _ => ok_cons (v := Value.double _) trivial (ok_tl h1)) (fun h1 h2 h3 _ _ k => lv_i2d h1 h2 hd k) (hK _ _ _ _ hs)
  · exact hs.elim

theorem s_i2f (hd : decode d.2.1 pc = .ok (.i2f, 1)) : xSnd G d pc (i_i2f) 1 := by
  intro P Q K hP hK l st h b hs
  unfold i_i2f at hs
  split at hs
  · skip
    exact x_pure (fun h1 _ => ok_cons (v := Value.float _) trivial (ok_tl h1)) (fun h1 h2 h3 _ _ k => lv_i2f h1 h2 hd k) (hK _ _ _ _ hs)
  · exact hs.elim

theorem s_l2d (hd : decode d.2.1 pc = .ok (.l2d, 1)) : xSnd G d pc (i_l2d) 1 := by
  intro P Q K hP hK l st h b hs
  unfold i_l2d at hs
  split at hs
  · skip
    exact x_pure (fun h1 _ => ok_cons (v := Value.double _) trivial (ok_tl h1)) (fun h1 h2 h3 _ _ k => lv_l2d h1 h2 hd k) (hK _ _ _ _ hs)
  · exact hs.elim

theorem s_d2i (hd : decode d.2.1 pc = .ok (.d2i, 1)) : xSnd G d pc (i_d2i) 1 := by
  intro P Q K hP hK l st h b hs
  unfold i_d2i at hs
  split at hs
  · skip
    exact x_pure (fun h1 _ => ok_cons (v := Value.int _) trivial (ok_tl h1)) (fun h1 h2 h3 _ _ k => lv_d2i h1 h2 hd k) (hK _ _ _ _ hs)
  · exact hs.elim

theorem s_dcmp {op : CmpOp} (hd : decode d.2.1 pc = .ok (.dcmp op, 1)) : xSnd G d pc (i_ddi (fun x y => Op.cmpValue (FP.dcmp x y) op)) 1 := by
  intro P Q K hP hK l st h b hs
  unfold i_ddi at hs
  split at hs
  · skip
    exact x_pure (fun h1 _ => ok_cons (v := Value.int _) trivial (ok_tl (ok_tl h1))) (fun h1 h2 h3 _ _ k => lv_dcmp h1 h2 hd k) (hK _ _ _ _ hs)
  · exact hs.elim

theorem s_dup (hd : decode d.2.1 pc = .ok (.dup, 1)) : xSnd G d pc (i_dup) 1 := by
  intro P Q K hP hK l st h b hs
  unfold i_dup at hs
  split at hs
  · obtain ⟨hne, hs⟩ := hs
    exact x_pure (fun h1 _ => ok_cons (ok_hd h1) h1) (fun h1 h2 h3 _ _ k => lv_dup h1 h2 hd (by rw [xCv_cat]; exact hne) k) (hK _ _ _ _ hs)
  · exact hs.elim

theorem s_dup2w (hd : decode d.2.1 pc = .ok (.dup2, 1)) : xSnd G d pc (i_dup2w) 1 := by
  intro P Q K hP hK l st h b hs
  unfold i_dup2w at hs
  split at hs
  · obtain ⟨hne, hs⟩ := hs
    exact x_pure (fun h1 _ => ok_cons (ok_hd h1) h1) (fun h1 h2 h3 _ _ k => lv_dup2_2 h1 h2 hd (by rw [xCv_cat]; exact hne) k) (hK _ _ _ _ hs)
  · exact hs.elim

theorem s_pop (hd : decode d.2.1 pc = .ok (.pop, 1)) : xSnd G d pc (i_pop) 1 := by
  intro P Q K hP hK l st h b hs
  unfold i_pop at hs
  split at hs
  · obtain ⟨hne, hs⟩ := hs
    exact x_pure (fun h1 _ => ok_tl h1) (fun h1 h2 h3 _ _ k => lv_pop h1 h2 hd (by rw [xCv_cat]; exact hne) k) (hK _ _ _ _ hs)
  · exact hs.elim

theorem s_pop2 (hd : decode d.2.1 pc = .ok (.pop2, 1)) : xSnd G d pc (i_pop2) 1 := by
  intro P Q K hP hK l st h b hs
  unfold i_pop2 at hs
  split at hs
  · obtain ⟨hne, hs⟩ := hs
    exact x_pure (fun h1 _ => ok_tl h1) (fun h1 h2 h3 _ _ k => lv_pop2_2 h1 h2 hd (by rw [xCv_cat]; exact hne) k) (hK _ _ _ _ hs)
  · exact hs.elim

theorem s_dup2 (hd : decode d.2.1 pc = .ok (.dup2, 1)) : xSnd G d pc i_dup2 1 := by
  intro P Q K hP hK l st h b hs
  unfold i_dup2 at hs
  split at hs
  · obtain ⟨hne, hne2, hs⟩ := hs
    exact x_pure (fun h1 _ => ok_cons (ok_hd h1) (ok_cons (ok_hd (ok_tl h1)) h1)) (fun h1 h2 h3 _ _ k => lv_dup2_11 h1 h2 hd (by rw [xCv_cat]; exact hne) (by rw [xCv_cat]; exact hne2) k) (hK _ _ _ _ hs)
  · exact hs.elim
theorem s_pushG {v : Value} {len : Nat} (hv : ∀ ad, xCv ad v = v) (hk : ∀ h, xOkV h v) (row : ∀ {p : Program} {e : Env} {R : Room} {s : State} {m : MethodId} {args : Array Value} {below : List Frame} {meth : Method} {c : Code} {H : Heap} {locs : List Loc} {cells slots : Nat} {QF : State → Prop} {ls : Array Slot} {rest : List Value},
      p.tables.exec = Jvm.exec → c.code = d.2.1 → (∃ s0 d0, s = s0.setDrawn d0 ∧ xCx G d p R s0 m args meth c) → W p G.l e R s m args below meth c H locs cells slots QF (F0 m (pc + len) ls (v :: rest)) → W p G.l e R s m args below meth c H locs cells slots QF (F0 m pc ls rest)) : xSnd G d pc (i_push v) len := by
  intro P Q K hP hK l st h b hs
  refine x_pure (fun h1 _ => ok_cons (hk h) h1) (fun {_ _ _ _ _ _ _ _ _ _ _ _ _ _ _ ad} h1 h2 h3 _ h5 k => row h1 h2 h5 ?_) (hK _ _ _ _ hs)
  have k' := k
  rw [List.map_cons, hv ad] at k'
  exact k'
theorem s_iconst {n : Int} {v : Int32} (hd : decode d.2.1 pc = .ok (.iconst n, 1)) (hv : Int32.ofInt n = v) : xSnd G d pc (i_push (.int v)) 1 := s_pushG (fun _ => rfl) (fun _ => trivial) (fun h1 h2 _ k => lv_iconst h1 h2 hd hv k)
theorem s_bipush {n : Int} {v : Int32} (hd : decode d.2.1 pc = .ok (.bipush n, 2)) (hv : (Int8.ofInt n).toInt32 = v) : xSnd G d pc (i_push (.int v)) 2 := s_pushG (fun _ => rfl) (fun _ => trivial) (fun h1 h2 _ k => lv_bipush h1 h2 hd hv k)
theorem s_sipush {n : Int} {v : Int32} (hd : decode d.2.1 pc = .ok (.sipush n, 3)) (hv : (Int16.ofInt n).toInt32 = v) : xSnd G d pc (i_push (.int v)) 3 := s_pushG (fun _ => rfl) (fun _ => trivial) (fun h1 h2 _ k => lv_sipush h1 h2 hd hv k)
theorem s_lconst {n : Fin 2} {v : Int64} (hd : decode d.2.1 pc = .ok (.lconst n, 1)) (hv : Int64.ofNat (n : Nat) = v) : xSnd G d pc (i_push (.long v)) 1 := s_pushG (fun _ => rfl) (fun _ => trivial) (fun h1 h2 _ k => lv_lconst h1 h2 hd hv k)
theorem s_dconst0 (hd : decode d.2.1 pc = .ok (.dconst 0, 1)) : xSnd G d pc (i_push (.double FP.dconst0)) 1 := s_pushG (fun _ => rfl) (fun _ => trivial) (fun h1 h2 _ k => lv_dconst0 h1 h2 hd k)
theorem s_dconst1 (hd : decode d.2.1 pc = .ok (.dconst 1, 1)) : xSnd G d pc (i_push (.double FP.dconst1)) 1 := s_pushG (fun _ => rfl) (fun _ => trivial) (fun h1 h2 _ k => lv_dconst1 h1 h2 hd k)
theorem s_fconst0 (hd : decode d.2.1 pc = .ok (.fconst 0, 1)) : xSnd G d pc (i_push (.float FP.fconst0)) 1 := s_pushG (fun _ => rfl) (fun _ => trivial) (fun h1 h2 _ k => lv_fconst0 h1 h2 hd k)
/-- a word of the tables, here -/
theorem x_word {p : Program} {R : Room} {s : State} {m : MethodId} {args : Array Value} {meth : Method} {c : Code} (h : ∃ s0 d0, s = s0.setDrawn d0 ∧ xCx G d p R s0 m args meth c) {w : Cond} (hw : w ∈ G.tb) : w.before args s = true := by
  obtain ⟨s0, d0, rfl, C⟩ := h
  exact dr_words C.2.2.2.2.2.2.1 d0 w hw
theorem x_own {p : Program} {R : Room} {s : State} {m : MethodId} {args : Array Value} {meth : Method} {c : Code} (h : ∃ s0 d0, s = s0.setDrawn d0 ∧ xCx G d p R s0 m args meth c) : s.vm.findClass d.1.cls = some m.cls := by
  obtain ⟨s0, d0, rfl, C⟩ := h
  exact C.2.2.2.2.2.1
theorem s_ldc {i : Nat} {v : Int32} (hd : decode d.2.1 pc = .ok (.ldc i, 2)) (hw : Cond.constant d.1.cls i v ∈ G.tb) : xSnd G d pc (i_push (.int v)) 2 := s_pushG (fun _ => rfl) (fun _ => trivial) (fun h1 h2 h5 k => lv_ldc h1 h2 (x_own h5) (x_word h5 hw) hd k)
theorem s_ldcw {i : Nat} {v : Int32} (hd : decode d.2.1 pc = .ok (.ldc_w i, 3)) (hw : Cond.constant d.1.cls i v ∈ G.tb) : xSnd G d pc (i_push (.int v)) 3 := s_pushG (fun _ => rfl) (fun _ => trivial) (fun h1 h2 h5 k => lv_ldcw h1 h2 (x_own h5) (x_word h5 hw) hd k)
theorem s_ldc2 {i : Nat} {v : Int64} (hd : decode d.2.1 pc = .ok (.ldc2_w i, 3)) (hw : Cond.constantLong d.1.cls i v ∈ G.tb) : xSnd G d pc (i_push (.long v)) 3 := s_pushG (fun _ => rfl) (fun _ => trivial) (fun h1 h2 h5 k => lv_ldc2 h1 h2 (x_own h5) (x_word h5 hw) hd k)
theorem s_ldc2d {i : Nat} {v : UInt64} (hd : decode d.2.1 pc = .ok (.ldc2_w i, 3)) (hw : Cond.constantDouble d.1.cls i v ∈ G.tb) : xSnd G d pc (i_push (.double v)) 3 := s_pushG (fun _ => rfl) (fun _ => trivial) (fun h1 h2 h5 k => lv_ldc2d h1 h2 (x_own h5) (x_word h5 hw) hd k)
theorem s_iinc {i : Nat} {n : Int} {v : Int32} (hd : decode d.2.1 pc = .ok (.iinc i n, 3)) (hv : Int32.ofInt n = v) (hi : i < d.2.2.1) : xSnd G d pc (i_iinc i v) 3 := by
  intro P Q K hP hK l st h b hs
  unfold i_iinc at hs
  split at hs
  · rename_i x hx
    refine x_store (fun h1 h2 => ⟨h1, st_ok (v := .int (x + v)) trivial h2⟩) (fun {_ _ _ _ _ _ _ _ _ _ _ _ _ _ ls ad} h1 h2 h3 k => ?_) (hK _ _ _ _ hs)
    have h9 : lv_has ls d.2.2.1 ((i, Value.int x) :: l.map (xCvL ad)) := ⟨h3.1, h3.2.1, fun q hq => by
      rcases List.mem_cons.mp hq with rfl | hq
      · exact lk_at h3 hx
      · exact h3.2.2 q hq⟩
    refine lv_iinc h1 h2 hd h9 (k := 0) rfl (by rw [hv]) hi rfl (fun ls' hl' => k ls' ⟨hl'.1, hl'.2.1, fun q hq => ?_⟩)
    refine hl'.2.2 q ?_
    rw [List.map_cons, ← stf1_map] at hq
    rcases List.mem_cons.mp hq with rfl | hq
    · exact List.mem_cons_self
    · refine List.mem_cons_of_mem _ ?_
      rw [List.filter_cons]
      split
      · exact List.mem_cons_of_mem _ hq
      · exact hq
  · exact hs.elim
theorem x_jump {t : Nat} {l : xL} {ks : List Nat} {st st' : List Value} {h : xH} {b : Nat × Nat} {Q : xQ} (hv : (∀ v ∈ st, xOkV h v) → ∀ v ∈ st', xOkV h v)
    (step : ∀ {p : Program} {e : Env} {R : Room} {s : State} {m : MethodId} {args : Array Value} {below : List Frame} {meth : Method} {c : Code} {H : Heap} {locs : List Loc} {cells slots : Nat} {QF : State → Prop} {ls : Array Slot} {ad : Nat → Nat},
      p.tables.exec = Jvm.exec → c.code = d.2.1 → W p G.l e R s m args below meth c H locs cells slots QF (F0 m t ls (st'.map (xCv ad))) → W p G.l e R s m args below meth c H locs cells slots QF (F0 m pc ls (st.map (xCv ad))))
    (k : xOKat G d t (lkp l ks) st' h b Q) : xOKat G d pc l st h b Q := by
  intro p e R s m args below meth c ad0 ok0 C ad H locs cells slots ls d0 hd0 hl hr hok hz hc hsl hst hlo
  exact step C.1 C.2.1 (k p e R s m args below meth c ad0 ok0 C ad H locs cells slots ls d0 hd0 (lkp_has hl ks) hr hok hz hc hsl (hv hst) (lkp_ok hlo ks))

theorem s_goto {y t : Nat} {ks : List Nat} {off : Int} (hy : G.dat y = d) (hd : decode d.2.1 pc = .ok (.goto off, 3)) (ht : (pc : Int) + off = (t : Int)) : xSnd G d pc (i_goto y t ks) 3 := by
  intro P Q K hP hK l st h b hs
  have hs : P y t (lkp l ks) st h b Q := hs
  have hq := hP _ _ _ _ _ _ _ hs
  rw [hy] at hq
  exact x_jump (fun h => h) (fun h1 h2 k => lv_goto h1 h2 hd ht k) hq
/-- no instruction: the next block begins here -/
theorem s_fall {y t : Nat} {ks : List Nat} (hy : G.dat y = d) (ht : pc = t) : xSnd G d pc (i_goto y t ks) 0 := by
  intro P Q K hP hK l st h b hs
  have hs : P y t (lkp l ks) st h b Q := hs
  have hq := hP _ _ _ _ _ _ _ hs
  rw [hy] at hq
  subst ht
  exact x_jump (fun h => h) (fun h1 h2 k => k) hq
theorem s_ifG {c : Int32 → Prop} {y t : Nat} {ks : List Nat} (hy : G.dat y = d) (row : ∀ {p : Program} {e : Env} {R : Room} {s : State} {m : MethodId} {args : Array Value} {below : List Frame} {meth : Method} {cd : Code} {H : Heap} {locs : List Loc} {cells slots : Nat} {QF : State → Prop} {ls : Array Slot} {rest : List Value} {x : Int32},
      p.tables.exec = Jvm.exec → cd.code = d.2.1 → (c x → W p G.l e R s m args below meth cd H locs cells slots QF (F0 m t ls rest)) → (¬ c x → W p G.l e R s m args below meth cd H locs cells slots QF (F0 m (pc + 3) ls rest)) → W p G.l e R s m args below meth cd H locs cells slots QF (F0 m pc ls (.int x :: rest))) : xSnd G d pc (i_ifc c y t ks) 3 := by
  intro P Q K hP hK l st h b hs
  unfold i_ifc at hs
  split at hs
  · obtain ⟨h1, h2⟩ := hs
    intro p e R s m args below meth cd ad0 ok0 C ad H locs cells slots ls d0 hd0 hl hr hok hz hc hsl hst hlo
    refine row C.1 C.2.1 (fun hx => ?_) (fun hx => ?_)
    · have hq := hP _ _ _ _ _ _ _ (h1 hx)
      rw [hy] at hq
      exact hq p e R s m args below meth cd ad0 ok0 C ad H locs cells slots ls d0 hd0 (lkp_has hl ks) hr hok hz hc hsl (ok_tl hst) (lkp_ok hlo ks)
    · exact hK _ _ _ _ (h2 hx) p e R s m args below meth cd ad0 ok0 C ad H locs cells slots ls d0 hd0 hl hr hok hz hc hsl (ok_tl hst) hlo
  · exact hs.elim
theorem s_icmpG {c : Int32 → Int32 → Prop} {y t : Nat} {ks : List Nat} (hy : G.dat y = d) (row : ∀ {p : Program} {e : Env} {R : Room} {s : State} {m : MethodId} {args : Array Value} {below : List Frame} {meth : Method} {cd : Code} {H : Heap} {locs : List Loc} {cells slots : Nat} {QF : State → Prop} {ls : Array Slot} {rest : List Value} {x v : Int32},
      p.tables.exec = Jvm.exec → cd.code = d.2.1 → (c x v → W p G.l e R s m args below meth cd H locs cells slots QF (F0 m t ls rest)) → (¬ c x v → W p G.l e R s m args below meth cd H locs cells slots QF (F0 m (pc + 3) ls rest)) → W p G.l e R s m args below meth cd H locs cells slots QF (F0 m pc ls (.int v :: .int x :: rest))) : xSnd G d pc (i_icmp c y t ks) 3 := by
  intro P Q K hP hK l st h b hs
  unfold i_icmp at hs
  split at hs
  · obtain ⟨h1, h2⟩ := hs
    intro p e R s m args below meth cd ad0 ok0 C ad H locs cells slots ls d0 hd0 hl hr hok hz hc hsl hst hlo
    refine row C.1 C.2.1 (fun hx => ?_) (fun hx => ?_)
    · have hq := hP _ _ _ _ _ _ _ (h1 hx)
      rw [hy] at hq
      exact hq p e R s m args below meth cd ad0 ok0 C ad H locs cells slots ls d0 hd0 (lkp_has hl ks) hr hok hz hc hsl (ok_tl (ok_tl hst)) (lkp_ok hlo ks)
    · exact hK _ _ _ _ (h2 hx) p e R s m args below meth cd ad0 ok0 C ad H locs cells slots ls d0 hd0 hl hr hok hz hc hsl (ok_tl (ok_tl hst)) hlo
  · exact hs.elim

theorem s_if_eq {y t : Nat} {ks : List Nat} {off : Int} (hy : G.dat y = d) (hd : decode d.2.1 pc = .ok (.ifCond .eq off, 3)) (ht : (pc : Int) + off = (t : Int)) : xSnd G d pc (i_ifc (fun x => x = 0) y t ks) 3 := s_ifG hy (fun h1 h2 a b => lv_if_eq h1 h2 hd ht a b)
theorem s_if_ne {y t : Nat} {ks : List Nat} {off : Int} (hy : G.dat y = d) (hd : decode d.2.1 pc = .ok (.ifCond .ne off, 3)) (ht : (pc : Int) + off = (t : Int)) : xSnd G d pc (i_ifc (fun x => x ≠ 0) y t ks) 3 := s_ifG hy (fun h1 h2 a b => lv_if_ne h1 h2 hd ht a (fun h => b (fun z => z h)))
theorem s_if_lt {y t : Nat} {ks : List Nat} {off : Int} (hy : G.dat y = d) (hd : decode d.2.1 pc = .ok (.ifCond .lt off, 3)) (ht : (pc : Int) + off = (t : Int)) : xSnd G d pc (i_ifc (fun x => x < 0) y t ks) 3 := s_ifG hy (fun h1 h2 a b => lv_if_lt h1 h2 hd ht a b)
theorem s_if_ge {y t : Nat} {ks : List Nat} {off : Int} (hy : G.dat y = d) (hd : decode d.2.1 pc = .ok (.ifCond .ge off, 3)) (ht : (pc : Int) + off = (t : Int)) : xSnd G d pc (i_ifc (fun x => 0 ≤ x) y t ks) 3 := s_ifG hy (fun h1 h2 a b => lv_if_ge h1 h2 hd ht a b)
theorem s_if_gt {y t : Nat} {ks : List Nat} {off : Int} (hy : G.dat y = d) (hd : decode d.2.1 pc = .ok (.ifCond .gt off, 3)) (ht : (pc : Int) + off = (t : Int)) : xSnd G d pc (i_ifc (fun x => 0 < x) y t ks) 3 := s_ifG hy (fun h1 h2 a b => lv_if_gt h1 h2 hd ht a b)
theorem s_if_le {y t : Nat} {ks : List Nat} {off : Int} (hy : G.dat y = d) (hd : decode d.2.1 pc = .ok (.ifCond .le off, 3)) (ht : (pc : Int) + off = (t : Int)) : xSnd G d pc (i_ifc (fun x => x ≤ 0) y t ks) 3 := s_ifG hy (fun h1 h2 a b => lv_if_le h1 h2 hd ht a b)
theorem s_icmp_eq {y t : Nat} {ks : List Nat} {off : Int} (hy : G.dat y = d) (hd : decode d.2.1 pc = .ok (.if_icmp .eq off, 3)) (ht : (pc : Int) + off = (t : Int)) : xSnd G d pc (i_icmp (fun x v => x = v) y t ks) 3 := s_icmpG hy (fun h1 h2 a b => lv_icmp_eq h1 h2 hd ht a b)
theorem s_icmp_ne {y t : Nat} {ks : List Nat} {off : Int} (hy : G.dat y = d) (hd : decode d.2.1 pc = .ok (.if_icmp .ne off, 3)) (ht : (pc : Int) + off = (t : Int)) : xSnd G d pc (i_icmp (fun x v => x ≠ v) y t ks) 3 := s_icmpG hy (fun h1 h2 a b => lv_icmp_ne h1 h2 hd ht a (fun h => b (fun z => z h)))
theorem s_icmp_lt {y t : Nat} {ks : List Nat} {off : Int} (hy : G.dat y = d) (hd : decode d.2.1 pc = .ok (.if_icmp .lt off, 3)) (ht : (pc : Int) + off = (t : Int)) : xSnd G d pc (i_icmp (fun x v => x < v) y t ks) 3 := s_icmpG hy (fun h1 h2 a b => lv_icmp_lt h1 h2 hd ht a b)
theorem s_icmp_ge {y t : Nat} {ks : List Nat} {off : Int} (hy : G.dat y = d) (hd : decode d.2.1 pc = .ok (.if_icmp .ge off, 3)) (ht : (pc : Int) + off = (t : Int)) : xSnd G d pc (i_icmp (fun x v => v ≤ x) y t ks) 3 := s_icmpG hy (fun h1 h2 a b => lv_icmp_ge h1 h2 hd ht a b)
theorem s_icmp_gt {y t : Nat} {ks : List Nat} {off : Int} (hy : G.dat y = d) (hd : decode d.2.1 pc = .ok (.if_icmp .gt off, 3)) (ht : (pc : Int) + off = (t : Int)) : xSnd G d pc (i_icmp (fun x v => v < x) y t ks) 3 := s_icmpG hy (fun h1 h2 a b => lv_icmp_gt h1 h2 hd ht a b)
theorem s_icmp_le {y t : Nat} {ks : List Nat} {off : Int} (hy : G.dat y = d) (hd : decode d.2.1 pc = .ok (.if_icmp .le off, 3)) (ht : (pc : Int) + off = (t : Int)) : xSnd G d pc (i_icmp (fun x v => x ≤ v) y t ks) 3 := s_icmpG hy (fun h1 h2 a b => lv_icmp_le h1 h2 hd ht a b)
theorem s_dadd (hd : decode d.2.1 pc = .ok (.dadd, 1)) : xSnd G d pc (i_dd FP.dadd) 1 := by
  intro P Q K hP hK l st h b hs
  unfold i_dd at hs
  split at hs
  · intro p e R s m args below meth cd ad0 ok0 C ad H locs cells slots ls d0 hd0 hl hr hok hz hc hsl hst hlo
    refine lv_dadd_any hd0 lw_bits C.1 C.2.1 hd (fun r d1 hal hd1 => ?_)
    exact hK _ _ _ _ (hs r hal) p e R s m args below meth cd ad0 ok0 C ad H locs cells slots ls d1 hd1 hl hr hok hz hc hsl (ok_cons (v := Value.double r) trivial (ok_tl (ok_tl hst))) hlo
  · exact hs.elim
theorem s_dsub (hd : decode d.2.1 pc = .ok (.dsub, 1)) : xSnd G d pc (i_dd FP.dsub) 1 := by
  intro P Q K hP hK l st h b hs
  unfold i_dd at hs
  split at hs
  · intro p e R s m args below meth cd ad0 ok0 C ad H locs cells slots ls d0 hd0 hl hr hok hz hc hsl hst hlo
    refine lv_dsub_any hd0 lw_bits C.1 C.2.1 hd (fun r d1 hal hd1 => ?_)
    exact hK _ _ _ _ (hs r hal) p e R s m args below meth cd ad0 ok0 C ad H locs cells slots ls d1 hd1 hl hr hok hz hc hsl (ok_cons (v := Value.double r) trivial (ok_tl (ok_tl hst))) hlo
  · exact hs.elim
theorem s_dmul (hd : decode d.2.1 pc = .ok (.dmul, 1)) : xSnd G d pc (i_dd FP.dmul) 1 := by
  intro P Q K hP hK l st h b hs
  unfold i_dd at hs
  split at hs
  · intro p e R s m args below meth cd ad0 ok0 C ad H locs cells slots ls d0 hd0 hl hr hok hz hc hsl hst hlo
    refine lv_dmul_any hd0 lw_bits C.1 C.2.1 hd (fun r d1 hal hd1 => ?_)
    exact hK _ _ _ _ (hs r hal) p e R s m args below meth cd ad0 ok0 C ad H locs cells slots ls d1 hd1 hl hr hok hz hc hsl (ok_cons (v := Value.double r) trivial (ok_tl (ok_tl hst))) hlo
  · exact hs.elim
theorem s_ddiv (hd : decode d.2.1 pc = .ok (.ddiv, 1)) : xSnd G d pc (i_dd FP.ddiv) 1 := by
  intro P Q K hP hK l st h b hs
  unfold i_dd at hs
  split at hs
  · intro p e R s m args below meth cd ad0 ok0 C ad H locs cells slots ls d0 hd0 hl hr hok hz hc hsl hst hlo
    refine lv_ddiv_any hd0 lw_bits C.1 C.2.1 hd (fun r d1 hal hd1 => ?_)
    exact hK _ _ _ _ (hs r hal) p e R s m args below meth cd ad0 ok0 C ad H locs cells slots ls d1 hd1 hl hr hok hz hc hsl (ok_cons (v := Value.double r) trivial (ok_tl (ok_tl hst))) hlo
  · exact hs.elim
theorem s_fdiv (hd : decode d.2.1 pc = .ok (.fdiv, 1)) : xSnd G d pc (i_ff FP.fdiv) 1 := by
  intro P Q K hP hK l st h b hs
  unfold i_ff at hs
  split at hs
  · intro p e R s m args below meth cd ad0 ok0 C ad H locs cells slots ls d0 hd0 hl hr hok hz hc hsl hst hlo
    refine lv_fdiv_any hd0 lw_bits C.1 C.2.1 hd (fun r d1 hal hd1 => ?_)
    exact hK _ _ _ _ (hs r hal) p e R s m args below meth cd ad0 ok0 C ad H locs cells slots ls d1 hd1 hl hr hok hz hc hsl (ok_cons (v := Value.float r) trivial (ok_tl (ok_tl hst))) hlo
  · exact hs.elim
theorem s_f2d (hd : decode d.2.1 pc = .ok (.f2d, 1)) : xSnd G d pc i_f2d 1 := by
  intro P Q K hP hK l st h b hs
  unfold i_f2d at hs
  split at hs
  · intro p e R s m args below meth cd ad0 ok0 C ad H locs cells slots ls d0 hd0 hl hr hok hz hc hsl hst hlo
    refine lv_f2d_any hd0 lw_bits C.1 C.2.1 hd (fun r d1 hal hd1 => ?_)
    exact hK _ _ _ _ (hs r hal) p e R s m args below meth cd ad0 ok0 C ad H locs cells slots ls d1 hd1 hl hr hok hz hc hsl (ok_cons (v := Value.double r) trivial (ok_tl hst)) hlo
  · exact hs.elim
-- switches
theorem xSw_at {F : Nat → Prop} {x : Int32} : ∀ {ps : List (Int32 × Nat)} {t : Nat}, xSw F x ps t → (∃ q ∈ ps, q.1 = x ∧ F q.2) ∨ ((∀ q ∈ ps, q.1 ≠ x) ∧ F t)
  | [], t, h => Or.inr ⟨fun q hq => (by cases hq), h⟩
  | q :: r, t, h => by
    by_cases e : x = q.1
    · exact Or.inl ⟨q, List.mem_cons_self, e.symm, h.1 e⟩
    · rcases xSw_at (h.2 e) with ⟨z, h1, h2, h3⟩ | ⟨h1, h2⟩
      · exact Or.inl ⟨z, List.mem_cons_of_mem _ h1, h2, h3⟩
      · refine Or.inr ⟨fun z hz => ?_, h2⟩
        rcases List.mem_cons.mp hz with rfl | hz
        · exact fun w => e w.symm
        · exact h1 z hz
def xTsCk (pc : Nat) (lo hi : Int) (offs : Array Int) (ps : List (Int32 × Nat)) : Bool :=
  ps.all (fun q => decide (lo ≤ q.1.toInt) && decide (q.1.toInt ≤ hi) && (match offs[(q.1.toInt - lo).toNat]? with | some off => decide ((pc : Int) + off = (q.2 : Int)) | none => false)) &&
  (List.range (hi - lo + 1).toNat).all (fun j => match ps[j]? with | some q => decide (q.1.toInt = lo + j) | none => false)
theorem s_tsw {y t len : Nat} {ks : List Nat} {ps : List (Int32 × Nat)} {dflt lo hi : Int} {offs : Array Int} (hy : G.dat y = d) (hd : decode d.2.1 pc = .ok (.tableswitch dflt lo hi offs, len)) (ht : (pc : Int) + dflt = (t : Int)) (hck : xTsCk pc lo hi offs ps = true) : xSnd G d pc (i_sw ps y t ks) len := by
  intro P Q K hP hK l st h b hs
  unfold i_sw at hs
  split at hs
  · rename_i x r
    simp only [xTsCk, Bool.and_eq_true, List.all_eq_true, decide_eq_true_eq] at hck
    obtain ⟨hc1, hc2⟩ := hck
    intro p e R s m args below meth cd ad0 ok0 C ad H locs cells slots ls d0 hd0 hl hr hok hz hc hsl hst hlo
    rcases xSw_at hs with ⟨q, hq, rfl, hp⟩ | ⟨hno, hp⟩
    · obtain ⟨⟨g1, g2⟩, g3⟩ := hc1 q hq
      have hq9 := hP _ _ _ _ _ _ _ hp
      rw [hy] at hq9
      cases ho : offs[(q.1.toInt - lo).toNat]? with
      | none => rw [ho] at g3; cases g3
      | some off =>
        rw [ho] at g3
        exact lv_tableIn C.1 C.2.1 hd (Int.not_lt.mpr g1) (Int.not_lt.mpr g2) ho (of_decide_eq_true g3) (hq9 p e R s m args below meth cd ad0 ok0 C ad H locs cells slots ls d0 hd0 (lkp_has hl ks) hr hok hz hc hsl (ok_tl hst) (lkp_ok hlo ks))
    · have hq9 := hP _ _ _ _ _ _ _ hp
      rw [hy] at hq9
      refine lv_tableOut C.1 C.2.1 hd ?_ ht (hq9 p e R s m args below meth cd ad0 ok0 C ad H locs cells slots ls d0 hd0 (lkp_has hl ks) hr hok hz hc hsl (ok_tl hst) (lkp_ok hlo ks))
      refine Classical.byContradiction fun hn => ?_
      have hn1 : lo ≤ x.toInt := Int.not_lt.mp fun z => hn (Or.inl z)
      have hn2 : x.toInt ≤ hi := Int.not_lt.mp fun z => hn (Or.inr z)
      have g := hc2 (x.toInt - lo).toNat (List.mem_range.mpr (by omega))
      cases hpj : ps[(x.toInt - lo).toNat]? with
      | none => rw [hpj] at g; cases g
      | some q =>
        rw [hpj] at g
        have g := of_decide_eq_true g
        refine hno q (List.mem_of_getElem? hpj) (Int32.toInt_inj.mp ?_)
        rw [g]
        omega
  · exact hs.elim
def xLsCk (pc : Nat) (dflt : Int) (tb : Array (Int × Int)) (ps : List (Int32 × Nat)) (t : Nat) : Bool :=
  (tb.toList.zip (tb.toList.drop 1)).all (fun (a, next) => a.1 < next.1) && decide ((pc : Int) + dflt = (t : Int)) &&
  ps.all (fun q => decide ((pc : Int) + Op.lookupswitch.offset tb.toList dflt q.1.toInt = (q.2 : Int))) && tb.toList.all (fun w => ps.any (fun q => decide (q.1.toInt = w.1)))

end XJ
