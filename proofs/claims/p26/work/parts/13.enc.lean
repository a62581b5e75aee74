/-! ===== decoding by the written instruction: its bytes are compared, the decoder isn't run (printed by wip/enc.py) ===== -/
section
variable {α β : Type} {c : ByteArray} {p s t u : Nat}
theorem eq_bind {m : Reader DecodeError α} {f : α → Reader DecodeError β} {v : α} {r : β × Nat} (h : m c p = .ok (v, s)) (g : f v c s = .ok r) : (m >>= f) c p = .ok r := by
  have e0 : (m >>= f) c p = Except.bind (m c p) (fun x => f x.1 c x.2) := rfl
  rw [e0, h]
  exact g
theorem eq_and {a b : Bool} (h : (a && b) = true) : a = true ∧ b = true := by
  cases a <;> cases b <;> first | exact ⟨rfl, rfl⟩ | cases h
theorem eq_map {m : Reader DecodeError α} (f : α → β) {v : α} (h : m c p = .ok (v, s)) : (f <$> m) c p = .ok (f v, s) := by
  have e0 : (f <$> m) c p = Except.bind (m c p) (fun x => .ok (f x.1, x.2)) := rfl
  rw [e0, h]
  rfl
theorem eq_u1 {r : List UInt8} {a : UInt8} (hl : c.data.toList.drop p = a :: r) : (Reader.u1 : Reader DecodeError Nat) c p = .ok (a.toNat, p + 1) ∧ c.data.toList.drop (p + 1) = r := by
  have e0 : (Reader.u1 : Reader DecodeError Nat) c p = if h : p < c.size then .ok (c[p].toNat, p + 1) else .error (.truncated p) := by
    show (dite (p < c.size) _ _ : Reader DecodeError Nat) c p = _
    by_cases hp : p < c.size
    · rw [dif_pos hp, dif_pos hp]; rfl
    · rw [dif_neg hp, dif_neg hp]; rfl
  have hp : p < c.data.toList.length := by
    apply Nat.lt_of_not_le
    intro h
    rw [List.drop_eq_nil_of_le h] at hl
    cases hl
  have hs : p < c.size := hp
  have e : c[p]'hs = c.data.toList[p]'hp := by rw [Array.getElem_toList]; rfl
  rw [List.drop_eq_getElem_cons hp] at hl
  injection hl with h1 h2
  refine ⟨?_, h2⟩
  rw [e0, dif_pos hs, e, h1]
theorem eq_u2 {r : List UInt8} {a b : UInt8} (hl : c.data.toList.drop p = a :: b :: r) : (Reader.u2 : Reader DecodeError Nat) c p = .ok (a.toNat * 256 + b.toNat, p + 2) := by
  have h1 := eq_u1 hl
  have h2 := (eq_u1 h1.2).1
  unfold Reader.u2
  exact eq_bind h1.1 (eq_bind h2 rfl)
/-- what follows the opcode -/
def eFx (p : Nat) : { F : Nat → Decoder Instr // Decoder.instr p = (Reader.u1 >>= F) } := by
  constructor
  unfold Decoder.instr
  exact rfl
theorem eq_dec {n : Nat} {i : Instr} (h : Decoder.instr p c p = .ok (i, p + n)) : decode c p = .ok (i, n) := by
  unfold decode
  have e0 : ∀ (m : Reader DecodeError Instr) (w : ByteArray) (p : Nat), m.runAt w p = m w p := fun _ _ _ => rfl
  rw [e0, h]
  show (Except.ok (i, p + n - p) : Except DecodeError (Instr × Nat)) = _
  rw [Nat.add_sub_cancel_left]
theorem eq_ins {v : Nat} {r : Instr × Nat} (h : (Reader.u1 : Reader DecodeError Nat) c p = .ok (v, s)) (g : (eFx p).1 v c s = .ok r) : Decoder.instr p c p = .ok r := by
  rw [(eFx p).2]
  exact eq_bind h g
def eb0 (v n : Nat) : List UInt8 → Bool
  | a :: _ => Nat.beq n 1 && Nat.beq a.toNat v
  | _ => false
def eb1 (v x n : Nat) : List UInt8 → Bool
  | a :: b :: _ => Nat.beq n 2 && (Nat.beq a.toNat v && Nat.beq b.toNat x)
  | _ => false
def eb1s (v : Nat) (x : Int) (n : Nat) : List UInt8 → Bool
  | a :: b :: _ => Nat.beq n 2 && (Nat.beq a.toNat v && decide (Reader.signed 8 b.toNat = x))
  | _ => false
def eb2 (v x n : Nat) : List UInt8 → Bool
  | a :: b :: d :: _ => Nat.beq n 3 && (Nat.beq a.toNat v && Nat.beq (b.toNat * 256 + d.toNat) x)
  | _ => false
def eb2s (v : Nat) (x : Int) (n : Nat) : List UInt8 → Bool
  | a :: b :: d :: _ => Nat.beq n 3 && (Nat.beq a.toNat v && decide (Reader.signed 16 (b.toNat * 256 + d.toNat) = x))
  | _ => false
def eb2i (v x : Nat) (y : Int) (n : Nat) : List UInt8 → Bool
  | a :: b :: d :: _ => Nat.beq n 3 && (Nat.beq a.toNat v && (Nat.beq b.toNat x && decide (Reader.signed 8 d.toNat = y)))
  | _ => false
variable {l : List UInt8} {v x n : Nat} {i : Instr}
theorem eb0_ok (hl : c.data.toList.drop p = l) (h : eb0 v n l = true) (g : (eFx p).1 v c (p + 1) = .ok (i, p + 1)) : decode c p = .ok (i, n) := by
  match l, hl, h with
  | [], _, h => exact absurd h Bool.false_ne_true
  | a :: r, hl, h =>
    obtain ⟨h1, h2⟩ := eq_and h
    have h1 := Nat.eq_of_beq_eq_true h1
    have h2 := Nat.eq_of_beq_eq_true h2
    have hu := (eq_u1 hl).1
    rw [h2] at hu
    rw [h1]
    exact eq_dec (eq_ins hu g)
theorem eb1_ok (hl : c.data.toList.drop p = l) (h : eb1 v x n l = true) (g : (Reader.u1 : Reader DecodeError Nat) c (p + 1) = .ok (x, p + 2) → (eFx p).1 v c (p + 1) = .ok (i, p + 2)) : decode c p = .ok (i, n) := by
  match l, hl, h with
  | [], _, h => exact absurd h Bool.false_ne_true
  | [_], _, h => exact absurd h Bool.false_ne_true
  | a :: b :: r, hl, h =>
    obtain ⟨h1, h⟩ := eq_and h
    obtain ⟨h2, h3⟩ := eq_and h
    have h1 := Nat.eq_of_beq_eq_true h1
    have h2 := Nat.eq_of_beq_eq_true h2
    have h3 := Nat.eq_of_beq_eq_true h3
    have hu := eq_u1 hl
    have hw := (eq_u1 hu.2).1
    rw [h3] at hw
    have hu := hu.1
    rw [h2] at hu
    rw [h1]
    exact eq_dec (eq_ins hu (g hw))
theorem eb1s_ok {x : Int} (hl : c.data.toList.drop p = l) (h : eb1s v x n l = true) (g : (Reader.s1 : Reader DecodeError Int) c (p + 1) = .ok (x, p + 2) → (eFx p).1 v c (p + 1) = .ok (i, p + 2)) : decode c p = .ok (i, n) := by
  match l, hl, h with
  | [], _, h => exact absurd h Bool.false_ne_true
  | [_], _, h => exact absurd h Bool.false_ne_true
  | a :: b :: r, hl, h =>
    obtain ⟨h1, h⟩ := eq_and h
    obtain ⟨h2, h3⟩ := eq_and h
    have h1 := Nat.eq_of_beq_eq_true h1
    have h2 := Nat.eq_of_beq_eq_true h2
    have h3 := of_decide_eq_true h3
    have hu := eq_u1 hl
    have hw := eq_map (Reader.signed 8) (eq_u1 hu.2).1
    rw [h3] at hw
    have hu := hu.1
    rw [h2] at hu
    rw [h1]
    exact eq_dec (eq_ins hu (g hw))
theorem eb2_ok (hl : c.data.toList.drop p = l) (h : eb2 v x n l = true) (g : (Reader.u2 : Reader DecodeError Nat) c (p + 1) = .ok (x, p + 3) → (eFx p).1 v c (p + 1) = .ok (i, p + 3)) : decode c p = .ok (i, n) := by
  match l, hl, h with
  | [], _, h => exact absurd h Bool.false_ne_true
  | [_], _, h => exact absurd h Bool.false_ne_true
  | [_, _], _, h => exact absurd h Bool.false_ne_true
  | a :: b :: d :: r, hl, h =>
    obtain ⟨h1, h⟩ := eq_and h
    obtain ⟨h2, h3⟩ := eq_and h
    have h1 := Nat.eq_of_beq_eq_true h1
    have h2 := Nat.eq_of_beq_eq_true h2
    have h3 := Nat.eq_of_beq_eq_true h3
    have hu := eq_u1 hl
    have hw := eq_u2 hu.2
    rw [h3] at hw
    have hu := hu.1
    rw [h2] at hu
    rw [h1]
    exact eq_dec (eq_ins hu (g hw))
theorem eb2s_ok {x : Int} (hl : c.data.toList.drop p = l) (h : eb2s v x n l = true) (g : (Reader.s2 : Reader DecodeError Int) c (p + 1) = .ok (x, p + 3) → (eFx p).1 v c (p + 1) = .ok (i, p + 3)) : decode c p = .ok (i, n) := by
  match l, hl, h with
  | [], _, h => exact absurd h Bool.false_ne_true
  | [_], _, h => exact absurd h Bool.false_ne_true
  | [_, _], _, h => exact absurd h Bool.false_ne_true
  | a :: b :: d :: r, hl, h =>
    obtain ⟨h1, h⟩ := eq_and h
    obtain ⟨h2, h3⟩ := eq_and h
    have h1 := Nat.eq_of_beq_eq_true h1
    have h2 := Nat.eq_of_beq_eq_true h2
    have h3 := of_decide_eq_true h3
    have hu := eq_u1 hl
    have hw := eq_map (Reader.signed 16) (eq_u2 hu.2)
    rw [h3] at hw
    have hu := hu.1
    rw [h2] at hu
    rw [h1]
    exact eq_dec (eq_ins hu (g hw))
theorem eb2i_ok {y : Int} (hl : c.data.toList.drop p = l) (h : eb2i v x y n l = true) (g : (Reader.u1 : Reader DecodeError Nat) c (p + 1) = .ok (x, p + 2) → (Reader.s1 : Reader DecodeError Int) c (p + 2) = .ok (y, p + 3) → (eFx p).1 v c (p + 1) = .ok (i, p + 3)) : decode c p = .ok (i, n) := by
  match l, hl, h with
  | [], _, h => exact absurd h Bool.false_ne_true
  | [_], _, h => exact absurd h Bool.false_ne_true
  | [_, _], _, h => exact absurd h Bool.false_ne_true
  | a :: b :: d :: r, hl, h =>
    obtain ⟨h1, h⟩ := eq_and h
    obtain ⟨h2, h⟩ := eq_and h
    obtain ⟨h3, h4⟩ := eq_and h
    have h1 := Nat.eq_of_beq_eq_true h1
    have h2 := Nat.eq_of_beq_eq_true h2
    have h3 := Nat.eq_of_beq_eq_true h3
    have h4 := of_decide_eq_true h4
    have hu := eq_u1 hl
    have hw := eq_u1 hu.2
    have hz := eq_map (Reader.signed 8) (eq_u1 hw.2).1
    rw [h4] at hz
    have hw := hw.1
    rw [h3] at hw
    have hu := hu.1
    rw [h2] at hu
    rw [h1]
    exact eq_dec (eq_ins hu (g hw hz))
def ebic (x : Int) (n : Nat) (l : List UInt8) : Bool := decide (x = -1) && eb0 2 n l || decide (x = 0) && eb0 3 n l || decide (x = 1) && eb0 4 n l || decide (x = 2) && eb0 5 n l || decide (x = 3) && eb0 6 n l || decide (x = 4) && eb0 7 n l || decide (x = 5) && eb0 8 n l
/-- the bytes of an instruction; a switch has none -/
def eck : Instr → Nat → List UInt8 → Bool
  | .nop, n, l => eb0 0 n l
  | .aconst_null, n, l => eb0 1 n l
  | .iaload, n, l => eb0 46 n l
  | .laload, n, l => eb0 47 n l
  | .faload, n, l => eb0 48 n l
  | .daload, n, l => eb0 49 n l
  | .aaload, n, l => eb0 50 n l
  | .baload, n, l => eb0 51 n l
  | .caload, n, l => eb0 52 n l
  | .saload, n, l => eb0 53 n l
  | .iastore, n, l => eb0 79 n l
  | .lastore, n, l => eb0 80 n l
  | .fastore, n, l => eb0 81 n l
  | .dastore, n, l => eb0 82 n l
  | .aastore, n, l => eb0 83 n l
  | .bastore, n, l => eb0 84 n l
  | .castore, n, l => eb0 85 n l
  | .sastore, n, l => eb0 86 n l
  | .pop, n, l => eb0 87 n l
  | .pop2, n, l => eb0 88 n l
  | .dup, n, l => eb0 89 n l
  | .dup_x1, n, l => eb0 90 n l
  | .dup_x2, n, l => eb0 91 n l
  | .dup2, n, l => eb0 92 n l
  | .iadd, n, l => eb0 96 n l
  | .ladd, n, l => eb0 97 n l
  | .fadd, n, l => eb0 98 n l
  | .dadd, n, l => eb0 99 n l
  | .isub, n, l => eb0 100 n l
  | .lsub, n, l => eb0 101 n l
  | .fsub, n, l => eb0 102 n l
  | .dsub, n, l => eb0 103 n l
  | .imul, n, l => eb0 104 n l
  | .lmul, n, l => eb0 105 n l
  | .fmul, n, l => eb0 106 n l
  | .dmul, n, l => eb0 107 n l
  | .idiv, n, l => eb0 108 n l
  | .ldiv, n, l => eb0 109 n l
  | .fdiv, n, l => eb0 110 n l
  | .ddiv, n, l => eb0 111 n l
  | .irem, n, l => eb0 112 n l
  | .lrem, n, l => eb0 113 n l
  | .frem, n, l => eb0 114 n l
  | .drem, n, l => eb0 115 n l
  | .ineg, n, l => eb0 116 n l
  | .lneg, n, l => eb0 117 n l
  | .fneg, n, l => eb0 118 n l
  | .dneg, n, l => eb0 119 n l
  | .ishl, n, l => eb0 120 n l
  | .lshl, n, l => eb0 121 n l
  | .ishr, n, l => eb0 122 n l
  | .lshr, n, l => eb0 123 n l
  | .iushr, n, l => eb0 124 n l
  | .lushr, n, l => eb0 125 n l
  | .iand, n, l => eb0 126 n l
  | .land, n, l => eb0 127 n l
  | .ior, n, l => eb0 128 n l
  | .lor, n, l => eb0 129 n l
  | .ixor, n, l => eb0 130 n l
  | .lxor, n, l => eb0 131 n l
  | .i2l, n, l => eb0 133 n l
  | .i2f, n, l => eb0 134 n l
  | .i2d, n, l => eb0 135 n l
  | .l2i, n, l => eb0 136 n l
  | .l2f, n, l => eb0 137 n l
  | .l2d, n, l => eb0 138 n l
  | .f2i, n, l => eb0 139 n l
  | .f2l, n, l => eb0 140 n l
  | .f2d, n, l => eb0 141 n l
  | .d2i, n, l => eb0 142 n l
  | .d2l, n, l => eb0 143 n l
  | .d2f, n, l => eb0 144 n l
  | .i2b, n, l => eb0 145 n l
  | .i2c, n, l => eb0 146 n l
  | .i2s, n, l => eb0 147 n l
  | .lcmp, n, l => eb0 148 n l
  | .ireturn, n, l => eb0 172 n l
  | .lreturn, n, l => eb0 173 n l
  | .freturn, n, l => eb0 174 n l
  | .dreturn, n, l => eb0 175 n l
  | .areturn, n, l => eb0 176 n l
  | .return_, n, l => eb0 177 n l
  | .arraylength, n, l => eb0 190 n l
  | .athrow, n, l => eb0 191 n l
  | .iload_n k, n, l => eb0 (26 + k.val) n l
  | .lload_n k, n, l => eb0 (30 + k.val) n l
  | .fload_n k, n, l => eb0 (34 + k.val) n l
  | .dload_n k, n, l => eb0 (38 + k.val) n l
  | .aload_n k, n, l => eb0 (42 + k.val) n l
  | .istore_n k, n, l => eb0 (59 + k.val) n l
  | .lstore_n k, n, l => eb0 (63 + k.val) n l
  | .fstore_n k, n, l => eb0 (67 + k.val) n l
  | .dstore_n k, n, l => eb0 (71 + k.val) n l
  | .astore_n k, n, l => eb0 (75 + k.val) n l
  | .lconst k, n, l => eb0 (9 + k.val) n l
  | .fconst k, n, l => eb0 (11 + k.val) n l
  | .dconst k, n, l => eb0 (14 + k.val) n l
  | .iconst x, n, l => ebic x n l
  | .ldc x, n, l => eb1 18 x n l
  | .iload x, n, l => eb1 21 x n l
  | .lload x, n, l => eb1 22 x n l
  | .fload x, n, l => eb1 23 x n l
  | .dload x, n, l => eb1 24 x n l
  | .aload x, n, l => eb1 25 x n l
  | .istore x, n, l => eb1 54 x n l
  | .lstore x, n, l => eb1 55 x n l
  | .fstore x, n, l => eb1 56 x n l
  | .dstore x, n, l => eb1 57 x n l
  | .astore x, n, l => eb1 58 x n l
  | .bipush x, n, l => eb1s 16 x n l
  | .ldc_w x, n, l => eb2 19 x n l
  | .ldc2_w x, n, l => eb2 20 x n l
  | .getstatic x, n, l => eb2 178 x n l
  | .putstatic x, n, l => eb2 179 x n l
  | .getfield x, n, l => eb2 180 x n l
  | .putfield x, n, l => eb2 181 x n l
  | .invokevirtual x, n, l => eb2 182 x n l
  | .invokespecial x, n, l => eb2 183 x n l
  | .invokestatic x, n, l => eb2 184 x n l
  | .new x, n, l => eb2 187 x n l
  | .anewarray x, n, l => eb2 189 x n l
  | .checkcast x, n, l => eb2 192 x n l
  | .instanceof x, n, l => eb2 193 x n l
  | .sipush x, n, l => eb2s 17 x n l
  | .goto x, n, l => eb2s 167 x n l
  | .ifnull x, n, l => eb2s 198 x n l
  | .ifnonnull x, n, l => eb2s 199 x n l
  | .ifCond .eq x, n, l => eb2s 153 x n l
  | .ifCond .ne x, n, l => eb2s 154 x n l
  | .ifCond .lt x, n, l => eb2s 155 x n l
  | .ifCond .ge x, n, l => eb2s 156 x n l
  | .ifCond .gt x, n, l => eb2s 157 x n l
  | .ifCond .le x, n, l => eb2s 158 x n l
  | .if_icmp .eq x, n, l => eb2s 159 x n l
  | .if_icmp .ne x, n, l => eb2s 160 x n l
  | .if_icmp .lt x, n, l => eb2s 161 x n l
  | .if_icmp .ge x, n, l => eb2s 162 x n l
  | .if_icmp .gt x, n, l => eb2s 163 x n l
  | .if_icmp .le x, n, l => eb2s 164 x n l
  | .if_acmp .eq x, n, l => eb2s 165 x n l
  | .if_acmp .ne x, n, l => eb2s 166 x n l
  | .fcmp .l, n, l => eb0 149 n l
  | .fcmp .g, n, l => eb0 150 n l
  | .dcmp .l, n, l => eb0 151 n l
  | .dcmp .g, n, l => eb0 152 n l
  | .newarray .boolean, n, l => eb1 188 4 n l
  | .newarray .char, n, l => eb1 188 5 n l
  | .newarray .float, n, l => eb1 188 6 n l
  | .newarray .double, n, l => eb1 188 7 n l
  | .newarray .byte, n, l => eb1 188 8 n l
  | .newarray .short, n, l => eb1 188 9 n l
  | .newarray .int, n, l => eb1 188 10 n l
  | .newarray .long, n, l => eb1 188 11 n l
  | .iinc x y, n, l => eb2i 132 x y n l
  | _, _, _ => false
set_option maxRecDepth 30000 in
theorem eck_ok (i : Instr) (hl : c.data.toList.drop p = l) (h : eck i n l = true) : decode c p = .ok (i, n) := by
  cases i
  case nop => exact eb0_ok (v := 0) hl h rfl
  case aconst_null => exact eb0_ok (v := 1) hl h rfl
  case iaload => exact eb0_ok (v := 46) hl h rfl
  case laload => exact eb0_ok (v := 47) hl h rfl
  case faload => exact eb0_ok (v := 48) hl h rfl
  case daload => exact eb0_ok (v := 49) hl h rfl
  case aaload => exact eb0_ok (v := 50) hl h rfl
  case baload => exact eb0_ok (v := 51) hl h rfl
  case caload => exact eb0_ok (v := 52) hl h rfl
  case saload => exact eb0_ok (v := 53) hl h rfl
  case iastore => exact eb0_ok (v := 79) hl h rfl
  case lastore => exact eb0_ok (v := 80) hl h rfl
  case fastore => exact eb0_ok (v := 81) hl h rfl
  case dastore => exact eb0_ok (v := 82) hl h rfl
  case aastore => exact eb0_ok (v := 83) hl h rfl
  case bastore => exact eb0_ok (v := 84) hl h rfl
  case castore => exact eb0_ok (v := 85) hl h rfl
  case sastore => exact eb0_ok (v := 86) hl h rfl
  case pop => exact eb0_ok (v := 87) hl h rfl
  case pop2 => exact eb0_ok (v := 88) hl h rfl
  case dup => exact eb0_ok (v := 89) hl h rfl
  case dup_x1 => exact eb0_ok (v := 90) hl h rfl
  case dup_x2 => exact eb0_ok (v := 91) hl h rfl
  case dup2 => exact eb0_ok (v := 92) hl h rfl
  case iadd => exact eb0_ok (v := 96) hl h rfl
  case ladd => exact eb0_ok (v := 97) hl h rfl
  case fadd => exact eb0_ok (v := 98) hl h rfl
  case dadd => exact eb0_ok (v := 99) hl h rfl
  case isub => exact eb0_ok (v := 100) hl h rfl
  case lsub => exact eb0_ok (v := 101) hl h rfl
  case fsub => exact eb0_ok (v := 102) hl h rfl
  case dsub => exact eb0_ok (v := 103) hl h rfl
  case imul => exact eb0_ok (v := 104) hl h rfl
  case lmul => exact eb0_ok (v := 105) hl h rfl
  case fmul => exact eb0_ok (v := 106) hl h rfl
  case dmul => exact eb0_ok (v := 107) hl h rfl
  case idiv => exact eb0_ok (v := 108) hl h rfl
  case ldiv => exact eb0_ok (v := 109) hl h rfl
  case fdiv => exact eb0_ok (v := 110) hl h rfl
  case ddiv => exact eb0_ok (v := 111) hl h rfl
  case irem => exact eb0_ok (v := 112) hl h rfl
  case lrem => exact eb0_ok (v := 113) hl h rfl
  case frem => exact eb0_ok (v := 114) hl h rfl
  case drem => exact eb0_ok (v := 115) hl h rfl
  case ineg => exact eb0_ok (v := 116) hl h rfl
  case lneg => exact eb0_ok (v := 117) hl h rfl
  case fneg => exact eb0_ok (v := 118) hl h rfl
  case dneg => exact eb0_ok (v := 119) hl h rfl
  case ishl => exact eb0_ok (v := 120) hl h rfl
  case lshl => exact eb0_ok (v := 121) hl h rfl
  case ishr => exact eb0_ok (v := 122) hl h rfl
  case lshr => exact eb0_ok (v := 123) hl h rfl
  case iushr => exact eb0_ok (v := 124) hl h rfl
  case lushr => exact eb0_ok (v := 125) hl h rfl
  case iand => exact eb0_ok (v := 126) hl h rfl
  case land => exact eb0_ok (v := 127) hl h rfl
  case ior => exact eb0_ok (v := 128) hl h rfl
  case lor => exact eb0_ok (v := 129) hl h rfl
  case ixor => exact eb0_ok (v := 130) hl h rfl
  case lxor => exact eb0_ok (v := 131) hl h rfl
  case i2l => exact eb0_ok (v := 133) hl h rfl
  case i2f => exact eb0_ok (v := 134) hl h rfl
  case i2d => exact eb0_ok (v := 135) hl h rfl
  case l2i => exact eb0_ok (v := 136) hl h rfl
  case l2f => exact eb0_ok (v := 137) hl h rfl
  case l2d => exact eb0_ok (v := 138) hl h rfl
  case f2i => exact eb0_ok (v := 139) hl h rfl
  case f2l => exact eb0_ok (v := 140) hl h rfl
  case f2d => exact eb0_ok (v := 141) hl h rfl
  case d2i => exact eb0_ok (v := 142) hl h rfl
  case d2l => exact eb0_ok (v := 143) hl h rfl
  case d2f => exact eb0_ok (v := 144) hl h rfl
  case i2b => exact eb0_ok (v := 145) hl h rfl
  case i2c => exact eb0_ok (v := 146) hl h rfl
  case i2s => exact eb0_ok (v := 147) hl h rfl
  case lcmp => exact eb0_ok (v := 148) hl h rfl
  case ireturn => exact eb0_ok (v := 172) hl h rfl
  case lreturn => exact eb0_ok (v := 173) hl h rfl
  case freturn => exact eb0_ok (v := 174) hl h rfl
  case dreturn => exact eb0_ok (v := 175) hl h rfl
  case areturn => exact eb0_ok (v := 176) hl h rfl
  case return_ => exact eb0_ok (v := 177) hl h rfl
  case arraylength => exact eb0_ok (v := 190) hl h rfl
  case athrow => exact eb0_ok (v := 191) hl h rfl
  case iload_n k => exact (match k, h with | ⟨0, _⟩, h => eb0_ok (v := 26) hl h rfl | ⟨1, _⟩, h => eb0_ok (v := 27) hl h rfl | ⟨2, _⟩, h => eb0_ok (v := 28) hl h rfl | ⟨3, _⟩, h => eb0_ok (v := 29) hl h rfl | ⟨j + 4, hj⟩, _ => absurd hj (by omega))
  case lload_n k => exact (match k, h with | ⟨0, _⟩, h => eb0_ok (v := 30) hl h rfl | ⟨1, _⟩, h => eb0_ok (v := 31) hl h rfl | ⟨2, _⟩, h => eb0_ok (v := 32) hl h rfl | ⟨3, _⟩, h => eb0_ok (v := 33) hl h rfl | ⟨j + 4, hj⟩, _ => absurd hj (by omega))
  case fload_n k => exact (match k, h with | ⟨0, _⟩, h => eb0_ok (v := 34) hl h rfl | ⟨1, _⟩, h => eb0_ok (v := 35) hl h rfl | ⟨2, _⟩, h => eb0_ok (v := 36) hl h rfl | ⟨3, _⟩, h => eb0_ok (v := 37) hl h rfl | ⟨j + 4, hj⟩, _ => absurd hj (by omega))
  case dload_n k => exact (match k, h with | ⟨0, _⟩, h => eb0_ok (v := 38) hl h rfl | ⟨1, _⟩, h => eb0_ok (v := 39) hl h rfl | ⟨2, _⟩, h => eb0_ok (v := 40) hl h rfl | ⟨3, _⟩, h => eb0_ok (v := 41) hl h rfl | ⟨j + 4, hj⟩, _ => absurd hj (by omega))
  case aload_n k => exact (match k, h with | ⟨0, _⟩, h => eb0_ok (v := 42) hl h rfl | ⟨1, _⟩, h => eb0_ok (v := 43) hl h rfl | ⟨2, _⟩, h => eb0_ok (v := 44) hl h rfl | ⟨3, _⟩, h => eb0_ok (v := 45) hl h rfl | ⟨j + 4, hj⟩, _ => absurd hj (by omega))
  case istore_n k => exact (match k, h with | ⟨0, _⟩, h => eb0_ok (v := 59) hl h rfl | ⟨1, _⟩, h => eb0_ok (v := 60) hl h rfl | ⟨2, _⟩, h => eb0_ok (v := 61) hl h rfl | ⟨3, _⟩, h => eb0_ok (v := 62) hl h rfl | ⟨j + 4, hj⟩, _ => absurd hj (by omega))
  case lstore_n k => exact (match k, h with | ⟨0, _⟩, h => eb0_ok (v := 63) hl h rfl | ⟨1, _⟩, h => eb0_ok (v := 64) hl h rfl | ⟨2, _⟩, h => eb0_ok (v := 65) hl h rfl | ⟨3, _⟩, h => eb0_ok (v := 66) hl h rfl | ⟨j + 4, hj⟩, _ => absurd hj (by omega))
  case fstore_n k => exact (match k, h with | ⟨0, _⟩, h => eb0_ok (v := 67) hl h rfl | ⟨1, _⟩, h => eb0_ok (v := 68) hl h rfl | ⟨2, _⟩, h => eb0_ok (v := 69) hl h rfl | ⟨3, _⟩, h => eb0_ok (v := 70) hl h rfl | ⟨j + 4, hj⟩, _ => absurd hj (by omega))
  case dstore_n k => exact (match k, h with | ⟨0, _⟩, h => eb0_ok (v := 71) hl h rfl | ⟨1, _⟩, h => eb0_ok (v := 72) hl h rfl | ⟨2, _⟩, h => eb0_ok (v := 73) hl h rfl | ⟨3, _⟩, h => eb0_ok (v := 74) hl h rfl | ⟨j + 4, hj⟩, _ => absurd hj (by omega))
  case astore_n k => exact (match k, h with | ⟨0, _⟩, h => eb0_ok (v := 75) hl h rfl | ⟨1, _⟩, h => eb0_ok (v := 76) hl h rfl | ⟨2, _⟩, h => eb0_ok (v := 77) hl h rfl | ⟨3, _⟩, h => eb0_ok (v := 78) hl h rfl | ⟨j + 4, hj⟩, _ => absurd hj (by omega))
  case lconst k => exact (match k, h with | ⟨0, _⟩, h => eb0_ok (v := 9) hl h rfl | ⟨1, _⟩, h => eb0_ok (v := 10) hl h rfl | ⟨j + 2, hj⟩, _ => absurd hj (by omega))
  case fconst k => exact (match k, h with | ⟨0, _⟩, h => eb0_ok (v := 11) hl h rfl | ⟨1, _⟩, h => eb0_ok (v := 12) hl h rfl | ⟨2, _⟩, h => eb0_ok (v := 13) hl h rfl | ⟨j + 3, hj⟩, _ => absurd hj (by omega))
  case dconst k => exact (match k, h with | ⟨0, _⟩, h => eb0_ok (v := 14) hl h rfl | ⟨1, _⟩, h => eb0_ok (v := 15) hl h rfl | ⟨j + 2, hj⟩, _ => absurd hj (by omega))
  case iconst x =>
    have h9 : ebic x n l = true := h
    clear h
    simp only [ebic, Bool.or_eq_true, Bool.and_eq_true, decide_eq_true_eq] at h9
    rcases h9 with (((((⟨rfl, h9⟩ | ⟨rfl, h9⟩) | ⟨rfl, h9⟩) | ⟨rfl, h9⟩) | ⟨rfl, h9⟩) | ⟨rfl, h9⟩) | ⟨rfl, h9⟩
    · exact eb0_ok (v := 2) hl h9 rfl
    · exact eb0_ok (v := 3) hl h9 rfl
    · exact eb0_ok (v := 4) hl h9 rfl
    · exact eb0_ok (v := 5) hl h9 rfl
    · exact eb0_ok (v := 6) hl h9 rfl
    · exact eb0_ok (v := 7) hl h9 rfl
    · exact eb0_ok (v := 8) hl h9 rfl
  case ldc x => exact eb1_ok (v := 18) hl h (fun k => eq_bind (m := Reader.u1) (f := fun x => pure (Instr.ldc x)) k rfl)
  case iload x => exact eb1_ok (v := 21) hl h (fun k => eq_bind (m := Reader.u1) (f := fun x => pure (Instr.iload x)) k rfl)
  case lload x => exact eb1_ok (v := 22) hl h (fun k => eq_bind (m := Reader.u1) (f := fun x => pure (Instr.lload x)) k rfl)
  case fload x => exact eb1_ok (v := 23) hl h (fun k => eq_bind (m := Reader.u1) (f := fun x => pure (Instr.fload x)) k rfl)
  case dload x => exact eb1_ok (v := 24) hl h (fun k => eq_bind (m := Reader.u1) (f := fun x => pure (Instr.dload x)) k rfl)
  case aload x => exact eb1_ok (v := 25) hl h (fun k => eq_bind (m := Reader.u1) (f := fun x => pure (Instr.aload x)) k rfl)
  case istore x => exact eb1_ok (v := 54) hl h (fun k => eq_bind (m := Reader.u1) (f := fun x => pure (Instr.istore x)) k rfl)
  case lstore x => exact eb1_ok (v := 55) hl h (fun k => eq_bind (m := Reader.u1) (f := fun x => pure (Instr.lstore x)) k rfl)
  case fstore x => exact eb1_ok (v := 56) hl h (fun k => eq_bind (m := Reader.u1) (f := fun x => pure (Instr.fstore x)) k rfl)
  case dstore x => exact eb1_ok (v := 57) hl h (fun k => eq_bind (m := Reader.u1) (f := fun x => pure (Instr.dstore x)) k rfl)
  case astore x => exact eb1_ok (v := 58) hl h (fun k => eq_bind (m := Reader.u1) (f := fun x => pure (Instr.astore x)) k rfl)
  case bipush x => exact eb1s_ok (v := 16) hl h (fun k => eq_bind (m := Reader.s1) (f := fun x => pure (Instr.bipush x)) k rfl)
  case ldc_w x => exact eb2_ok (v := 19) hl h (fun k => eq_bind (m := Reader.u2) (f := fun x => pure (Instr.ldc_w x)) k rfl)
  case ldc2_w x => exact eb2_ok (v := 20) hl h (fun k => eq_bind (m := Reader.u2) (f := fun x => pure (Instr.ldc2_w x)) k rfl)
  case getstatic x => exact eb2_ok (v := 178) hl h (fun k => eq_bind (m := Reader.u2) (f := fun x => pure (Instr.getstatic x)) k rfl)
  case putstatic x => exact eb2_ok (v := 179) hl h (fun k => eq_bind (m := Reader.u2) (f := fun x => pure (Instr.putstatic x)) k rfl)
  case getfield x => exact eb2_ok (v := 180) hl h (fun k => eq_bind (m := Reader.u2) (f := fun x => pure (Instr.getfield x)) k rfl)
  case putfield x => exact eb2_ok (v := 181) hl h (fun k => eq_bind (m := Reader.u2) (f := fun x => pure (Instr.putfield x)) k rfl)
  case invokevirtual x => exact eb2_ok (v := 182) hl h (fun k => eq_bind (m := Reader.u2) (f := fun x => pure (Instr.invokevirtual x)) k rfl)
  case invokespecial x => exact eb2_ok (v := 183) hl h (fun k => eq_bind (m := Reader.u2) (f := fun x => pure (Instr.invokespecial x)) k rfl)
  case invokestatic x => exact eb2_ok (v := 184) hl h (fun k => eq_bind (m := Reader.u2) (f := fun x => pure (Instr.invokestatic x)) k rfl)
  case new x => exact eb2_ok (v := 187) hl h (fun k => eq_bind (m := Reader.u2) (f := fun x => pure (Instr.new x)) k rfl)
  case anewarray x => exact eb2_ok (v := 189) hl h (fun k => eq_bind (m := Reader.u2) (f := fun x => pure (Instr.anewarray x)) k rfl)
  case checkcast x => exact eb2_ok (v := 192) hl h (fun k => eq_bind (m := Reader.u2) (f := fun x => pure (Instr.checkcast x)) k rfl)
  case instanceof x => exact eb2_ok (v := 193) hl h (fun k => eq_bind (m := Reader.u2) (f := fun x => pure (Instr.instanceof x)) k rfl)
  case sipush x => exact eb2s_ok (v := 17) hl h (fun k => eq_bind (m := Reader.s2) (f := fun x => pure (Instr.sipush x)) k rfl)
  case goto x => exact eb2s_ok (v := 167) hl h (fun k => eq_bind (m := Reader.s2) (f := fun x => pure (Instr.goto x)) k rfl)
  case ifnull x => exact eb2s_ok (v := 198) hl h (fun k => eq_bind (m := Reader.s2) (f := fun x => pure (Instr.ifnull x)) k rfl)
  case ifnonnull x => exact eb2s_ok (v := 199) hl h (fun k => eq_bind (m := Reader.s2) (f := fun x => pure (Instr.ifnonnull x)) k rfl)
  case ifCond cd x =>
    cases cd
    case eq => exact eb2s_ok (v := 153) hl h (fun k => eq_bind (m := Reader.s2) (f := fun x => pure (Instr.ifCond .eq x)) k rfl)
    case ne => exact eb2s_ok (v := 154) hl h (fun k => eq_bind (m := Reader.s2) (f := fun x => pure (Instr.ifCond .ne x)) k rfl)
    case lt => exact eb2s_ok (v := 155) hl h (fun k => eq_bind (m := Reader.s2) (f := fun x => pure (Instr.ifCond .lt x)) k rfl)
    case ge => exact eb2s_ok (v := 156) hl h (fun k => eq_bind (m := Reader.s2) (f := fun x => pure (Instr.ifCond .ge x)) k rfl)
    case gt => exact eb2s_ok (v := 157) hl h (fun k => eq_bind (m := Reader.s2) (f := fun x => pure (Instr.ifCond .gt x)) k rfl)
    case le => exact eb2s_ok (v := 158) hl h (fun k => eq_bind (m := Reader.s2) (f := fun x => pure (Instr.ifCond .le x)) k rfl)
  case if_icmp cd x =>
    cases cd
    case eq => exact eb2s_ok (v := 159) hl h (fun k => eq_bind (m := Reader.s2) (f := fun x => pure (Instr.if_icmp .eq x)) k rfl)
    case ne => exact eb2s_ok (v := 160) hl h (fun k => eq_bind (m := Reader.s2) (f := fun x => pure (Instr.if_icmp .ne x)) k rfl)
    case lt => exact eb2s_ok (v := 161) hl h (fun k => eq_bind (m := Reader.s2) (f := fun x => pure (Instr.if_icmp .lt x)) k rfl)
    case ge => exact eb2s_ok (v := 162) hl h (fun k => eq_bind (m := Reader.s2) (f := fun x => pure (Instr.if_icmp .ge x)) k rfl)
    case gt => exact eb2s_ok (v := 163) hl h (fun k => eq_bind (m := Reader.s2) (f := fun x => pure (Instr.if_icmp .gt x)) k rfl)
    case le => exact eb2s_ok (v := 164) hl h (fun k => eq_bind (m := Reader.s2) (f := fun x => pure (Instr.if_icmp .le x)) k rfl)
  case if_acmp cd x =>
    cases cd
    case eq => exact eb2s_ok (v := 165) hl h (fun k => eq_bind (m := Reader.s2) (f := fun x => pure (Instr.if_acmp .eq x)) k rfl)
    case ne => exact eb2s_ok (v := 166) hl h (fun k => eq_bind (m := Reader.s2) (f := fun x => pure (Instr.if_acmp .ne x)) k rfl)
  case fcmp op =>
    cases op
    case l => exact eb0_ok (v := 149) hl h rfl
    case g => exact eb0_ok (v := 150) hl h rfl
  case dcmp op =>
    cases op
    case l => exact eb0_ok (v := 151) hl h rfl
    case g => exact eb0_ok (v := 152) hl h rfl
  case newarray t =>
    cases t
    case boolean => exact eb1_ok (v := 188) hl h (fun k => by
      show Decoder.newarray p c (p + 1) = _
      unfold Decoder.newarray
      exact eq_bind (m := Reader.u1) k rfl)
    case char => exact eb1_ok (v := 188) hl h (fun k => by
      show Decoder.newarray p c (p + 1) = _
      unfold Decoder.newarray
      exact eq_bind (m := Reader.u1) k rfl)
    case float => exact eb1_ok (v := 188) hl h (fun k => by
      show Decoder.newarray p c (p + 1) = _
      unfold Decoder.newarray
      exact eq_bind (m := Reader.u1) k rfl)
    case double => exact eb1_ok (v := 188) hl h (fun k => by
      show Decoder.newarray p c (p + 1) = _
      unfold Decoder.newarray
      exact eq_bind (m := Reader.u1) k rfl)
    case byte => exact eb1_ok (v := 188) hl h (fun k => by
      show Decoder.newarray p c (p + 1) = _
      unfold Decoder.newarray
      exact eq_bind (m := Reader.u1) k rfl)
    case short => exact eb1_ok (v := 188) hl h (fun k => by
      show Decoder.newarray p c (p + 1) = _
      unfold Decoder.newarray
      exact eq_bind (m := Reader.u1) k rfl)
    case int => exact eb1_ok (v := 188) hl h (fun k => by
      show Decoder.newarray p c (p + 1) = _
      unfold Decoder.newarray
      exact eq_bind (m := Reader.u1) k rfl)
    case long => exact eb1_ok (v := 188) hl h (fun k => by
      show Decoder.newarray p c (p + 1) = _
      unfold Decoder.newarray
      exact eq_bind (m := Reader.u1) k rfl)
  case iinc x y => exact eb2i_ok (v := 132) hl h (fun k k2 => eq_bind (m := Reader.u1) (f := fun x => Reader.s1 >>= fun y => pure (Instr.iinc x y)) k (eq_bind (m := Reader.s1) (f := fun y => pure (Instr.iinc x y)) k2 rfl))
  all_goals exact absurd (show false = true from h) Bool.false_ne_true
/-- a row of instructions, one behind another -/
def eLs : Nat → List (Nat × Instr × Nat) → List UInt8 → Bool
  | _, [], _ => true
  | p, r :: R, l => Nat.beq r.1 p && (eck r.2.1 r.2.2 l && eLs (p + r.2.2) R (l.drop r.2.2))
theorem eLs_ok : ∀ (R : List (Nat × Instr × Nat)) (p : Nat) (l : List UInt8), c.data.toList.drop p = l → eLs p R l = true → R.all (xDr c) = true
  | [], _, _, _, _ => rfl
  | r :: R, p, l, hl, h => by
    have h : (Nat.beq r.1 p && (eck r.2.1 r.2.2 l && eLs (p + r.2.2) R (l.drop r.2.2))) = true := h
    obtain ⟨h1, h⟩ := eq_and h
    obtain ⟨h2, h3⟩ := eq_and h
    have h1 := Nat.eq_of_beq_eq_true h1
    have hd := eck_ok r.2.1 hl h2
    rw [List.all_cons, Bool.and_eq_true]
    refine ⟨?_, eLs_ok R (p + r.2.2) _ ?_ h3⟩
    · unfold xDr
      rw [h1]
      exact decide_eq_true hd
    · subst hl
      simp only [List.drop_drop]
      first
        | done
        | (congr 1; omega)
/-- a long method's bytes by stretches: the tails have names -/
def eqB : List UInt8 → List UInt8 → Bool
  | [], [] => true
  | a :: l, b :: r => Nat.beq a.toNat b.toNat && eqB l r
  | _, _ => false
theorem eqB_ok : ∀ (l r : List UInt8), eqB l r = true → l = r
  | [], [], _ => rfl
  | a :: l, b :: r, h => by
    have h : (Nat.beq a.toNat b.toNat && eqB l r) = true := h
    obtain ⟨h1, h2⟩ := eq_and h
    have h1 : a = b := UInt8.toNat_inj.mp (Nat.eq_of_beq_eq_true h1)
    rw [h1, eqB_ok l r h2]
  | [], _ :: _, h => absurd (show false = true from h) Bool.false_ne_true
  | _ :: _, [], h => absurd (show false = true from h) Bool.false_ne_true
theorem drop_len : ∀ (A T : List UInt8), (A ++ T).drop A.length = T
  | [], _ => rfl
  | _ :: A, T => drop_len A T
theorem tk_step {L A T T' : List UInt8} {b m : Nat} (h : L.drop b = T) (e : T = A ++ T') (hl : A.length = m) : L.drop (b + m) = T' := by
  have k : L.drop (b + m) = (L.drop b).drop m := by
    simp only [List.drop_drop]
    first
      | done
      | (congr 1; omega)
  rw [k, h, e, ← hl]
  exact drop_len A T'
theorem eAllT {R : List (Nat × Instr × Nat)} {b : Nat} {T : List UInt8} (h0 : c.data.toList.drop b = T) (q : Nat) (h : eLs (b + q) R (T.drop q) = true) : R.all (xDr c) = true := by
  refine eLs_ok R (b + q) (T.drop q) ?_ h
  rw [← h0]
  simp only [List.drop_drop]
  first
    | done
    | (congr 1; omega)
theorem eAll {R : List (Nat × Instr × Nat)} (q : Nat) (h : eLs q R (c.data.toList.drop q) = true) : R.all (xDr c) = true := eLs_ok R q _ rfl h
end
