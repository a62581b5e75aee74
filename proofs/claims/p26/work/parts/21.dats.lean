/-! ===== printed by wip/gen.py: methods ===== -/
def RW1_0 : List (Nat × Instr × Nat) := [(0, .iload_n 1, 1), (1, .iload_n 2, 1), (2, .if_icmp .le 44, 3), (5, .new 43, 3), (8, .dup, 1), (9, .new 45, 3), (12, .dup, 1), (13, .invokespecial 47, 3), (16, .ldc 48, 2), (18, .invokevirtual 50, 3), (21, .iload_n 1, 1), (22, .invokevirtual 54, 3), (25, .ldc 57, 2), (27, .invokevirtual 50, 3), (30, .iload_n 2, 1), (31, .invokevirtual 54, 3)]
theorem D1_0 : RW1_0.all (xDr prog_35_method_30_code) = true := eAll 0 (by decide +kernel)
def RW1_1 : List (Nat × Instr × Nat) := [(34, .ldc 59, 2), (36, .invokevirtual 50, 3), (39, .invokevirtual 61, 3), (42, .invokespecial 65, 3), (45, .athrow, 1), (46, .iload_n 1, 1), (47, .ifCond .ge 12, 3), (50, .new 68, 3), (53, .dup, 1), (54, .iload_n 1, 1), (55, .invokespecial 70, 3), (58, .athrow, 1), (59, .iload_n 2, 1), (60, .iload_n 0, 1), (61, .if_icmp .le 12, 3), (64, .new 68, 3)]
theorem D1_1 : RW1_1.all (xDr prog_35_method_30_code) = true := eAll 34 (by decide +kernel)
def RW1_2 : List (Nat × Instr × Nat) := [(67, .dup, 1), (68, .iload_n 2, 1), (69, .invokespecial 70, 3), (72, .athrow, 1), (73, .return_, 1)]
theorem D1_2 : RW1_2.all (xDr prog_35_method_30_code) = true := eAll 67 (by decide +kernel)
def d_1 : xDt := (⟨"java/util/Arrays", "rangeCheck", "(III)V"⟩, prog_35_method_30_code, 3, none, 7, [])
def RW2_0 : List (Nat × Instr × Nat) := [(0, .lload_n 0, 1), (1, .lload_n 0, 1), (2, .iconst 1, 1), (3, .lushr, 1), (4, .ldc2_w 314, 3), (7, .land, 1), (8, .lsub, 1), (9, .lstore_n 0, 1), (10, .lload_n 0, 1), (11, .ldc2_w 316, 3), (14, .land, 1), (15, .lload_n 0, 1), (16, .iconst 2, 1), (17, .lushr, 1), (18, .ldc2_w 316, 3), (21, .land, 1)]
theorem D2_0 : RW2_0.all (xDr prog_22_method_50_code) = true := eAll 0 (by decide +kernel)
def RW2_1 : List (Nat × Instr × Nat) := [(22, .ladd, 1), (23, .lstore_n 0, 1), (24, .lload_n 0, 1), (25, .lload_n 0, 1), (26, .iconst 4, 1), (27, .lushr, 1), (28, .ladd, 1), (29, .ldc2_w 318, 3), (32, .land, 1), (33, .lstore_n 0, 1), (34, .lload_n 0, 1), (35, .lload_n 0, 1), (36, .bipush 8, 2), (38, .lushr, 1), (39, .ladd, 1), (40, .lstore_n 0, 1)]
theorem D2_1 : RW2_1.all (xDr prog_22_method_50_code) = true := eAll 22 (by decide +kernel)
def RW2_2 : List (Nat × Instr × Nat) := [(41, .lload_n 0, 1), (42, .lload_n 0, 1), (43, .bipush 16, 2), (45, .lushr, 1), (46, .ladd, 1), (47, .lstore_n 0, 1), (48, .lload_n 0, 1), (49, .lload_n 0, 1), (50, .bipush 32, 2), (52, .lushr, 1), (53, .ladd, 1), (54, .lstore_n 0, 1), (55, .lload_n 0, 1), (56, .l2i, 1), (57, .bipush 127, 2), (59, .iand, 1)]
theorem D2_2 : RW2_2.all (xDr prog_22_method_50_code) = true := eAll 41 (by decide +kernel)
def RW2_3 : List (Nat × Instr × Nat) := [(60, .ireturn, 1)]
theorem D2_3 : RW2_3.all (xDr prog_22_method_50_code) = true := eAll 60 (by decide +kernel)
def d_2 : xDt := (⟨"java/lang/Long", "bitCount", "(J)I"⟩, prog_22_method_50_code, 2, (some FieldType.int), 1, [])
def RW3_0 : List (Nat × Instr × Nat) := [(0, .lload_n 0, 1), (1, .l2i, 1), (2, .istore_n 2, 1), (3, .iload_n 2, 1), (4, .ifCond .ne 17, 3), (7, .bipush 32, 2), (9, .lload_n 0, 1), (10, .bipush 32, 2), (12, .lushr, 1), (13, .l2i, 1), (14, .invokestatic 311, 3), (17, .iadd, 1), (18, .goto 7, 3), (21, .iload_n 2, 1), (22, .invokestatic 311, 3), (25, .ireturn, 1)]
theorem D3_0 : RW3_0.all (xDr prog_22_method_49_code) = true := eAll 0 (by decide +kernel)
def d_3 : xDt := (⟨"java/lang/Long", "numberOfTrailingZeros", "(J)I"⟩, prog_22_method_49_code, 3, (some FieldType.int), 2, [])
def RW4_0 : List (Nat × Instr × Nat) := [(0, .iload_n 0, 1), (1, .iload_n 0, 1), (2, .iconst 1, 1), (3, .iushr, 1), (4, .ldc_w 265, 3), (7, .iand, 1), (8, .isub, 1), (9, .istore_n 0, 1), (10, .iload_n 0, 1), (11, .ldc_w 266, 3), (14, .iand, 1), (15, .iload_n 0, 1), (16, .iconst 2, 1), (17, .iushr, 1), (18, .ldc_w 266, 3), (21, .iand, 1)]
theorem D4_0 : RW4_0.all (xDr prog_21_method_49_code) = true := eAll 0 (by decide +kernel)
def RW4_1 : List (Nat × Instr × Nat) := [(22, .iadd, 1), (23, .istore_n 0, 1), (24, .iload_n 0, 1), (25, .iload_n 0, 1), (26, .iconst 4, 1), (27, .iushr, 1), (28, .iadd, 1), (29, .ldc_w 267, 3), (32, .iand, 1), (33, .istore_n 0, 1), (34, .iload_n 0, 1), (35, .iload_n 0, 1), (36, .bipush 8, 2), (38, .iushr, 1), (39, .iadd, 1), (40, .istore_n 0, 1)]
theorem D4_1 : RW4_1.all (xDr prog_21_method_49_code) = true := eAll 22 (by decide +kernel)
def RW4_2 : List (Nat × Instr × Nat) := [(41, .iload_n 0, 1), (42, .iload_n 0, 1), (43, .bipush 16, 2), (45, .iushr, 1), (46, .iadd, 1), (47, .istore_n 0, 1), (48, .iload_n 0, 1), (49, .bipush 63, 2), (51, .iand, 1), (52, .ireturn, 1)]
theorem D4_2 : RW4_2.all (xDr prog_21_method_49_code) = true := eAll 41 (by decide +kernel)
def d_4 : xDt := (⟨"java/lang/Integer", "bitCount", "(I)I"⟩, prog_21_method_49_code, 1, (some FieldType.int), 1, [])
def RW5_0 : List (Nat × Instr × Nat) := [(0, .iload_n 0, 1), (1, .iconst (-1), 1), (2, .ixor, 1), (3, .iload_n 0, 1), (4, .iconst 1, 1), (5, .isub, 1), (6, .iand, 1), (7, .istore_n 0, 1), (8, .iload_n 0, 1), (9, .ifCond .gt 8, 3), (12, .iload_n 0, 1), (13, .bipush 32, 2), (15, .iand, 1), (16, .ireturn, 1), (17, .iconst 1, 1), (18, .istore_n 1, 1)]
theorem D5_0 : RW5_0.all (xDr prog_21_method_48_code) = true := eAll 0 (by decide +kernel)
def RW5_1 : List (Nat × Instr × Nat) := [(19, .iload_n 0, 1), (20, .ldc_w 264, 3), (23, .if_icmp .le 11, 3), (26, .iinc 1 16, 3), (29, .iload_n 0, 1), (30, .bipush 16, 2), (32, .iushr, 1), (33, .istore_n 0, 1), (34, .iload_n 0, 1), (35, .sipush 256, 3), (38, .if_icmp .le 11, 3), (41, .iinc 1 8, 3), (44, .iload_n 0, 1), (45, .bipush 8, 2), (47, .iushr, 1), (48, .istore_n 0, 1)]
theorem D5_1 : RW5_1.all (xDr prog_21_method_48_code) = true := eAll 19 (by decide +kernel)
def RW5_2 : List (Nat × Instr × Nat) := [(49, .iload_n 0, 1), (50, .bipush 16, 2), (52, .if_icmp .le 10, 3), (55, .iinc 1 4, 3), (58, .iload_n 0, 1), (59, .iconst 4, 1), (60, .iushr, 1), (61, .istore_n 0, 1), (62, .iload_n 0, 1), (63, .iconst 4, 1), (64, .if_icmp .le 10, 3), (67, .iinc 1 2, 3), (70, .iload_n 0, 1), (71, .iconst 2, 1), (72, .iushr, 1), (73, .istore_n 0, 1)]
theorem D5_2 : RW5_2.all (xDr prog_21_method_48_code) = true := eAll 49 (by decide +kernel)
def RW5_3 : List (Nat × Instr × Nat) := [(74, .iload_n 1, 1), (75, .iload_n 0, 1), (76, .iconst 1, 1), (77, .iushr, 1), (78, .iadd, 1), (79, .ireturn, 1)]
theorem D5_3 : RW5_3.all (xDr prog_21_method_48_code) = true := eAll 74 (by decide +kernel)
def d_5 : xDt := (⟨"java/lang/Integer", "numberOfTrailingZeros", "(I)I"⟩, prog_21_method_48_code, 2, (some FieldType.int), 1, [])
def RW6_0 : List (Nat × Instr × Nat) := [(0, .iconst 0, 1), (1, .istore_n 2, 1), (2, .aload_n 0, 1), (3, .arraylength, 1), (4, .istore_n 3, 1), (5, .iload_n 2, 1), (6, .iload_n 3, 1), (7, .if_icmp .ge 13, 3), (10, .aload_n 0, 1), (11, .iload_n 2, 1), (12, .iload_n 1, 1), (13, .iastore, 1), (14, .iinc 2 1, 3), (17, .goto (-12), 3), (20, .return_, 1)]
theorem D6_0 : RW6_0.all (xDr prog_35_method_103_code) = true := eAll 0 (by decide +kernel)
def d_6 : xDt := (⟨"java/util/Arrays", "fill", "([II)V"⟩, prog_35_method_103_code, 4, none, 1, [])
def RW7_0 : List (Nat × Instr × Nat) := [(0, .aload_n 0, 1), (1, .getfield 9, 3), (4, .arraylength, 1), (5, .aload_n 0, 1), (6, .invokevirtual 335, 3), (9, .ishr, 1), (10, .ireturn, 1)]
theorem D7_0 : RW7_0.all (xDr prog_26_method_54_code) = true := eAll 0 (by decide +kernel)
def d_7 : xDt := (⟨"java/lang/String", "length", "()I"⟩, prog_26_method_54_code, 1, (some FieldType.int), 2, [])
def RW8_0 : List (Nat × Instr × Nat) := [(0, .aload_n 0, 1), (1, .invokevirtual 492, 3), (4, .ifCond .eq 12, 3), (7, .aload_n 0, 1), (8, .getfield 9, 3), (11, .iload_n 1, 1), (12, .invokestatic 495, 3), (15, .ireturn, 1), (16, .aload_n 0, 1), (17, .getfield 9, 3), (20, .iload_n 1, 1), (21, .invokestatic 498, 3), (24, .ireturn, 1)]
theorem D8_0 : RW8_0.all (xDr prog_26_method_56_code) = true := eAll 0 (by decide +kernel)
def d_8 : xDt := (⟨"java/lang/String", "charAt", "(I)C"⟩, prog_26_method_56_code, 2, (some FieldType.char), 4, [])
def RW9_0 : List (Nat × Instr × Nat) := [(0, .getstatic 38, 3), (3, .ifCond .eq 10, 3), (6, .aload_n 0, 1), (7, .getfield 15, 3), (10, .goto 4, 3), (13, .iconst 1, 1), (14, .ireturn, 1)]
theorem D9_0 : RW9_0.all (xDr prog_26_method_152_code) = true := eAll 0 (by decide +kernel)
def d_9 : xDt := (⟨"java/lang/String", "coder", "()B"⟩, prog_26_method_152_code, 1, (some FieldType.byte), 1, [])
def RW10_0 : List (Nat × Instr × Nat) := [(0, .getstatic 38, 3), (3, .ifCond .eq 14, 3), (6, .aload_n 0, 1), (7, .getfield 15, 3), (10, .ifCond .ne 7, 3), (13, .iconst 1, 1), (14, .goto 4, 3), (17, .iconst 0, 1), (18, .ireturn, 1)]
theorem D10_0 : RW10_0.all (xDr prog_26_method_154_code) = true := eAll 0 (by decide +kernel)
def d_10 : xDt := (⟨"java/lang/String", "isLatin1", "()Z"⟩, prog_26_method_154_code, 1, (some FieldType.boolean), 1, [])
def RW11_0 : List (Nat × Instr × Nat) := [(0, .iload_n 0, 1), (1, .iload_n 1, 1), (2, .getstatic 1053, 3), (5, .invokestatic 1059, 3), (8, .pop, 1), (9, .return_, 1)]
theorem D11_0 : RW11_0.all (xDr prog_26_method_155_code) = true := eAll 0 (by decide +kernel)
def d_11 : xDt := (⟨"java/lang/String", "checkIndex", "(II)V"⟩, prog_26_method_155_code, 2, none, 2, [])
def RW12_0 : List (Nat × Instr × Nat) := [(0, .iload_n 1, 1), (1, .aload_n 0, 1), (2, .arraylength, 1), (3, .invokestatic 9, 3), (6, .aload_n 0, 1), (7, .iload_n 1, 1), (8, .baload, 1), (9, .sipush 255, 3), (12, .iand, 1), (13, .i2c, 1), (14, .ireturn, 1)]
theorem D12_0 : RW12_0.all (xDr prog_29_method_2_code) = true := eAll 0 (by decide +kernel)
def d_12 : xDt := (⟨"java/lang/StringLatin1", "charAt", "([BI)C"⟩, prog_29_method_2_code, 2, (some FieldType.char), 3, [])
def RW13_0 : List (Nat × Instr × Nat) := [(0, .iload_n 0, 1), (1, .ifCond .lt 8, 3), (4, .iload_n 0, 1), (5, .iload_n 1, 1), (6, .if_icmp .lt 10, 3), (9, .aload_n 2, 1), (10, .iload_n 0, 1), (11, .iload_n 1, 1), (12, .invokestatic 95, 3), (15, .athrow, 1), (16, .iload_n 0, 1), (17, .ireturn, 1)]
theorem D13_0 : RW13_0.all (xDr prog_38_method_11_code) = true := eAll 0 (by decide +kernel)
def d_13 : xDt := (⟨"jdk/internal/util/Preconditions", "checkIndex", "(IILjava/util/function/BiFunction;)I"⟩, prog_38_method_11_code, 3, (some FieldType.int), 1, [])
def RW14_0 : List (Nat × Instr × Nat) := [(0, .aload_n 0, 1), (1, .bipush 16, 2), (3, .invokespecial 1, 3), (6, .return_, 1)]
theorem D14_0 : RW14_0.all (xDr prog_27_method_1_code) = true := eAll 0 (by decide +kernel)
def d_14 : xDt := (⟨"java/lang/StringBuilder", "<init>", "()V"⟩, prog_27_method_1_code, 1, none, 3, [])
def RW15_0 : List (Nat × Instr × Nat) := [(0, .aload_n 0, 1), (1, .invokespecial 3, 3), (4, .getstatic 18, 3), (7, .ifCond .eq 18, 3), (10, .aload_n 0, 1), (11, .iload_n 1, 1), (12, .newarray .byte, 2), (14, .putfield 15, 3), (17, .aload_n 0, 1), (18, .iconst 0, 1), (19, .putfield 22, 3), (22, .goto 16, 3), (25, .aload_n 0, 1), (26, .iload_n 1, 1), (27, .invokestatic 26, 3), (30, .putfield 15, 3)]
theorem D15_0 : RW15_0.all (xDr prog_11_method_2_code) = true := eAll 0 (by decide +kernel)
def RW15_1 : List (Nat × Instr × Nat) := [(33, .aload_n 0, 1), (34, .iconst 1, 1), (35, .putfield 22, 3), (38, .return_, 1)]
theorem D15_1 : RW15_1.all (xDr prog_11_method_2_code) = true := eAll 33 (by decide +kernel)
def d_15 : xDt := (⟨"java/lang/AbstractStringBuilder", "<init>", "(I)V"⟩, prog_11_method_2_code, 2, none, 2, [])
def RW16_0 : List (Nat × Instr × Nat) := [(0, .aload_n 0, 1), (1, .iload_n 1, 1), (2, .invokespecial 333, 3), (5, .return_, 1)]
theorem D16_0 : RW16_0.all (xDr prog_27_method_89_code) = true := eAll 0 (by decide +kernel)
def d_16 : xDt := (⟨"java/lang/StringBuilder", "setLength", "(I)V"⟩, prog_27_method_89_code, 2, none, 11, [])
def RW17_0 : List (Nat × Instr × Nat) := [(0, .iload_n 1, 1), (1, .ifCond .ge 12, 3), (4, .new 129, 3), (7, .dup, 1), (8, .iload_n 1, 1), (9, .invokespecial 131, 3), (12, .athrow, 1), (13, .aload_n 0, 1), (14, .iload_n 1, 1), (15, .invokevirtual 100, 3), (18, .aload_n 0, 1), (19, .getfield 79, 3), (22, .iload_n 1, 1), (23, .if_icmp .ge 40, 3), (26, .aload_n 0, 1), (27, .invokevirtual 83, 3)]
theorem D17_0 : RW17_0.all (xDr prog_11_method_13_code) = true := eAll 0 (by decide +kernel)
def RW17_1 : List (Nat × Instr × Nat) := [(30, .ifCond .eq 18, 3), (33, .aload_n 0, 1), (34, .getfield 15, 3), (37, .aload_n 0, 1), (38, .getfield 79, 3), (41, .iload_n 1, 1), (42, .invokestatic 133, 3), (45, .goto 31, 3), (48, .aload_n 0, 1), (49, .getfield 15, 3), (52, .aload_n 0, 1), (53, .getfield 79, 3), (56, .iload_n 1, 1), (57, .invokestatic 137, 3), (60, .goto 16, 3), (63, .aload_n 0, 1)]
theorem D17_1 : RW17_1.all (xDr prog_11_method_13_code) = true := eAll 30 (by decide +kernel)
def RW17_2 : List (Nat × Instr × Nat) := [(64, .getfield 79, 3), (67, .iload_n 1, 1), (68, .if_icmp .le 8, 3), (71, .aload_n 0, 1), (72, .iconst 1, 1), (73, .putfield 73, 3), (76, .aload_n 0, 1), (77, .iload_n 1, 1), (78, .putfield 79, 3), (81, .return_, 1)]
theorem D17_2 : RW17_2.all (xDr prog_11_method_13_code) = true := eAll 64 (by decide +kernel)
def d_17 : xDt := (⟨"java/lang/AbstractStringBuilder", "setLength", "(I)V"⟩, prog_11_method_13_code, 2, none, 10, [])
def RW18_0 : List (Nat × Instr × Nat) := [(0, .aload_n 0, 1), (1, .getfield 15, 3), (4, .arraylength, 1), (5, .aload_n 0, 1), (6, .getfield 22, 3), (9, .ishr, 1), (10, .istore_n 2, 1), (11, .iload_n 1, 1), (12, .iload_n 2, 1), (13, .isub, 1), (14, .ifCond .le 24, 3), (17, .aload_n 0, 1), (18, .aload_n 0, 1), (19, .getfield 15, 3), (22, .aload_n 0, 1), (23, .iload_n 1, 1)]
theorem D18_0 : RW18_0.all (xDr prog_11_method_9_code) = true := eAll 0 (by decide +kernel)
def RW18_1 : List (Nat × Instr × Nat) := [(24, .invokevirtual 104, 3), (27, .aload_n 0, 1), (28, .getfield 22, 3), (31, .ishl, 1), (32, .invokestatic 108, 3), (35, .putfield 15, 3), (38, .return_, 1)]
theorem D18_1 : RW18_1.all (xDr prog_11_method_9_code) = true := eAll 24 (by decide +kernel)
def d_18 : xDt := (⟨"java/lang/AbstractStringBuilder", "ensureCapacityInternal", "(I)V"⟩, prog_11_method_9_code, 3, none, 4, [])
def RW19_0 : List (Nat × Instr × Nat) := [(0, .aload_n 0, 1), (1, .getfield 15, 3), (4, .arraylength, 1), (5, .istore_n 2, 1), (6, .iload_n 1, 1), (7, .aload_n 0, 1), (8, .getfield 22, 3), (11, .ishl, 1), (12, .istore_n 3, 1), (13, .iload_n 3, 1), (14, .iload_n 2, 1), (15, .isub, 1), (16, .istore 4, 2), (18, .iload_n 2, 1), (19, .iload 4, 2), (21, .iload_n 2, 1)]
theorem D19_0 : RW19_0.all (xDr prog_11_method_10_code) = true := eAll 0 (by decide +kernel)
def RW19_1 : List (Nat × Instr × Nat) := [(22, .iconst 2, 1), (23, .aload_n 0, 1), (24, .getfield 22, 3), (27, .ishl, 1), (28, .iadd, 1), (29, .invokestatic 114, 3), (32, .istore 5, 2), (34, .iload 5, 2), (36, .ldc 39, 2), (38, .if_icmp .ne 13, 3), (41, .new 120, 3), (44, .dup, 1), (45, .ldc 122, 2), (47, .invokespecial 124, 3), (50, .athrow, 1), (51, .iload 5, 2)]
theorem D19_1 : RW19_1.all (xDr prog_11_method_10_code) = true := eAll 22 (by decide +kernel)
def RW19_2 : List (Nat × Instr × Nat) := [(53, .aload_n 0, 1), (54, .getfield 22, 3), (57, .ishr, 1), (58, .ireturn, 1)]
theorem D19_2 : RW19_2.all (xDr prog_11_method_10_code) = true := eAll 53 (by decide +kernel)
def d_19 : xDt := (⟨"java/lang/AbstractStringBuilder", "newCapacity", "(I)I"⟩, prog_11_method_10_code, 6, (some FieldType.int), 3, [])
def RW20_0 : List (Nat × Instr × Nat) := [(0, .iload_n 0, 1), (1, .iload_n 1, 1), (2, .iload_n 2, 1), (3, .invokestatic 194, 3), (6, .iadd, 1), (7, .istore_n 3, 1), (8, .iconst 0, 1), (9, .iload_n 3, 1), (10, .if_icmp .ge 11, 3), (13, .iload_n 3, 1), (14, .ldc 200, 2), (16, .if_icmp .gt 5, 3), (19, .iload_n 3, 1), (20, .ireturn, 1), (21, .iload_n 0, 1), (22, .iload_n 1, 1)]
theorem D20_0 : RW20_0.all (xDr prog_37_method_27_code) = true := eAll 0 (by decide +kernel)
def RW20_1 : List (Nat × Instr × Nat) := [(23, .invokestatic 201, 3), (26, .ireturn, 1)]
theorem D20_1 : RW20_1.all (xDr prog_37_method_27_code) = true := eAll 23 (by decide +kernel)
def d_20 : xDt := (⟨"jdk/internal/util/ArraysSupport", "newLength", "(III)I"⟩, prog_37_method_27_code, 4, (some FieldType.int), 2, [])
def RW21_0 : List (Nat × Instr × Nat) := [(0, .iload_n 1, 1), (1, .aload_n 0, 1), (2, .arraylength, 1), (3, .if_icmp .ne 11, 3), (6, .aload_n 0, 1), (7, .invokevirtual 310, 3), (10, .checkcast 311, 3), (13, .areturn, 1), (14, .iload_n 1, 1), (15, .newarray .byte, 2), (17, .astore_n 2, 1), (18, .aload_n 0, 1), (19, .iconst 0, 1), (20, .aload_n 2, 1), (21, .iconst 0, 1), (22, .aload_n 0, 1)]
theorem D21_0 : RW21_0.all (xDr prog_35_method_121_code) = true := eAll 0 (by decide +kernel)
def RW21_1 : List (Nat × Instr × Nat) := [(23, .arraylength, 1), (24, .iload_n 1, 1), (25, .invokestatic 304, 3), (28, .invokestatic 150, 3), (31, .aload_n 2, 1), (32, .areturn, 1)]
theorem D21_1 : RW21_1.all (xDr prog_35_method_121_code) = true := eAll 23 (by decide +kernel)
def d_21 : xDt := (⟨"java/util/Arrays", "copyOf", "([BI)[B"⟩, prog_35_method_121_code, 3, (some (FieldType.array FieldType.byte)), 2, [])
def RW22_0 : List (Nat × Instr × Nat) := [(0, .getstatic 18, 3), (3, .ifCond .eq 14, 3), (6, .aload_n 0, 1), (7, .getfield 22, 3), (10, .ifCond .ne 7, 3), (13, .iconst 1, 1), (14, .goto 4, 3), (17, .iconst 0, 1), (18, .ireturn, 1)]
theorem D22_0 : RW22_0.all (xDr prog_11_method_68_code) = true := eAll 0 (by decide +kernel)
def d_22 : xDt := (⟨"java/lang/AbstractStringBuilder", "isLatin1", "()Z"⟩, prog_11_method_68_code, 1, (some FieldType.boolean), 1, [])
def RW23_0 : List (Nat × Instr × Nat) := [(0, .aload_n 0, 1), (1, .iload_n 1, 1), (2, .iload_n 2, 1), (3, .iconst 0, 1), (4, .invokestatic 236, 3), (7, .return_, 1)]
theorem D23_0 : RW23_0.all (xDr prog_29_method_48_code) = true := eAll 0 (by decide +kernel)
def d_23 : xDt := (⟨"java/lang/StringLatin1", "fillNull", "([BII)V"⟩, prog_29_method_48_code, 3, none, 9, [])
def RW24_0 : List (Nat × Instr × Nat) := [(0, .aload_n 0, 1), (1, .arraylength, 1), (2, .iload_n 1, 1), (3, .iload_n 2, 1), (4, .invokestatic 13, 3), (7, .iload_n 1, 1), (8, .istore 4, 2), (10, .iload 4, 2), (12, .iload_n 2, 1), (13, .if_icmp .ge 14, 3), (16, .aload_n 0, 1), (17, .iload 4, 2), (19, .iload_n 3, 1), (20, .bastore, 1), (21, .iinc 4 1, 3), (24, .goto (-14), 3)]
theorem D24_0 : RW24_0.all (xDr prog_35_method_110_code) = true := eAll 0 (by decide +kernel)
def RW24_1 : List (Nat × Instr × Nat) := [(27, .return_, 1)]
theorem D24_1 : RW24_1.all (xDr prog_35_method_110_code) = true := eAll 27 (by decide +kernel)
def d_24 : xDt := (⟨"java/util/Arrays", "fill", "([BIIB)V"⟩, prog_35_method_110_code, 5, none, 8, [])
def RW25_0 : List (Nat × Instr × Nat) := [(0, .aload_n 0, 1), (1, .iload_n 1, 1), (2, .invokespecial 50, 3), (5, .pop, 1), (6, .aload_n 0, 1), (7, .areturn, 1)]
theorem D25_0 : RW25_0.all (xDr prog_27_method_14_code) = true := eAll 0 (by decide +kernel)
def d_25 : xDt := (⟨"java/lang/StringBuilder", "append", "(C)Ljava/lang/StringBuilder;"⟩, prog_27_method_14_code, 2, (some (FieldType.object "java/lang/StringBuilder")), 6, [])
def RW26_0 : List (Nat × Instr × Nat) := [(0, .aload_n 0, 1), (1, .aload_n 0, 1), (2, .getfield 79, 3), (5, .iconst 1, 1), (6, .iadd, 1), (7, .invokevirtual 100, 3), (10, .aload_n 0, 1), (11, .invokevirtual 83, 3), (14, .ifCond .eq 31, 3), (17, .iload_n 1, 1), (18, .invokestatic 191, 3), (21, .ifCond .eq 24, 3), (24, .aload_n 0, 1), (25, .getfield 15, 3), (28, .aload_n 0, 1), (29, .dup, 1)]
theorem D26_0 : RW26_0.all (xDr prog_11_method_31_code) = true := eAll 0 (by decide +kernel)
def RW26_1 : List (Nat × Instr × Nat) := [(30, .getfield 79, 3), (33, .dup_x1, 1), (34, .iconst 1, 1), (35, .iadd, 1), (36, .putfield 79, 3), (39, .iload_n 1, 1), (40, .i2b, 1), (41, .bastore, 1), (42, .goto 33, 3), (45, .aload_n 0, 1), (46, .invokevirtual 83, 3), (49, .ifCond .eq 7, 3), (52, .aload_n 0, 1), (53, .invokevirtual 195, 3), (56, .aload_n 0, 1), (57, .getfield 15, 3)]
theorem D26_1 : RW26_1.all (xDr prog_11_method_31_code) = true := eAll 30 (by decide +kernel)
def RW26_2 : List (Nat × Instr × Nat) := [(60, .aload_n 0, 1), (61, .dup, 1), (62, .getfield 79, 3), (65, .dup_x1, 1), (66, .iconst 1, 1), (67, .iadd, 1), (68, .putfield 79, 3), (71, .iload_n 1, 1), (72, .invokestatic 197, 3), (75, .aload_n 0, 1), (76, .areturn, 1)]
theorem D26_2 : RW26_2.all (xDr prog_11_method_31_code) = true := eAll 60 (by decide +kernel)
def d_26 : xDt := (⟨"java/lang/AbstractStringBuilder", "append", "(C)Ljava/lang/AbstractStringBuilder;"⟩, prog_11_method_31_code, 2, (some (FieldType.object "java/lang/AbstractStringBuilder")), 5, [])
def RW27_0 : List (Nat × Instr × Nat) := [(0, .iload_n 0, 1), (1, .sipush 255, 3), (4, .if_icmp .gt 7, 3), (7, .iconst 1, 1), (8, .goto 4, 3), (11, .iconst 0, 1), (12, .ireturn, 1)]
theorem D27_0 : RW27_0.all (xDr prog_29_method_3_code) = true := eAll 0 (by decide +kernel)
def d_27 : xDt := (⟨"java/lang/StringLatin1", "canEncode", "(C)Z"⟩, prog_29_method_3_code, 1, (some FieldType.boolean), 1, [])
def RW28_0 : List (Nat × Instr × Nat) := [(0, .aload_n 0, 1), (1, .iload_n 1, 1), (2, .invokespecial 53, 3), (5, .pop, 1), (6, .aload_n 0, 1), (7, .areturn, 1)]
theorem D28_0 : RW28_0.all (xDr prog_27_method_15_code) = true := eAll 0 (by decide +kernel)
def d_28 : xDt := (⟨"java/lang/StringBuilder", "append", "(I)Ljava/lang/StringBuilder;"⟩, prog_27_method_15_code, 2, (some (FieldType.object "java/lang/StringBuilder")), 6, [])
def RW29_0 : List (Nat × Instr × Nat) := [(0, .aload_n 0, 1), (1, .getfield 79, 3), (4, .istore_n 2, 1), (5, .iload_n 2, 1), (6, .iload_n 1, 1), (7, .invokestatic 245, 3), (10, .iadd, 1), (11, .istore_n 3, 1), (12, .aload_n 0, 1), (13, .iload_n 3, 1), (14, .invokevirtual 100, 3), (17, .aload_n 0, 1), (18, .invokevirtual 83, 3), (21, .ifCond .eq 16, 3), (24, .iload_n 1, 1), (25, .iload_n 3, 1)]
theorem D29_0 : RW29_0.all (xDr prog_11_method_32_code) = true := eAll 0 (by decide +kernel)
def RW29_1 : List (Nat × Instr × Nat) := [(26, .aload_n 0, 1), (27, .getfield 15, 3), (30, .invokestatic 248, 3), (33, .pop, 1), (34, .goto 14, 3), (37, .iload_n 1, 1), (38, .iload_n 2, 1), (39, .iload_n 3, 1), (40, .aload_n 0, 1), (41, .getfield 15, 3), (44, .invokestatic 251, 3), (47, .pop, 1), (48, .aload_n 0, 1), (49, .iload_n 3, 1), (50, .putfield 79, 3), (53, .aload_n 0, 1)]
theorem D29_1 : RW29_1.all (xDr prog_11_method_32_code) = true := eAll 26 (by decide +kernel)
def RW29_2 : List (Nat × Instr × Nat) := [(54, .areturn, 1)]
theorem D29_2 : RW29_2.all (xDr prog_11_method_32_code) = true := eAll 54 (by decide +kernel)
def d_29 : xDt := (⟨"java/lang/AbstractStringBuilder", "append", "(I)Ljava/lang/AbstractStringBuilder;"⟩, prog_11_method_32_code, 4, (some (FieldType.object "java/lang/AbstractStringBuilder")), 5, [])
def RW30_0 : List (Nat × Instr × Nat) := [(0, .iconst 1, 1), (1, .istore_n 1, 1), (2, .iload_n 0, 1), (3, .ifCond .lt 8, 3), (6, .iconst 0, 1), (7, .istore_n 1, 1), (8, .iload_n 0, 1), (9, .ineg, 1), (10, .istore_n 0, 1), (11, .bipush (-10), 2), (13, .istore_n 2, 1), (14, .iconst 1, 1), (15, .istore_n 3, 1), (16, .iload_n 3, 1), (17, .bipush 10, 2), (19, .if_icmp .ge 23, 3)]
theorem D30_0 : RW30_0.all (xDr prog_21_method_13_code) = true := eAll 0 (by decide +kernel)
def RW30_1 : List (Nat × Instr × Nat) := [(22, .iload_n 0, 1), (23, .iload_n 2, 1), (24, .if_icmp .le 7, 3), (27, .iload_n 3, 1), (28, .iload_n 1, 1), (29, .iadd, 1), (30, .ireturn, 1), (31, .bipush 10, 2), (33, .iload_n 2, 1), (34, .imul, 1), (35, .istore_n 2, 1), (36, .iinc 3 1, 3), (39, .goto (-23), 3), (42, .bipush 10, 2), (44, .iload_n 1, 1), (45, .iadd, 1)]
theorem D30_1 : RW30_1.all (xDr prog_21_method_13_code) = true := eAll 22 (by decide +kernel)
def RW30_2 : List (Nat × Instr × Nat) := [(46, .ireturn, 1)]
theorem D30_2 : RW30_2.all (xDr prog_21_method_13_code) = true := eAll 46 (by decide +kernel)
def d_30 : xDt := (⟨"java/lang/Integer", "stringSize", "(I)I"⟩, prog_21_method_13_code, 4, (some FieldType.int), 1, [])
def RW31_0 : List (Nat × Instr × Nat) := [(0, .iload_n 1, 1), (1, .istore 5, 2), (3, .iload_n 0, 1), (4, .ifCond .ge 7, 3), (7, .iconst 1, 1), (8, .goto 4, 3), (11, .iconst 0, 1), (12, .istore 6, 2), (14, .iload 6, 2), (16, .ifCond .ne 6, 3), (19, .iload_n 0, 1), (20, .ineg, 1), (21, .istore_n 0, 1), (22, .iload_n 0, 1), (23, .bipush (-100), 2), (25, .if_icmp .gt 47, 3)]
theorem D31_0 : RW31_0.all (xDr prog_21_method_12_code) = true := eAll 0 (by decide +kernel)
def RW31_1 : List (Nat × Instr × Nat) := [(28, .iload_n 0, 1), (29, .bipush 100, 2), (31, .idiv, 1), (32, .istore_n 3, 1), (33, .iload_n 3, 1), (34, .bipush 100, 2), (36, .imul, 1), (37, .iload_n 0, 1), (38, .isub, 1), (39, .istore 4, 2), (41, .iload_n 3, 1), (42, .istore_n 0, 1), (43, .aload_n 2, 1), (44, .iinc 5 (-1), 3), (47, .iload 5, 2), (49, .getstatic 83, 3)]
theorem D31_1 : RW31_1.all (xDr prog_21_method_12_code) = true := eAll 28 (by decide +kernel)
def RW31_2 : List (Nat × Instr × Nat) := [(52, .iload 4, 2), (54, .baload, 1), (55, .bastore, 1), (56, .aload_n 2, 1), (57, .iinc 5 (-1), 3), (60, .iload 5, 2), (62, .getstatic 87, 3), (65, .iload 4, 2), (67, .baload, 1), (68, .bastore, 1), (69, .goto (-47), 3), (72, .aload_n 2, 1), (73, .iinc 5 (-1), 3), (76, .iload 5, 2), (78, .getstatic 83, 3), (81, .iload_n 0, 1)]
theorem D31_2 : RW31_2.all (xDr prog_21_method_12_code) = true := eAll 52 (by decide +kernel)
def RW31_3 : List (Nat × Instr × Nat) := [(82, .ineg, 1), (83, .baload, 1), (84, .bastore, 1), (85, .iload_n 0, 1), (86, .bipush (-9), 2), (88, .if_icmp .ge 16, 3), (91, .aload_n 2, 1), (92, .iinc 5 (-1), 3), (95, .iload 5, 2), (97, .getstatic 87, 3), (100, .iload_n 0, 1), (101, .ineg, 1), (102, .baload, 1), (103, .bastore, 1), (104, .iload 6, 2), (106, .ifCond .eq 12, 3)]
theorem D31_3 : RW31_3.all (xDr prog_21_method_12_code) = true := eAll 82 (by decide +kernel)
def RW31_4 : List (Nat × Instr × Nat) := [(109, .aload_n 2, 1), (110, .iinc 5 (-1), 3), (113, .iload 5, 2), (115, .bipush 45, 2), (117, .bastore, 1), (118, .iload 5, 2), (120, .ireturn, 1)]
theorem D31_4 : RW31_4.all (xDr prog_21_method_12_code) = true := eAll 109 (by decide +kernel)
def d_31 : xDt := (⟨"java/lang/Integer", "getChars", "(II[B)I"⟩, prog_21_method_12_code, 7, (some FieldType.int), 1, [])
def RW32_0 : List (Nat × Instr × Nat) := [(0, .aload_n 0, 1), (1, .invokespecial 343, 3), (4, .ireturn, 1)]
theorem D32_0 : RW32_0.all (xDr prog_27_method_93_code) = true := eAll 0 (by decide +kernel)
def d_32 : xDt := (⟨"java/lang/StringBuilder", "length", "()I"⟩, prog_27_method_93_code, 1, (some FieldType.int), 2, [])
def RW33_0 : List (Nat × Instr × Nat) := [(0, .aload_n 0, 1), (1, .getfield 79, 3), (4, .ireturn, 1)]
theorem D33_0 : RW33_0.all (xDr prog_11_method_6_code) = true := eAll 0 (by decide +kernel)
def d_33 : xDt := (⟨"java/lang/AbstractStringBuilder", "length", "()I"⟩, prog_11_method_6_code, 1, (some FieldType.int), 1, [])
def RW34_0 : List (Nat × Instr × Nat) := [(0, .aload_n 0, 1), (1, .iload_n 1, 1), (2, .invokespecial 329, 3), (5, .ireturn, 1)]
theorem D34_0 : RW34_0.all (xDr prog_27_method_88_code) = true := eAll 0 (by decide +kernel)
def d_34 : xDt := (⟨"java/lang/StringBuilder", "charAt", "(I)C"⟩, prog_27_method_88_code, 2, (some FieldType.char), 4, [])
def RW35_0 : List (Nat × Instr × Nat) := [(0, .aload_n 0, 1), (1, .getfield 22, 3), (4, .istore_n 2, 1), (5, .aload_n 0, 1), (6, .getfield 15, 3), (9, .astore_n 3, 1), (10, .aload_n 0, 1), (11, .getfield 79, 3), (14, .aload_n 3, 1), (15, .arraylength, 1), (16, .iload_n 2, 1), (17, .ishr, 1), (18, .invokestatic 138, 3), (21, .istore 4, 2), (23, .iload_n 1, 1), (24, .iload 4, 2)]
theorem D35_0 : RW35_0.all (xDr prog_11_method_14_code) = true := eAll 0 (by decide +kernel)
def RW35_1 : List (Nat × Instr × Nat) := [(26, .invokestatic 144, 3), (29, .iload_n 2, 1), (30, .ifCond .ne 12, 3), (33, .aload_n 3, 1), (34, .iload_n 1, 1), (35, .baload, 1), (36, .sipush 255, 3), (39, .iand, 1), (40, .i2c, 1), (41, .ireturn, 1), (42, .aload_n 3, 1), (43, .iload_n 1, 1), (44, .invokestatic 148, 3), (47, .ireturn, 1)]
theorem D35_1 : RW35_1.all (xDr prog_11_method_14_code) = true := eAll 26 (by decide +kernel)
def d_35 : xDt := (⟨"java/lang/AbstractStringBuilder", "charAt", "(I)C"⟩, prog_11_method_14_code, 5, (some FieldType.char), 3, [])
def RW36_0 : List (Nat × Instr × Nat) := [(0, .aload_n 0, 1), (1, .invokespecial 5, 3), (4, .aload_n 0, 1), (5, .iconst 0, 1), (6, .putfield 11, 3), (9, .aload_n 0, 1), (10, .iconst 0, 1), (11, .newarray .long, 2), (13, .putfield 15, 3), (16, .aload_n 0, 1), (17, .iconst 0, 1), (18, .newarray .int, 2), (20, .putfield 19, 3), (23, .aload_n 0, 1), (24, .iconst 0, 1), (25, .newarray .int, 2)]
theorem D36_0 : RW36_0.all (xDr prog_4_method_1_code) = true := eAll 0 (by decide +kernel)
def RW36_1 : List (Nat × Instr × Nat) := [(27, .putfield 23, 3), (30, .return_, 1)]
theorem D36_1 : RW36_1.all (xDr prog_4_method_1_code) = true := eAll 27 (by decide +kernel)
def d_36 : xDt := (⟨"IsingLab$Samples", "<init>", "()V"⟩, prog_4_method_1_code, 1, none, 2, [])
def RW37_0 : List (Nat × Instr × Nat) := [(0, .aload_n 0, 1), (1, .getfield 11, 3), (4, .ifCond .ne 5, 3), (7, .iconst 0, 1), (8, .ireturn, 1), (9, .aload_n 0, 1), (10, .getfield 23, 3), (13, .arraylength, 1), (14, .ifCond .ne 11, 3), (17, .aload_n 0, 1), (18, .ldc 35, 2), (20, .newarray .int, 2), (22, .putfield 23, 3), (25, .aload_n 0, 1), (26, .getfield 23, 3), (29, .iconst 0, 1)]
theorem D37_0 : RW37_0.all (xDr prog_4_method_5_code) = true := eAll 0 (by decide +kernel)
def RW37_1 : List (Nat × Instr × Nat) := [(30, .invokestatic 36, 3), (33, .iconst 0, 1), (34, .istore_n 1, 1), (35, .iconst 0, 1), (36, .istore_n 2, 1), (37, .iload_n 2, 1), (38, .aload_n 0, 1), (39, .getfield 11, 3), (42, .if_icmp .ge 20, 3), (45, .aload_n 0, 1), (46, .iload_n 2, 1), (47, .invokevirtual 42, 3), (50, .ifCond .eq 6, 3), (53, .iinc 1 1, 3), (56, .iinc 2 1, 3), (59, .goto (-22), 3)]
theorem D37_1 : RW37_1.all (xDr prog_4_method_5_code) = true := eAll 30 (by decide +kernel)
def RW37_2 : List (Nat × Instr × Nat) := [(62, .iload_n 1, 1), (63, .ireturn, 1)]
theorem D37_2 : RW37_2.all (xDr prog_4_method_5_code) = true := eAll 62 (by decide +kernel)
def d_37 : xDt := (⟨"IsingLab$Samples", "distinct", "()I"⟩, prog_4_method_5_code, 3, (some FieldType.int), 2, [])
def RW38_0 : List (Nat × Instr × Nat) := [(0, .aload_n 0, 1), (1, .getfield 15, 3), (4, .iload_n 1, 1), (5, .laload, 1), (6, .lstore_n 2, 1), (7, .lload_n 2, 1), (8, .ldc2_w 46, 3), (11, .lmul, 1), (12, .bipush 49, 2), (14, .lushr, 1), (15, .l2i, 1), (16, .istore 4, 2), (18, .iconst 0, 1), (19, .istore 5, 2), (21, .iload 5, 2), (23, .ldc 35, 2)]
theorem D38_0 : RW38_0.all (xDr prog_4_method_6_code) = true := eAll 0 (by decide +kernel)
def RW38_1 : List (Nat × Instr × Nat) := [(25, .if_icmp .ge 63, 3), (28, .iload 4, 2), (30, .iload 5, 2), (32, .iadd, 1), (33, .sipush 32767, 3), (36, .iand, 1), (37, .istore 6, 2), (39, .aload_n 0, 1), (40, .getfield 23, 3), (43, .iload 6, 2), (45, .iaload, 1), (46, .ifCond .ne 15, 3), (49, .aload_n 0, 1), (50, .getfield 23, 3), (53, .iload 6, 2), (55, .iload_n 1, 1)]
theorem D38_1 : RW38_1.all (xDr prog_4_method_6_code) = true := eAll 25 (by decide +kernel)
def RW38_2 : List (Nat × Instr × Nat) := [(56, .iconst 1, 1), (57, .iadd, 1), (58, .iastore, 1), (59, .iconst 1, 1), (60, .ireturn, 1), (61, .aload_n 0, 1), (62, .getfield 15, 3), (65, .aload_n 0, 1), (66, .getfield 23, 3), (69, .iload 6, 2), (71, .iaload, 1), (72, .iconst 1, 1), (73, .isub, 1), (74, .laload, 1), (75, .lload_n 2, 1), (76, .lcmp, 1)]
theorem D38_2 : RW38_2.all (xDr prog_4_method_6_code) = true := eAll 56 (by decide +kernel)
def RW38_3 : List (Nat × Instr × Nat) := [(77, .ifCond .ne 5, 3), (80, .iconst 0, 1), (81, .ireturn, 1), (82, .iinc 5 1, 3), (85, .goto (-64), 3), (88, .iconst 0, 1), (89, .ireturn, 1)]
theorem D38_3 : RW38_3.all (xDr prog_4_method_6_code) = true := eAll 77 (by decide +kernel)
def d_38 : xDt := (⟨"IsingLab$Samples", "enter", "(I)Z"⟩, prog_4_method_6_code, 7, (some FieldType.boolean), 1, [])
def RW39_0 : List (Nat × Instr × Nat) := [(0, .aload_n 1, 1), (1, .getfield 11, 3), (4, .ifCond .le 41, 3), (7, .aload_n 0, 1), (8, .invokevirtual 26, 3), (11, .aload_n 1, 1), (12, .getfield 15, 3), (15, .iconst 0, 1), (16, .aload_n 0, 1), (17, .getfield 15, 3), (20, .iconst 0, 1), (21, .aload_n 1, 1), (22, .getfield 11, 3), (25, .invokestatic 29, 3), (28, .aload_n 1, 1), (29, .getfield 19, 3)]
theorem D39_0 : RW39_0.all (xDr prog_4_method_4_code) = true := eAll 0 (by decide +kernel)
def RW39_1 : List (Nat × Instr × Nat) := [(32, .iconst 0, 1), (33, .aload_n 0, 1), (34, .getfield 19, 3), (37, .iconst 0, 1), (38, .aload_n 1, 1), (39, .getfield 11, 3), (42, .invokestatic 29, 3), (45, .aload_n 0, 1), (46, .aload_n 1, 1), (47, .getfield 11, 3), (50, .putfield 11, 3), (53, .return_, 1)]
theorem D39_1 : RW39_1.all (xDr prog_4_method_4_code) = true := eAll 32 (by decide +kernel)
def d_39 : xDt := (⟨"IsingLab$Samples", "copyFrom", "(LIsingLab$Samples;)V"⟩, prog_4_method_4_code, 2, none, 2, [])
def RW40_0 : List (Nat × Instr × Nat) := [(0, .aload_n 0, 1), (1, .getfield 15, 3), (4, .arraylength, 1), (5, .ifCond .ne 21, 3), (8, .aload_n 0, 1), (9, .sipush 10000, 3), (12, .newarray .long, 2), (14, .putfield 15, 3), (17, .aload_n 0, 1), (18, .sipush 10000, 3), (21, .newarray .int, 2), (23, .putfield 19, 3), (26, .return_, 1)]
theorem D40_0 : RW40_0.all (xDr prog_4_method_2_code) = true := eAll 0 (by decide +kernel)
def d_40 : xDt := (⟨"IsingLab$Samples", "makeRoom", "()V"⟩, prog_4_method_2_code, 1, none, 1, [])
def RW41_0 : List (Nat × Instr × Nat) := [(0, .aload_n 0, 1), (1, .invokevirtual 26, 3), (4, .aload_n 0, 1), (5, .getfield 11, 3), (8, .sipush 10000, 3), (11, .if_icmp .ge 33, 3), (14, .aload_n 0, 1), (15, .getfield 15, 3), (18, .aload_n 0, 1), (19, .getfield 11, 3), (22, .lload_n 1, 1), (23, .lastore, 1), (24, .aload_n 0, 1), (25, .getfield 19, 3), (28, .aload_n 0, 1), (29, .getfield 11, 3)]
theorem D41_0 : RW41_0.all (xDr prog_4_method_3_code) = true := eAll 0 (by decide +kernel)
def RW41_1 : List (Nat × Instr × Nat) := [(32, .iload_n 3, 1), (33, .iastore, 1), (34, .aload_n 0, 1), (35, .dup, 1), (36, .getfield 11, 3), (39, .iconst 1, 1), (40, .iadd, 1), (41, .putfield 11, 3), (44, .return_, 1)]
theorem D41_1 : RW41_1.all (xDr prog_4_method_3_code) = true := eAll 32 (by decide +kernel)
def d_41 : xDt := (⟨"IsingLab$Samples", "add", "(JI)V"⟩, prog_4_method_3_code, 4, none, 2, [])
def RW42_0 : List (Nat × Instr × Nat) := [(0, .aload_n 0, 1), (1, .invokespecial 3, 3), (4, .aload_n 0, 1), (5, .iconst 4, 1), (6, .putfield 9, 3), (9, .aload_n 0, 1), (10, .iconst 4, 1), (11, .putfield 15, 3), (14, .aload_n 0, 1), (15, .iconst 0, 1), (16, .putfield 18, 3), (19, .aload_n 0, 1), (20, .iconst 1, 1), (21, .putfield 21, 3), (24, .aload_n 0, 1), (25, .iconst 2, 1)]
theorem D42_0 : RW42_0.all (xDr prog_5_method_1_code) = true := eAll 0 (by decide +kernel)
def RW42_1 : List (Nat × Instr × Nat) := [(26, .putfield 24, 3), (29, .aload_n 0, 1), (30, .iconst 1, 1), (31, .putfield 27, 3), (34, .aload_n 0, 1), (35, .iconst 0, 1), (36, .putfield 30, 3), (39, .aload_n 0, 1), (40, .iconst 0, 1), (41, .putfield 33, 3), (44, .aload_n 0, 1), (45, .iconst 1, 1), (46, .putfield 36, 3), (49, .aload_n 0, 1), (50, .iconst 0, 1), (51, .putfield 39, 3)]
theorem D42_1 : RW42_1.all (xDr prog_5_method_1_code) = true := eAll 26 (by decide +kernel)
def RW42_2 : List (Nat × Instr × Nat) := [(54, .aload_n 0, 1), (55, .iconst 0, 1), (56, .putfield 42, 3), (59, .aload_n 0, 1), (60, .bipush 12, 2), (62, .newarray .int, 2), (64, .putfield 45, 3), (67, .aload_n 0, 1), (68, .bipush 12, 2), (70, .newarray .boolean, 2), (72, .putfield 49, 3), (75, .aload_n 0, 1), (76, .bipush 12, 2), (78, .newarray .int, 2), (80, .putfield 53, 3), (83, .return_, 1)]
theorem D42_2 : RW42_2.all (xDr prog_5_method_1_code) = true := eAll 54 (by decide +kernel)
def d_42 : xDt := (⟨"IsingLab$Setup", "<init>", "()V"⟩, prog_5_method_1_code, 1, none, 2, [])
def RW43_0 : List (Nat × Instr × Nat) := [(0, .iload_n 1, 1), (1, .iconst 1, 1), (2, .iadd, 1), (3, .aload_n 0, 1), (4, .getfield 15, 3), (7, .if_icmp .lt 11, 3), (10, .aload_n 0, 1), (11, .getfield 18, 3), (14, .iconst 1, 1), (15, .if_icmp .eq 7, 3), (18, .iconst 1, 1), (19, .goto 4, 3), (22, .iconst 0, 1), (23, .ireturn, 1)]
theorem D43_0 : RW43_0.all (xDr prog_5_method_2_code) = true := eAll 0 (by decide +kernel)
def d_43 : xDt := (⟨"IsingLab$Setup", "hasBondRight", "(I)Z"⟩, prog_5_method_2_code, 2, (some FieldType.boolean), 1, [])
def RW44_0 : List (Nat × Instr × Nat) := [(0, .iload_n 1, 1), (1, .iconst 1, 1), (2, .iadd, 1), (3, .aload_n 0, 1), (4, .getfield 9, 3), (7, .if_icmp .lt 10, 3), (10, .aload_n 0, 1), (11, .getfield 18, 3), (14, .ifCond .ne 7, 3), (17, .iconst 1, 1), (18, .goto 4, 3), (21, .iconst 0, 1), (22, .ireturn, 1)]
theorem D44_0 : RW44_0.all (xDr prog_5_method_3_code) = true := eAll 0 (by decide +kernel)
def d_44 : xDt := (⟨"IsingLab$Setup", "hasBondDown", "(I)Z"⟩, prog_5_method_3_code, 2, (some FieldType.boolean), 1, [])
def RW45_0 : List (Nat × Instr × Nat) := [(0, .aload_n 0, 1), (1, .getfield 42, 3), (4, .bipush 12, 2), (6, .if_icmp .ge 43, 3), (9, .aload_n 0, 1), (10, .getfield 45, 3), (13, .aload_n 0, 1), (14, .getfield 42, 3), (17, .iload_n 1, 1), (18, .iastore, 1), (19, .aload_n 0, 1), (20, .getfield 49, 3), (23, .aload_n 0, 1), (24, .getfield 42, 3), (27, .iload_n 2, 1), (28, .bastore, 1)]
theorem D45_0 : RW45_0.all (xDr prog_5_method_4_code) = true := eAll 0 (by decide +kernel)
def RW45_1 : List (Nat × Instr × Nat) := [(29, .aload_n 0, 1), (30, .getfield 53, 3), (33, .aload_n 0, 1), (34, .getfield 42, 3), (37, .iload_n 3, 1), (38, .iastore, 1), (39, .aload_n 0, 1), (40, .dup, 1), (41, .getfield 42, 3), (44, .iconst 1, 1), (45, .iadd, 1), (46, .putfield 42, 3), (49, .return_, 1)]
theorem D45_1 : RW45_1.all (xDr prog_5_method_4_code) = true := eAll 29 (by decide +kernel)
def d_45 : xDt := (⟨"IsingLab$Setup", "addBond", "(IZI)V"⟩, prog_5_method_4_code, 4, none, 1, [])
def RW46_0 : List (Nat × Instr × Nat) := [(0, .aload_n 0, 1), (1, .invokespecial 3, 3), (4, .aload_n 0, 1), (5, .iconst 0, 1), (6, .putfield 9, 3), (9, .aload_n 0, 1), (10, .iconst 0, 1), (11, .putfield 15, 3), (14, .aload_n 0, 1), (15, .iconst 0, 1), (16, .putfield 18, 3), (19, .aload_n 0, 1), (20, .iconst 0, 1), (21, .putfield 21, 3), (24, .aload_n 0, 1), (25, .lconst 0, 1)]
theorem D46_0 : RW46_0.all (xDr prog_3_method_1_code) = true := eAll 0 (by decide +kernel)
def RW46_1 : List (Nat × Instr × Nat) := [(26, .putfield 24, 3), (29, .aload_n 0, 1), (30, .sipush 128, 3), (33, .newarray .int, 2), (35, .putfield 28, 3), (38, .aload_n 0, 1), (39, .sipush 128, 3), (42, .newarray .int, 2), (44, .putfield 32, 3), (47, .aload_n 0, 1), (48, .bipush 64, 2), (50, .newarray .int, 2), (52, .putfield 35, 3), (55, .aload_n 0, 1), (56, .bipush 64, 2), (58, .newarray .int, 2)]
theorem D46_1 : RW46_1.all (xDr prog_3_method_1_code) = true := eAll 26 (by decide +kernel)
def RW46_2 : List (Nat × Instr × Nat) := [(60, .putfield 38, 3), (63, .aload_n 0, 1), (64, .bipush 64, 2), (66, .newarray .int, 2), (68, .putfield 41, 3), (71, .aload_n 0, 1), (72, .sipush 256, 3), (75, .newarray .int, 2), (77, .putfield 44, 3), (80, .return_, 1)]
theorem D46_2 : RW46_2.all (xDr prog_3_method_1_code) = true := eAll 60 (by decide +kernel)
def d_46 : xDt := (⟨"IsingLab$Lattice", "<init>", "()V"⟩, prog_3_method_1_code, 1, none, 2, [])
def RW47_0 : List (Nat × Instr × Nat) := [(0, .aload_n 0, 1), (1, .aload_n 1, 1), (2, .getfield 47, 3), (5, .putfield 9, 3), (8, .aload_n 0, 1), (9, .aload_n 1, 1), (10, .getfield 50, 3), (13, .putfield 15, 3), (16, .aload_n 0, 1), (17, .aload_n 0, 1), (18, .getfield 9, 3), (21, .aload_n 0, 1), (22, .getfield 15, 3), (25, .imul, 1), (26, .bipush 64, 2), (28, .invokestatic 51, 3)]
theorem D47_0 : RW47_0.all (xDr prog_3_method_2_code) = true := eAll 0 (by decide +kernel)
def RW47_1 : List (Nat × Instr × Nat) := [(31, .putfield 18, 3), (34, .aload_n 0, 1), (35, .aload_n 0, 1), (36, .getfield 18, 3), (39, .bipush 64, 2), (41, .if_icmp .ne 9, 3), (44, .ldc2_w 57, 3), (47, .goto 11, 3), (50, .lconst 1, 1), (51, .aload_n 0, 1), (52, .getfield 18, 3), (55, .lshl, 1), (56, .lconst 1, 1), (57, .lsub, 1), (58, .putfield 24, 3), (61, .aload_n 0, 1)]
theorem D47_1 : RW47_1.all (xDr prog_3_method_2_code) = true := eAll 31 (by decide +kernel)
def RW47_2 : List (Nat × Instr × Nat) := [(62, .iconst 0, 1), (63, .putfield 21, 3), (66, .aload_n 0, 1), (67, .getfield 41, 3), (70, .iconst 0, 1), (71, .invokestatic 59, 3), (74, .iconst 0, 1), (75, .istore_n 2, 1), (76, .iload_n 2, 1), (77, .aload_n 0, 1), (78, .getfield 18, 3), (81, .if_icmp .ge 15, 3), (84, .aload_n 0, 1), (85, .iload_n 2, 1), (86, .aload_n 1, 1), (87, .invokevirtual 65, 3)]
theorem D47_2 : RW47_2.all (xDr prog_3_method_2_code) = true := eAll 62 (by decide +kernel)
def RW47_3 : List (Nat × Instr × Nat) := [(90, .iinc 2 1, 3), (93, .goto (-17), 3), (96, .return_, 1)]
theorem D47_3 : RW47_3.all (xDr prog_3_method_2_code) = true := eAll 90 (by decide +kernel)
def d_47 : xDt := (⟨"IsingLab$Lattice", "build", "(LIsingLab$Setup;)V"⟩, prog_3_method_2_code, 3, none, 4, [])
def RW48_0 : List (Nat × Instr × Nat) := [(0, .aload_n 0, 1), (1, .getfield 15, 3), (4, .iconst 1, 1), (5, .invokestatic 69, 3), (8, .istore_n 3, 1), (9, .iload_n 1, 1), (10, .iload_n 3, 1), (11, .idiv, 1), (12, .istore 4, 2), (14, .iload_n 1, 1), (15, .iload 4, 2), (17, .iload_n 3, 1), (18, .imul, 1), (19, .isub, 1), (20, .istore 5, 2), (22, .aload_n 0, 1)]
theorem D48_0 : RW48_0.all (xDr prog_3_method_3_code) = true := eAll 0 (by decide +kernel)
def RW48_1 : List (Nat × Instr × Nat) := [(23, .getfield 35, 3), (26, .iload_n 1, 1), (27, .iconst (-1), 1), (28, .iastore, 1), (29, .aload_n 0, 1), (30, .getfield 38, 3), (33, .iload_n 1, 1), (34, .iconst (-1), 1), (35, .iastore, 1), (36, .aload_n 2, 1), (37, .iload 5, 2), (39, .invokevirtual 72, 3), (42, .ifCond .eq 45, 3), (45, .iload 5, 2), (47, .iconst 1, 1), (48, .iadd, 1)]
theorem D48_1 : RW48_1.all (xDr prog_3_method_3_code) = true := eAll 23 (by decide +kernel)
def RW48_2 : List (Nat × Instr × Nat) := [(49, .aload_n 0, 1), (50, .getfield 15, 3), (53, .if_icmp .ge 10, 3), (56, .iload 5, 2), (58, .iconst 1, 1), (59, .iadd, 1), (60, .goto 4, 3), (63, .iconst 0, 1), (64, .istore 6, 2), (66, .aload_n 0, 1), (67, .getfield 35, 3), (70, .iload_n 1, 1), (71, .aload_n 0, 1), (72, .iload_n 1, 1), (73, .iload 4, 2), (75, .aload_n 0, 1)]
theorem D48_2 : RW48_2.all (xDr prog_3_method_3_code) = true := eAll 49 (by decide +kernel)
def RW48_3 : List (Nat × Instr × Nat) := [(76, .getfield 15, 3), (79, .imul, 1), (80, .iload 6, 2), (82, .iadd, 1), (83, .invokevirtual 76, 3), (86, .iastore, 1), (87, .aload_n 2, 1), (88, .iload 4, 2), (90, .invokevirtual 79, 3), (93, .ifCond .eq 45, 3), (96, .iload 4, 2), (98, .iconst 1, 1), (99, .iadd, 1), (100, .aload_n 0, 1), (101, .getfield 9, 3), (104, .if_icmp .ge 10, 3)]
theorem D48_3 : RW48_3.all (xDr prog_3_method_3_code) = true := eAll 76 (by decide +kernel)
def RW48_4 : List (Nat × Instr × Nat) := [(107, .iload 4, 2), (109, .iconst 1, 1), (110, .iadd, 1), (111, .goto 4, 3), (114, .iconst 0, 1), (115, .istore 6, 2), (117, .aload_n 0, 1), (118, .getfield 38, 3), (121, .iload_n 1, 1), (122, .aload_n 0, 1), (123, .iload_n 1, 1), (124, .iload 6, 2), (126, .aload_n 0, 1), (127, .getfield 15, 3), (130, .imul, 1), (131, .iload 5, 2)]
theorem D48_4 : RW48_4.all (xDr prog_3_method_3_code) = true := eAll 107 (by decide +kernel)
def RW48_5 : List (Nat × Instr × Nat) := [(133, .iadd, 1), (134, .invokevirtual 76, 3), (137, .iastore, 1), (138, .return_, 1)]
theorem D48_5 : RW48_5.all (xDr prog_3_method_3_code) = true := eAll 133 (by decide +kernel)
def d_48 : xDt := (⟨"IsingLab$Lattice", "addBondsOf", "(ILIsingLab$Setup;)V"⟩, prog_3_method_3_code, 7, none, 3, [])
def RW49_0 : List (Nat × Instr × Nat) := [(0, .aload_n 0, 1), (1, .getfield 21, 3), (4, .sipush 128, 3), (7, .if_icmp .lt 5, 3), (10, .iconst (-1), 1), (11, .ireturn, 1), (12, .aload_n 0, 1), (13, .getfield 21, 3), (16, .istore_n 3, 1), (17, .aload_n 0, 1), (18, .getfield 28, 3), (21, .iload_n 3, 1), (22, .iload_n 1, 1), (23, .iastore, 1), (24, .aload_n 0, 1), (25, .getfield 32, 3)]
theorem D49_0 : RW49_0.all (xDr prog_3_method_4_code) = true := eAll 0 (by decide +kernel)
def RW49_1 : List (Nat × Instr × Nat) := [(28, .iload_n 3, 1), (29, .iload_n 2, 1), (30, .iastore, 1), (31, .aload_n 0, 1), (32, .dup, 1), (33, .getfield 21, 3), (36, .iconst 1, 1), (37, .iadd, 1), (38, .putfield 21, 3), (41, .aload_n 0, 1), (42, .iload_n 1, 1), (43, .iload_n 3, 1), (44, .invokevirtual 82, 3), (47, .aload_n 0, 1), (48, .iload_n 2, 1), (49, .iload_n 3, 1)]
theorem D49_1 : RW49_1.all (xDr prog_3_method_4_code) = true := eAll 28 (by decide +kernel)
def RW49_2 : List (Nat × Instr × Nat) := [(50, .invokevirtual 82, 3), (53, .iload_n 3, 1), (54, .ireturn, 1)]
theorem D49_2 : RW49_2.all (xDr prog_3_method_4_code) = true := eAll 50 (by decide +kernel)
def d_49 : xDt := (⟨"IsingLab$Lattice", "addBond", "(II)I"⟩, prog_3_method_4_code, 4, (some FieldType.int), 2, [])
def RW50_0 : List (Nat × Instr × Nat) := [(0, .iload_n 1, 1), (1, .ifCond .lt 47, 3), (4, .iload_n 1, 1), (5, .aload_n 0, 1), (6, .getfield 18, 3), (9, .if_icmp .ge 39, 3), (12, .aload_n 0, 1), (13, .getfield 41, 3), (16, .iload_n 1, 1), (17, .iaload, 1), (18, .iconst 4, 1), (19, .if_icmp .ge 29, 3), (22, .aload_n 0, 1), (23, .getfield 44, 3), (26, .iload_n 1, 1), (27, .iconst 4, 1)]
theorem D50_0 : RW50_0.all (xDr prog_3_method_5_code) = true := eAll 0 (by decide +kernel)
def RW50_1 : List (Nat × Instr × Nat) := [(28, .imul, 1), (29, .aload_n 0, 1), (30, .getfield 41, 3), (33, .iload_n 1, 1), (34, .iaload, 1), (35, .iadd, 1), (36, .iload_n 2, 1), (37, .iastore, 1), (38, .aload_n 0, 1), (39, .getfield 41, 3), (42, .iload_n 1, 1), (43, .dup2, 1), (44, .iaload, 1), (45, .iconst 1, 1), (46, .iadd, 1), (47, .iastore, 1)]
theorem D50_1 : RW50_1.all (xDr prog_3_method_5_code) = true := eAll 28 (by decide +kernel)
def RW50_2 : List (Nat × Instr × Nat) := [(48, .return_, 1)]
theorem D50_2 : RW50_2.all (xDr prog_3_method_5_code) = true := eAll 48 (by decide +kernel)
def d_50 : xDt := (⟨"IsingLab$Lattice", "addToSite", "(II)V"⟩, prog_3_method_5_code, 3, none, 1, [])
def RW51_0 : List (Nat × Instr × Nat) := [(0, .iconst 2, 1), (1, .lload_n 1, 1), (2, .invokestatic 86, 3), (5, .imul, 1), (6, .aload_n 0, 1), (7, .getfield 18, 3), (10, .isub, 1), (11, .ireturn, 1)]
theorem D51_0 : RW51_0.all (xDr prog_3_method_10_code) = true := eAll 0 (by decide +kernel)
def d_51 : xDt := (⟨"IsingLab$Lattice", "magnetizationOf", "(J)I"⟩, prog_3_method_10_code, 3, (some FieldType.int), 2, [])
def RW52_0 : List (Nat × Instr × Nat) := [(0, .aload_n 0, 1), (1, .getfield 44, 3), (4, .iload_n 1, 1), (5, .iconst 4, 1), (6, .imul, 1), (7, .iload_n 2, 1), (8, .iadd, 1), (9, .iaload, 1), (10, .ireturn, 1)]
theorem D52_0 : RW52_0.all (xDr prog_3_method_6_code) = true := eAll 0 (by decide +kernel)
def d_52 : xDt := (⟨"IsingLab$Lattice", "bondAt", "(II)I"⟩, prog_3_method_6_code, 3, (some FieldType.int), 1, [])
def RW53_0 : List (Nat × Instr × Nat) := [(0, .lload_n 1, 1), (1, .aload_n 0, 1), (2, .getfield 28, 3), (5, .iload_n 3, 1), (6, .iaload, 1), (7, .lushr, 1), (8, .lload_n 1, 1), (9, .aload_n 0, 1), (10, .getfield 32, 3), (13, .iload_n 3, 1), (14, .iaload, 1), (15, .lushr, 1), (16, .lxor, 1), (17, .lconst 1, 1), (18, .land, 1), (19, .lconst 0, 1)]
theorem D53_0 : RW53_0.all (xDr prog_3_method_8_code) = true := eAll 0 (by decide +kernel)
def RW53_1 : List (Nat × Instr × Nat) := [(20, .lcmp, 1), (21, .ifCond .ne 7, 3), (24, .iconst 1, 1), (25, .goto 4, 3), (28, .iconst 0, 1), (29, .ireturn, 1)]
theorem D53_1 : RW53_1.all (xDr prog_3_method_8_code) = true := eAll 20 (by decide +kernel)
def d_53 : xDt := (⟨"IsingLab$Lattice", "isAligned", "(JI)Z"⟩, prog_3_method_8_code, 4, (some FieldType.boolean), 1, [])
def RW54_0 : List (Nat × Instr × Nat) := [(0, .aload_n 0, 1), (1, .getfield 28, 3), (4, .iload_n 1, 1), (5, .iaload, 1), (6, .iload_n 2, 1), (7, .if_icmp .ne 12, 3), (10, .aload_n 0, 1), (11, .getfield 32, 3), (14, .iload_n 1, 1), (15, .iaload, 1), (16, .goto 9, 3), (19, .aload_n 0, 1), (20, .getfield 28, 3), (23, .iload_n 1, 1), (24, .iaload, 1), (25, .ireturn, 1)]
theorem D54_0 : RW54_0.all (xDr prog_3_method_7_code) = true := eAll 0 (by decide +kernel)
def d_54 : xDt := (⟨"IsingLab$Lattice", "otherEnd", "(II)I"⟩, prog_3_method_7_code, 3, (some FieldType.int), 1, [])
def RW55_0 : List (Nat × Instr × Nat) := [(0, .lload_n 1, 1), (1, .aload_n 0, 1), (2, .getfield 24, 3), (5, .ldc2_w 57, 3), (8, .lxor, 1), (9, .land, 1), (10, .lconst 0, 1), (11, .lcmp, 1), (12, .ifCond .ne 7, 3), (15, .iconst 1, 1), (16, .goto 4, 3), (19, .iconst 0, 1), (20, .ireturn, 1)]
theorem D55_0 : RW55_0.all (xDr prog_3_method_9_code) = true := eAll 0 (by decide +kernel)
def d_55 : xDt := (⟨"IsingLab$Lattice", "holds", "(J)Z"⟩, prog_3_method_9_code, 3, (some FieldType.boolean), 1, [])
def RW56_0 : List (Nat × Instr × Nat) := [(0, .aload_n 0, 1), (1, .invokespecial 3, 3), (4, .aload_n 0, 1), (5, .new 9, 3), (8, .dup, 1), (9, .invokespecial 11, 3), (12, .putfield 12, 3), (15, .aload_n 0, 1), (16, .iconst 0, 1), (17, .putfield 18, 3), (20, .aload_n 0, 1), (21, .iconst (-1), 1), (22, .putfield 22, 3), (25, .aload_n 0, 1), (26, .iconst 0, 1), (27, .putfield 25, 3)]
theorem D56_0 : RW56_0.all (xDr prog_6_method_1_code) = true := eAll 0 (by decide +kernel)
def RW56_1 : List (Nat × Instr × Nat) := [(30, .aload_n 0, 1), (31, .iconst 0, 1), (32, .putfield 28, 3), (35, .aload_n 0, 1), (36, .iconst 0, 1), (37, .putfield 31, 3), (40, .aload_n 0, 1), (41, .iconst 0, 1), (42, .putfield 34, 3), (45, .aload_n 0, 1), (46, .iconst 0, 1), (47, .putfield 37, 3), (50, .aload_n 0, 1), (51, .aload_n 1, 1), (52, .putfield 40, 3), (55, .aload_n 0, 1)]
theorem D56_1 : RW56_1.all (xDr prog_6_method_1_code) = true := eAll 30 (by decide +kernel)
def RW56_2 : List (Nat × Instr × Nat) := [(56, .iload_n 2, 1), (57, .aload_n 1, 1), (58, .arraylength, 1), (59, .invokestatic 44, 3), (62, .putfield 50, 3), (65, .return_, 1)]
theorem D56_2 : RW56_2.all (xDr prog_6_method_1_code) = true := eAll 56 (by decide +kernel)
def d_56 : xDt := (⟨"IsingLab$SetupReader", "<init>", "([BI)V"⟩, prog_6_method_1_code, 3, none, 3, [])
def RW57_0 : List (Nat × Instr × Nat) := [(0, .aload_n 0, 1), (1, .invokevirtual 53, 3), (4, .iconst 0, 1), (5, .istore_n 1, 1), (6, .iload_n 1, 1), (7, .aload_n 0, 1), (8, .getfield 50, 3), (11, .if_icmp .gt 75, 3), (14, .aload_n 0, 1), (15, .getfield 28, 3), (18, .ifCond .eq 68, 3), (21, .aload_n 0, 1), (22, .invokevirtual 56, 3), (25, .istore_n 2, 1), (26, .aload_n 0, 1), (27, .iload_n 2, 1)]
theorem D57_0 : RW57_0.all (xDr prog_6_method_2_code) = true := eAll 0 (by decide +kernel)
def RW57_1 : List (Nat × Instr × Nat) := [(28, .invokevirtual 60, 3), (31, .ifCond .ne 5, 3), (34, .iconst 0, 1), (35, .ireturn, 1), (36, .aload_n 0, 1), (37, .dup, 1), (38, .getfield 37, 3), (41, .iconst 1, 1), (42, .iload_n 2, 1), (43, .ishl, 1), (44, .ior, 1), (45, .putfield 37, 3), (48, .aload_n 0, 1), (49, .invokevirtual 53, 3), (52, .aload_n 0, 1), (53, .iload_n 2, 1)]
theorem D57_1 : RW57_1.all (xDr prog_6_method_2_code) = true := eAll 28 (by decide +kernel)
def RW57_2 : List (Nat × Instr × Nat) := [(54, .invokevirtual 64, 3), (57, .ifCond .ne 5, 3), (60, .iconst 0, 1), (61, .ireturn, 1), (62, .aload_n 0, 1), (63, .getfield 28, 3), (66, .iconst 4, 1), (67, .if_icmp .eq 9, 3), (70, .aload_n 0, 1), (71, .iconst 1, 1), (72, .invokevirtual 67, 3), (75, .ireturn, 1), (76, .aload_n 0, 1), (77, .invokevirtual 53, 3), (80, .iinc 1 1, 3), (83, .goto (-77), 3)]
theorem D57_2 : RW57_2.all (xDr prog_6_method_2_code) = true := eAll 54 (by decide +kernel)
def RW57_3 : List (Nat × Instr × Nat) := [(86, .iconst 1, 1), (87, .ireturn, 1)]
theorem D57_3 : RW57_3.all (xDr prog_6_method_2_code) = true := eAll 86 (by decide +kernel)
def d_57 : xDt := (⟨"IsingLab$SetupReader", "readText", "()Z"⟩, prog_6_method_2_code, 3, (some FieldType.boolean), 8, [])
def RW58_0 : List (Nat × Instr × Nat) := [(0, .aload_n 0, 1), (1, .getfield 25, 3), (4, .aload_n 0, 1), (5, .getfield 50, 3), (8, .if_icmp .ge 28, 3), (11, .aload_n 0, 1), (12, .aload_n 0, 1), (13, .getfield 25, 3), (16, .invokevirtual 176, 3), (19, .iconst 5, 1), (20, .if_icmp .ne 16, 3), (23, .aload_n 0, 1), (24, .dup, 1), (25, .getfield 25, 3), (28, .iconst 1, 1), (29, .iadd, 1)]
theorem D58_0 : RW58_0.all (xDr prog_6_method_14_code) = true := eAll 0 (by decide +kernel)
def RW58_1 : List (Nat × Instr × Nat) := [(30, .putfield 25, 3), (33, .goto (-33), 3), (36, .aload_n 0, 1), (37, .aload_n 0, 1), (38, .getfield 25, 3), (41, .putfield 31, 3), (44, .aload_n 0, 1), (45, .getfield 25, 3), (48, .aload_n 0, 1), (49, .getfield 50, 3), (52, .if_icmp .lt 9, 3), (55, .aload_n 0, 1), (56, .iconst 0, 1), (57, .putfield 28, 3), (60, .return_, 1), (61, .aload_n 0, 1)]
theorem D58_1 : RW58_1.all (xDr prog_6_method_14_code) = true := eAll 30 (by decide +kernel)
def RW58_2 : List (Nat × Instr × Nat) := [(62, .aload_n 0, 1), (63, .aload_n 0, 1), (64, .getfield 25, 3), (67, .invokevirtual 176, 3), (70, .putfield 28, 3), (73, .aload_n 0, 1), (74, .dup, 1), (75, .getfield 25, 3), (78, .iconst 1, 1), (79, .iadd, 1), (80, .putfield 25, 3), (83, .aload_n 0, 1), (84, .getfield 28, 3), (87, .iconst 1, 1), (88, .if_icmp .eq 11, 3), (91, .aload_n 0, 1)]
theorem D58_2 : RW58_2.all (xDr prog_6_method_14_code) = true := eAll 62 (by decide +kernel)
def RW58_3 : List (Nat × Instr × Nat) := [(92, .getfield 28, 3), (95, .iconst 2, 1), (96, .if_icmp .ne 42, 3), (99, .aload_n 0, 1), (100, .getfield 25, 3), (103, .aload_n 0, 1), (104, .getfield 50, 3), (107, .if_icmp .ge 31, 3), (110, .aload_n 0, 1), (111, .aload_n 0, 1), (112, .getfield 25, 3), (115, .invokevirtual 176, 3), (118, .aload_n 0, 1), (119, .getfield 28, 3), (122, .if_icmp .ne 16, 3), (125, .aload_n 0, 1)]
theorem D58_3 : RW58_3.all (xDr prog_6_method_14_code) = true := eAll 92 (by decide +kernel)
def RW58_4 : List (Nat × Instr × Nat) := [(126, .dup, 1), (127, .getfield 25, 3), (130, .iconst 1, 1), (131, .iadd, 1), (132, .putfield 25, 3), (135, .goto (-36), 3), (138, .aload_n 0, 1), (139, .getfield 28, 3), (142, .iconst 2, 1), (143, .if_icmp .ne 22, 3), (146, .aload_n 0, 1), (147, .getfield 25, 3), (150, .aload_n 0, 1), (151, .getfield 31, 3), (154, .isub, 1), (155, .iconst 4, 1)]
theorem D58_4 : RW58_4.all (xDr prog_6_method_14_code) = true := eAll 126 (by decide +kernel)
def RW58_5 : List (Nat × Instr × Nat) := [(156, .if_icmp .le 9, 3), (159, .aload_n 0, 1), (160, .bipush 6, 2), (162, .putfield 28, 3), (165, .return_, 1)]
theorem D58_5 : RW58_5.all (xDr prog_6_method_14_code) = true := eAll 156 (by decide +kernel)
def d_58 : xDt := (⟨"IsingLab$SetupReader", "advance", "()V"⟩, prog_6_method_14_code, 1, none, 2, [])
def RW59_0 : List (Nat × Instr × Nat) := [(0, .aload_n 0, 1), (1, .getfield 40, 3), (4, .iload_n 1, 1), (5, .baload, 1), (6, .istore_n 2, 1), (7, .iload_n 2, 1), (8, .bipush 97, 2), (10, .if_icmp .lt 11, 3), (13, .iload_n 2, 1), (14, .bipush 122, 2), (16, .if_icmp .gt 5, 3), (19, .iconst 1, 1), (20, .ireturn, 1), (21, .iload_n 2, 1), (22, .bipush 48, 2), (24, .if_icmp .lt 11, 3)]
theorem D59_0 : RW59_0.all (xDr prog_6_method_15_code) = true := eAll 0 (by decide +kernel)
def RW59_1 : List (Nat × Instr × Nat) := [(27, .iload_n 2, 1), (28, .bipush 57, 2), (30, .if_icmp .gt 5, 3), (33, .iconst 2, 1), (34, .ireturn, 1), (35, .iload_n 2, 1), (36, .lookupswitch 52 #[(10, 46), (32, 44), (45, 48), (59, 50)], 44), (80, .iconst 5, 1), (81, .ireturn, 1), (82, .iconst 5, 1), (83, .ireturn, 1), (84, .iconst 3, 1), (85, .ireturn, 1), (86, .iconst 4, 1), (87, .ireturn, 1), (88, .bipush 6, 2)]
theorem D59_1 : RW59_1.all (xDr prog_6_method_15_code) = true := by decide +kernel
def RW59_2 : List (Nat × Instr × Nat) := [(90, .ireturn, 1)]
theorem D59_2 : RW59_2.all (xDr prog_6_method_15_code) = true := eAll 90 (by decide +kernel)
def d_59 : xDt := (⟨"IsingLab$SetupReader", "kindAt", "(I)I"⟩, prog_6_method_15_code, 3, (some FieldType.int), 1, [])
def RW60_0 : List (Nat × Instr × Nat) := [(0, .aload_n 0, 1), (1, .ldc 70, 2), (3, .invokevirtual 72, 3), (6, .ifCond .eq 5, 3), (9, .iconst 0, 1), (10, .ireturn, 1), (11, .aload_n 0, 1), (12, .ldc 76, 2), (14, .invokevirtual 72, 3), (17, .ifCond .eq 5, 3), (20, .iconst 1, 1), (21, .ireturn, 1), (22, .aload_n 0, 1), (23, .ldc 78, 2), (25, .invokevirtual 72, 3), (28, .ifCond .eq 5, 3)]
theorem D60_0 : RW60_0.all (xDr prog_6_method_4_code) = true := eAll 0 (by decide +kernel)
def RW60_1 : List (Nat × Instr × Nat) := [(31, .iconst 2, 1), (32, .ireturn, 1), (33, .aload_n 0, 1), (34, .ldc 80, 2), (36, .invokevirtual 72, 3), (39, .ifCond .eq 5, 3), (42, .iconst 3, 1), (43, .ireturn, 1), (44, .aload_n 0, 1), (45, .ldc 82, 2), (47, .invokevirtual 72, 3), (50, .ifCond .eq 5, 3), (53, .iconst 4, 1), (54, .ireturn, 1), (55, .aload_n 0, 1), (56, .ldc 84, 2)]
theorem D60_1 : RW60_1.all (xDr prog_6_method_4_code) = true := eAll 31 (by decide +kernel)
def RW60_2 : List (Nat × Instr × Nat) := [(58, .invokevirtual 72, 3), (61, .ifCond .eq 5, 3), (64, .iconst 5, 1), (65, .ireturn, 1), (66, .aload_n 0, 1), (67, .ldc 86, 2), (69, .invokevirtual 72, 3), (72, .ifCond .eq 6, 3), (75, .bipush 6, 2), (77, .ireturn, 1), (78, .aload_n 0, 1), (79, .ldc 88, 2), (81, .invokevirtual 72, 3), (84, .ifCond .eq 6, 3), (87, .bipush 7, 2), (89, .ireturn, 1)]
theorem D60_2 : RW60_2.all (xDr prog_6_method_4_code) = true := eAll 58 (by decide +kernel)
def RW60_3 : List (Nat × Instr × Nat) := [(90, .aload_n 0, 1), (91, .ldc 89, 2), (93, .invokevirtual 72, 3), (96, .ifCond .eq 8, 3), (99, .bipush 8, 2), (101, .goto 4, 3), (104, .iconst (-1), 1), (105, .ireturn, 1)]
theorem D60_3 : RW60_3.all (xDr prog_6_method_4_code) = true := eAll 90 (by decide +kernel)
def d_60 : xDt := (⟨"IsingLab$SetupReader", "statementAhead", "()I"⟩, prog_6_method_4_code, 1, (some FieldType.int), 6, [])
def RW61_0 : List (Nat × Instr × Nat) := [(0, .aload_n 0, 1), (1, .getfield 28, 3), (4, .iconst 1, 1), (5, .if_icmp .ne 19, 3), (8, .aload_n 0, 1), (9, .getfield 25, 3), (12, .aload_n 0, 1), (13, .getfield 31, 3), (16, .isub, 1), (17, .aload_n 1, 1), (18, .invokevirtual 168, 3), (21, .if_icmp .eq 5, 3), (24, .iconst 0, 1), (25, .ireturn, 1), (26, .iconst 0, 1), (27, .istore_n 2, 1)]
theorem D61_0 : RW61_0.all (xDr prog_6_method_12_code) = true := eAll 0 (by decide +kernel)
def RW61_1 : List (Nat × Instr × Nat) := [(28, .iload_n 2, 1), (29, .aload_n 1, 1), (30, .invokevirtual 168, 3), (33, .if_icmp .ge 43, 3), (36, .aload_n 0, 1), (37, .getfield 31, 3), (40, .iload_n 2, 1), (41, .iadd, 1), (42, .aload_n 0, 1), (43, .getfield 50, 3), (46, .if_icmp .ge 30, 3), (49, .aload_n 0, 1), (50, .getfield 40, 3), (53, .aload_n 0, 1), (54, .getfield 31, 3), (57, .iload_n 2, 1)]
theorem D61_1 : RW61_1.all (xDr prog_6_method_12_code) = true := eAll 28 (by decide +kernel)
def RW61_2 : List (Nat × Instr × Nat) := [(58, .iadd, 1), (59, .baload, 1), (60, .aload_n 1, 1), (61, .iload_n 2, 1), (62, .invokevirtual 172, 3), (65, .if_icmp .eq 5, 3), (68, .iconst 0, 1), (69, .ireturn, 1), (70, .iinc 2 1, 3), (73, .goto (-45), 3), (76, .iconst 1, 1), (77, .ireturn, 1)]
theorem D61_2 : RW61_2.all (xDr prog_6_method_12_code) = true := eAll 58 (by decide +kernel)
def d_61 : xDt := (⟨"IsingLab$SetupReader", "wordIs", "(Ljava/lang/String;)Z"⟩, prog_6_method_12_code, 3, (some FieldType.boolean), 5, [])
def RW62_0 : List (Nat × Instr × Nat) := [(0, .iload_n 1, 1), (1, .iconst (-1), 1), (2, .if_icmp .ne 9, 3), (5, .aload_n 0, 1), (6, .iconst 1, 1), (7, .invokevirtual 67, 3), (10, .ireturn, 1), (11, .iload_n 1, 1), (12, .bipush 8, 2), (14, .if_icmp .ne 23, 3), (17, .aload_n 0, 1), (18, .getfield 12, 3), (21, .getfield 91, 3), (24, .bipush 12, 2), (26, .if_icmp .lt 7, 3), (29, .iconst 1, 1)]
theorem D62_0 : RW62_0.all (xDr prog_6_method_5_code) = true := eAll 0 (by decide +kernel)
def RW62_1 : List (Nat × Instr × Nat) := [(30, .goto 23, 3), (33, .iconst 0, 1), (34, .goto 19, 3), (37, .aload_n 0, 1), (38, .getfield 37, 3), (41, .iload_n 1, 1), (42, .ishr, 1), (43, .iconst 1, 1), (44, .iand, 1), (45, .ifCond .eq 7, 3), (48, .iconst 1, 1), (49, .goto 4, 3), (52, .iconst 0, 1), (53, .istore_n 2, 1), (54, .iload_n 1, 1), (55, .ifCond .eq 8, 3)]
theorem D62_1 : RW62_1.all (xDr prog_6_method_5_code) = true := eAll 30 (by decide +kernel)
def RW62_2 : List (Nat × Instr × Nat) := [(58, .iload_n 1, 1), (59, .iconst 1, 1), (60, .if_icmp .ne 17, 3), (63, .aload_n 0, 1), (64, .getfield 12, 3), (67, .getfield 91, 3), (70, .ifCond .le 7, 3), (73, .iconst 1, 1), (74, .goto 4, 3), (77, .iconst 0, 1), (78, .istore_n 3, 1), (79, .iload_n 2, 1), (80, .ifCond .ne 7, 3), (83, .iload_n 3, 1), (84, .ifCond .eq 9, 3), (87, .aload_n 0, 1)]
theorem D62_2 : RW62_2.all (xDr prog_6_method_5_code) = true := eAll 58 (by decide +kernel)
def RW62_3 : List (Nat × Instr × Nat) := [(88, .iconst 3, 1), (89, .invokevirtual 67, 3), (92, .ireturn, 1), (93, .iconst 1, 1), (94, .ireturn, 1)]
theorem D62_3 : RW62_3.all (xDr prog_6_method_5_code) = true := eAll 88 (by decide +kernel)
def d_62 : xDt := (⟨"IsingLab$SetupReader", "admits", "(I)Z"⟩, prog_6_method_5_code, 4, (some FieldType.boolean), 2, [])
def RW63_0 : List (Nat × Instr × Nat) := [(0, .aload_n 0, 1), (1, .iload_n 1, 1), (2, .putfield 18, 3), (5, .aload_n 0, 1), (6, .aload_n 0, 1), (7, .getfield 31, 3), (10, .putfield 22, 3), (13, .iconst 0, 1), (14, .ireturn, 1)]
theorem D63_0 : RW63_0.all (xDr prog_6_method_3_code) = true := eAll 0 (by decide +kernel)
def d_63 : xDt := (⟨"IsingLab$SetupReader", "fail", "(I)Z"⟩, prog_6_method_3_code, 2, (some FieldType.boolean), 1, [])
def RW64_0 : List (Nat × Instr × Nat) := [(0, .iload_n 1, 1), (1, .tableswitch 193 0 7 #[47, 52, 76, 81, 102, 123, 147, 169], 47), (48, .aload_n 0, 1), (49, .invokevirtual 94, 3), (52, .ireturn, 1), (53, .aload_n 0, 1), (54, .ldc 98, 2), (56, .ldc 100, 2), (58, .ldc 102, 2), (60, .invokevirtual 104, 3), (63, .istore_n 2, 1), (64, .aload_n 0, 1), (65, .getfield 12, 3), (68, .aload_n 0, 1), (69, .getfield 34, 3), (72, .putfield 108, 3)]
theorem D64_0 : RW64_0.all (xDr prog_6_method_6_code) = true := by decide +kernel
def RW64_1 : List (Nat × Instr × Nat) := [(75, .iload_n 2, 1), (76, .ireturn, 1), (77, .aload_n 0, 1), (78, .invokevirtual 110, 3), (81, .ireturn, 1), (82, .aload_n 0, 1), (83, .bipush (-3), 2), (85, .iconst 3, 1), (86, .invokevirtual 113, 3), (89, .istore_n 2, 1), (90, .aload_n 0, 1), (91, .getfield 12, 3), (94, .aload_n 0, 1), (95, .getfield 34, 3), (98, .putfield 117, 3), (101, .iload_n 2, 1)]
theorem D64_1 : RW64_1.all (xDr prog_6_method_6_code) = true := eAll 75 (by decide +kernel)
def RW64_2 : List (Nat × Instr × Nat) := [(102, .ireturn, 1), (103, .aload_n 0, 1), (104, .bipush (-3), 2), (106, .iconst 3, 1), (107, .invokevirtual 113, 3), (110, .istore_n 2, 1), (111, .aload_n 0, 1), (112, .getfield 12, 3), (115, .aload_n 0, 1), (116, .getfield 34, 3), (119, .putfield 119, 3), (122, .iload_n 2, 1), (123, .ireturn, 1), (124, .aload_n 0, 1), (125, .ldc 121, 2), (127, .ldc 123, 2)]
theorem D64_2 : RW64_2.all (xDr prog_6_method_6_code) = true := eAll 102 (by decide +kernel)
def RW64_3 : List (Nat × Instr × Nat) := [(129, .ldc 125, 2), (131, .invokevirtual 104, 3), (134, .istore_n 2, 1), (135, .aload_n 0, 1), (136, .getfield 12, 3), (139, .aload_n 0, 1), (140, .getfield 34, 3), (143, .putfield 127, 3), (146, .iload_n 2, 1), (147, .ireturn, 1), (148, .aload_n 0, 1), (149, .iconst 0, 1), (150, .sipush 9999, 3), (153, .invokevirtual 113, 3), (156, .istore_n 2, 1), (157, .aload_n 0, 1)]
theorem D64_3 : RW64_3.all (xDr prog_6_method_6_code) = true := eAll 129 (by decide +kernel)
def RW64_4 : List (Nat × Instr × Nat) := [(158, .getfield 12, 3), (161, .aload_n 0, 1), (162, .getfield 34, 3), (165, .putfield 129, 3), (168, .iload_n 2, 1), (169, .ireturn, 1), (170, .aload_n 0, 1), (171, .ldc 131, 2), (173, .ldc 133, 2), (175, .ldc 135, 2), (177, .invokevirtual 104, 3), (180, .istore_n 2, 1), (181, .aload_n 0, 1), (182, .getfield 12, 3), (185, .aload_n 0, 1), (186, .getfield 34, 3)]
theorem D64_4 : RW64_4.all (xDr prog_6_method_6_code) = true := eAll 158 (by decide +kernel)
def RW64_5 : List (Nat × Instr × Nat) := [(189, .putfield 137, 3), (192, .iload_n 2, 1), (193, .ireturn, 1), (194, .aload_n 0, 1), (195, .invokevirtual 138, 3), (198, .ireturn, 1)]
theorem D64_5 : RW64_5.all (xDr prog_6_method_6_code) = true := eAll 189 (by decide +kernel)
def d_64 : xDt := (⟨"IsingLab$SetupReader", "readBody", "(I)Z"⟩, prog_6_method_6_code, 3, (some FieldType.boolean), 7, [])
def RW65_0 : List (Nat × Instr × Nat) := [(0, .aload_n 0, 1), (1, .iconst 2, 1), (2, .bipush 8, 2), (4, .invokevirtual 113, 3), (7, .ifCond .ne 5, 3), (10, .iconst 0, 1), (11, .ireturn, 1), (12, .aload_n 0, 1), (13, .getfield 12, 3), (16, .aload_n 0, 1), (17, .getfield 34, 3), (20, .putfield 141, 3), (23, .aload_n 0, 1), (24, .iconst 2, 1), (25, .bipush 8, 2), (27, .invokevirtual 113, 3)]
theorem D65_0 : RW65_0.all (xDr prog_6_method_7_code) = true := eAll 0 (by decide +kernel)
def RW65_1 : List (Nat × Instr × Nat) := [(30, .ifCond .ne 5, 3), (33, .iconst 0, 1), (34, .ireturn, 1), (35, .aload_n 0, 1), (36, .getfield 12, 3), (39, .aload_n 0, 1), (40, .getfield 34, 3), (43, .putfield 144, 3), (46, .iconst 1, 1), (47, .ireturn, 1)]
theorem D65_1 : RW65_1.all (xDr prog_6_method_7_code) = true := eAll 30 (by decide +kernel)
def d_65 : xDt := (⟨"IsingLab$SetupReader", "readSize", "()Z"⟩, prog_6_method_7_code, 1, (some FieldType.boolean), 4, [])
def RW66_0 : List (Nat × Instr × Nat) := [(0, .iload_n 1, 1), (1, .ifCond .ge 15, 3), (4, .aload_n 0, 1), (5, .getfield 28, 3), (8, .iconst 3, 1), (9, .if_icmp .ne 7, 3), (12, .iconst 1, 1), (13, .goto 4, 3), (16, .iconst 0, 1), (17, .istore_n 3, 1), (18, .iload_n 3, 1), (19, .ifCond .eq 7, 3), (22, .aload_n 0, 1), (23, .invokevirtual 53, 3), (26, .aload_n 0, 1), (27, .getfield 28, 3)]
theorem D66_0 : RW66_0.all (xDr prog_6_method_11_code) = true := eAll 0 (by decide +kernel)
def RW66_1 : List (Nat × Instr × Nat) := [(30, .iconst 2, 1), (31, .if_icmp .eq 9, 3), (34, .aload_n 0, 1), (35, .iconst 1, 1), (36, .invokevirtual 67, 3), (39, .ireturn, 1), (40, .iload_n 3, 1), (41, .ifCond .eq 11, 3), (44, .aload_n 0, 1), (45, .invokevirtual 165, 3), (48, .ineg, 1), (49, .goto 7, 3), (52, .aload_n 0, 1), (53, .invokevirtual 165, 3), (56, .istore 4, 2), (58, .iload 4, 2)]
theorem D66_1 : RW66_1.all (xDr prog_6_method_11_code) = true := eAll 30 (by decide +kernel)
def RW66_2 : List (Nat × Instr × Nat) := [(60, .iload_n 1, 1), (61, .if_icmp .lt 9, 3), (64, .iload 4, 2), (66, .iload_n 2, 1), (67, .if_icmp .le 9, 3), (70, .aload_n 0, 1), (71, .iconst 2, 1), (72, .invokevirtual 67, 3), (75, .ireturn, 1), (76, .aload_n 0, 1), (77, .iload 4, 2), (79, .putfield 34, 3), (82, .aload_n 0, 1), (83, .invokevirtual 53, 3), (86, .iconst 1, 1), (87, .ireturn, 1)]
theorem D66_2 : RW66_2.all (xDr prog_6_method_11_code) = true := eAll 60 (by decide +kernel)
def d_66 : xDt := (⟨"IsingLab$SetupReader", "readNumber", "(II)Z"⟩, prog_6_method_11_code, 5, (some FieldType.boolean), 3, [])
def RW67_0 : List (Nat × Instr × Nat) := [(0, .iconst 0, 1), (1, .istore_n 1, 1), (2, .aload_n 0, 1), (3, .getfield 31, 3), (6, .istore_n 2, 1), (7, .iload_n 2, 1), (8, .aload_n 0, 1), (9, .getfield 25, 3), (12, .if_icmp .ge 32, 3), (15, .iload_n 2, 1), (16, .aload_n 0, 1), (17, .getfield 50, 3), (20, .if_icmp .ge 24, 3), (23, .iload_n 1, 1), (24, .bipush 10, 2), (26, .imul, 1)]
theorem D67_0 : RW67_0.all (xDr prog_6_method_13_code) = true := eAll 0 (by decide +kernel)
def RW67_1 : List (Nat × Instr × Nat) := [(27, .aload_n 0, 1), (28, .getfield 40, 3), (31, .iload_n 2, 1), (32, .baload, 1), (33, .bipush 48, 2), (35, .isub, 1), (36, .iadd, 1), (37, .istore_n 1, 1), (38, .iinc 2 1, 3), (41, .goto (-34), 3), (44, .iload_n 1, 1), (45, .ireturn, 1)]
theorem D67_1 : RW67_1.all (xDr prog_6_method_13_code) = true := eAll 27 (by decide +kernel)
def d_67 : xDt := (⟨"IsingLab$SetupReader", "valueAhead", "()I"⟩, prog_6_method_13_code, 3, (some FieldType.int), 1, [])
def RW68_0 : List (Nat × Instr × Nat) := [(0, .aload_n 0, 1), (1, .aload_n 1, 1), (2, .invokevirtual 72, 3), (5, .ifCond .eq 11, 3), (8, .aload_n 0, 1), (9, .iconst 0, 1), (10, .putfield 34, 3), (13, .goto 41, 3), (16, .aload_n 0, 1), (17, .aload_n 2, 1), (18, .invokevirtual 72, 3), (21, .ifCond .eq 11, 3), (24, .aload_n 0, 1), (25, .iconst 1, 1), (26, .putfield 34, 3), (29, .goto 25, 3)]
theorem D68_0 : RW68_0.all (xDr prog_6_method_10_code) = true := eAll 0 (by decide +kernel)
def RW68_1 : List (Nat × Instr × Nat) := [(32, .aload_n 0, 1), (33, .aload_n 3, 1), (34, .invokevirtual 72, 3), (37, .ifCond .eq 11, 3), (40, .aload_n 0, 1), (41, .iconst 2, 1), (42, .putfield 34, 3), (45, .goto 9, 3), (48, .aload_n 0, 1), (49, .iconst 1, 1), (50, .invokevirtual 67, 3), (53, .ireturn, 1), (54, .aload_n 0, 1), (55, .invokevirtual 53, 3), (58, .iconst 1, 1), (59, .ireturn, 1)]
theorem D68_1 : RW68_1.all (xDr prog_6_method_10_code) = true := eAll 32 (by decide +kernel)
def d_68 : xDt := (⟨"IsingLab$SetupReader", "readChoice", "(Ljava/lang/String;Ljava/lang/String;Ljava/lang/String;)Z"⟩, prog_6_method_10_code, 4, (some FieldType.boolean), 6, [])
def RW69_0 : List (Nat × Instr × Nat) := [(0, .aload_n 0, 1), (1, .iconst 1, 1), (2, .bipush 98, 2), (4, .invokevirtual 113, 3), (7, .ifCond .ne 5, 3), (10, .iconst 0, 1), (11, .ireturn, 1), (12, .aload_n 0, 1), (13, .getfield 12, 3), (16, .aload_n 0, 1), (17, .getfield 34, 3), (20, .putfield 147, 3), (23, .aload_n 0, 1), (24, .aload_n 0, 1), (25, .getfield 12, 3), (28, .getfield 147, 3)]
theorem D69_0 : RW69_0.all (xDr prog_6_method_8_code) = true := eAll 0 (by decide +kernel)
def RW69_1 : List (Nat × Instr × Nat) := [(31, .iconst 1, 1), (32, .iadd, 1), (33, .bipush 99, 2), (35, .invokevirtual 113, 3), (38, .ifCond .ne 5, 3), (41, .iconst 0, 1), (42, .ireturn, 1), (43, .aload_n 0, 1), (44, .getfield 12, 3), (47, .aload_n 0, 1), (48, .getfield 34, 3), (51, .putfield 150, 3), (54, .iconst 1, 1), (55, .ireturn, 1)]
theorem D69_1 : RW69_1.all (xDr prog_6_method_8_code) = true := eAll 31 (by decide +kernel)
def d_69 : xDt := (⟨"IsingLab$SetupReader", "readRatio", "()Z"⟩, prog_6_method_8_code, 1, (some FieldType.boolean), 4, [])
def RW70_0 : List (Nat × Instr × Nat) := [(0, .aload_n 0, 1), (1, .iconst 0, 1), (2, .aload_n 0, 1), (3, .getfield 12, 3), (6, .getfield 141, 3), (9, .iconst 1, 1), (10, .isub, 1), (11, .invokevirtual 113, 3), (14, .ifCond .ne 5, 3), (17, .iconst 0, 1), (18, .ireturn, 1), (19, .aload_n 0, 1), (20, .getfield 34, 3), (23, .istore_n 1, 1), (24, .aload_n 0, 1), (25, .iconst 0, 1)]
theorem D70_0 : RW70_0.all (xDr prog_6_method_9_code) = true := eAll 0 (by decide +kernel)
def RW70_1 : List (Nat × Instr × Nat) := [(26, .aload_n 0, 1), (27, .getfield 12, 3), (30, .getfield 144, 3), (33, .iconst 1, 1), (34, .isub, 1), (35, .invokevirtual 113, 3), (38, .ifCond .ne 5, 3), (41, .iconst 0, 1), (42, .ireturn, 1), (43, .aload_n 0, 1), (44, .getfield 34, 3), (47, .istore_n 2, 1), (48, .aload_n 0, 1), (49, .ldc 133, 2), (51, .invokevirtual 72, 3), (54, .istore_n 3, 1)]
theorem D70_1 : RW70_1.all (xDr prog_6_method_9_code) = true := eAll 26 (by decide +kernel)
def RW70_2 : List (Nat × Instr × Nat) := [(55, .iload_n 3, 1), (56, .ifCond .ne 18, 3), (59, .aload_n 0, 1), (60, .ldc 153, 2), (62, .invokevirtual 72, 3), (65, .ifCond .ne 9, 3), (68, .aload_n 0, 1), (69, .iconst 1, 1), (70, .invokevirtual 67, 3), (73, .ireturn, 1), (74, .iload_n 3, 1), (75, .ifCond .eq 14, 3), (78, .aload_n 0, 1), (79, .getfield 12, 3), (82, .iload_n 1, 1), (83, .invokevirtual 155, 3)]
theorem D70_2 : RW70_2.all (xDr prog_6_method_9_code) = true := eAll 55 (by decide +kernel)
def RW70_3 : List (Nat × Instr × Nat) := [(86, .goto 11, 3), (89, .aload_n 0, 1), (90, .getfield 12, 3), (93, .iload_n 2, 1), (94, .invokevirtual 158, 3), (97, .istore 4, 2), (99, .iload 4, 2), (101, .ifCond .ne 9, 3), (104, .aload_n 0, 1), (105, .iconst 3, 1), (106, .invokevirtual 67, 3), (109, .ireturn, 1), (110, .aload_n 0, 1), (111, .invokevirtual 53, 3), (114, .aload_n 0, 1), (115, .bipush (-3), 2)]
theorem D70_3 : RW70_3.all (xDr prog_6_method_9_code) = true := eAll 86 (by decide +kernel)
def RW70_4 : List (Nat × Instr × Nat) := [(117, .iconst 3, 1), (118, .invokevirtual 113, 3), (121, .ifCond .ne 5, 3), (124, .iconst 0, 1), (125, .ireturn, 1), (126, .aload_n 0, 1), (127, .getfield 12, 3), (130, .iload_n 1, 1), (131, .aload_n 0, 1), (132, .getfield 12, 3), (135, .getfield 144, 3), (138, .imul, 1), (139, .iload_n 2, 1), (140, .iadd, 1), (141, .iload_n 3, 1), (142, .aload_n 0, 1)]
theorem D70_4 : RW70_4.all (xDr prog_6_method_9_code) = true := eAll 117 (by decide +kernel)
def RW70_5 : List (Nat × Instr × Nat) := [(143, .getfield 34, 3), (146, .invokevirtual 161, 3), (149, .iconst 1, 1), (150, .ireturn, 1)]
theorem D70_5 : RW70_5.all (xDr prog_6_method_9_code) = true := eAll 143 (by decide +kernel)
def d_70 : xDt := (⟨"IsingLab$SetupReader", "readBond", "()Z"⟩, prog_6_method_9_code, 5, (some FieldType.boolean), 6, [])
def RW71_0 : List (Nat × Instr × Nat) := [(0, .aload_n 0, 1), (1, .invokespecial 3, 3), (4, .aload_n 0, 1), (5, .sipush 128, 3), (8, .newarray .int, 2), (10, .putfield 9, 3), (13, .aload_n 0, 1), (14, .new 15, 3), (17, .dup, 1), (18, .invokespecial 17, 3), (21, .putfield 18, 3), (24, .aload_n 0, 1), (25, .bipush 64, 2), (27, .newarray .int, 2), (29, .putfield 22, 3), (32, .aload_n 0, 1)]
theorem D71_0 : RW71_0.all (xDr prog_7_method_1_code) = true := eAll 0 (by decide +kernel)
def RW71_1 : List (Nat × Instr × Nat) := [(33, .lconst 0, 1), (34, .putfield 25, 3), (37, .aload_n 0, 1), (38, .lconst 0, 1), (39, .putfield 29, 3), (42, .aload_n 0, 1), (43, .iconst 0, 1), (44, .putfield 32, 3), (47, .aload_n 0, 1), (48, .iconst 1, 1), (49, .putfield 36, 3), (52, .aload_n 0, 1), (53, .iconst 2, 1), (54, .putfield 39, 3), (57, .aload_n 0, 1), (58, .iconst 0, 1)]
theorem D71_1 : RW71_1.all (xDr prog_7_method_1_code) = true := eAll 33 (by decide +kernel)
def RW71_2 : List (Nat × Instr × Nat) := [(59, .putfield 42, 3), (62, .aload_n 0, 1), (63, .iconst 0, 1), (64, .putfield 45, 3), (67, .aload_n 0, 1), (68, .iconst 0, 1), (69, .putfield 48, 3), (72, .aload_n 0, 1), (73, .aload_n 1, 1), (74, .putfield 51, 3), (77, .return_, 1)]
theorem D71_2 : RW71_2.all (xDr prog_7_method_1_code) = true := eAll 59 (by decide +kernel)
def d_71 : xDt := (⟨"IsingLab$State", "<init>", "(LIsingLab$Lattice;)V"⟩, prog_7_method_1_code, 2, none, 3, [])
def RW72_0 : List (Nat × Instr × Nat) := [(0, .aload_n 0, 1), (1, .aload_n 1, 1), (2, .getfield 55, 3), (5, .putfield 32, 3), (8, .aload_n 0, 1), (9, .aload_n 1, 1), (10, .getfield 58, 3), (13, .putfield 36, 3), (16, .aload_n 0, 1), (17, .aload_n 1, 1), (18, .getfield 59, 3), (21, .putfield 39, 3), (24, .aload_n 0, 1), (25, .aload_n 1, 1), (26, .getfield 60, 3), (29, .putfield 42, 3)]
theorem D72_0 : RW72_0.all (xDr prog_7_method_2_code) = true := eAll 0 (by decide +kernel)
def RW72_1 : List (Nat × Instr × Nat) := [(32, .aload_n 0, 1), (33, .aload_n 1, 1), (34, .getfield 61, 3), (37, .i2l, 1), (38, .putfield 29, 3), (41, .aload_n 0, 1), (42, .iconst 0, 1), (43, .putfield 45, 3), (46, .aload_n 0, 1), (47, .iconst 0, 1), (48, .putfield 48, 3), (51, .aload_n 0, 1), (52, .getfield 18, 3), (55, .iconst 0, 1), (56, .putfield 64, 3), (59, .aload_n 0, 1)]
theorem D72_1 : RW72_1.all (xDr prog_7_method_2_code) = true := eAll 32 (by decide +kernel)
def RW72_2 : List (Nat × Instr × Nat) := [(60, .aload_n 0, 1), (61, .aload_n 1, 1), (62, .getfield 67, 3), (65, .invokevirtual 70, 3), (68, .putfield 25, 3), (71, .aload_n 0, 1), (72, .getfield 9, 3), (75, .aload_n 1, 1), (76, .getfield 74, 3), (79, .invokestatic 77, 3), (82, .iconst 0, 1), (83, .istore_n 2, 1), (84, .iload_n 2, 1), (85, .aload_n 1, 1), (86, .getfield 83, 3), (89, .if_icmp .ge 67, 3)]
theorem D72_2 : RW72_2.all (xDr prog_7_method_2_code) = true := eAll 60 (by decide +kernel)
def RW72_3 : List (Nat × Instr × Nat) := [(92, .aload_n 1, 1), (93, .getfield 86, 3), (96, .iload_n 2, 1), (97, .iaload, 1), (98, .istore_n 3, 1), (99, .aload_n 1, 1), (100, .getfield 89, 3), (103, .iload_n 2, 1), (104, .baload, 1), (105, .ifCond .eq 15, 3), (108, .aload_n 0, 1), (109, .getfield 51, 3), (112, .getfield 93, 3), (115, .iload_n 3, 1), (116, .iaload, 1), (117, .goto 12, 3)]
theorem D72_3 : RW72_3.all (xDr prog_7_method_2_code) = true := eAll 92 (by decide +kernel)
def RW72_4 : List (Nat × Instr × Nat) := [(120, .aload_n 0, 1), (121, .getfield 51, 3), (124, .getfield 98, 3), (127, .iload_n 3, 1), (128, .iaload, 1), (129, .istore 4, 2), (131, .iload 4, 2), (133, .iconst (-1), 1), (134, .if_icmp .eq 16, 3), (137, .aload_n 0, 1), (138, .getfield 9, 3), (141, .iload 4, 2), (143, .aload_n 1, 1), (144, .getfield 101, 3), (147, .iload_n 2, 1), (148, .iaload, 1)]
theorem D72_4 : RW72_4.all (xDr prog_7_method_2_code) = true := eAll 120 (by decide +kernel)
def RW72_5 : List (Nat × Instr × Nat) := [(149, .iastore, 1), (150, .iinc 2 1, 3), (153, .goto (-69), 3), (156, .return_, 1)]
theorem D72_5 : RW72_5.all (xDr prog_7_method_2_code) = true := eAll 149 (by decide +kernel)
def d_72 : xDt := (⟨"IsingLab$State", "start", "(LIsingLab$Setup;)V"⟩, prog_7_method_2_code, 5, none, 2, [])
def RW73_0 : List (Nat × Instr × Nat) := [(0, .iload_n 1, 1), (1, .ifCond .ne 11, 3), (4, .aload_n 0, 1), (5, .getfield 51, 3), (8, .getfield 104, 3), (11, .lreturn, 1), (12, .iload_n 1, 1), (13, .iconst 1, 1), (14, .if_icmp .ne 5, 3), (17, .lconst 0, 1), (18, .lreturn, 1), (19, .lconst 0, 1), (20, .lstore_n 2, 1), (21, .iconst 0, 1), (22, .istore 4, 2), (24, .iload 4, 2)]
theorem D73_0 : RW73_0.all (xDr prog_7_method_3_code) = true := eAll 0 (by decide +kernel)
def RW73_1 : List (Nat × Instr × Nat) := [(26, .aload_n 0, 1), (27, .getfield 51, 3), (30, .getfield 107, 3), (33, .if_icmp .ge 58, 3), (36, .iconst 0, 1), (37, .istore 5, 2), (39, .iload 5, 2), (41, .aload_n 0, 1), (42, .getfield 51, 3), (45, .getfield 110, 3), (48, .if_icmp .ge 37, 3), (51, .iload 4, 2), (53, .iload 5, 2), (55, .iadd, 1), (56, .iconst 1, 1), (57, .iand, 1)]
theorem D73_1 : RW73_1.all (xDr prog_7_method_3_code) = true := eAll 26 (by decide +kernel)
def RW73_2 : List (Nat × Instr × Nat) := [(58, .ifCond .ne 21, 3), (61, .lload_n 2, 1), (62, .lconst 1, 1), (63, .iload 4, 2), (65, .aload_n 0, 1), (66, .getfield 51, 3), (69, .getfield 110, 3), (72, .imul, 1), (73, .iload 5, 2), (75, .iadd, 1), (76, .lshl, 1), (77, .lor, 1), (78, .lstore_n 2, 1), (79, .iinc 5 1, 3), (82, .goto (-43), 3), (85, .iinc 4 1, 3)]
theorem D73_2 : RW73_2.all (xDr prog_7_method_3_code) = true := eAll 58 (by decide +kernel)
def RW73_3 : List (Nat × Instr × Nat) := [(88, .goto (-64), 3), (91, .lload_n 2, 1), (92, .lreturn, 1)]
theorem D73_3 : RW73_3.all (xDr prog_7_method_3_code) = true := eAll 88 (by decide +kernel)
def d_73 : xDt := (⟨"IsingLab$State", "firstSpins", "(I)J"⟩, prog_7_method_3_code, 6, (some FieldType.long), 1, [])
def RW74_0 : List (Nat × Instr × Nat) := [(0, .aload_n 0, 1), (1, .getfield 32, 3), (4, .aload_n 0, 1), (5, .getfield 51, 3), (8, .lload_n 1, 1), (9, .invokevirtual 129, 3), (12, .imul, 1), (13, .istore_n 3, 1), (14, .iconst 0, 1), (15, .istore 4, 2), (17, .iload 4, 2), (19, .aload_n 0, 1), (20, .getfield 51, 3), (23, .getfield 133, 3), (26, .if_icmp .ge 19, 3), (29, .iload_n 3, 1)]
theorem D74_0 : RW74_0.all (xDr prog_7_method_7_code) = true := eAll 0 (by decide +kernel)
def RW74_1 : List (Nat × Instr × Nat) := [(30, .aload_n 0, 1), (31, .lload_n 1, 1), (32, .iload 4, 2), (34, .invokevirtual 134, 3), (37, .iadd, 1), (38, .istore_n 3, 1), (39, .iinc 4 1, 3), (42, .goto (-25), 3), (45, .iload_n 3, 1), (46, .ineg, 1), (47, .ireturn, 1)]
theorem D74_1 : RW74_1.all (xDr prog_7_method_7_code) = true := eAll 30 (by decide +kernel)
def d_74 : xDt := (⟨"IsingLab$State", "energyOf", "(J)I"⟩, prog_7_method_7_code, 5, (some FieldType.int), 3, [])
def RW75_0 : List (Nat × Instr × Nat) := [(0, .lload_n 1, 1), (1, .aload_n 0, 1), (2, .getfield 51, 3), (5, .getfield 123, 3), (8, .iload_n 3, 1), (9, .iaload, 1), (10, .lushr, 1), (11, .lload_n 1, 1), (12, .aload_n 0, 1), (13, .getfield 51, 3), (16, .getfield 126, 3), (19, .iload_n 3, 1), (20, .iaload, 1), (21, .lushr, 1), (22, .lxor, 1), (23, .lconst 1, 1)]
theorem D75_0 : RW75_0.all (xDr prog_7_method_6_code) = true := eAll 0 (by decide +kernel)
def RW75_1 : List (Nat × Instr × Nat) := [(24, .land, 1), (25, .lstore 4, 2), (27, .lload 4, 2), (29, .lconst 0, 1), (30, .lcmp, 1), (31, .ifCond .ne 12, 3), (34, .aload_n 0, 1), (35, .getfield 9, 3), (38, .iload_n 3, 1), (39, .iaload, 1), (40, .goto 10, 3), (43, .aload_n 0, 1), (44, .getfield 9, 3), (47, .iload_n 3, 1), (48, .iaload, 1), (49, .ineg, 1)]
theorem D75_1 : RW75_1.all (xDr prog_7_method_6_code) = true := eAll 24 (by decide +kernel)
def RW75_2 : List (Nat × Instr × Nat) := [(50, .ireturn, 1)]
theorem D75_2 : RW75_2.all (xDr prog_7_method_6_code) = true := eAll 50 (by decide +kernel)
def d_75 : xDt := (⟨"IsingLab$State", "productAt", "(JI)I"⟩, prog_7_method_6_code, 6, (some FieldType.int), 1, [])
def RW76_0 : List (Nat × Instr × Nat) := [(0, .aload_n 0, 1), (1, .getfield 32, 3), (4, .aload_n 0, 1), (5, .lload_n 1, 1), (6, .iload_n 3, 1), (7, .invokevirtual 138, 3), (10, .imul, 1), (11, .istore 4, 2), (13, .iconst 0, 1), (14, .istore 5, 2), (16, .iload 5, 2), (18, .aload_n 0, 1), (19, .getfield 51, 3), (22, .getfield 141, 3), (25, .iload_n 3, 1), (26, .iaload, 1)]
theorem D76_0 : RW76_0.all (xDr prog_7_method_8_code) = true := eAll 0 (by decide +kernel)
def RW76_1 : List (Nat × Instr × Nat) := [(27, .if_icmp .ge 29, 3), (30, .iload 4, 2), (32, .aload_n 0, 1), (33, .lload_n 1, 1), (34, .aload_n 0, 1), (35, .getfield 51, 3), (38, .iload_n 3, 1), (39, .iload 5, 2), (41, .invokevirtual 144, 3), (44, .invokevirtual 134, 3), (47, .iadd, 1), (48, .istore 4, 2), (50, .iinc 5 1, 3), (53, .goto (-37), 3), (56, .iconst 2, 1), (57, .iload 4, 2)]
theorem D76_1 : RW76_1.all (xDr prog_7_method_8_code) = true := eAll 27 (by decide +kernel)
def RW76_2 : List (Nat × Instr × Nat) := [(59, .imul, 1), (60, .ireturn, 1)]
theorem D76_2 : RW76_2.all (xDr prog_7_method_8_code) = true := eAll 59 (by decide +kernel)
def d_76 : xDt := (⟨"IsingLab$State", "deltaAt", "(JI)I"⟩, prog_7_method_8_code, 6, (some FieldType.int), 2, [])
def RW77_0 : List (Nat × Instr × Nat) := [(0, .lload_n 1, 1), (1, .iload_n 3, 1), (2, .lushr, 1), (3, .lconst 1, 1), (4, .land, 1), (5, .lconst 1, 1), (6, .lcmp, 1), (7, .ifCond .ne 7, 3), (10, .iconst 1, 1), (11, .goto 4, 3), (14, .iconst (-1), 1), (15, .ireturn, 1)]
theorem D77_0 : RW77_0.all (xDr prog_7_method_5_code) = true := eAll 0 (by decide +kernel)
def d_77 : xDt := (⟨"IsingLab$State", "spinAt", "(JI)I"⟩, prog_7_method_5_code, 4, (some FieldType.int), 1, [])
def RW78_0 : List (Nat × Instr × Nat) := [(0, .lconst 1, 1), (1, .iload_n 1, 1), (2, .lshl, 1), (3, .lstore_n 2, 1), (4, .lload_n 2, 1), (5, .lstore 4, 2), (7, .iconst 0, 1), (8, .istore 6, 2), (10, .iload 6, 2), (12, .bipush 64, 2), (14, .if_icmp .ge 54, 3), (17, .lload 4, 2), (19, .lconst 0, 1), (20, .lcmp, 1), (21, .ifCond .eq 47, 3), (24, .lload 4, 2)]
theorem D78_0 : RW78_0.all (xDr prog_7_method_21_code) = true := eAll 0 (by decide +kernel)
def RW78_1 : List (Nat × Instr × Nat) := [(26, .invokestatic 202, 3), (29, .istore 7, 2), (31, .aload_n 0, 1), (32, .iload 7, 2), (34, .invokevirtual 207, 3), (37, .lload_n 2, 1), (38, .ldc2_w 210, 3), (41, .lxor, 1), (42, .land, 1), (43, .lstore 8, 2), (45, .lload_n 2, 1), (46, .lload 8, 2), (48, .lor, 1), (49, .lstore_n 2, 1), (50, .lload 4, 2), (52, .lload 4, 2)]
theorem D78_1 : RW78_1.all (xDr prog_7_method_21_code) = true := eAll 26 (by decide +kernel)
def RW78_2 : List (Nat × Instr × Nat) := [(54, .lconst 1, 1), (55, .lsub, 1), (56, .land, 1), (57, .lload 8, 2), (59, .lor, 1), (60, .lstore 4, 2), (62, .iinc 6 1, 3), (65, .goto (-55), 3), (68, .lload_n 2, 1), (69, .lreturn, 1)]
theorem D78_2 : RW78_2.all (xDr prog_7_method_21_code) = true := eAll 54 (by decide +kernel)
def d_78 : xDt := (⟨"IsingLab$State", "domainAt", "(I)J"⟩, prog_7_method_21_code, 10, (some FieldType.long), 3, [])
def RW79_0 : List (Nat × Instr × Nat) := [(0, .lconst 0, 1), (1, .lstore_n 2, 1), (2, .iconst 0, 1), (3, .istore 4, 2), (5, .iload 4, 2), (7, .aload_n 0, 1), (8, .getfield 51, 3), (11, .getfield 141, 3), (14, .iload_n 1, 1), (15, .iaload, 1), (16, .if_icmp .ge 62, 3), (19, .aload_n 0, 1), (20, .getfield 51, 3), (23, .iload_n 1, 1), (24, .iload 4, 2), (26, .invokevirtual 144, 3)]
theorem D79_0 : RW79_0.all (xDr prog_7_method_22_code) = true := eAll 0 (by decide +kernel)
def RW79_1 : List (Nat × Instr × Nat) := [(29, .istore 5, 2), (31, .aload_n 0, 1), (32, .getfield 9, 3), (35, .iload 5, 2), (37, .iaload, 1), (38, .ifCond .eq 34, 3), (41, .aload_n 0, 1), (42, .getfield 51, 3), (45, .aload_n 0, 1), (46, .getfield 25, 3), (49, .iload 5, 2), (51, .invokevirtual 184, 3), (54, .ifCond .eq 18, 3), (57, .lload_n 2, 1), (58, .lconst 1, 1), (59, .aload_n 0, 1)]
theorem D79_1 : RW79_1.all (xDr prog_7_method_22_code) = true := eAll 29 (by decide +kernel)
def RW79_2 : List (Nat × Instr × Nat) := [(60, .getfield 51, 3), (63, .iload 5, 2), (65, .iload_n 1, 1), (66, .invokevirtual 148, 3), (69, .lshl, 1), (70, .lor, 1), (71, .lstore_n 2, 1), (72, .iinc 4 1, 3), (75, .goto (-70), 3), (78, .lload_n 2, 1), (79, .lreturn, 1)]
theorem D79_2 : RW79_2.all (xDr prog_7_method_22_code) = true := eAll 60 (by decide +kernel)
def d_79 : xDt := (⟨"IsingLab$State", "alikeNeighbours", "(I)J"⟩, prog_7_method_22_code, 6, (some FieldType.long), 2, [])
def RW80_0 : List (Nat × Instr × Nat) := [(0, .aload_n 1, 1), (1, .getfield 9, 3), (4, .iconst 0, 1), (5, .aload_n 0, 1), (6, .getfield 9, 3), (9, .iconst 0, 1), (10, .sipush 128, 3), (13, .invokestatic 113, 3), (16, .aload_n 0, 1), (17, .getfield 18, 3), (20, .aload_n 1, 1), (21, .getfield 18, 3), (24, .invokevirtual 119, 3), (27, .aload_n 0, 1), (28, .aload_n 1, 1), (29, .getfield 25, 3)]
theorem D80_0 : RW80_0.all (xDr prog_7_method_4_code) = true := eAll 0 (by decide +kernel)
def RW80_1 : List (Nat × Instr × Nat) := [(32, .putfield 25, 3), (35, .aload_n 0, 1), (36, .aload_n 1, 1), (37, .getfield 29, 3), (40, .putfield 29, 3), (43, .aload_n 0, 1), (44, .aload_n 1, 1), (45, .getfield 32, 3), (48, .putfield 32, 3), (51, .aload_n 0, 1), (52, .aload_n 1, 1), (53, .getfield 36, 3), (56, .putfield 36, 3), (59, .aload_n 0, 1), (60, .aload_n 1, 1), (61, .getfield 39, 3)]
theorem D80_1 : RW80_1.all (xDr prog_7_method_4_code) = true := eAll 32 (by decide +kernel)
def RW80_2 : List (Nat × Instr × Nat) := [(64, .putfield 39, 3), (67, .aload_n 0, 1), (68, .aload_n 1, 1), (69, .getfield 42, 3), (72, .putfield 42, 3), (75, .aload_n 0, 1), (76, .aload_n 1, 1), (77, .getfield 45, 3), (80, .putfield 45, 3), (83, .aload_n 0, 1), (84, .aload_n 1, 1), (85, .getfield 48, 3), (88, .putfield 48, 3), (91, .return_, 1)]
theorem D80_2 : RW80_2.all (xDr prog_7_method_4_code) = true := eAll 64 (by decide +kernel)
def d_80 : xDt := (⟨"IsingLab$State", "copyFrom", "(LIsingLab$State;)V"⟩, prog_7_method_4_code, 2, none, 3, [])
def RW81_0 : List (Nat × Instr × Nat) := [(0, .aload_n 0, 1), (1, .aload_n 0, 1), (2, .aload_n 0, 1), (3, .getfield 25, 3), (6, .iload_n 1, 1), (7, .invokevirtual 161, 3), (10, .invokevirtual 164, 3), (13, .istore_n 2, 1), (14, .aload_n 0, 1), (15, .dup, 1), (16, .getfield 45, 3), (19, .iconst 1, 1), (20, .iadd, 1), (21, .putfield 45, 3), (24, .iload_n 2, 1), (25, .iconst (-1), 1)]
theorem D81_0 : RW81_0.all (xDr prog_7_method_13_code) = true := eAll 0 (by decide +kernel)
def RW81_1 : List (Nat × Instr × Nat) := [(26, .if_icmp .eq 11, 3), (29, .aload_n 0, 1), (30, .iload_n 2, 1), (31, .invokevirtual 167, 3), (34, .ifCond .ne 5, 3), (37, .iconst 0, 1), (38, .ireturn, 1), (39, .aload_n 0, 1), (40, .dup, 1), (41, .getfield 25, 3), (44, .lconst 1, 1), (45, .iload_n 1, 1), (46, .lshl, 1), (47, .lxor, 1), (48, .putfield 25, 3), (51, .aload_n 0, 1)]
theorem D81_1 : RW81_1.all (xDr prog_7_method_13_code) = true := eAll 26 (by decide +kernel)
def RW81_2 : List (Nat × Instr × Nat) := [(52, .dup, 1), (53, .getfield 48, 3), (56, .iconst 1, 1), (57, .iadd, 1), (58, .putfield 48, 3), (61, .iconst 1, 1), (62, .ireturn, 1)]
theorem D81_2 : RW81_2.all (xDr prog_7_method_13_code) = true := eAll 52 (by decide +kernel)
def d_81 : xDt := (⟨"IsingLab$State", "tryFlip", "(I)Z"⟩, prog_7_method_13_code, 3, (some FieldType.boolean), 3, [])
def RW82_0 : List (Nat × Instr × Nat) := [(0, .aload_n 0, 1), (1, .getfield 42, 3), (4, .iconst 2, 1), (5, .if_icmp .eq 7, 3), (8, .iload_n 1, 1), (9, .ifCond .gt 5, 3), (12, .iconst 0, 1), (13, .ireturn, 1), (14, .aload_n 0, 1), (15, .getfield 42, 3), (18, .iconst 1, 1), (19, .if_icmp .ne 7, 3), (22, .iconst (-1), 1), (23, .goto 4, 3), (26, .iload_n 1, 1), (27, .ireturn, 1)]
theorem D82_0 : RW82_0.all (xDr prog_7_method_12_code) = true := eAll 0 (by decide +kernel)
def d_82 : xDt := (⟨"IsingLab$State", "drawsToFlip", "(I)I"⟩, prog_7_method_12_code, 2, (some FieldType.int), 1, [])
def RW83_0 : List (Nat × Instr × Nat) := [(0, .iconst 0, 1), (1, .istore_n 2, 1), (2, .iload_n 2, 1), (3, .iload_n 1, 1), (4, .if_icmp .ge 26, 3), (7, .aload_n 0, 1), (8, .aload_n 0, 1), (9, .getfield 39, 3), (12, .invokevirtual 157, 3), (15, .aload_n 0, 1), (16, .getfield 36, 3), (19, .if_icmp .lt 5, 3), (22, .iconst 0, 1), (23, .ireturn, 1), (24, .iinc 2 1, 3), (27, .goto (-25), 3)]
theorem D83_0 : RW83_0.all (xDr prog_7_method_11_code) = true := eAll 0 (by decide +kernel)
def RW83_1 : List (Nat × Instr × Nat) := [(30, .iconst 1, 1), (31, .ireturn, 1)]
theorem D83_1 : RW83_1.all (xDr prog_7_method_11_code) = true := eAll 30 (by decide +kernel)
def d_83 : xDt := (⟨"IsingLab$State", "passesDraws", "(I)Z"⟩, prog_7_method_11_code, 3, (some FieldType.boolean), 2, [])
def RW84_0 : List (Nat × Instr × Nat) := [(0, .aload_n 0, 1), (1, .aload_n 0, 1), (2, .getfield 29, 3), (5, .ldc2_w 151, 3), (8, .lmul, 1), (9, .ldc2_w 153, 3), (12, .ladd, 1), (13, .ldc2_w 155, 3), (16, .land, 1), (17, .putfield 29, 3), (20, .iload_n 1, 1), (21, .ifCond .le 16, 3), (24, .aload_n 0, 1), (25, .getfield 29, 3), (28, .bipush 16, 2), (30, .lushr, 1)]
theorem D84_0 : RW84_0.all (xDr prog_7_method_10_code) = true := eAll 0 (by decide +kernel)
def RW84_1 : List (Nat × Instr × Nat) := [(31, .l2i, 1), (32, .iload_n 1, 1), (33, .irem, 1), (34, .goto 4, 3), (37, .iconst 0, 1), (38, .ireturn, 1)]
theorem D84_1 : RW84_1.all (xDr prog_7_method_10_code) = true := eAll 31 (by decide +kernel)
def d_84 : xDt := (⟨"IsingLab$State", "drawBelow", "(I)I"⟩, prog_7_method_10_code, 2, (some FieldType.int), 1, [])
def RW85_0 : List (Nat × Instr × Nat) := [(0, .iconst 0, 1), (1, .istore_n 1, 1), (2, .iload_n 1, 1), (3, .aload_n 0, 1), (4, .getfield 51, 3), (7, .getfield 171, 3), (10, .if_icmp .ge 15, 3), (13, .aload_n 0, 1), (14, .iload_n 1, 1), (15, .invokevirtual 174, 3), (18, .pop, 1), (19, .iinc 1 1, 3), (22, .goto (-20), 3), (25, .return_, 1)]
theorem D85_0 : RW85_0.all (xDr prog_7_method_14_code) = true := eAll 0 (by decide +kernel)
def d_85 : xDt := (⟨"IsingLab$State", "sweepOnce", "()V"⟩, prog_7_method_14_code, 2, none, 4, [])
def RW86_0 : List (Nat × Instr × Nat) := [(0, .iconst 0, 1), (1, .istore_n 1, 1), (2, .iload_n 1, 1), (3, .aload_n 0, 1), (4, .getfield 51, 3), (7, .getfield 133, 3), (10, .if_icmp .ge 20, 3), (13, .aload_n 0, 1), (14, .getfield 9, 3), (17, .iload_n 1, 1), (18, .iaload, 1), (19, .ifCond .ge 5, 3), (22, .iconst 0, 1), (23, .ireturn, 1), (24, .iinc 1 1, 3), (27, .goto (-25), 3)]
theorem D86_0 : RW86_0.all (xDr prog_7_method_16_code) = true := eAll 0 (by decide +kernel)
def RW86_1 : List (Nat × Instr × Nat) := [(30, .aload_n 0, 1), (31, .getfield 32, 3), (34, .ifCond .ne 7, 3), (37, .iconst 1, 1), (38, .goto 4, 3), (41, .iconst 0, 1), (42, .ireturn, 1)]
theorem D86_1 : RW86_1.all (xDr prog_7_method_16_code) = true := eAll 30 (by decide +kernel)
def d_86 : xDt := (⟨"IsingLab$State", "allowsClusters", "()Z"⟩, prog_7_method_16_code, 2, (some FieldType.boolean), 1, [])
def RW87_0 : List (Nat × Instr × Nat) := [(0, .lconst 1, 1), (1, .iload_n 1, 1), (2, .lshl, 1), (3, .lstore_n 2, 1), (4, .aload_n 0, 1), (5, .getfield 22, 3), (8, .iconst 0, 1), (9, .iload_n 1, 1), (10, .iastore, 1), (11, .iconst 1, 1), (12, .istore 4, 2), (14, .iconst 0, 1), (15, .istore 5, 2), (17, .iload 5, 2), (19, .iload 4, 2), (21, .if_icmp .ge 156, 3)]
theorem D87_0 : RW87_0.all (xDr prog_7_method_17_code) = true := eAll 0 (by decide +kernel)
def RW87_1 : List (Nat × Instr × Nat) := [(24, .iload 5, 2), (26, .bipush 64, 2), (28, .if_icmp .ge 149, 3), (31, .aload_n 0, 1), (32, .getfield 22, 3), (35, .iload 5, 2), (37, .iaload, 1), (38, .istore 6, 2), (40, .iconst 0, 1), (41, .istore 7, 2), (43, .iload 7, 2), (45, .aload_n 0, 1), (46, .getfield 51, 3), (49, .getfield 141, 3), (52, .iload 6, 2), (54, .iaload, 1)]
theorem D87_1 : RW87_1.all (xDr prog_7_method_17_code) = true := eAll 24 (by decide +kernel)
def RW87_2 : List (Nat × Instr × Nat) := [(55, .if_icmp .ge 116, 3), (58, .aload_n 0, 1), (59, .getfield 51, 3), (62, .iload 6, 2), (64, .iload 7, 2), (66, .invokevirtual 144, 3), (69, .istore 8, 2), (71, .aload_n 0, 1), (72, .getfield 51, 3), (75, .iload 8, 2), (77, .iload 6, 2), (79, .invokevirtual 148, 3), (82, .istore 9, 2), (84, .iload 4, 2), (86, .bipush 64, 2), (88, .if_icmp .ge 34, 3)]
theorem D87_2 : RW87_2.all (xDr prog_7_method_17_code) = true := eAll 55 (by decide +kernel)
def RW87_3 : List (Nat × Instr × Nat) := [(91, .lload_n 2, 1), (92, .iload 9, 2), (94, .lushr, 1), (95, .lconst 1, 1), (96, .land, 1), (97, .lconst 0, 1), (98, .lcmp, 1), (99, .ifCond .ne 23, 3), (102, .aload_n 0, 1), (103, .getfield 51, 3), (106, .aload_n 0, 1), (107, .getfield 25, 3), (110, .iload 8, 2), (112, .invokevirtual 184, 3), (115, .ifCond .eq 7, 3), (118, .iconst 1, 1)]
theorem D87_3 : RW87_3.all (xDr prog_7_method_17_code) = true := eAll 91 (by decide +kernel)
def RW87_4 : List (Nat × Instr × Nat) := [(119, .goto 4, 3), (122, .iconst 0, 1), (123, .istore 10, 2), (125, .iload 10, 2), (127, .ifCond .eq 38, 3), (130, .aload_n 0, 1), (131, .iconst 2, 1), (132, .aload_n 0, 1), (133, .getfield 9, 3), (136, .iload 8, 2), (138, .iaload, 1), (139, .imul, 1), (140, .invokevirtual 167, 3), (143, .ifCond .ne 22, 3), (146, .lload_n 2, 1), (147, .lconst 1, 1)]
theorem D87_4 : RW87_4.all (xDr prog_7_method_17_code) = true := eAll 119 (by decide +kernel)
def RW87_5 : List (Nat × Instr × Nat) := [(148, .iload 9, 2), (150, .lshl, 1), (151, .lor, 1), (152, .lstore_n 2, 1), (153, .aload_n 0, 1), (154, .getfield 22, 3), (157, .iload 4, 2), (159, .iload 9, 2), (161, .iastore, 1), (162, .iinc 4 1, 3), (165, .iinc 7 1, 3), (168, .goto (-125), 3), (171, .iinc 5 1, 3), (174, .goto (-157), 3), (177, .aload_n 0, 1), (178, .dup, 1)]
theorem D87_5 : RW87_5.all (xDr prog_7_method_17_code) = true := eAll 148 (by decide +kernel)
def RW87_6 : List (Nat × Instr × Nat) := [(179, .getfield 25, 3), (182, .lload_n 2, 1), (183, .lxor, 1), (184, .putfield 25, 3), (187, .iload 4, 2), (189, .ireturn, 1)]
theorem D87_6 : RW87_6.all (xDr prog_7_method_17_code) = true := eAll 179 (by decide +kernel)
def d_87 : xDt := (⟨"IsingLab$State", "flipCluster", "(I)I"⟩, prog_7_method_17_code, 11, (some FieldType.int), 3, [])
def RW88_0 : List (Nat × Instr × Nat) := [(0, .aload_n 0, 1), (1, .invokevirtual 188, 3), (4, .lconst 0, 1), (5, .lstore_n 1, 1), (6, .iconst 0, 1), (7, .istore_n 3, 1), (8, .iconst 0, 1), (9, .istore 4, 2), (11, .iload 4, 2), (13, .aload_n 0, 1), (14, .getfield 51, 3), (17, .getfield 171, 3), (20, .if_icmp .ge 54, 3), (23, .aload_n 0, 1), (24, .iload 4, 2), (26, .invokevirtual 191, 3)]
theorem D88_0 : RW88_0.all (xDr prog_7_method_18_code) = true := eAll 0 (by decide +kernel)
def RW88_1 : List (Nat × Instr × Nat) := [(29, .istore 5, 2), (31, .iload 5, 2), (33, .iload 4, 2), (35, .if_icmp .ne 21, 3), (38, .iinc 3 1, 3), (41, .lload_n 1, 1), (42, .aload_n 0, 1), (43, .iconst 2, 1), (44, .invokevirtual 157, 3), (47, .i2l, 1), (48, .iload 4, 2), (50, .lshl, 1), (51, .lor, 1), (52, .lstore_n 1, 1), (53, .goto 15, 3), (56, .lload_n 1, 1)]
theorem D88_1 : RW88_1.all (xDr prog_7_method_18_code) = true := eAll 29 (by decide +kernel)
def RW88_2 : List (Nat × Instr × Nat) := [(57, .lload_n 1, 1), (58, .iload 5, 2), (60, .lushr, 1), (61, .lconst 1, 1), (62, .land, 1), (63, .iload 4, 2), (65, .lshl, 1), (66, .lor, 1), (67, .lstore_n 1, 1), (68, .iinc 4 1, 3), (71, .goto (-60), 3), (74, .aload_n 0, 1), (75, .dup, 1), (76, .getfield 25, 3), (79, .lload_n 1, 1), (80, .lxor, 1)]
theorem D88_2 : RW88_2.all (xDr prog_7_method_18_code) = true := eAll 57 (by decide +kernel)
def RW88_3 : List (Nat × Instr × Nat) := [(81, .putfield 25, 3), (84, .iload_n 3, 1), (85, .ireturn, 1)]
theorem D88_3 : RW88_3.all (xDr prog_7_method_18_code) = true := eAll 81 (by decide +kernel)
def d_88 : xDt := (⟨"IsingLab$State", "flipDrawnClusters", "()I"⟩, prog_7_method_18_code, 6, (some FieldType.int), 4, [])
def RW89_0 : List (Nat × Instr × Nat) := [(0, .iconst 0, 1), (1, .istore_n 1, 1), (2, .iload_n 1, 1), (3, .aload_n 0, 1), (4, .getfield 51, 3), (7, .getfield 171, 3), (10, .if_icmp .ge 16, 3), (13, .aload_n 0, 1), (14, .getfield 22, 3), (17, .iload_n 1, 1), (18, .iload_n 1, 1), (19, .iastore, 1), (20, .iinc 1 1, 3), (23, .goto (-21), 3), (26, .iconst 0, 1), (27, .istore_n 1, 1)]
theorem D89_0 : RW89_0.all (xDr prog_7_method_19_code) = true := eAll 0 (by decide +kernel)
def RW89_1 : List (Nat × Instr × Nat) := [(28, .iload_n 1, 1), (29, .aload_n 0, 1), (30, .getfield 51, 3), (33, .getfield 133, 3), (36, .if_icmp .ge 82, 3), (39, .aload_n 0, 1), (40, .getfield 51, 3), (43, .aload_n 0, 1), (44, .getfield 25, 3), (47, .iload_n 1, 1), (48, .invokevirtual 184, 3), (51, .ifCond .eq 61, 3), (54, .aload_n 0, 1), (55, .iconst 2, 1), (56, .aload_n 0, 1), (57, .getfield 9, 3)]
theorem D89_1 : RW89_1.all (xDr prog_7_method_19_code) = true := eAll 28 (by decide +kernel)
def RW89_2 : List (Nat × Instr × Nat) := [(60, .iload_n 1, 1), (61, .iaload, 1), (62, .imul, 1), (63, .invokevirtual 167, 3), (66, .ifCond .ne 46, 3), (69, .aload_n 0, 1), (70, .aload_n 0, 1), (71, .getfield 51, 3), (74, .getfield 123, 3), (77, .iload_n 1, 1), (78, .iaload, 1), (79, .invokevirtual 191, 3), (82, .istore_n 2, 1), (83, .aload_n 0, 1), (84, .aload_n 0, 1), (85, .getfield 51, 3)]
theorem D89_2 : RW89_2.all (xDr prog_7_method_19_code) = true := eAll 60 (by decide +kernel)
def RW89_3 : List (Nat × Instr × Nat) := [(88, .getfield 126, 3), (91, .iload_n 1, 1), (92, .iaload, 1), (93, .invokevirtual 191, 3), (96, .istore_n 3, 1), (97, .aload_n 0, 1), (98, .getfield 22, 3), (101, .iload_n 2, 1), (102, .iload_n 3, 1), (103, .invokestatic 194, 3), (106, .iload_n 2, 1), (107, .iload_n 3, 1), (108, .invokestatic 199, 3), (111, .iastore, 1), (112, .iinc 1 1, 3), (115, .goto (-87), 3)]
theorem D89_3 : RW89_3.all (xDr prog_7_method_19_code) = true := eAll 88 (by decide +kernel)
def RW89_4 : List (Nat × Instr × Nat) := [(118, .return_, 1)]
theorem D89_4 : RW89_4.all (xDr prog_7_method_19_code) = true := eAll 118 (by decide +kernel)
def d_89 : xDt := (⟨"IsingLab$State", "joinDrawnBonds", "()V"⟩, prog_7_method_19_code, 4, none, 3, [])
def RW90_0 : List (Nat × Instr × Nat) := [(0, .iload_n 1, 1), (1, .istore_n 2, 1), (2, .iconst 0, 1), (3, .istore_n 3, 1), (4, .iload_n 3, 1), (5, .bipush 64, 2), (7, .if_icmp .ge 26, 3), (10, .aload_n 0, 1), (11, .getfield 22, 3), (14, .iload_n 2, 1), (15, .iaload, 1), (16, .iload_n 2, 1), (17, .if_icmp .eq 16, 3), (20, .aload_n 0, 1), (21, .getfield 22, 3), (24, .iload_n 2, 1)]
theorem D90_0 : RW90_0.all (xDr prog_7_method_20_code) = true := eAll 0 (by decide +kernel)
def RW90_1 : List (Nat × Instr × Nat) := [(25, .iaload, 1), (26, .istore_n 2, 1), (27, .iinc 3 1, 3), (30, .goto (-26), 3), (33, .iload_n 2, 1), (34, .ireturn, 1)]
theorem D90_1 : RW90_1.all (xDr prog_7_method_20_code) = true := eAll 25 (by decide +kernel)
def d_90 : xDt := (⟨"IsingLab$State", "lowestJoined", "(I)I"⟩, prog_7_method_20_code, 4, (some FieldType.int), 1, [])
def RW91_0 : List (Nat × Instr × Nat) := [(0, .aload_n 0, 1), (1, .getfield 18, 3), (4, .aload_n 0, 1), (5, .getfield 25, 3), (8, .aload_n 0, 1), (9, .aload_n 0, 1), (10, .getfield 25, 3), (13, .invokevirtual 177, 3), (16, .invokevirtual 180, 3), (19, .return_, 1)]
theorem D91_0 : RW91_0.all (xDr prog_7_method_15_code) = true := eAll 0 (by decide +kernel)
def d_91 : xDt := (⟨"IsingLab$State", "takeSample", "()V"⟩, prog_7_method_15_code, 1, none, 4, [])
def RW92_0 : List (Nat × Instr × Nat) := [(0, .iconst 0, 1), (1, .istore_n 3, 1), (2, .iconst 0, 1), (3, .istore 4, 2), (5, .iload 4, 2), (7, .aload_n 0, 1), (8, .getfield 51, 3), (11, .getfield 141, 3), (14, .iload_n 1, 1), (15, .iaload, 1), (16, .if_icmp .ge 45, 3), (19, .aload_n 0, 1), (20, .getfield 51, 3), (23, .iload_n 1, 1), (24, .iload 4, 2), (26, .invokevirtual 144, 3)]
theorem D92_0 : RW92_0.all (xDr prog_7_method_9_code) = true := eAll 0 (by decide +kernel)
def RW92_1 : List (Nat × Instr × Nat) := [(29, .istore 5, 2), (31, .aload_n 0, 1), (32, .getfield 51, 3), (35, .iload 5, 2), (37, .iload_n 1, 1), (38, .invokevirtual 148, 3), (41, .iload_n 2, 1), (42, .if_icmp .ne 13, 3), (45, .iload_n 3, 1), (46, .aload_n 0, 1), (47, .getfield 9, 3), (50, .iload 5, 2), (52, .iaload, 1), (53, .iadd, 1), (54, .istore_n 3, 1), (55, .iinc 4 1, 3)]
theorem D92_1 : RW92_1.all (xDr prog_7_method_9_code) = true := eAll 29 (by decide +kernel)
def RW92_2 : List (Nat × Instr × Nat) := [(58, .goto (-53), 3), (61, .iload_n 3, 1), (62, .ireturn, 1)]
theorem D92_2 : RW92_2.all (xDr prog_7_method_9_code) = true := eAll 58 (by decide +kernel)
def d_92 : xDt := (⟨"IsingLab$State", "strengthOfPair", "(II)I"⟩, prog_7_method_9_code, 6, (some FieldType.int), 2, [])
def RW93_0 : List (Nat × Instr × Nat) := [(0, .iconst 0, 1), (1, .istore_n 3, 1), (2, .lload_n 1, 1), (3, .lstore 4, 2), (5, .iconst 0, 1), (6, .istore 6, 2), (8, .iload 6, 2), (10, .aload_n 0, 1), (11, .getfield 51, 3), (14, .getfield 171, 3), (17, .if_icmp .ge 35, 3), (20, .aload_n 0, 1), (21, .lload_n 1, 1), (22, .iload 6, 2), (24, .invokevirtual 161, 3), (27, .istore 7, 2)]
theorem D93_0 : RW93_0.all (xDr prog_7_method_23_code) = true := eAll 0 (by decide +kernel)
def RW93_1 : List (Nat × Instr × Nat) := [(29, .iload 7, 2), (31, .iload_n 3, 1), (32, .if_icmp .ge 14, 3), (35, .iload 7, 2), (37, .istore_n 3, 1), (38, .lload_n 1, 1), (39, .lconst 1, 1), (40, .iload 6, 2), (42, .lshl, 1), (43, .lxor, 1), (44, .lstore 4, 2), (46, .iinc 6 1, 3), (49, .goto (-41), 3), (52, .lload 4, 2), (54, .lreturn, 1)]
theorem D93_1 : RW93_1.all (xDr prog_7_method_23_code) = true := eAll 29 (by decide +kernel)
def d_93 : xDt := (⟨"IsingLab$State", "steepestFrom", "(J)J"⟩, prog_7_method_23_code, 8, (some FieldType.long), 3, [])
def RW94_0 : List (Nat × Instr × Nat) := [(0, .aload_n 0, 1), (1, .invokespecial 5, 3), (4, .aload_n 0, 1), (5, .iconst 0, 1), (6, .putfield 11, 3), (9, .aload_n 0, 1), (10, .iconst 0, 1), (11, .putfield 15, 3), (14, .aload_n 0, 1), (15, .iconst 0, 1), (16, .putfield 19, 3), (19, .aload_n 0, 1), (20, .iconst 0, 1), (21, .putfield 22, 3), (24, .aload_n 0, 1), (25, .iconst 0, 1)]
theorem D94_0 : RW94_0.all (xDr prog_2_method_1_code) = true := eAll 0 (by decide +kernel)
def RW94_1 : List (Nat × Instr × Nat) := [(26, .putfield 25, 3), (29, .aload_n 0, 1), (30, .iconst 0, 1), (31, .newarray .short, 2), (33, .putfield 28, 3), (36, .aload_n 0, 1), (37, .iconst 0, 1), (38, .newarray .int, 2), (40, .putfield 32, 3), (43, .aload_n 0, 1), (44, .iconst 0, 1), (45, .newarray .int, 2), (47, .putfield 36, 3), (50, .aload_n 0, 1), (51, .iconst 0, 1), (52, .newarray .int, 2)]
theorem D94_1 : RW94_1.all (xDr prog_2_method_1_code) = true := eAll 26 (by decide +kernel)
def RW94_2 : List (Nat × Instr × Nat) := [(54, .putfield 39, 3), (57, .aload_n 0, 1), (58, .iconst 0, 1), (59, .newarray .int, 2), (61, .putfield 42, 3), (64, .aload_n 0, 1), (65, .iconst 0, 1), (66, .newarray .int, 2), (68, .putfield 45, 3), (71, .aload_n 0, 1), (72, .sipush 289, 3), (75, .newarray .int, 2), (77, .putfield 48, 3), (80, .aload_n 0, 1), (81, .sipush 289, 3), (84, .newarray .int, 2)]
theorem D94_2 : RW94_2.all (xDr prog_2_method_1_code) = true := eAll 54 (by decide +kernel)
def RW94_3 : List (Nat × Instr × Nat) := [(86, .putfield 51, 3), (89, .aload_n 0, 1), (90, .sipush 289, 3), (93, .newarray .double, 2), (95, .putfield 54, 3), (98, .aload_n 0, 1), (99, .aload_n 1, 1), (100, .putfield 58, 3), (103, .return_, 1)]
theorem D94_3 : RW94_3.all (xDr prog_2_method_1_code) = true := eAll 86 (by decide +kernel)
def d_94 : xDt := (⟨"IsingLab$Exact", "<init>", "(LIsingLab$State;)V"⟩, prog_2_method_1_code, 2, none, 2, [])
def RW95_0 : List (Nat × Instr × Nat) := [(0, .aload_n 0, 1), (1, .iconst 0, 1), (2, .putfield 11, 3), (5, .return_, 1)]
theorem D95_0 : RW95_0.all (xDr prog_2_method_2_code) = true := eAll 0 (by decide +kernel)
def d_95 : xDt := (⟨"IsingLab$Exact", "forget", "()V"⟩, prog_2_method_2_code, 1, none, 1, [])
def RW96_0 : List (Nat × Instr × Nat) := [(0, .aload_n 0, 1), (1, .getfield 11, 3), (4, .ifCond .eq 4, 3), (7, .return_, 1), (8, .aload_n 0, 1), (9, .invokevirtual 62, 3), (12, .aload_n 0, 1), (13, .aload_n 0, 1), (14, .getfield 58, 3), (17, .getfield 65, 3), (20, .getfield 71, 3), (23, .bipush 16, 2), (25, .invokestatic 74, 3), (28, .putfield 15, 3), (31, .aload_n 0, 1), (32, .iconst 1, 1)]
theorem D96_0 : RW96_0.all (xDr prog_2_method_3_code) = true := eAll 0 (by decide +kernel)
def RW96_1 : List (Nat × Instr × Nat) := [(33, .aload_n 0, 1), (34, .getfield 15, 3), (37, .ishl, 1), (38, .putfield 19, 3), (41, .aload_n 0, 1), (42, .invokevirtual 80, 3), (45, .aload_n 0, 1), (46, .invokevirtual 83, 3), (49, .aload_n 0, 1), (50, .invokevirtual 86, 3), (53, .aload_n 0, 1), (54, .iconst 1, 1), (55, .putfield 11, 3), (58, .return_, 1)]
theorem D96_1 : RW96_1.all (xDr prog_2_method_3_code) = true := eAll 33 (by decide +kernel)
def d_96 : xDt := (⟨"IsingLab$Exact", "refresh", "()V"⟩, prog_2_method_3_code, 1, none, 5, [])
def RW97_0 : List (Nat × Instr × Nat) := [(0, .aload_n 0, 1), (1, .getfield 28, 3), (4, .arraylength, 1), (5, .ifCond .ne 55, 3), (8, .aload_n 0, 1), (9, .ldc 89, 2), (11, .newarray .short, 2), (13, .putfield 28, 3), (16, .aload_n 0, 1), (17, .ldc 89, 2), (19, .newarray .int, 2), (21, .putfield 32, 3), (24, .aload_n 0, 1), (25, .sipush 4913, 3), (28, .newarray .int, 2), (30, .putfield 36, 3)]
theorem D97_0 : RW97_0.all (xDr prog_2_method_4_code) = true := eAll 0 (by decide +kernel)
def RW97_1 : List (Nat × Instr × Nat) := [(33, .aload_n 0, 1), (34, .sipush 4913, 3), (37, .newarray .int, 2), (39, .putfield 39, 3), (42, .aload_n 0, 1), (43, .sipush 4913, 3), (46, .newarray .int, 2), (48, .putfield 42, 3), (51, .aload_n 0, 1), (52, .sipush 4913, 3), (55, .newarray .int, 2), (57, .putfield 45, 3), (60, .return_, 1)]
theorem D97_1 : RW97_1.all (xDr prog_2_method_4_code) = true := eAll 33 (by decide +kernel)
def d_97 : xDt := (⟨"IsingLab$Exact", "makeRoom", "()V"⟩, prog_2_method_4_code, 1, none, 1, [])
def RW98_0 : List (Nat × Instr × Nat) := [(0, .aload_n 0, 1), (1, .getfield 28, 3), (4, .iconst 0, 1), (5, .aload_n 0, 1), (6, .getfield 58, 3), (9, .lconst 0, 1), (10, .invokevirtual 90, 3), (13, .i2s, 1), (14, .sastore, 1), (15, .iconst 0, 1), (16, .istore_n 1, 1), (17, .iload_n 1, 1), (18, .aload_n 0, 1), (19, .getfield 15, 3), (22, .if_icmp .ge 53, 3), (25, .aload_n 0, 1)]
theorem D98_0 : RW98_0.all (xDr prog_2_method_5_code) = true := eAll 0 (by decide +kernel)
def RW98_1 : List (Nat × Instr × Nat) := [(26, .iload_n 1, 1), (27, .invokevirtual 94, 3), (30, .iconst 1, 1), (31, .iload_n 1, 1), (32, .ishl, 1), (33, .istore_n 2, 1), (34, .iconst 0, 1), (35, .istore_n 3, 1), (36, .iload_n 3, 1), (37, .iload_n 2, 1), (38, .if_icmp .ge 31, 3), (41, .aload_n 0, 1), (42, .getfield 28, 3), (45, .iload_n 2, 1), (46, .iload_n 3, 1), (47, .iadd, 1)]
theorem D98_1 : RW98_1.all (xDr prog_2_method_5_code) = true := eAll 26 (by decide +kernel)
def RW98_2 : List (Nat × Instr × Nat) := [(48, .aload_n 0, 1), (49, .getfield 28, 3), (52, .iload_n 3, 1), (53, .saload, 1), (54, .aload_n 0, 1), (55, .getfield 32, 3), (58, .iload_n 3, 1), (59, .iaload, 1), (60, .iadd, 1), (61, .i2s, 1), (62, .sastore, 1), (63, .iinc 3 1, 3), (66, .goto (-30), 3), (69, .iinc 1 1, 3), (72, .goto (-55), 3), (75, .return_, 1)]
theorem D98_2 : RW98_2.all (xDr prog_2_method_5_code) = true := eAll 48 (by decide +kernel)
def d_98 : xDt := (⟨"IsingLab$Exact", "findEnergies", "()V"⟩, prog_2_method_5_code, 4, none, 4, [])
def RW99_0 : List (Nat × Instr × Nat) := [(0, .aload_n 0, 1), (1, .getfield 32, 3), (4, .iconst 0, 1), (5, .aload_n 0, 1), (6, .getfield 58, 3), (9, .lconst 0, 1), (10, .iload_n 1, 1), (11, .invokevirtual 98, 3), (14, .iastore, 1), (15, .iconst 0, 1), (16, .istore_n 2, 1), (17, .iload_n 2, 1), (18, .iload_n 1, 1), (19, .if_icmp .ge 62, 3), (22, .bipush (-4), 2), (24, .aload_n 0, 1)]
theorem D99_0 : RW99_0.all (xDr prog_2_method_6_code) = true := eAll 0 (by decide +kernel)
def RW99_1 : List (Nat × Instr × Nat) := [(25, .getfield 58, 3), (28, .iload_n 1, 1), (29, .iload_n 2, 1), (30, .invokevirtual 102, 3), (33, .imul, 1), (34, .istore_n 3, 1), (35, .iconst 1, 1), (36, .iload_n 2, 1), (37, .ishl, 1), (38, .istore 4, 2), (40, .iconst 0, 1), (41, .istore 5, 2), (43, .iload 5, 2), (45, .iload 4, 2), (47, .if_icmp .ge 28, 3), (50, .aload_n 0, 1)]
theorem D99_1 : RW99_1.all (xDr prog_2_method_6_code) = true := eAll 25 (by decide +kernel)
def RW99_2 : List (Nat × Instr × Nat) := [(51, .getfield 32, 3), (54, .iload 4, 2), (56, .iload 5, 2), (58, .iadd, 1), (59, .aload_n 0, 1), (60, .getfield 32, 3), (63, .iload 5, 2), (65, .iaload, 1), (66, .iload_n 3, 1), (67, .iadd, 1), (68, .iastore, 1), (69, .iinc 5 1, 3), (72, .goto (-29), 3), (75, .iinc 2 1, 3), (78, .goto (-61), 3), (81, .return_, 1)]
theorem D99_2 : RW99_2.all (xDr prog_2_method_6_code) = true := eAll 51 (by decide +kernel)
def d_99 : xDt := (⟨"IsingLab$Exact", "findChanges", "(I)V"⟩, prog_2_method_6_code, 6, none, 3, [])
def RW100_0 : List (Nat × Instr × Nat) := [(0, .aload_n 0, 1), (1, .getfield 36, 3), (4, .iconst 0, 1), (5, .invokestatic 105, 3), (8, .iconst 0, 1), (9, .istore_n 1, 1), (10, .iload_n 1, 1), (11, .aload_n 0, 1), (12, .getfield 19, 3), (15, .if_icmp .ge 36, 3), (18, .aload_n 0, 1), (19, .getfield 36, 3), (22, .aload_n 0, 1), (23, .getfield 28, 3), (26, .iload_n 1, 1), (27, .saload, 1)]
theorem D100_0 : RW100_0.all (xDr prog_2_method_7_code) = true := eAll 0 (by decide +kernel)
def RW100_1 : List (Nat × Instr × Nat) := [(28, .sipush 144, 3), (31, .iadd, 1), (32, .bipush 17, 2), (34, .imul, 1), (35, .iload_n 1, 1), (36, .invokestatic 111, 3), (39, .iadd, 1), (40, .dup2, 1), (41, .iaload, 1), (42, .iconst 1, 1), (43, .iadd, 1), (44, .iastore, 1), (45, .iinc 1 1, 3), (48, .goto (-38), 3), (51, .return_, 1)]
theorem D100_1 : RW100_1.all (xDr prog_2_method_7_code) = true := eAll 28 (by decide +kernel)
def d_100 : xDt := (⟨"IsingLab$Exact", "tallyLevels", "()V"⟩, prog_2_method_7_code, 2, none, 2, [])
def RW101_0 : List (Nat × Instr × Nat) := [(0, .aload_n 0, 1), (1, .iconst 0, 1), (2, .putfield 25, 3), (5, .sipush (-144), 3), (8, .istore_n 1, 1), (9, .iload_n 1, 1), (10, .sipush 144, 3), (13, .if_icmp .gt 92, 3), (16, .iconst 0, 1), (17, .istore_n 2, 1), (18, .iload_n 2, 1), (19, .aload_n 0, 1), (20, .getfield 15, 3), (23, .if_icmp .gt 76, 3), (26, .aload_n 0, 1), (27, .getfield 36, 3)]
theorem D101_0 : RW101_0.all (xDr prog_2_method_8_code) = true := eAll 0 (by decide +kernel)
def RW101_1 : List (Nat × Instr × Nat) := [(30, .iload_n 1, 1), (31, .sipush 144, 3), (34, .iadd, 1), (35, .bipush 17, 2), (37, .imul, 1), (38, .iload_n 2, 1), (39, .iadd, 1), (40, .iaload, 1), (41, .istore_n 3, 1), (42, .iload_n 3, 1), (43, .ifCond .le 50, 3), (46, .aload_n 0, 1), (47, .getfield 39, 3), (50, .aload_n 0, 1), (51, .getfield 25, 3), (54, .iload_n 1, 1)]
theorem D101_1 : RW101_1.all (xDr prog_2_method_8_code) = true := eAll 30 (by decide +kernel)
def RW101_2 : List (Nat × Instr × Nat) := [(55, .iastore, 1), (56, .aload_n 0, 1), (57, .getfield 42, 3), (60, .aload_n 0, 1), (61, .getfield 25, 3), (64, .iconst 2, 1), (65, .iload_n 2, 1), (66, .imul, 1), (67, .aload_n 0, 1), (68, .getfield 15, 3), (71, .isub, 1), (72, .iastore, 1), (73, .aload_n 0, 1), (74, .getfield 45, 3), (77, .aload_n 0, 1), (78, .getfield 25, 3)]
theorem D101_2 : RW101_2.all (xDr prog_2_method_8_code) = true := eAll 55 (by decide +kernel)
def RW101_3 : List (Nat × Instr × Nat) := [(81, .iload_n 3, 1), (82, .iastore, 1), (83, .aload_n 0, 1), (84, .dup, 1), (85, .getfield 25, 3), (88, .iconst 1, 1), (89, .iadd, 1), (90, .putfield 25, 3), (93, .iinc 2 1, 3), (96, .goto (-78), 3), (99, .iinc 1 1, 3), (102, .goto (-93), 3), (105, .aload_n 0, 1), (106, .aload_n 0, 1), (107, .getfield 39, 3), (110, .iconst 0, 1)]
theorem D101_3 : RW101_3.all (xDr prog_2_method_8_code) = true := eAll 81 (by decide +kernel)
def RW101_4 : List (Nat × Instr × Nat) := [(111, .iaload, 1), (112, .putfield 22, 3), (115, .return_, 1)]
theorem D101_4 : RW101_4.all (xDr prog_2_method_8_code) = true := eAll 111 (by decide +kernel)
def d_101 : xDt := (⟨"IsingLab$Exact", "listLevels", "()V"⟩, prog_2_method_8_code, 4, none, 1, [])
def RW102_0 : List (Nat × Instr × Nat) := [(0, .iconst 0, 1), (1, .istore_n 2, 1), (2, .iconst 0, 1), (3, .istore_n 3, 1), (4, .iload_n 3, 1), (5, .aload_n 0, 1), (6, .getfield 25, 3), (9, .if_icmp .ge 28, 3), (12, .aload_n 0, 1), (13, .getfield 39, 3), (16, .iload_n 3, 1), (17, .iaload, 1), (18, .iload_n 1, 1), (19, .if_icmp .gt 18, 3), (22, .iload_n 2, 1), (23, .aload_n 0, 1)]
theorem D102_0 : RW102_0.all (xDr prog_2_method_9_code) = true := eAll 0 (by decide +kernel)
def RW102_1 : List (Nat × Instr × Nat) := [(24, .getfield 45, 3), (27, .iload_n 3, 1), (28, .iaload, 1), (29, .iadd, 1), (30, .istore_n 2, 1), (31, .iinc 3 1, 3), (34, .goto (-30), 3), (37, .iload_n 2, 1), (38, .ireturn, 1)]
theorem D102_1 : RW102_1.all (xDr prog_2_method_9_code) = true := eAll 24 (by decide +kernel)
def d_102 : xDt := (⟨"IsingLab$Exact", "numberUpTo", "(I)I"⟩, prog_2_method_9_code, 4, (some FieldType.int), 1, [])
def RW103_0 : List (Nat × Instr × Nat) := [(0, .iconst 0, 1), (1, .istore_n 1, 1), (2, .iload_n 1, 1), (3, .aload_n 0, 1), (4, .getfield 19, 3), (7, .if_icmp .ge 24, 3), (10, .aload_n 0, 1), (11, .getfield 28, 3), (14, .iload_n 1, 1), (15, .saload, 1), (16, .aload_n 0, 1), (17, .getfield 22, 3), (20, .if_icmp .ne 5, 3), (23, .iload_n 1, 1), (24, .ireturn, 1), (25, .iinc 1 1, 3)]
theorem D103_0 : RW103_0.all (xDr prog_2_method_10_code) = true := eAll 0 (by decide +kernel)
def RW103_1 : List (Nat × Instr × Nat) := [(28, .goto (-26), 3), (31, .iconst 0, 1), (32, .ireturn, 1)]
theorem D103_1 : RW103_1.all (xDr prog_2_method_10_code) = true := eAll 28 (by decide +kernel)
def d_103 : xDt := (⟨"IsingLab$Exact", "lowestGround", "()I"⟩, prog_2_method_10_code, 2, (some FieldType.int), 1, [])
def RW104_0 : List (Nat × Instr × Nat) := [(0, .iconst 0, 1), (1, .istore_n 1, 1), (2, .iconst 0, 1), (3, .istore_n 2, 1), (4, .iload_n 2, 1), (5, .aload_n 0, 1), (6, .getfield 19, 3), (9, .if_icmp .ge 20, 3), (12, .aload_n 0, 1), (13, .iload_n 2, 1), (14, .invokevirtual 117, 3), (17, .ifCond .eq 6, 3), (20, .iinc 1 1, 3), (23, .iinc 2 1, 3), (26, .goto (-22), 3), (29, .iload_n 1, 1)]
theorem D104_0 : RW104_0.all (xDr prog_2_method_11_code) = true := eAll 0 (by decide +kernel)
def RW104_1 : List (Nat × Instr × Nat) := [(30, .ireturn, 1)]
theorem D104_1 : RW104_1.all (xDr prog_2_method_11_code) = true := eAll 30 (by decide +kernel)
def d_104 : xDt := (⟨"IsingLab$Exact", "numberOfMinima", "()I"⟩, prog_2_method_11_code, 3, (some FieldType.int), 2, [])
def RW105_0 : List (Nat × Instr × Nat) := [(0, .iconst 0, 1), (1, .istore_n 2, 1), (2, .iload_n 2, 1), (3, .aload_n 0, 1), (4, .getfield 15, 3), (7, .if_icmp .ge 30, 3), (10, .aload_n 0, 1), (11, .getfield 28, 3), (14, .iload_n 1, 1), (15, .iconst 1, 1), (16, .iload_n 2, 1), (17, .ishl, 1), (18, .ixor, 1), (19, .saload, 1), (20, .aload_n 0, 1), (21, .getfield 28, 3)]
theorem D105_0 : RW105_0.all (xDr prog_2_method_12_code) = true := eAll 0 (by decide +kernel)
def RW105_1 : List (Nat × Instr × Nat) := [(24, .iload_n 1, 1), (25, .saload, 1), (26, .if_icmp .gt 5, 3), (29, .iconst 0, 1), (30, .ireturn, 1), (31, .iinc 2 1, 3), (34, .goto (-32), 3), (37, .iconst 1, 1), (38, .ireturn, 1)]
theorem D105_1 : RW105_1.all (xDr prog_2_method_12_code) = true := eAll 24 (by decide +kernel)
def d_105 : xDt := (⟨"IsingLab$Exact", "isMinimum", "(I)Z"⟩, prog_2_method_12_code, 3, (some FieldType.boolean), 1, [])
def RW106_0 : List (Nat × Instr × Nat) := [(0, .iload_n 1, 1), (1, .i2d, 1), (2, .iload_n 2, 1), (3, .i2d, 1), (4, .ddiv, 1), (5, .dstore_n 3, 1), (6, .aload_n 0, 1), (7, .getfield 54, 3), (10, .iconst 0, 1), (11, .dconst 1, 1), (12, .dastore, 1), (13, .iconst 1, 1), (14, .istore 5, 2), (16, .iload 5, 2), (18, .sipush 289, 3), (21, .if_icmp .ge 27, 3)]
theorem D106_0 : RW106_0.all (xDr prog_2_method_13_code) = true := eAll 0 (by decide +kernel)
def RW106_1 : List (Nat × Instr × Nat) := [(24, .aload_n 0, 1), (25, .getfield 54, 3), (28, .iload 5, 2), (30, .aload_n 0, 1), (31, .getfield 54, 3), (34, .iload 5, 2), (36, .iconst 1, 1), (37, .isub, 1), (38, .daload, 1), (39, .dload_n 3, 1), (40, .dmul, 1), (41, .dastore, 1), (42, .iinc 5 1, 3), (45, .goto (-29), 3), (48, .return_, 1)]
theorem D106_1 : RW106_1.all (xDr prog_2_method_13_code) = true := eAll 24 (by decide +kernel)
def d_106 : xDt := (⟨"IsingLab$Exact", "weigh", "(II)V"⟩, prog_2_method_13_code, 6, none, 1, [])
def RW107_0 : List (Nat × Instr × Nat) := [(0, .dconst 0, 1), (1, .dstore_n 2, 1), (2, .dconst 0, 1), (3, .dstore 4, 2), (5, .iconst 0, 1), (6, .istore 6, 2), (8, .iload 6, 2), (10, .aload_n 0, 1), (11, .getfield 25, 3), (14, .if_icmp .ge 69, 3), (17, .aload_n 0, 1), (18, .getfield 45, 3), (21, .iload 6, 2), (23, .iaload, 1), (24, .i2d, 1), (25, .aload_n 0, 1)]
theorem D107_0 : RW107_0.all (xDr prog_2_method_14_code) = true := eAll 0 (by decide +kernel)
def RW107_1 : List (Nat × Instr × Nat) := [(26, .getfield 54, 3), (29, .aload_n 0, 1), (30, .getfield 39, 3), (33, .iload 6, 2), (35, .iaload, 1), (36, .aload_n 0, 1), (37, .getfield 22, 3), (40, .isub, 1), (41, .daload, 1), (42, .dmul, 1), (43, .dstore 7, 2), (45, .dload_n 2, 1), (46, .dload 7, 2), (48, .iload_n 1, 1), (49, .aload_n 0, 1), (50, .getfield 39, 3)]
theorem D107_1 : RW107_1.all (xDr prog_2_method_14_code) = true := eAll 26 (by decide +kernel)
def RW107_2 : List (Nat × Instr × Nat) := [(53, .iload 6, 2), (55, .iaload, 1), (56, .aload_n 0, 1), (57, .getfield 42, 3), (60, .iload 6, 2), (62, .iaload, 1), (63, .invokestatic 121, 3), (66, .l2d, 1), (67, .dmul, 1), (68, .dadd, 1), (69, .dstore_n 2, 1), (70, .dload 4, 2), (72, .dload 7, 2), (74, .dadd, 1), (75, .dstore 4, 2), (77, .iinc 6 1, 3)]
theorem D107_2 : RW107_2.all (xDr prog_2_method_14_code) = true := eAll 53 (by decide +kernel)
def RW107_3 : List (Nat × Instr × Nat) := [(80, .goto (-72), 3), (83, .aload_n 0, 1), (84, .dload_n 2, 1), (85, .dload 4, 2), (87, .invokevirtual 125, 3), (90, .dreturn, 1)]
theorem D107_3 : RW107_3.all (xDr prog_2_method_14_code) = true := eAll 80 (by decide +kernel)
def d_107 : xDt := (⟨"IsingLab$Exact", "meanOf", "(I)D"⟩, prog_2_method_14_code, 9, (some FieldType.double), 3, [])
def RW108_0 : List (Nat × Instr × Nat) := [(0, .dload_n 3, 1), (1, .dconst 0, 1), (2, .dcmp .l, 1), (3, .ifCond .le 9, 3), (6, .dload_n 1, 1), (7, .dload_n 3, 1), (8, .ddiv, 1), (9, .goto 4, 3), (12, .dconst 0, 1), (13, .dreturn, 1)]
theorem D108_0 : RW108_0.all (xDr prog_2_method_15_code) = true := eAll 0 (by decide +kernel)
def d_108 : xDt := (⟨"IsingLab$Exact", "quotient", "(DD)D"⟩, prog_2_method_15_code, 5, (some FieldType.double), 1, [])
def RW109_0 : List (Nat × Instr × Nat) := [(0, .aload_n 0, 1), (1, .iload_n 2, 1), (2, .iload_n 3, 1), (3, .invokevirtual 129, 3), (6, .iload_n 1, 1), (7, .ifCond .ne 22, 3), (10, .aload_n 0, 1), (11, .iconst 0, 1), (12, .invokevirtual 133, 3), (15, .dstore 4, 2), (17, .aload_n 0, 1), (18, .iconst 4, 1), (19, .invokevirtual 133, 3), (22, .dload 4, 2), (24, .dload 4, 2), (26, .dmul, 1)]
theorem D109_0 : RW109_0.all (xDr prog_2_method_16_code) = true := eAll 0 (by decide +kernel)
def RW109_1 : List (Nat × Instr × Nat) := [(27, .dsub, 1), (28, .dreturn, 1), (29, .aload_n 0, 1), (30, .iconst 2, 1), (31, .invokevirtual 133, 3), (34, .dstore 4, 2), (36, .iload_n 1, 1), (37, .iconst 1, 1), (38, .if_icmp .ne 19, 3), (41, .aload_n 0, 1), (42, .iconst 1, 1), (43, .invokevirtual 133, 3), (46, .dstore 6, 2), (48, .dload 4, 2), (50, .dload 6, 2), (52, .dload 6, 2)]
theorem D109_1 : RW109_1.all (xDr prog_2_method_16_code) = true := eAll 27 (by decide +kernel)
def RW109_2 : List (Nat × Instr × Nat) := [(54, .dmul, 1), (55, .dsub, 1), (56, .dreturn, 1), (57, .dconst 1, 1), (58, .aload_n 0, 1), (59, .aload_n 0, 1), (60, .iconst 3, 1), (61, .invokevirtual 133, 3), (64, .ldc2_w 137, 3), (67, .dload 4, 2), (69, .dmul, 1), (70, .dload 4, 2), (72, .dmul, 1), (73, .invokevirtual 125, 3), (76, .dsub, 1), (77, .dreturn, 1)]
theorem D109_2 : RW109_2.all (xDr prog_2_method_16_code) = true := eAll 54 (by decide +kernel)
def d_109 : xDt := (⟨"IsingLab$Exact", "figureOf", "(III)D"⟩, prog_2_method_16_code, 8, (some FieldType.double), 4, [])
def RW110_0 : List (Nat × Instr × Nat) := [(0, .dconst 0, 1), (1, .dstore_n 2, 1), (2, .iconst 0, 1), (3, .istore 4, 2), (5, .iload 4, 2), (7, .aload_n 0, 1), (8, .getfield 25, 3), (11, .if_icmp .ge 38, 3), (14, .dload_n 2, 1), (15, .aload_n 0, 1), (16, .getfield 45, 3), (19, .iload 4, 2), (21, .iaload, 1), (22, .i2d, 1), (23, .aload_n 0, 1), (24, .getfield 54, 3)]
theorem D110_0 : RW110_0.all (xDr prog_2_method_17_code) = true := eAll 0 (by decide +kernel)
def RW110_1 : List (Nat × Instr × Nat) := [(27, .aload_n 0, 1), (28, .getfield 39, 3), (31, .iload 4, 2), (33, .iaload, 1), (34, .aload_n 0, 1), (35, .getfield 22, 3), (38, .isub, 1), (39, .daload, 1), (40, .dmul, 1), (41, .dadd, 1), (42, .dstore_n 2, 1), (43, .iinc 4 1, 3), (46, .goto (-41), 3), (49, .aload_n 0, 1), (50, .aload_n 0, 1), (51, .getfield 54, 3)]
theorem D110_1 : RW110_1.all (xDr prog_2_method_17_code) = true := eAll 27 (by decide +kernel)
def RW110_2 : List (Nat × Instr × Nat) := [(54, .aload_n 0, 1), (55, .getfield 28, 3), (58, .iload_n 1, 1), (59, .saload, 1), (60, .aload_n 0, 1), (61, .getfield 22, 3), (64, .isub, 1), (65, .daload, 1), (66, .dload_n 2, 1), (67, .invokevirtual 125, 3), (70, .dreturn, 1)]
theorem D110_2 : RW110_2.all (xDr prog_2_method_17_code) = true := eAll 54 (by decide +kernel)
def d_110 : xDt := (⟨"IsingLab$Exact", "probabilityOf", "(I)D"⟩, prog_2_method_17_code, 5, (some FieldType.double), 2, [])
def RW111_0 : List (Nat × Instr × Nat) := [(0, .aload_n 0, 1), (1, .getfield 48, 3), (4, .iconst 0, 1), (5, .invokestatic 105, 3), (8, .aload_n 0, 1), (9, .getfield 51, 3), (12, .iconst 0, 1), (13, .invokestatic 105, 3), (16, .iconst 0, 1), (17, .istore_n 3, 1), (18, .iload_n 3, 1), (19, .aload_n 0, 1), (20, .getfield 19, 3), (23, .if_icmp .ge 60, 3), (26, .aload_n 0, 1), (27, .getfield 28, 3)]
theorem D111_0 : RW111_0.all (xDr prog_2_method_18_code) = true := eAll 0 (by decide +kernel)
def RW111_1 : List (Nat × Instr × Nat) := [(30, .iload_n 3, 1), (31, .saload, 1), (32, .aload_n 0, 1), (33, .getfield 22, 3), (36, .isub, 1), (37, .istore 4, 2), (39, .aload_n 0, 1), (40, .getfield 48, 3), (43, .iload 4, 2), (45, .dup2, 1), (46, .iaload, 1), (47, .iconst 1, 1), (48, .iadd, 1), (49, .iastore, 1), (50, .aload_n 0, 1), (51, .getfield 51, 3)]
theorem D111_1 : RW111_1.all (xDr prog_2_method_18_code) = true := eAll 30 (by decide +kernel)
def RW111_2 : List (Nat × Instr × Nat) := [(54, .iload 4, 2), (56, .dup2, 1), (57, .iaload, 1), (58, .iload_n 3, 1), (59, .iload_n 1, 1), (60, .ishr, 1), (61, .iload_n 3, 1), (62, .iload_n 2, 1), (63, .ishr, 1), (64, .ixor, 1), (65, .iconst 2, 1), (66, .irem, 1), (67, .ifCond .ne 7, 3), (70, .iconst 1, 1), (71, .goto 4, 3), (74, .iconst (-1), 1)]
theorem D111_2 : RW111_2.all (xDr prog_2_method_18_code) = true := eAll 54 (by decide +kernel)
def RW111_3 : List (Nat × Instr × Nat) := [(75, .iadd, 1), (76, .iastore, 1), (77, .iinc 3 1, 3), (80, .goto (-62), 3), (83, .dconst 0, 1), (84, .dstore_n 3, 1), (85, .dconst 0, 1), (86, .dstore 5, 2), (88, .iconst 0, 1), (89, .istore 7, 2), (91, .iload 7, 2), (93, .sipush 289, 3), (96, .if_icmp .ge 49, 3), (99, .dload_n 3, 1), (100, .aload_n 0, 1), (101, .getfield 51, 3)]
theorem D111_3 : RW111_3.all (xDr prog_2_method_18_code) = true := eAll 75 (by decide +kernel)
def RW111_4 : List (Nat × Instr × Nat) := [(104, .iload 7, 2), (106, .iaload, 1), (107, .i2d, 1), (108, .aload_n 0, 1), (109, .getfield 54, 3), (112, .iload 7, 2), (114, .daload, 1), (115, .dmul, 1), (116, .dadd, 1), (117, .dstore_n 3, 1), (118, .dload 5, 2), (120, .aload_n 0, 1), (121, .getfield 48, 3), (124, .iload 7, 2), (126, .iaload, 1), (127, .i2d, 1)]
theorem D111_4 : RW111_4.all (xDr prog_2_method_18_code) = true := eAll 104 (by decide +kernel)
def RW111_5 : List (Nat × Instr × Nat) := [(128, .aload_n 0, 1), (129, .getfield 54, 3), (132, .iload 7, 2), (134, .daload, 1), (135, .dmul, 1), (136, .dadd, 1), (137, .dstore 5, 2), (139, .iinc 7 1, 3), (142, .goto (-51), 3), (145, .aload_n 0, 1), (146, .dload_n 3, 1), (147, .dload 5, 2), (149, .invokevirtual 125, 3), (152, .dreturn, 1)]
theorem D111_5 : RW111_5.all (xDr prog_2_method_18_code) = true := eAll 128 (by decide +kernel)
def d_111 : xDt := (⟨"IsingLab$Exact", "correlationOf", "(II)D"⟩, prog_2_method_18_code, 8, (some FieldType.double), 2, [])
def RW112_0 : List (Nat × Instr × Nat) := [(0, .aload_n 0, 1), (1, .getfield 36, 3), (4, .iconst 0, 1), (5, .invokestatic 105, 3), (8, .iconst 0, 1), (9, .istore_n 1, 1), (10, .iload_n 1, 1), (11, .aload_n 0, 1), (12, .getfield 15, 3), (15, .if_icmp .ge 63, 3), (18, .iconst 1, 1), (19, .iload_n 1, 1), (20, .ishl, 1), (21, .istore_n 2, 1), (22, .iconst 0, 1), (23, .istore_n 3, 1)]
theorem D112_0 : RW112_0.all (xDr prog_2_method_19_code) = true := eAll 0 (by decide +kernel)
def RW112_1 : List (Nat × Instr × Nat) := [(24, .iload_n 3, 1), (25, .aload_n 0, 1), (26, .getfield 19, 3), (29, .if_icmp .ge 43, 3), (32, .iload_n 3, 1), (33, .iload_n 2, 1), (34, .iand, 1), (35, .ifCond .ne 31, 3), (38, .aload_n 0, 1), (39, .getfield 36, 3), (42, .aload_n 0, 1), (43, .getfield 28, 3), (46, .iload_n 3, 1), (47, .iload_n 2, 1), (48, .ior, 1), (49, .saload, 1)]
theorem D112_1 : RW112_1.all (xDr prog_2_method_19_code) = true := eAll 24 (by decide +kernel)
def RW112_2 : List (Nat × Instr × Nat) := [(50, .aload_n 0, 1), (51, .getfield 28, 3), (54, .iload_n 3, 1), (55, .saload, 1), (56, .isub, 1), (57, .sipush 289, 3), (60, .iadd, 1), (61, .dup2, 1), (62, .iaload, 1), (63, .iconst 1, 1), (64, .iadd, 1), (65, .iastore, 1), (66, .iinc 3 1, 3), (69, .goto (-45), 3), (72, .iinc 1 1, 3), (75, .goto (-65), 3)]
theorem D112_2 : RW112_2.all (xDr prog_2_method_19_code) = true := eAll 50 (by decide +kernel)
def RW112_3 : List (Nat × Instr × Nat) := [(78, .iconst 0, 1), (79, .istore_n 1, 1), (80, .sipush (-288), 3), (83, .istore_n 2, 1), (84, .iload_n 2, 1), (85, .sipush 289, 3), (88, .if_icmp .ge 30, 3), (91, .aload_n 0, 1), (92, .iload_n 2, 1), (93, .invokevirtual 139, 3), (96, .ifCond .ne 16, 3), (99, .iload_n 1, 1), (100, .aload_n 0, 1), (101, .getfield 36, 3), (104, .iload_n 2, 1), (105, .sipush 289, 3)]
theorem D112_3 : RW112_3.all (xDr prog_2_method_19_code) = true := eAll 78 (by decide +kernel)
def RW112_4 : List (Nat × Instr × Nat) := [(108, .iadd, 1), (109, .iaload, 1), (110, .iadd, 1), (111, .istore_n 1, 1), (112, .iinc 2 1, 3), (115, .goto (-31), 3), (118, .iload_n 1, 1), (119, .ireturn, 1)]
theorem D112_4 : RW112_4.all (xDr prog_2_method_19_code) = true := eAll 108 (by decide +kernel)
def d_112 : xDt := (⟨"IsingLab$Exact", "unbalancedPairs", "()I"⟩, prog_2_method_19_code, 4, (some FieldType.int), 3, [])
def RW113_0 : List (Nat × Instr × Nat) := [(0, .aload_n 0, 1), (1, .getfield 58, 3), (4, .iload_n 1, 1), (5, .invokevirtual 142, 3), (8, .istore_n 2, 1), (9, .aload_n 0, 1), (10, .getfield 58, 3), (13, .iload_n 1, 1), (14, .ineg, 1), (15, .invokevirtual 142, 3), (18, .istore_n 3, 1), (19, .iload_n 2, 1), (20, .iconst (-1), 1), (21, .if_icmp .eq 19, 3), (24, .iload_n 3, 1), (25, .iconst (-1), 1)]
theorem D113_0 : RW113_0.all (xDr prog_2_method_20_code) = true := eAll 0 (by decide +kernel)
def RW113_1 : List (Nat × Instr × Nat) := [(26, .if_icmp .eq 14, 3), (29, .iload_n 2, 1), (30, .iload_n 1, 1), (31, .iload_n 3, 1), (32, .iadd, 1), (33, .if_icmp .ne 7, 3), (36, .iconst 1, 1), (37, .goto 4, 3), (40, .iconst 0, 1), (41, .ireturn, 1)]
theorem D113_1 : RW113_1.all (xDr prog_2_method_20_code) = true := eAll 26 (by decide +kernel)
def d_113 : xDt := (⟨"IsingLab$Exact", "isBalanced", "(I)Z"⟩, prog_2_method_20_code, 4, (some FieldType.boolean), 2, [])
def RW114_0 : List (Nat × Instr × Nat) := [(0, .aload_n 0, 1), (1, .getfield 32, 3), (4, .bipush (-2), 2), (6, .invokestatic 105, 3), (9, .aload_n 0, 1), (10, .getfield 48, 3), (13, .iconst (-1), 1), (14, .invokestatic 105, 3), (17, .aload_n 0, 1), (18, .getfield 28, 3), (21, .iload_n 1, 1), (22, .saload, 1), (23, .sipush 144, 3), (26, .iadd, 1), (27, .istore_n 3, 1), (28, .aload_n 0, 1)]
theorem D114_0 : RW114_0.all (xDr prog_2_method_21_code) = true := eAll 0 (by decide +kernel)
def RW114_1 : List (Nat × Instr × Nat) := [(29, .getfield 32, 3), (32, .iload_n 1, 1), (33, .iconst (-1), 1), (34, .iastore, 1), (35, .aload_n 0, 1), (36, .getfield 48, 3), (39, .iload_n 3, 1), (40, .iload_n 1, 1), (41, .iastore, 1), (42, .iconst 0, 1), (43, .istore 4, 2), (45, .iload 4, 2), (47, .ldc 145, 2), (49, .if_icmp .ge 65, 3), (52, .iload_n 3, 1), (53, .sipush 289, 3)]
theorem D114_1 : RW114_1.all (xDr prog_2_method_21_code) = true := eAll 29 (by decide +kernel)
def RW114_2 : List (Nat × Instr × Nat) := [(56, .if_icmp .ge 58, 3), (59, .aload_n 0, 1), (60, .getfield 48, 3), (63, .iload_n 3, 1), (64, .iaload, 1), (65, .istore 5, 2), (67, .iload 5, 2), (69, .iload_n 2, 1), (70, .if_icmp .ne 6, 3), (73, .goto 41, 3), (76, .iload 5, 2), (78, .iconst (-1), 1), (79, .if_icmp .ne 9, 3), (82, .iinc 3 1, 3), (85, .goto 23, 3), (88, .aload_n 0, 1)]
theorem D114_2 : RW114_2.all (xDr prog_2_method_21_code) = true := eAll 56 (by decide +kernel)
def RW114_3 : List (Nat × Instr × Nat) := [(89, .getfield 48, 3), (92, .iload_n 3, 1), (93, .aload_n 0, 1), (94, .getfield 32, 3), (97, .iload 5, 2), (99, .iaload, 1), (100, .iastore, 1), (101, .aload_n 0, 1), (102, .iload 5, 2), (104, .iload_n 3, 1), (105, .invokevirtual 146, 3), (108, .iinc 4 1, 3), (111, .goto (-66), 3), (114, .iload_n 3, 1), (115, .sipush 144, 3), (118, .isub, 1)]
theorem D114_3 : RW114_3.all (xDr prog_2_method_21_code) = true := eAll 89 (by decide +kernel)
def RW114_4 : List (Nat × Instr × Nat) := [(119, .ireturn, 1)]
theorem D114_4 : RW114_4.all (xDr prog_2_method_21_code) = true := eAll 119 (by decide +kernel)
def d_114 : xDt := (⟨"IsingLab$Exact", "barrierBetween", "(II)I"⟩, prog_2_method_21_code, 6, (some FieldType.int), 3, [])
def RW115_0 : List (Nat × Instr × Nat) := [(0, .iconst 0, 1), (1, .istore_n 3, 1), (2, .iload_n 3, 1), (3, .aload_n 0, 1), (4, .getfield 15, 3), (7, .if_icmp .ge 68, 3), (10, .iload_n 1, 1), (11, .iconst 1, 1), (12, .iload_n 3, 1), (13, .ishl, 1), (14, .ixor, 1), (15, .istore 4, 2), (17, .aload_n 0, 1), (18, .getfield 32, 3), (21, .iload 4, 2), (23, .iaload, 1)]
theorem D115_0 : RW115_0.all (xDr prog_2_method_22_code) = true := eAll 0 (by decide +kernel)
def RW115_1 : List (Nat × Instr × Nat) := [(24, .bipush (-2), 2), (26, .if_icmp .ne 43, 3), (29, .iload_n 2, 1), (30, .aload_n 0, 1), (31, .getfield 28, 3), (34, .iload 4, 2), (36, .saload, 1), (37, .sipush 144, 3), (40, .iadd, 1), (41, .invokestatic 149, 3), (44, .istore 5, 2), (46, .aload_n 0, 1), (47, .getfield 32, 3), (50, .iload 4, 2), (52, .aload_n 0, 1), (53, .getfield 48, 3)]
theorem D115_1 : RW115_1.all (xDr prog_2_method_22_code) = true := eAll 24 (by decide +kernel)
def RW115_2 : List (Nat × Instr × Nat) := [(56, .iload 5, 2), (58, .iaload, 1), (59, .iastore, 1), (60, .aload_n 0, 1), (61, .getfield 48, 3), (64, .iload 5, 2), (66, .iload 4, 2), (68, .iastore, 1), (69, .iinc 3 1, 3), (72, .goto (-70), 3), (75, .return_, 1)]
theorem D115_2 : RW115_2.all (xDr prog_2_method_22_code) = true := eAll 56 (by decide +kernel)
def d_115 : xDt := (⟨"IsingLab$Exact", "floodFrom", "(II)V"⟩, prog_2_method_22_code, 6, none, 2, [])
def RW116_0 : List (Nat × Instr × Nat) := [(0, .aload_n 0, 1), (1, .invokespecial 1, 3), (4, .aload_n 0, 1), (5, .sipush 600, 3), (8, .newarray .byte, 2), (10, .putfield 9, 3), (13, .aload_n 0, 1), (14, .iconst 0, 1), (15, .putfield 13, 3), (18, .aload_n 0, 1), (19, .iconst 0, 1), (20, .putfield 17, 3), (23, .aload_n 0, 1), (24, .iconst (-1), 1), (25, .putfield 20, 3), (28, .aload_n 0, 1)]
theorem D116_0 : RW116_0.all (xDr prog_1_method_1_code) = true := eAll 0 (by decide +kernel)
def RW116_1 : List (Nat × Instr × Nat) := [(29, .new 23, 3), (32, .dup, 1), (33, .invokespecial 25, 3), (36, .putfield 26, 3), (39, .aload_n 0, 1), (40, .new 30, 3), (43, .dup, 1), (44, .aload_n 0, 1), (45, .getfield 26, 3), (48, .invokespecial 32, 3), (51, .putfield 35, 3), (54, .aload_n 0, 1), (55, .new 30, 3), (58, .dup, 1), (59, .aload_n 0, 1), (60, .getfield 26, 3)]
theorem D116_1 : RW116_1.all (xDr prog_1_method_1_code) = true := eAll 29 (by decide +kernel)
def RW116_2 : List (Nat × Instr × Nat) := [(63, .invokespecial 32, 3), (66, .putfield 39, 3), (69, .aload_n 0, 1), (70, .iconst 0, 1), (71, .putfield 42, 3), (74, .aload_n 0, 1), (75, .new 46, 3), (78, .dup, 1), (79, .aload_n 0, 1), (80, .getfield 35, 3), (83, .invokespecial 48, 3), (86, .putfield 51, 3), (89, .aload_n 0, 1), (90, .new 55, 3), (93, .dup, 1), (94, .invokespecial 57, 3)]
theorem D116_2 : RW116_2.all (xDr prog_1_method_1_code) = true := eAll 63 (by decide +kernel)
def RW116_3 : List (Nat × Instr × Nat) := [(97, .putfield 58, 3), (100, .aload_n 0, 1), (101, .new 62, 3), (104, .dup, 1), (105, .invokespecial 64, 3), (108, .invokevirtual 65, 3), (111, .return_, 1)]
theorem D116_3 : RW116_3.all (xDr prog_1_method_1_code) = true := eAll 97 (by decide +kernel)
def d_116 : xDt := (⟨"IsingLab", "<init>", "()V"⟩, prog_1_method_1_code, 1, none, 13, [])
def RW117_0 : List (Nat × Instr × Nat) := [(0, .aload_n 0, 1), (1, .getfield 26, 3), (4, .aload_n 1, 1), (5, .invokevirtual 69, 3), (8, .aload_n 0, 1), (9, .getfield 35, 3), (12, .aload_n 1, 1), (13, .invokevirtual 72, 3), (16, .aload_n 0, 1), (17, .iconst 0, 1), (18, .putfield 42, 3), (21, .aload_n 0, 1), (22, .getfield 51, 3), (25, .invokevirtual 75, 3), (28, .aload_n 0, 1), (29, .getfield 58, 3)]
theorem D117_0 : RW117_0.all (xDr prog_1_method_2_code) = true := eAll 0 (by decide +kernel)
def RW117_1 : List (Nat × Instr × Nat) := [(32, .iconst 0, 1), (33, .invokevirtual 78, 3), (36, .return_, 1)]
theorem D117_1 : RW117_1.all (xDr prog_1_method_2_code) = true := eAll 32 (by decide +kernel)
def d_117 : xDt := (⟨"IsingLab", "begin", "(LIsingLab$Setup;)V"⟩, prog_1_method_2_code, 2, none, 12, [])
def RW118_0 : List (Nat × Instr × Nat) := [(0, .aload_n 0, 1), (1, .getfield 13, 3), (4, .sipush 580, 3), (7, .if_icmp .le 5, 3), (10, .iconst (-1), 1), (11, .ireturn, 1), (12, .aload_n 0, 1), (13, .iload_n 1, 1), (14, .invokevirtual 82, 3), (17, .aload_n 0, 1), (18, .iload_n 2, 1), (19, .invokevirtual 82, 3), (22, .aload_n 0, 1), (23, .iload_n 3, 1), (24, .invokevirtual 82, 3), (27, .aload_n 0, 1)]
theorem D118_0 : RW118_0.all (xDr prog_1_method_3_code) = true := eAll 0 (by decide +kernel)
def RW118_1 : List (Nat × Instr × Nat) := [(28, .iload 4, 2), (30, .invokevirtual 82, 3), (33, .aload_n 0, 1), (34, .iload 5, 2), (36, .invokevirtual 82, 3), (39, .aload_n 0, 1), (40, .getfield 13, 3), (43, .ireturn, 1)]
theorem D118_1 : RW118_1.all (xDr prog_1_method_3_code) = true := eAll 28 (by decide +kernel)
def d_118 : xDt := (⟨"IsingLab", "appendInput", "(IIIII)I"⟩, prog_1_method_3_code, 6, (some FieldType.int), 2, [])
def RW119_0 : List (Nat × Instr × Nat) := [(0, .bipush 24, 2), (2, .istore_n 2, 1), (3, .iload_n 2, 1), (4, .ifCond .lt 44, 3), (7, .aload_n 0, 1), (8, .getfield 13, 3), (11, .aload_n 0, 1), (12, .getfield 9, 3), (15, .arraylength, 1), (16, .if_icmp .ge 26, 3), (19, .aload_n 0, 1), (20, .getfield 9, 3), (23, .aload_n 0, 1), (24, .getfield 13, 3), (27, .iload_n 1, 1), (28, .iload_n 2, 1)]
theorem D119_0 : RW119_0.all (xDr prog_1_method_4_code) = true := eAll 0 (by decide +kernel)
def RW119_1 : List (Nat × Instr × Nat) := [(29, .ishr, 1), (30, .i2b, 1), (31, .bastore, 1), (32, .aload_n 0, 1), (33, .dup, 1), (34, .getfield 13, 3), (37, .iconst 1, 1), (38, .iadd, 1), (39, .putfield 13, 3), (42, .iinc 2 (-8), 3), (45, .goto (-42), 3), (48, .return_, 1)]
theorem D119_1 : RW119_1.all (xDr prog_1_method_4_code) = true := eAll 29 (by decide +kernel)
def d_119 : xDt := (⟨"IsingLab", "putBytes", "(I)V"⟩, prog_1_method_4_code, 3, none, 1, [])
def RW120_0 : List (Nat × Instr × Nat) := [(0, .iload_n 1, 1), (1, .ifCond .lt 11, 3), (4, .iload_n 1, 1), (5, .aload_n 0, 1), (6, .getfield 13, 3), (9, .if_icmp .le 5, 3), (12, .iconst 0, 1), (13, .ireturn, 1), (14, .aload_n 0, 1), (15, .iload_n 1, 1), (16, .putfield 13, 3), (19, .iconst 1, 1), (20, .ireturn, 1)]
theorem D120_0 : RW120_0.all (xDr prog_1_method_5_code) = true := eAll 0 (by decide +kernel)
def d_120 : xDt := (⟨"IsingLab", "truncateInput", "(I)Z"⟩, prog_1_method_5_code, 2, (some FieldType.boolean), 1, [])
def RW121_0 : List (Nat × Instr × Nat) := [(0, .new 85, 3), (3, .dup, 1), (4, .aload_n 0, 1), (5, .getfield 9, 3), (8, .aload_n 0, 1), (9, .getfield 13, 3), (12, .invokespecial 87, 3), (15, .astore_n 1, 1), (16, .aload_n 1, 1), (17, .invokevirtual 90, 3), (20, .istore_n 2, 1), (21, .aload_n 0, 1), (22, .iconst 0, 1), (23, .putfield 13, 3), (26, .aload_n 0, 1), (27, .aload_n 1, 1)]
theorem D121_0 : RW121_0.all (xDr prog_1_method_6_code) = true := eAll 0 (by decide +kernel)
def RW121_1 : List (Nat × Instr × Nat) := [(28, .getfield 94, 3), (31, .putfield 17, 3), (34, .aload_n 0, 1), (35, .aload_n 1, 1), (36, .getfield 97, 3), (39, .putfield 20, 3), (42, .iload_n 2, 1), (43, .ifCond .ne 5, 3), (46, .iconst (-1), 1), (47, .ireturn, 1), (48, .aload_n 0, 1), (49, .aload_n 1, 1), (50, .getfield 100, 3), (53, .invokevirtual 65, 3), (56, .aload_n 0, 1), (57, .getfield 26, 3)]
theorem D121_1 : RW121_1.all (xDr prog_1_method_6_code) = true := eAll 28 (by decide +kernel)
def RW121_2 : List (Nat × Instr × Nat) := [(60, .getfield 104, 3), (63, .ireturn, 1)]
theorem D121_2 : RW121_2.all (xDr prog_1_method_6_code) = true := eAll 60 (by decide +kernel)
def d_121 : xDt := (⟨"IsingLab", "loadLab", "()I"⟩, prog_1_method_6_code, 3, (some FieldType.int), 13, [])
def RW122_0 : List (Nat × Instr × Nat) := [(0, .aload_n 0, 1), (1, .getfield 17, 3), (4, .ireturn, 1)]
theorem D122_0 : RW122_0.all (xDr prog_1_method_7_code) = true := eAll 0 (by decide +kernel)
def d_122 : xDt := (⟨"IsingLab", "errorCode", "()I"⟩, prog_1_method_7_code, 1, (some FieldType.int), 1, [])
def RW123_0 : List (Nat × Instr × Nat) := [(0, .aload_n 0, 1), (1, .getfield 20, 3), (4, .ireturn, 1)]
theorem D123_0 : RW123_0.all (xDr prog_1_method_8_code) = true := eAll 0 (by decide +kernel)
def d_123 : xDt := (⟨"IsingLab", "errorOffset", "()I"⟩, prog_1_method_8_code, 1, (some FieldType.int), 1, [])
def RW124_0 : List (Nat × Instr × Nat) := [(0, .aload_n 0, 1), (1, .getfield 35, 3), (4, .getfield 197, 3), (7, .lreturn, 1)]
theorem D124_0 : RW124_0.all (xDr prog_1_method_23_code) = true := eAll 0 (by decide +kernel)
def d_124 : xDt := (⟨"IsingLab", "configuration", "()J"⟩, prog_1_method_23_code, 1, (some FieldType.long), 1, [])
def RW125_0 : List (Nat × Instr × Nat) := [(0, .aload_n 0, 1), (1, .getfield 35, 3), (4, .dup, 1), (5, .getfield 197, 3), (8, .aload_n 0, 1), (9, .getfield 26, 3), (12, .getfield 228, 3), (15, .lxor, 1), (16, .putfield 197, 3), (19, .aload_n 0, 1), (20, .invokevirtual 224, 3), (23, .ireturn, 1)]
theorem D125_0 : RW125_0.all (xDr prog_1_method_26_code) = true := eAll 0 (by decide +kernel)
def d_125 : xDt := (⟨"IsingLab", "reverse", "()I"⟩, prog_1_method_26_code, 1, (some FieldType.int), 5, [])
def RW126_0 : List (Nat × Instr × Nat) := [(0, .aload_n 0, 1), (1, .getfield 35, 3), (4, .aload_n 0, 1), (5, .getfield 35, 3), (8, .getfield 197, 3), (11, .invokevirtual 231, 3), (14, .ireturn, 1)]
theorem D126_0 : RW126_0.all (xDr prog_1_method_27_code) = true := eAll 0 (by decide +kernel)
def d_126 : xDt := (⟨"IsingLab", "energy", "()I"⟩, prog_1_method_27_code, 1, (some FieldType.int), 4, [])
def RW127_0 : List (Nat × Instr × Nat) := [(0, .aload_n 0, 1), (1, .getfield 26, 3), (4, .aload_n 0, 1), (5, .getfield 35, 3), (8, .getfield 197, 3), (11, .invokevirtual 235, 3), (14, .ireturn, 1)]
theorem D127_0 : RW127_0.all (xDr prog_1_method_28_code) = true := eAll 0 (by decide +kernel)
def d_127 : xDt := (⟨"IsingLab", "magnetization", "()I"⟩, prog_1_method_28_code, 1, (some FieldType.int), 3, [])
def RW128_0 : List (Nat × Instr × Nat) := [(0, .iconst 0, 1), (1, .istore_n 1, 1), (2, .iconst 0, 1), (3, .istore_n 2, 1), (4, .iload_n 2, 1), (5, .aload_n 0, 1), (6, .getfield 26, 3), (9, .getfield 114, 3), (12, .if_icmp .ge 30, 3), (15, .aload_n 0, 1), (16, .getfield 35, 3), (19, .aload_n 0, 1), (20, .getfield 35, 3), (23, .getfield 197, 3), (26, .iload_n 2, 1), (27, .invokevirtual 200, 3)]
theorem D128_0 : RW128_0.all (xDr prog_1_method_31_code) = true := eAll 0 (by decide +kernel)
def RW128_1 : List (Nat × Instr × Nat) := [(30, .ifCond .ge 6, 3), (33, .iinc 1 1, 3), (36, .iinc 2 1, 3), (39, .goto (-35), 3), (42, .iload_n 1, 1), (43, .ireturn, 1)]
theorem D128_1 : RW128_1.all (xDr prog_1_method_31_code) = true := eAll 30 (by decide +kernel)
def d_128 : xDt := (⟨"IsingLab", "unsatisfied", "()I"⟩, prog_1_method_31_code, 3, (some FieldType.int), 2, [])
def RW129_0 : List (Nat × Instr × Nat) := [(0, .iconst 0, 1), (1, .istore_n 1, 1), (2, .iconst 0, 1), (3, .istore_n 2, 1), (4, .iload_n 2, 1), (5, .aload_n 0, 1), (6, .getfield 26, 3), (9, .getfield 104, 3), (12, .if_icmp .ge 30, 3), (15, .aload_n 0, 1), (16, .getfield 35, 3), (19, .aload_n 0, 1), (20, .getfield 35, 3), (23, .getfield 197, 3), (26, .iload_n 2, 1), (27, .invokevirtual 238, 3)]
theorem D129_0 : RW129_0.all (xDr prog_1_method_32_code) = true := eAll 0 (by decide +kernel)
def RW129_1 : List (Nat × Instr × Nat) := [(30, .ifCond .le 6, 3), (33, .iinc 1 1, 3), (36, .iinc 2 1, 3), (39, .goto (-35), 3), (42, .iload_n 1, 1), (43, .ireturn, 1)]
theorem D129_1 : RW129_1.all (xDr prog_1_method_32_code) = true := eAll 30 (by decide +kernel)
def d_129 : xDt := (⟨"IsingLab", "stable", "()I"⟩, prog_1_method_32_code, 3, (some FieldType.int), 3, [])
def RW130_0 : List (Nat × Instr × Nat) := [(0, .iconst 0, 1), (1, .istore_n 1, 1), (2, .iconst 0, 1), (3, .istore_n 2, 1), (4, .iload_n 2, 1), (5, .aload_n 0, 1), (6, .getfield 26, 3), (9, .getfield 104, 3), (12, .if_icmp .ge 30, 3), (15, .aload_n 0, 1), (16, .getfield 35, 3), (19, .aload_n 0, 1), (20, .getfield 35, 3), (23, .getfield 197, 3), (26, .iload_n 2, 1), (27, .invokevirtual 238, 3)]
theorem D130_0 : RW130_0.all (xDr prog_1_method_33_code) = true := eAll 0 (by decide +kernel)
def RW130_1 : List (Nat × Instr × Nat) := [(30, .ifCond .ne 6, 3), (33, .iinc 1 1, 3), (36, .iinc 2 1, 3), (39, .goto (-35), 3), (42, .iload_n 1, 1), (43, .ireturn, 1)]
theorem D130_1 : RW130_1.all (xDr prog_1_method_33_code) = true := eAll 30 (by decide +kernel)
def d_130 : xDt := (⟨"IsingLab", "free", "()I"⟩, prog_1_method_33_code, 3, (some FieldType.int), 3, [])
def RW131_0 : List (Nat × Instr × Nat) := [(0, .iconst 0, 1), (1, .istore_n 1, 1), (2, .iconst 0, 1), (3, .istore_n 2, 1), (4, .iload_n 2, 1), (5, .aload_n 0, 1), (6, .getfield 26, 3), (9, .getfield 114, 3), (12, .if_icmp .ge 27, 3), (15, .iload_n 1, 1), (16, .aload_n 0, 1), (17, .getfield 35, 3), (20, .aload_n 0, 1), (21, .getfield 35, 3), (24, .getfield 197, 3), (27, .iload_n 2, 1)]
theorem D131_0 : RW131_0.all (xDr prog_1_method_35_code) = true := eAll 0 (by decide +kernel)
def RW131_1 : List (Nat × Instr × Nat) := [(28, .invokevirtual 200, 3), (31, .iadd, 1), (32, .istore_n 1, 1), (33, .iinc 2 1, 3), (36, .goto (-32), 3), (39, .aload_n 0, 1), (40, .iload_n 1, 1), (41, .aload_n 0, 1), (42, .getfield 26, 3), (45, .getfield 114, 3), (48, .invokevirtual 250, 3), (51, .freturn, 1)]
theorem D131_1 : RW131_1.all (xDr prog_1_method_35_code) = true := eAll 28 (by decide +kernel)
def d_131 : xDt := (⟨"IsingLab", "bondMean", "()F"⟩, prog_1_method_35_code, 3, (some FieldType.float), 2, [])
def RW132_0 : List (Nat × Instr × Nat) := [(0, .iload_n 2, 1), (1, .ifCond .gt 5, 3), (4, .fconst 0, 1), (5, .freturn, 1), (6, .iload_n 1, 1), (7, .i2f, 1), (8, .iload_n 2, 1), (9, .i2f, 1), (10, .fdiv, 1), (11, .freturn, 1)]
theorem D132_0 : RW132_0.all (xDr prog_1_method_36_code) = true := eAll 0 (by decide +kernel)
def d_132 : xDt := (⟨"IsingLab", "ratioOf", "(II)F"⟩, prog_1_method_36_code, 3, (some FieldType.float), 1, [])
def RW133_0 : List (Nat × Instr × Nat) := [(0, .lconst 0, 1), (1, .lstore_n 1, 1), (2, .iconst 0, 1), (3, .istore_n 3, 1), (4, .iconst 0, 1), (5, .istore 4, 2), (7, .iload 4, 2), (9, .aload_n 0, 1), (10, .getfield 26, 3), (13, .getfield 104, 3), (16, .if_icmp .ge 35, 3), (19, .lload_n 1, 1), (20, .iload 4, 2), (22, .lushr, 1), (23, .lconst 1, 1), (24, .land, 1)]
theorem D133_0 : RW133_0.all (xDr prog_1_method_37_code) = true := eAll 0 (by decide +kernel)
def RW133_1 : List (Nat × Instr × Nat) := [(25, .lconst 0, 1), (26, .lcmp, 1), (27, .ifCond .ne 18, 3), (30, .lload_n 1, 1), (31, .aload_n 0, 1), (32, .getfield 35, 3), (35, .iload 4, 2), (37, .invokevirtual 254, 3), (40, .lor, 1), (41, .lstore_n 1, 1), (42, .iinc 3 1, 3), (45, .iinc 4 1, 3), (48, .goto (-41), 3), (51, .iload_n 3, 1), (52, .ireturn, 1)]
theorem D133_1 : RW133_1.all (xDr prog_1_method_37_code) = true := eAll 25 (by decide +kernel)
def d_133 : xDt := (⟨"IsingLab", "domains", "()I"⟩, prog_1_method_37_code, 5, (some FieldType.int), 4, [])
def RW134_0 : List (Nat × Instr × Nat) := [(0, .lconst 0, 1), (1, .lstore_n 1, 1), (2, .iconst 0, 1), (3, .istore_n 3, 1), (4, .iconst 0, 1), (5, .istore 4, 2), (7, .iload 4, 2), (9, .aload_n 0, 1), (10, .getfield 26, 3), (13, .getfield 104, 3), (16, .if_icmp .ge 46, 3), (19, .lload_n 1, 1), (20, .iload 4, 2), (22, .lushr, 1), (23, .lconst 1, 1), (24, .land, 1)]
theorem D134_0 : RW134_0.all (xDr prog_1_method_39_code) = true := eAll 0 (by decide +kernel)
def RW134_1 : List (Nat × Instr × Nat) := [(25, .lconst 0, 1), (26, .lcmp, 1), (27, .ifCond .ne 29, 3), (30, .aload_n 0, 1), (31, .getfield 35, 3), (34, .iload 4, 2), (36, .invokevirtual 254, 3), (39, .lstore 5, 2), (41, .lload_n 1, 1), (42, .lload 5, 2), (44, .lor, 1), (45, .lstore_n 1, 1), (46, .iload_n 3, 1), (47, .lload 5, 2), (49, .invokestatic 241, 3), (52, .invokestatic 258, 3)]
theorem D134_1 : RW134_1.all (xDr prog_1_method_39_code) = true := eAll 25 (by decide +kernel)
def RW134_2 : List (Nat × Instr × Nat) := [(55, .istore_n 3, 1), (56, .iinc 4 1, 3), (59, .goto (-52), 3), (62, .iload_n 3, 1), (63, .ireturn, 1)]
theorem D134_2 : RW134_2.all (xDr prog_1_method_39_code) = true := eAll 55 (by decide +kernel)
def d_134 : xDt := (⟨"IsingLab", "largestDomain", "()I"⟩, prog_1_method_39_code, 7, (some FieldType.int), 4, [])
def RW135_0 : List (Nat × Instr × Nat) := [(0, .aload_n 0, 1), (1, .aload_n 0, 1), (2, .getfield 35, 3), (5, .getfield 166, 3), (8, .aload_n 0, 1), (9, .getfield 35, 3), (12, .getfield 163, 3), (15, .invokevirtual 250, 3), (18, .freturn, 1)]
theorem D135_0 : RW135_0.all (xDr prog_1_method_44_code) = true := eAll 0 (by decide +kernel)
def d_135 : xDt := (⟨"IsingLab", "accepted", "()F"⟩, prog_1_method_44_code, 1, (some FieldType.float), 2, [])
def RW136_0 : List (Nat × Instr × Nat) := [(0, .aload_n 0, 1), (1, .getfield 35, 3), (4, .getfield 169, 3), (7, .astore_n 1, 1), (8, .aload_n 1, 1), (9, .getfield 173, 3), (12, .ifCond .gt 5, 3), (15, .dconst 0, 1), (16, .dreturn, 1), (17, .lconst 0, 1), (18, .lstore_n 2, 1), (19, .iconst 0, 1), (20, .istore 4, 2), (22, .iload 4, 2), (24, .aload_n 1, 1), (25, .getfield 173, 3)]
theorem D136_0 : RW136_0.all (xDr prog_1_method_53_code) = true := eAll 0 (by decide +kernel)
def RW136_1 : List (Nat × Instr × Nat) := [(28, .if_icmp .ge 39, 3), (31, .iload 4, 2), (33, .aload_n 1, 1), (34, .getfield 298, 3), (37, .arraylength, 1), (38, .if_icmp .ge 29, 3), (41, .lload_n 2, 1), (42, .aload_n 1, 1), (43, .getfield 298, 3), (46, .iload 4, 2), (48, .iaload, 1), (49, .i2l, 1), (50, .aload_n 1, 1), (51, .getfield 298, 3), (54, .iload 4, 2), (56, .iaload, 1)]
theorem D136_1 : RW136_1.all (xDr prog_1_method_53_code) = true := eAll 28 (by decide +kernel)
def RW136_2 : List (Nat × Instr × Nat) := [(57, .i2l, 1), (58, .lmul, 1), (59, .ladd, 1), (60, .lstore_n 2, 1), (61, .iinc 4 1, 3), (64, .goto (-42), 3), (67, .aload_n 0, 1), (68, .iconst 0, 1), (69, .invokevirtual 312, 3), (72, .dstore 4, 2), (74, .lload_n 2, 1), (75, .l2d, 1), (76, .aload_n 1, 1), (77, .getfield 173, 3), (80, .i2d, 1), (81, .ddiv, 1)]
theorem D136_2 : RW136_2.all (xDr prog_1_method_53_code) = true := eAll 57 (by decide +kernel)
def RW136_3 : List (Nat × Instr × Nat) := [(82, .dload 4, 2), (84, .dload 4, 2), (86, .dmul, 1), (87, .dsub, 1), (88, .dreturn, 1)]
theorem D136_3 : RW136_3.all (xDr prog_1_method_53_code) = true := eAll 82 (by decide +kernel)
def d_136 : xDt := (⟨"IsingLab", "sampleSpread", "()D"⟩, prog_1_method_53_code, 6, (some FieldType.double), 8, [])
def RW137_0 : List (Nat × Instr × Nat) := [(0, .aload_n 0, 1), (1, .iload_n 1, 1), (2, .iconst 0, 1), (3, .iconst 3, 1), (4, .invokevirtual 206, 3), (7, .aload_n 0, 1), (8, .getfield 35, 3), (11, .getfield 169, 3), (14, .astore_n 2, 1), (15, .aload_n 2, 1), (16, .getfield 173, 3), (19, .ifCond .gt 5, 3), (22, .dconst 0, 1), (23, .dreturn, 1), (24, .lconst 0, 1), (25, .lstore_n 3, 1)]
theorem D137_0 : RW137_0.all (xDr prog_1_method_51_code) = true := eAll 0 (by decide +kernel)
def RW137_1 : List (Nat × Instr × Nat) := [(26, .iconst 0, 1), (27, .istore 5, 2), (29, .iload 5, 2), (31, .aload_n 2, 1), (32, .getfield 173, 3), (35, .if_icmp .ge 51, 3), (38, .iload 5, 2), (40, .aload_n 2, 1), (41, .getfield 298, 3), (44, .arraylength, 1), (45, .if_icmp .ge 41, 3), (48, .aload_n 0, 1), (49, .getfield 26, 3), (52, .aload_n 2, 1), (53, .getfield 301, 3), (56, .iload 5, 2)]
theorem D137_1 : RW137_1.all (xDr prog_1_method_51_code) = true := eAll 26 (by decide +kernel)
def RW137_2 : List (Nat × Instr × Nat) := [(58, .laload, 1), (59, .invokevirtual 235, 3), (62, .istore 6, 2), (64, .lload_n 3, 1), (65, .iload_n 1, 1), (66, .aload_n 2, 1), (67, .getfield 298, 3), (70, .iload 5, 2), (72, .iaload, 1), (73, .iload 6, 2), (75, .invokestatic 305, 3), (78, .ladd, 1), (79, .lstore_n 3, 1), (80, .iinc 5 1, 3), (83, .goto (-54), 3), (86, .lload_n 3, 1)]
theorem D137_2 : RW137_2.all (xDr prog_1_method_51_code) = true := eAll 58 (by decide +kernel)
def RW137_3 : List (Nat × Instr × Nat) := [(87, .l2d, 1), (88, .aload_n 2, 1), (89, .getfield 173, 3), (92, .i2d, 1), (93, .ddiv, 1), (94, .dreturn, 1)]
theorem D137_3 : RW137_3.all (xDr prog_1_method_51_code) = true := eAll 87 (by decide +kernel)
def d_137 : xDt := (⟨"IsingLab", "sampleMean", "(I)D"⟩, prog_1_method_51_code, 7, (some FieldType.double), 7, [])
def RW138_0 : List (Nat × Instr × Nat) := [(0, .iload_n 1, 1), (1, .iload_n 2, 1), (2, .if_icmp .lt 8, 3), (5, .iload_n 1, 1), (6, .iload_n 3, 1), (7, .if_icmp .le 13, 3), (10, .new 119, 3), (13, .dup, 1), (14, .ldc 121, 2), (16, .invokespecial 123, 3), (19, .athrow, 1), (20, .return_, 1)]
theorem D138_0 : RW138_0.all (xDr prog_1_method_11_code) = true := eAll 0 (by decide +kernel)
def d_138 : xDt := (⟨"IsingLab", "requireWithin", "(III)V"⟩, prog_1_method_11_code, 4, none, 6, [])
def RW139_0 : List (Nat × Instr × Nat) := [(0, .iload_n 2, 1), (1, .i2l, 1), (2, .iload_n 2, 1), (3, .i2l, 1), (4, .lmul, 1), (5, .lstore_n 3, 1), (6, .iload_n 0, 1), (7, .tableswitch 44 0 3 #[29, 32, 38, 40], 29), (36, .iload_n 1, 1), (37, .i2l, 1), (38, .lreturn, 1), (39, .iload_n 2, 1), (40, .invokestatic 309, 3), (43, .i2l, 1), (44, .lreturn, 1), (45, .lload_n 3, 1)]
theorem D139_0 : RW139_0.all (xDr prog_1_method_52_code) = true := by decide +kernel
def RW139_1 : List (Nat × Instr × Nat) := [(46, .lreturn, 1), (47, .lload_n 3, 1), (48, .lload_n 3, 1), (49, .lmul, 1), (50, .lreturn, 1), (51, .iload_n 1, 1), (52, .i2l, 1), (53, .iload_n 1, 1), (54, .i2l, 1), (55, .lmul, 1), (56, .lreturn, 1)]
theorem D139_1 : RW139_1.all (xDr prog_1_method_52_code) = true := eAll 46 (by decide +kernel)
def d_139 : xDt := (⟨"IsingLab", "valueOf", "(III)J"⟩, prog_1_method_52_code, 5, (some FieldType.long), 2, [])
def RW140_0 : List (Nat × Instr × Nat) := [(0, .aload_n 0, 1), (1, .getfield 35, 3), (4, .getfield 169, 3), (7, .astore_n 2, 1), (8, .iconst 0, 1), (9, .istore_n 3, 1), (10, .iconst 0, 1), (11, .istore 4, 2), (13, .iload 4, 2), (15, .aload_n 2, 1), (16, .getfield 173, 3), (19, .if_icmp .ge 33, 3), (22, .iload 4, 2), (24, .aload_n 2, 1), (25, .getfield 298, 3), (28, .arraylength, 1)]
theorem D140_0 : RW140_0.all (xDr prog_1_method_54_code) = true := eAll 0 (by decide +kernel)
def RW140_1 : List (Nat × Instr × Nat) := [(29, .if_icmp .ge 23, 3), (32, .aload_n 2, 1), (33, .getfield 298, 3), (36, .iload 4, 2), (38, .iaload, 1), (39, .iload_n 1, 1), (40, .if_icmp .ne 6, 3), (43, .iinc 3 1, 3), (46, .iinc 4 1, 3), (49, .goto (-36), 3), (52, .iload_n 3, 1), (53, .ireturn, 1)]
theorem D140_1 : RW140_1.all (xDr prog_1_method_54_code) = true := eAll 29 (by decide +kernel)
def d_140 : xDt := (⟨"IsingLab", "samplesWith", "(I)I"⟩, prog_1_method_54_code, 5, (some FieldType.int), 1, [])
def RW141_0 : List (Nat × Instr × Nat) := [(0, .aload_n 0, 1), (1, .getfield 35, 3), (4, .getfield 169, 3), (7, .invokevirtual 316, 3), (10, .ireturn, 1)]
theorem D141_0 : RW141_0.all (xDr prog_1_method_55_code) = true := eAll 0 (by decide +kernel)
def d_141 : xDt := (⟨"IsingLab", "visited", "()I"⟩, prog_1_method_55_code, 1, (some FieldType.int), 3, [])
def RW142_0 : List (Nat × Instr × Nat) := [(0, .aload_n 0, 1), (1, .getfield 35, 3), (4, .getfield 169, 3), (7, .getfield 173, 3), (10, .istore_n 1, 1), (11, .aload_n 0, 1), (12, .getfield 35, 3), (15, .getfield 169, 3), (18, .iconst 0, 1), (19, .putfield 173, 3), (22, .iload_n 1, 1), (23, .ireturn, 1)]
theorem D142_0 : RW142_0.all (xDr prog_1_method_56_code) = true := eAll 0 (by decide +kernel)
def d_142 : xDt := (⟨"IsingLab", "clearSamples", "()I"⟩, prog_1_method_56_code, 2, (some FieldType.int), 1, [])
def RW143_0 : List (Nat × Instr × Nat) := [(0, .aload_n 0, 1), (1, .getfield 58, 3), (4, .iconst 0, 1), (5, .invokevirtual 78, 3), (8, .iconst 0, 1), (9, .istore_n 1, 1), (10, .iload_n 1, 1), (11, .aload_n 0, 1), (12, .getfield 26, 3), (15, .getfield 145, 3), (18, .if_icmp .ge 83, 3), (21, .iconst 0, 1), (22, .istore_n 2, 1), (23, .iload_n 2, 1), (24, .aload_n 0, 1), (25, .getfield 26, 3)]
theorem D143_0 : RW143_0.all (xDr prog_1_method_72_code) = true := eAll 0 (by decide +kernel)
def RW143_1 : List (Nat × Instr × Nat) := [(28, .getfield 148, 3), (31, .if_icmp .ge 54, 3), (34, .aload_n 0, 1), (35, .getfield 35, 3), (38, .aload_n 0, 1), (39, .getfield 35, 3), (42, .getfield 197, 3), (45, .iload_n 1, 1), (46, .aload_n 0, 1), (47, .getfield 26, 3), (50, .getfield 148, 3), (53, .imul, 1), (54, .iload_n 2, 1), (55, .iadd, 1), (56, .invokevirtual 217, 3), (59, .istore_n 3, 1)]
theorem D143_1 : RW143_1.all (xDr prog_1_method_72_code) = true := eAll 28 (by decide +kernel)
def RW143_2 : List (Nat × Instr × Nat) := [(60, .aload_n 0, 1), (61, .getfield 58, 3), (64, .iload_n 3, 1), (65, .ifCond .le 8, 3), (68, .bipush 43, 2), (70, .goto 5, 3), (73, .bipush 45, 2), (75, .invokevirtual 375, 3), (78, .pop, 1), (79, .iinc 2 1, 3), (82, .goto (-59), 3), (85, .aload_n 0, 1), (86, .getfield 58, 3), (89, .bipush 10, 2), (91, .invokevirtual 375, 3), (94, .pop, 1)]
theorem D143_2 : RW143_2.all (xDr prog_1_method_72_code) = true := eAll 60 (by decide +kernel)
def RW143_3 : List (Nat × Instr × Nat) := [(95, .iinc 1 1, 3), (98, .goto (-88), 3), (101, .aload_n 0, 1), (102, .getfield 58, 3), (105, .invokevirtual 379, 3), (108, .ireturn, 1)]
theorem D143_3 : RW143_3.all (xDr prog_1_method_72_code) = true := eAll 95 (by decide +kernel)
def d_143 : xDt := (⟨"IsingLab", "printGrid", "()I"⟩, prog_1_method_72_code, 4, (some FieldType.int), 12, [])
def RW144_0 : List (Nat × Instr × Nat) := [(0, .iload_n 1, 1), (1, .ifCond .lt 14, 3), (4, .iload_n 1, 1), (5, .aload_n 0, 1), (6, .getfield 58, 3), (9, .invokevirtual 379, 3), (12, .if_icmp .lt 5, 3), (15, .iconst (-1), 1), (16, .ireturn, 1), (17, .aload_n 0, 1), (18, .getfield 58, 3), (21, .iload_n 1, 1), (22, .invokevirtual 387, 3), (25, .ireturn, 1)]
theorem D144_0 : RW144_0.all (xDr prog_1_method_74_code) = true := eAll 0 (by decide +kernel)
def d_144 : xDt := (⟨"IsingLab", "outputByte", "(I)I"⟩, prog_1_method_74_code, 2, (some FieldType.int), 5, [])
def RW145_0 : List (Nat × Instr × Nat) := [(0, .aload_n 0, 1), (1, .getfield 39, 3), (4, .aload_n 0, 1), (5, .getfield 35, 3), (8, .invokevirtual 391, 3), (11, .aload_n 0, 1), (12, .iconst 1, 1), (13, .putfield 42, 3), (16, .aload_n 0, 1), (17, .invokevirtual 224, 3), (20, .ireturn, 1)]
theorem D145_0 : RW145_0.all (xDr prog_1_method_75_code) = true := eAll 0 (by decide +kernel)
def d_145 : xDt := (⟨"IsingLab", "saveState", "()I"⟩, prog_1_method_75_code, 1, (some FieldType.int), 5, [])
def RW146_0 : List (Nat × Instr × Nat) := [(0, .iload_n 1, 1), (1, .tableswitch 151 0 10 #[59, 67, 75, 83, 91, 99, 107, 115, 123, 131, 142], 59), (60, .aload_n 0, 1), (61, .getfield 26, 3), (64, .getfield 145, 3), (67, .ireturn, 1), (68, .aload_n 0, 1), (69, .getfield 26, 3), (72, .getfield 148, 3), (75, .ireturn, 1), (76, .aload_n 0, 1), (77, .getfield 26, 3), (80, .getfield 114, 3), (83, .ireturn, 1), (84, .aload_n 0, 1), (85, .getfield 35, 3)]
theorem D146_0 : RW146_0.all (xDr prog_1_method_16_code) = true := by decide +kernel
def RW146_1 : List (Nat × Instr × Nat) := [(88, .getfield 151, 3), (91, .ireturn, 1), (92, .aload_n 0, 1), (93, .getfield 35, 3), (96, .getfield 154, 3), (99, .ireturn, 1), (100, .aload_n 0, 1), (101, .getfield 35, 3), (104, .getfield 157, 3), (107, .ireturn, 1), (108, .aload_n 0, 1), (109, .getfield 35, 3), (112, .getfield 160, 3), (115, .ireturn, 1), (116, .aload_n 0, 1), (117, .getfield 35, 3)]
theorem D146_1 : RW146_1.all (xDr prog_1_method_16_code) = true := eAll 88 (by decide +kernel)
def RW146_2 : List (Nat × Instr × Nat) := [(120, .getfield 163, 3), (123, .ireturn, 1), (124, .aload_n 0, 1), (125, .getfield 35, 3), (128, .getfield 166, 3), (131, .ireturn, 1), (132, .aload_n 0, 1), (133, .getfield 35, 3), (136, .getfield 169, 3), (139, .getfield 173, 3), (142, .ireturn, 1), (143, .aload_n 0, 1), (144, .getfield 35, 3), (147, .getfield 178, 3), (150, .l2i, 1), (151, .ireturn, 1)]
theorem D146_2 : RW146_2.all (xDr prog_1_method_16_code) = true := eAll 120 (by decide +kernel)
def RW146_3 : List (Nat × Instr × Nat) := [(152, .new 119, 3), (155, .dup, 1), (156, .ldc 182, 2), (158, .invokespecial 123, 3), (161, .athrow, 1)]
theorem D146_3 : RW146_3.all (xDr prog_1_method_16_code) = true := eAll 152 (by decide +kernel)
def d_146 : xDt := (⟨"IsingLab", "count", "(I)I"⟩, prog_1_method_16_code, 2, (some FieldType.int), 6, [])
def RW147_0 : List (Nat × Instr × Nat) := [(0, .aload_n 0, 1), (1, .iload_n 1, 1), (2, .invokevirtual 184, 3), (5, .iload_n 2, 1), (6, .tableswitch 76 0 3 #[30, 40, 50, 60], 30), (36, .aload_n 0, 1), (37, .getfield 26, 3), (40, .getfield 187, 3), (43, .iload_n 1, 1), (44, .iaload, 1), (45, .ireturn, 1), (46, .aload_n 0, 1), (47, .getfield 26, 3), (50, .getfield 191, 3), (53, .iload_n 1, 1), (54, .iaload, 1)]
theorem D147_0 : RW147_0.all (xDr prog_1_method_17_code) = true := by decide +kernel
def RW147_1 : List (Nat × Instr × Nat) := [(55, .ireturn, 1), (56, .aload_n 0, 1), (57, .getfield 35, 3), (60, .getfield 194, 3), (63, .iload_n 1, 1), (64, .iaload, 1), (65, .ireturn, 1), (66, .aload_n 0, 1), (67, .getfield 35, 3), (70, .aload_n 0, 1), (71, .getfield 35, 3), (74, .getfield 197, 3), (77, .iload_n 1, 1), (78, .invokevirtual 200, 3), (81, .ireturn, 1), (82, .new 119, 3)]
theorem D147_1 : RW147_1.all (xDr prog_1_method_17_code) = true := eAll 55 (by decide +kernel)
def RW147_2 : List (Nat × Instr × Nat) := [(85, .dup, 1), (86, .ldc 204, 2), (88, .invokespecial 123, 3), (91, .athrow, 1)]
theorem D147_2 : RW147_2.all (xDr prog_1_method_17_code) = true := eAll 85 (by decide +kernel)
def d_147 : xDt := (⟨"IsingLab", "bond", "(II)I"⟩, prog_1_method_17_code, 3, (some FieldType.int), 7, [])
def RW148_0 : List (Nat × Instr × Nat) := [(0, .iload_n 1, 1), (1, .ifCond .lt 14, 3), (4, .iload_n 1, 1), (5, .aload_n 0, 1), (6, .getfield 26, 3), (9, .getfield 114, 3), (12, .if_icmp .lt 13, 3), (15, .new 107, 3), (18, .dup, 1), (19, .ldc 117, 2), (21, .invokespecial 111, 3), (24, .athrow, 1), (25, .return_, 1)]
theorem D148_0 : RW148_0.all (xDr prog_1_method_10_code) = true := eAll 0 (by decide +kernel)
def d_148 : xDt := (⟨"IsingLab", "requireBond", "(I)V"⟩, prog_1_method_10_code, 2, none, 6, [])
def RW149_0 : List (Nat × Instr × Nat) := [(0, .aload_n 0, 1), (1, .iload_n 1, 1), (2, .invokevirtual 184, 3), (5, .aload_n 0, 1), (6, .iload_n 2, 1), (7, .bipush (-3), 2), (9, .iconst 3, 1), (10, .invokevirtual 206, 3), (13, .aload_n 0, 1), (14, .getfield 35, 3), (17, .getfield 194, 3), (20, .iload_n 1, 1), (21, .iaload, 1), (22, .istore_n 3, 1), (23, .aload_n 0, 1), (24, .getfield 35, 3)]
theorem D149_0 : RW149_0.all (xDr prog_1_method_18_code) = true := eAll 0 (by decide +kernel)
def RW149_1 : List (Nat × Instr × Nat) := [(27, .getfield 194, 3), (30, .iload_n 1, 1), (31, .iload_n 2, 1), (32, .iastore, 1), (33, .aload_n 0, 1), (34, .getfield 51, 3), (37, .invokevirtual 75, 3), (40, .iload_n 3, 1), (41, .ireturn, 1)]
theorem D149_1 : RW149_1.all (xDr prog_1_method_18_code) = true := eAll 27 (by decide +kernel)
def d_149 : xDt := (⟨"IsingLab", "setBond", "(II)I"⟩, prog_1_method_18_code, 4, (some FieldType.int), 7, [])
def RW150_0 : List (Nat × Instr × Nat) := [(0, .aload_n 0, 1), (1, .iload_n 1, 1), (2, .iload_n 2, 1), (3, .invokevirtual 210, 3), (6, .aload_n 0, 1), (7, .getfield 35, 3), (10, .getfield 151, 3), (13, .istore_n 3, 1), (14, .aload_n 0, 1), (15, .getfield 35, 3), (18, .iload_n 1, 1), (19, .putfield 151, 3), (22, .aload_n 0, 1), (23, .getfield 35, 3), (26, .iload_n 2, 1), (27, .putfield 154, 3)]
theorem D150_0 : RW150_0.all (xDr prog_1_method_19_code) = true := eAll 0 (by decide +kernel)
def RW150_1 : List (Nat × Instr × Nat) := [(30, .iload_n 3, 1), (31, .ireturn, 1)]
theorem D150_1 : RW150_1.all (xDr prog_1_method_19_code) = true := eAll 30 (by decide +kernel)
def d_150 : xDt := (⟨"IsingLab", "setRatio", "(II)I"⟩, prog_1_method_19_code, 4, (some FieldType.int), 7, [])
def RW151_0 : List (Nat × Instr × Nat) := [(0, .iload_n 1, 1), (1, .iconst 1, 1), (2, .if_icmp .lt 20, 3), (5, .iload_n 1, 1), (6, .bipush 98, 2), (8, .if_icmp .gt 14, 3), (11, .iload_n 2, 1), (12, .iload_n 1, 1), (13, .if_icmp .le 9, 3), (16, .iload_n 2, 1), (17, .bipush 99, 2), (19, .if_icmp .le 13, 3), (22, .new 119, 3), (25, .dup, 1), (26, .ldc 124, 2), (28, .invokespecial 123, 3)]
theorem D151_0 : RW151_0.all (xDr prog_1_method_12_code) = true := eAll 0 (by decide +kernel)
def RW151_1 : List (Nat × Instr × Nat) := [(31, .athrow, 1), (32, .return_, 1)]
theorem D151_1 : RW151_1.all (xDr prog_1_method_12_code) = true := eAll 31 (by decide +kernel)
def d_151 : xDt := (⟨"IsingLab", "requireRatio", "(II)V"⟩, prog_1_method_12_code, 3, none, 6, [])
def RW152_0 : List (Nat × Instr × Nat) := [(0, .aload_n 0, 1), (1, .iload_n 1, 1), (2, .bipush (-3), 2), (4, .iconst 3, 1), (5, .invokevirtual 206, 3), (8, .aload_n 0, 1), (9, .getfield 35, 3), (12, .getfield 157, 3), (15, .istore_n 2, 1), (16, .aload_n 0, 1), (17, .getfield 35, 3), (20, .iload_n 1, 1), (21, .putfield 157, 3), (24, .aload_n 0, 1), (25, .getfield 51, 3), (28, .invokevirtual 75, 3)]
theorem D152_0 : RW152_0.all (xDr prog_1_method_20_code) = true := eAll 0 (by decide +kernel)
def RW152_1 : List (Nat × Instr × Nat) := [(31, .iload_n 2, 1), (32, .ireturn, 1)]
theorem D152_1 : RW152_1.all (xDr prog_1_method_20_code) = true := eAll 31 (by decide +kernel)
def d_152 : xDt := (⟨"IsingLab", "setField", "(I)I"⟩, prog_1_method_20_code, 3, (some FieldType.int), 7, [])
def RW153_0 : List (Nat × Instr × Nat) := [(0, .aload_n 0, 1), (1, .iload_n 1, 1), (2, .iconst 0, 1), (3, .iconst 2, 1), (4, .invokevirtual 206, 3), (7, .aload_n 0, 1), (8, .getfield 35, 3), (11, .getfield 160, 3), (14, .istore_n 2, 1), (15, .aload_n 0, 1), (16, .getfield 35, 3), (19, .iload_n 1, 1), (20, .putfield 160, 3), (23, .iload_n 2, 1), (24, .ireturn, 1)]
theorem D153_0 : RW153_0.all (xDr prog_1_method_21_code) = true := eAll 0 (by decide +kernel)
def d_153 : xDt := (⟨"IsingLab", "setRule", "(I)I"⟩, prog_1_method_21_code, 3, (some FieldType.int), 7, [])
def RW154_0 : List (Nat × Instr × Nat) := [(0, .aload_n 0, 1), (1, .iload_n 1, 1), (2, .invokevirtual 214, 3), (5, .aload_n 0, 1), (6, .getfield 35, 3), (9, .aload_n 0, 1), (10, .getfield 35, 3), (13, .getfield 197, 3), (16, .iload_n 1, 1), (17, .invokevirtual 217, 3), (20, .ireturn, 1)]
theorem D154_0 : RW154_0.all (xDr prog_1_method_22_code) = true := eAll 0 (by decide +kernel)
def d_154 : xDt := (⟨"IsingLab", "spin", "(I)I"⟩, prog_1_method_22_code, 2, (some FieldType.int), 7, [])
def RW155_0 : List (Nat × Instr × Nat) := [(0, .iload_n 1, 1), (1, .ifCond .lt 14, 3), (4, .iload_n 1, 1), (5, .aload_n 0, 1), (6, .getfield 26, 3), (9, .getfield 104, 3), (12, .if_icmp .lt 13, 3), (15, .new 107, 3), (18, .dup, 1), (19, .ldc 109, 2), (21, .invokespecial 111, 3), (24, .athrow, 1), (25, .return_, 1)]
theorem D155_0 : RW155_0.all (xDr prog_1_method_9_code) = true := eAll 0 (by decide +kernel)
def d_155 : xDt := (⟨"IsingLab", "requireSite", "(I)V"⟩, prog_1_method_9_code, 2, none, 6, [])
def RW156_0 : List (Nat × Instr × Nat) := [(0, .aload_n 0, 1), (1, .lload_n 1, 1), (2, .invokevirtual 220, 3), (5, .aload_n 0, 1), (6, .getfield 35, 3), (9, .lload_n 1, 1), (10, .putfield 197, 3), (13, .aload_n 0, 1), (14, .invokevirtual 224, 3), (17, .ireturn, 1)]
theorem D156_0 : RW156_0.all (xDr prog_1_method_24_code) = true := eAll 0 (by decide +kernel)
def d_156 : xDt := (⟨"IsingLab", "setConfiguration", "(J)I"⟩, prog_1_method_24_code, 3, (some FieldType.int), 7, [])
def RW157_0 : List (Nat × Instr × Nat) := [(0, .aload_n 0, 1), (1, .getfield 26, 3), (4, .lload_n 1, 1), (5, .invokevirtual 126, 3), (8, .ifCond .ne 13, 3), (11, .new 119, 3), (14, .dup, 1), (15, .ldc 130, 2), (17, .invokespecial 123, 3), (20, .athrow, 1), (21, .return_, 1)]
theorem D157_0 : RW157_0.all (xDr prog_1_method_13_code) = true := eAll 0 (by decide +kernel)
def d_157 : xDt := (⟨"IsingLab", "requireConfiguration", "(J)V"⟩, prog_1_method_13_code, 3, none, 6, [])
def RW158_0 : List (Nat × Instr × Nat) := [(0, .aload_n 0, 1), (1, .iload_n 1, 1), (2, .invokevirtual 214, 3), (5, .aload_n 0, 1), (6, .getfield 35, 3), (9, .dup, 1), (10, .getfield 197, 3), (13, .lconst 1, 1), (14, .iload_n 1, 1), (15, .lshl, 1), (16, .lxor, 1), (17, .putfield 197, 3), (20, .aload_n 0, 1), (21, .invokevirtual 224, 3), (24, .ireturn, 1)]
theorem D158_0 : RW158_0.all (xDr prog_1_method_25_code) = true := eAll 0 (by decide +kernel)
def d_158 : xDt := (⟨"IsingLab", "flip", "(I)I"⟩, prog_1_method_25_code, 2, (some FieldType.int), 7, [])
def RW159_0 : List (Nat × Instr × Nat) := [(0, .aload_n 0, 1), (1, .iload_n 1, 1), (2, .invokevirtual 214, 3), (5, .aload_n 0, 1), (6, .getfield 35, 3), (9, .aload_n 0, 1), (10, .getfield 35, 3), (13, .getfield 197, 3), (16, .iload_n 1, 1), (17, .invokevirtual 238, 3), (20, .ireturn, 1)]
theorem D159_0 : RW159_0.all (xDr prog_1_method_29_code) = true := eAll 0 (by decide +kernel)
def d_159 : xDt := (⟨"IsingLab", "delta", "(I)I"⟩, prog_1_method_29_code, 2, (some FieldType.int), 7, [])
def RW160_0 : List (Nat × Instr × Nat) := [(0, .aload_n 0, 1), (1, .iload_n 1, 1), (2, .invokevirtual 214, 3), (5, .aload_n 0, 1), (6, .getfield 35, 3), (9, .iload_n 1, 1), (10, .invokevirtual 254, 3), (13, .invokestatic 241, 3), (16, .ireturn, 1)]
theorem D160_0 : RW160_0.all (xDr prog_1_method_38_code) = true := eAll 0 (by decide +kernel)
def d_160 : xDt := (⟨"IsingLab", "domainOf", "(I)I"⟩, prog_1_method_38_code, 2, (some FieldType.int), 7, [])
def RW161_0 : List (Nat × Instr × Nat) := [(0, .aload_n 0, 1), (1, .iload_n 1, 1), (2, .invokevirtual 214, 3), (5, .aload_n 0, 1), (6, .getfield 35, 3), (9, .iload_n 1, 1), (10, .invokevirtual 263, 3), (13, .ireturn, 1)]
theorem D161_0 : RW161_0.all (xDr prog_1_method_40_code) = true := eAll 0 (by decide +kernel)
def d_161 : xDt := (⟨"IsingLab", "attempt", "(I)Z"⟩, prog_1_method_40_code, 2, (some FieldType.boolean), 7, [])
def RW162_0 : List (Nat × Instr × Nat) := [(0, .aload_n 0, 1), (1, .iload_n 1, 1), (2, .iconst 1, 1), (3, .sipush 1000, 3), (6, .invokevirtual 206, 3), (9, .aload_n 0, 1), (10, .getfield 35, 3), (13, .getfield 166, 3), (16, .istore_n 2, 1), (17, .iconst 0, 1), (18, .istore_n 3, 1), (19, .iload_n 3, 1), (20, .iload_n 1, 1), (21, .if_icmp .ge 31, 3), (24, .aload_n 0, 1), (25, .getfield 35, 3)]
theorem D162_0 : RW162_0.all (xDr prog_1_method_41_code) = true := eAll 0 (by decide +kernel)
def RW162_1 : List (Nat × Instr × Nat) := [(28, .aload_n 0, 1), (29, .getfield 35, 3), (32, .aload_n 0, 1), (33, .getfield 26, 3), (36, .getfield 104, 3), (39, .invokevirtual 267, 3), (42, .invokevirtual 263, 3), (45, .pop, 1), (46, .iinc 3 1, 3), (49, .goto (-30), 3), (52, .aload_n 0, 1), (53, .getfield 35, 3), (56, .getfield 166, 3), (59, .iload_n 2, 1), (60, .isub, 1), (61, .ireturn, 1)]
theorem D162_1 : RW162_1.all (xDr prog_1_method_41_code) = true := eAll 28 (by decide +kernel)
def d_162 : xDt := (⟨"IsingLab", "steps", "(I)I"⟩, prog_1_method_41_code, 4, (some FieldType.int), 7, [])
def RW163_0 : List (Nat × Instr × Nat) := [(0, .aload_n 0, 1), (1, .iload_n 1, 1), (2, .iconst 1, 1), (3, .sipush 200, 3), (6, .invokevirtual 206, 3), (9, .aload_n 0, 1), (10, .getfield 35, 3), (13, .getfield 166, 3), (16, .istore_n 2, 1), (17, .iconst 0, 1), (18, .istore_n 3, 1), (19, .iload_n 3, 1), (20, .iload_n 1, 1), (21, .if_icmp .ge 16, 3), (24, .aload_n 0, 1), (25, .getfield 35, 3)]
theorem D163_0 : RW163_0.all (xDr prog_1_method_42_code) = true := eAll 0 (by decide +kernel)
def RW163_1 : List (Nat × Instr × Nat) := [(28, .invokevirtual 271, 3), (31, .iinc 3 1, 3), (34, .goto (-15), 3), (37, .aload_n 0, 1), (38, .getfield 35, 3), (41, .getfield 166, 3), (44, .iload_n 2, 1), (45, .isub, 1), (46, .ireturn, 1)]
theorem D163_1 : RW163_1.all (xDr prog_1_method_42_code) = true := eAll 28 (by decide +kernel)
def d_163 : xDt := (⟨"IsingLab", "sweep", "(I)I"⟩, prog_1_method_42_code, 4, (some FieldType.int), 7, [])
def RW164_0 : List (Nat × Instr × Nat) := [(0, .aload_n 0, 1), (1, .iload_n 1, 1), (2, .invokevirtual 214, 3), (5, .aload_n 0, 1), (6, .invokevirtual 277, 3), (9, .aload_n 0, 1), (10, .getfield 35, 3), (13, .iload_n 1, 1), (14, .invokevirtual 280, 3), (17, .ireturn, 1)]
theorem D164_0 : RW164_0.all (xDr prog_1_method_45_code) = true := eAll 0 (by decide +kernel)
def d_164 : xDt := (⟨"IsingLab", "cluster", "(I)I"⟩, prog_1_method_45_code, 2, (some FieldType.int), 7, [])
def RW165_0 : List (Nat × Instr × Nat) := [(0, .aload_n 0, 1), (1, .getfield 35, 3), (4, .invokevirtual 132, 3), (7, .ifCond .ne 13, 3), (10, .new 135, 3), (13, .dup, 1), (14, .ldc 137, 2), (16, .invokespecial 139, 3), (19, .athrow, 1), (20, .return_, 1)]
theorem D165_0 : RW165_0.all (xDr prog_1_method_14_code) = true := eAll 0 (by decide +kernel)
def d_165 : xDt := (⟨"IsingLab", "requireClusters", "()V"⟩, prog_1_method_14_code, 1, none, 6, [])
def RW166_0 : List (Nat × Instr × Nat) := [(0, .aload_n 0, 1), (1, .invokevirtual 277, 3), (4, .aload_n 0, 1), (5, .getfield 35, 3), (8, .invokevirtual 283, 3), (11, .ireturn, 1)]
theorem D166_0 : RW166_0.all (xDr prog_1_method_46_code) = true := eAll 0 (by decide +kernel)
def d_166 : xDt := (⟨"IsingLab", "allClusters", "()I"⟩, prog_1_method_46_code, 1, (some FieldType.int), 7, [])
def RW167_0 : List (Nat × Instr × Nat) := [(0, .aload_n 0, 1), (1, .getfield 35, 3), (4, .getfield 169, 3), (7, .getfield 173, 3), (10, .sipush 10000, 3), (13, .if_icmp .lt 14, 3), (16, .new 135, 3), (19, .dup, 1), (20, .ldc_w 291, 3), (23, .invokespecial 139, 3), (26, .athrow, 1), (27, .aload_n 0, 1), (28, .getfield 35, 3), (31, .invokevirtual 293, 3), (34, .aload_n 0, 1), (35, .getfield 35, 3)]
theorem D167_0 : RW167_0.all (xDr prog_1_method_49_code) = true := eAll 0 (by decide +kernel)
def RW167_1 : List (Nat × Instr × Nat) := [(38, .getfield 169, 3), (41, .getfield 173, 3), (44, .ireturn, 1)]
theorem D167_1 : RW167_1.all (xDr prog_1_method_49_code) = true := eAll 38 (by decide +kernel)
def d_167 : xDt := (⟨"IsingLab", "sample", "()I"⟩, prog_1_method_49_code, 1, (some FieldType.int), 6, [])
def RW168_0 : List (Nat × Instr × Nat) := [(0, .aload_n 0, 1), (1, .iload_n 1, 1), (2, .iconst 1, 1), (3, .bipush 100, 2), (5, .invokevirtual 206, 3), (8, .aload_n 0, 1), (9, .getfield 35, 3), (12, .getfield 169, 3), (15, .getfield 173, 3), (18, .iload_n 1, 1), (19, .iadd, 1), (20, .sipush 10000, 3), (23, .if_icmp .le 14, 3), (26, .new 135, 3), (29, .dup, 1), (30, .ldc_w 296, 3)]
theorem D168_0 : RW168_0.all (xDr prog_1_method_50_code) = true := eAll 0 (by decide +kernel)
def RW168_1 : List (Nat × Instr × Nat) := [(33, .invokespecial 139, 3), (36, .athrow, 1), (37, .iconst 0, 1), (38, .istore_n 2, 1), (39, .iload_n 2, 1), (40, .iload_n 1, 1), (41, .if_icmp .ge 23, 3), (44, .aload_n 0, 1), (45, .getfield 35, 3), (48, .invokevirtual 271, 3), (51, .aload_n 0, 1), (52, .getfield 35, 3), (55, .invokevirtual 293, 3), (58, .iinc 2 1, 3), (61, .goto (-22), 3), (64, .aload_n 0, 1)]
theorem D168_1 : RW168_1.all (xDr prog_1_method_50_code) = true := eAll 33 (by decide +kernel)
def RW168_2 : List (Nat × Instr × Nat) := [(65, .getfield 35, 3), (68, .getfield 169, 3), (71, .getfield 173, 3), (74, .ireturn, 1)]
theorem D168_2 : RW168_2.all (xDr prog_1_method_50_code) = true := eAll 65 (by decide +kernel)
def d_168 : xDt := (⟨"IsingLab", "sampleSweeps", "(I)I"⟩, prog_1_method_50_code, 3, (some FieldType.int), 7, [])
def RW169_0 : List (Nat × Instr × Nat) := [(0, .aload_n 0, 1), (1, .invokevirtual 319, 3), (4, .getfield 323, 3), (7, .ireturn, 1)]
theorem D169_0 : RW169_0.all (xDr prog_1_method_57_code) = true := eAll 0 (by decide +kernel)
def d_169 : xDt := (⟨"IsingLab", "levels", "()I"⟩, prog_1_method_57_code, 1, (some FieldType.int), 7, [])
def RW170_0 : List (Nat × Instr × Nat) := [(0, .aload_n 0, 1), (1, .getfield 26, 3), (4, .getfield 104, 3), (7, .bipush 16, 2), (9, .if_icmp .le 13, 3), (12, .new 135, 3), (15, .dup, 1), (16, .ldc 140, 2), (18, .invokespecial 139, 3), (21, .athrow, 1), (22, .aload_n 0, 1), (23, .getfield 51, 3), (26, .invokevirtual 142, 3), (29, .aload_n 0, 1), (30, .getfield 51, 3), (33, .areturn, 1)]
theorem D170_0 : RW170_0.all (xDr prog_1_method_15_code) = true := eAll 0 (by decide +kernel)
def d_170 : xDt := (⟨"IsingLab", "enumeration", "()LIsingLab$Exact;"⟩, prog_1_method_15_code, 1, (some (FieldType.object "IsingLab$Exact")), 6, [])
def RW171_0 : List (Nat × Instr × Nat) := [(0, .aload_n 0, 1), (1, .iload_n 2, 1), (2, .iconst 0, 1), (3, .iconst 2, 1), (4, .invokevirtual 206, 3), (7, .aload_n 0, 1), (8, .invokevirtual 319, 3), (11, .astore_n 3, 1), (12, .iload_n 1, 1), (13, .ifCond .lt 11, 3), (16, .iload_n 1, 1), (17, .aload_n 3, 1), (18, .getfield 323, 3), (21, .if_icmp .lt 14, 3), (24, .new 326, 3), (27, .dup, 1)]
theorem D171_0 : RW171_0.all (xDr prog_1_method_58_code) = true := eAll 0 (by decide +kernel)
def RW171_1 : List (Nat × Instr × Nat) := [(28, .ldc_w 328, 3), (31, .invokespecial 330, 3), (34, .athrow, 1), (35, .iload_n 2, 1), (36, .lookupswitch 42 #[(0, 28), (1, 35)], 28), (64, .aload_n 3, 1), (65, .getfield 331, 3), (68, .iload_n 1, 1), (69, .iaload, 1), (70, .ireturn, 1), (71, .aload_n 3, 1), (72, .getfield 334, 3), (75, .iload_n 1, 1), (76, .iaload, 1), (77, .ireturn, 1), (78, .aload_n 3, 1)]
theorem D171_1 : RW171_1.all (xDr prog_1_method_58_code) = true := by decide +kernel
def RW171_2 : List (Nat × Instr × Nat) := [(79, .getfield 337, 3), (82, .iload_n 1, 1), (83, .iaload, 1), (84, .ireturn, 1)]
theorem D171_2 : RW171_2.all (xDr prog_1_method_58_code) = true := eAll 79 (by decide +kernel)
def d_171 : xDt := (⟨"IsingLab", "level", "(II)I"⟩, prog_1_method_58_code, 4, (some FieldType.int), 7, [])
def RW172_0 : List (Nat × Instr × Nat) := [(0, .aload_n 0, 1), (1, .invokevirtual 319, 3), (4, .astore_n 3, 1), (5, .iconst 0, 1), (6, .istore 4, 2), (8, .iload 4, 2), (10, .aload_n 3, 1), (11, .getfield 323, 3), (14, .if_icmp .ge 39, 3), (17, .aload_n 3, 1), (18, .getfield 331, 3), (21, .iload 4, 2), (23, .iaload, 1), (24, .iload_n 1, 1), (25, .if_icmp .ne 22, 3), (28, .aload_n 3, 1)]
theorem D172_0 : RW172_0.all (xDr prog_1_method_59_code) = true := eAll 0 (by decide +kernel)
def RW172_1 : List (Nat × Instr × Nat) := [(29, .getfield 334, 3), (32, .iload 4, 2), (34, .iaload, 1), (35, .iload_n 2, 1), (36, .if_icmp .ne 11, 3), (39, .aload_n 3, 1), (40, .getfield 337, 3), (43, .iload 4, 2), (45, .iaload, 1), (46, .ireturn, 1), (47, .iinc 4 1, 3), (50, .goto (-42), 3), (53, .iconst 0, 1), (54, .ireturn, 1)]
theorem D172_1 : RW172_1.all (xDr prog_1_method_59_code) = true := eAll 29 (by decide +kernel)
def d_172 : xDt := (⟨"IsingLab", "countOf", "(II)I"⟩, prog_1_method_59_code, 5, (some FieldType.int), 7, [])
def RW173_0 : List (Nat × Instr × Nat) := [(0, .aload_n 0, 1), (1, .invokevirtual 319, 3), (4, .getfield 343, 3), (7, .ireturn, 1)]
theorem D173_0 : RW173_0.all (xDr prog_1_method_61_code) = true := eAll 0 (by decide +kernel)
def d_173 : xDt := (⟨"IsingLab", "groundEnergy", "()I"⟩, prog_1_method_61_code, 1, (some FieldType.int), 7, [])
def RW174_0 : List (Nat × Instr × Nat) := [(0, .aload_n 0, 1), (1, .invokevirtual 319, 3), (4, .astore_n 1, 1), (5, .aload_n 1, 1), (6, .aload_n 1, 1), (7, .getfield 343, 3), (10, .invokevirtual 340, 3), (13, .ireturn, 1)]
theorem D174_0 : RW174_0.all (xDr prog_1_method_62_code) = true := eAll 0 (by decide +kernel)
def d_174 : xDt := (⟨"IsingLab", "groundStates", "()I"⟩, prog_1_method_62_code, 2, (some FieldType.int), 7, [])
def RW175_0 : List (Nat × Instr × Nat) := [(0, .aload_n 0, 1), (1, .invokevirtual 319, 3), (4, .invokevirtual 346, 3), (7, .ireturn, 1)]
theorem D175_0 : RW175_0.all (xDr prog_1_method_63_code) = true := eAll 0 (by decide +kernel)
def d_175 : xDt := (⟨"IsingLab", "groundState", "()I"⟩, prog_1_method_63_code, 1, (some FieldType.int), 7, [])
def RW176_0 : List (Nat × Instr × Nat) := [(0, .aload_n 0, 1), (1, .invokevirtual 319, 3), (4, .invokevirtual 349, 3), (7, .ireturn, 1)]
theorem D176_0 : RW176_0.all (xDr prog_1_method_64_code) = true := eAll 0 (by decide +kernel)
def d_176 : xDt := (⟨"IsingLab", "minima", "()I"⟩, prog_1_method_64_code, 1, (some FieldType.int), 7, [])
def RW177_0 : List (Nat × Instr × Nat) := [(0, .aload_n 0, 1), (1, .iload_n 1, 1), (2, .iconst 0, 1), (3, .iconst 4, 1), (4, .invokevirtual 206, 3), (7, .aload_n 0, 1), (8, .iload_n 2, 1), (9, .iload_n 3, 1), (10, .invokevirtual 210, 3), (13, .aload_n 0, 1), (14, .invokevirtual 319, 3), (17, .astore 4, 2), (19, .aload 4, 2), (21, .iload_n 2, 1), (22, .iload_n 3, 1), (23, .invokevirtual 352, 3)]
theorem D177_0 : RW177_0.all (xDr prog_1_method_65_code) = true := eAll 0 (by decide +kernel)
def RW177_1 : List (Nat × Instr × Nat) := [(26, .aload 4, 2), (28, .iload_n 1, 1), (29, .invokevirtual 355, 3), (32, .dreturn, 1)]
theorem D177_1 : RW177_1.all (xDr prog_1_method_65_code) = true := eAll 26 (by decide +kernel)
def d_177 : xDt := (⟨"IsingLab", "exactMean", "(III)D"⟩, prog_1_method_65_code, 5, (some FieldType.double), 7, [])
def RW178_0 : List (Nat × Instr × Nat) := [(0, .aload_n 0, 1), (1, .iload_n 1, 1), (2, .iconst 0, 1), (3, .iconst 2, 1), (4, .invokevirtual 206, 3), (7, .aload_n 0, 1), (8, .iload_n 2, 1), (9, .iload_n 3, 1), (10, .invokevirtual 210, 3), (13, .aload_n 0, 1), (14, .invokevirtual 319, 3), (17, .iload_n 1, 1), (18, .iload_n 2, 1), (19, .iload_n 3, 1), (20, .invokevirtual 358, 3), (23, .dreturn, 1)]
theorem D178_0 : RW178_0.all (xDr prog_1_method_66_code) = true := eAll 0 (by decide +kernel)
def d_178 : xDt := (⟨"IsingLab", "figure", "(III)D"⟩, prog_1_method_66_code, 4, (some FieldType.double), 7, [])
def RW179_0 : List (Nat × Instr × Nat) := [(0, .aload_n 0, 1), (1, .lload_n 1, 1), (2, .invokevirtual 220, 3), (5, .aload_n 0, 1), (6, .iload_n 3, 1), (7, .iload 4, 2), (9, .invokevirtual 210, 3), (12, .aload_n 0, 1), (13, .invokevirtual 319, 3), (16, .astore 5, 2), (18, .aload 5, 2), (20, .iload_n 3, 1), (21, .iload 4, 2), (23, .invokevirtual 352, 3), (26, .aload 5, 2), (28, .lload_n 1, 1)]
theorem D179_0 : RW179_0.all (xDr prog_1_method_67_code) = true := eAll 0 (by decide +kernel)
def RW179_1 : List (Nat × Instr × Nat) := [(29, .l2i, 1), (30, .invokevirtual 362, 3), (33, .dreturn, 1)]
theorem D179_1 : RW179_1.all (xDr prog_1_method_67_code) = true := eAll 29 (by decide +kernel)
def d_179 : xDt := (⟨"IsingLab", "probability", "(JII)D"⟩, prog_1_method_67_code, 6, (some FieldType.double), 7, [])
def RW180_0 : List (Nat × Instr × Nat) := [(0, .aload_n 0, 1), (1, .iload_n 1, 1), (2, .invokevirtual 214, 3), (5, .aload_n 0, 1), (6, .iload_n 2, 1), (7, .invokevirtual 214, 3), (10, .aload_n 0, 1), (11, .iload_n 3, 1), (12, .iload 4, 2), (14, .invokevirtual 210, 3), (17, .aload_n 0, 1), (18, .invokevirtual 319, 3), (21, .astore 5, 2), (23, .aload 5, 2), (25, .iload_n 3, 1), (26, .iload 4, 2)]
theorem D180_0 : RW180_0.all (xDr prog_1_method_68_code) = true := eAll 0 (by decide +kernel)
def RW180_1 : List (Nat × Instr × Nat) := [(28, .invokevirtual 352, 3), (31, .aload 5, 2), (33, .iload_n 1, 1), (34, .iload_n 2, 1), (35, .invokevirtual 365, 3), (38, .dreturn, 1)]
theorem D180_1 : RW180_1.all (xDr prog_1_method_68_code) = true := eAll 28 (by decide +kernel)
def d_180 : xDt := (⟨"IsingLab", "correlation", "(IIII)D"⟩, prog_1_method_68_code, 6, (some FieldType.double), 7, [])
def RW181_0 : List (Nat × Instr × Nat) := [(0, .aload_n 0, 1), (1, .iload_n 1, 1), (2, .iconst 0, 1), (3, .iconst 2, 1), (4, .invokevirtual 206, 3), (7, .aload_n 0, 1), (8, .iload_n 2, 1), (9, .iconst 2, 1), (10, .bipush 30, 2), (12, .invokevirtual 206, 3), (15, .aload_n 0, 1), (16, .invokevirtual 319, 3), (19, .astore_n 3, 1), (20, .iconst 1, 1), (21, .istore 4, 2), (23, .aload_n 3, 1)]
theorem D181_0 : RW181_0.all (xDr prog_1_method_69_code) = true := eAll 0 (by decide +kernel)
def RW181_1 : List (Nat × Instr × Nat) := [(24, .iload_n 1, 1), (25, .iconst 1, 1), (26, .iload_n 2, 1), (27, .invokevirtual 358, 3), (30, .dstore 5, 2), (32, .iconst 2, 1), (33, .istore 7, 2), (35, .iload 7, 2), (37, .iload_n 2, 1), (38, .if_icmp .ge 35, 3), (41, .aload_n 3, 1), (42, .iload_n 1, 1), (43, .iload 7, 2), (45, .iload_n 2, 1), (46, .invokevirtual 358, 3), (49, .dstore 8, 2)]
theorem D181_1 : RW181_1.all (xDr prog_1_method_69_code) = true := eAll 24 (by decide +kernel)
def RW181_2 : List (Nat × Instr × Nat) := [(51, .dload 8, 2), (53, .dload 5, 2), (55, .dcmp .l, 1), (56, .ifCond .le 11, 3), (59, .iload 7, 2), (61, .istore 4, 2), (63, .dload 8, 2), (65, .dstore 5, 2), (67, .iinc 7 1, 3), (70, .goto (-35), 3), (73, .iload 4, 2), (75, .ireturn, 1)]
theorem D181_2 : RW181_2.all (xDr prog_1_method_69_code) = true := eAll 51 (by decide +kernel)
def d_181 : xDt := (⟨"IsingLab", "peak", "(II)I"⟩, prog_1_method_69_code, 10, (some FieldType.int), 7, [])
def RW182_0 : List (Nat × Instr × Nat) := [(0, .aload_n 0, 1), (1, .invokevirtual 319, 3), (4, .invokevirtual 369, 3), (7, .ireturn, 1)]
theorem D182_0 : RW182_0.all (xDr prog_1_method_70_code) = true := eAll 0 (by decide +kernel)
def d_182 : xDt := (⟨"IsingLab", "unbalanced", "()I"⟩, prog_1_method_70_code, 1, (some FieldType.int), 7, [])
def RW183_0 : List (Nat × Instr × Nat) := [(0, .aload_n 0, 1), (1, .lload_n 1, 1), (2, .invokevirtual 220, 3), (5, .lload_n 1, 1), (6, .lstore_n 3, 1), (7, .iconst 0, 1), (8, .istore 5, 2), (10, .iconst 0, 1), (11, .istore 6, 2), (13, .iload 6, 2), (15, .ldc_w 286, 3), (18, .if_icmp .ge 35, 3), (21, .aload_n 0, 1), (22, .getfield 35, 3), (25, .lload_n 3, 1), (26, .invokevirtual 287, 3)]
theorem D183_0 : RW183_0.all (xDr prog_1_method_47_code) = true := eAll 0 (by decide +kernel)
def RW183_1 : List (Nat × Instr × Nat) := [(29, .lstore 7, 2), (31, .lload 7, 2), (33, .lload_n 3, 1), (34, .lcmp, 1), (35, .ifCond .ne 6, 3), (38, .goto 15, 3), (41, .lload 7, 2), (43, .lstore_n 3, 1), (44, .iinc 5 1, 3), (47, .iinc 6 1, 3), (50, .goto (-37), 3), (53, .iload 5, 2), (55, .ireturn, 1)]
theorem D183_1 : RW183_1.all (xDr prog_1_method_47_code) = true := eAll 29 (by decide +kernel)
def d_183 : xDt := (⟨"IsingLab", "descent", "(J)I"⟩, prog_1_method_47_code, 9, (some FieldType.int), 7, [])
def RW184_0 : List (Nat × Instr × Nat) := [(0, .aload_n 0, 1), (1, .lload_n 1, 1), (2, .invokevirtual 220, 3), (5, .aload_n 0, 1), (6, .getfield 26, 3), (9, .getfield 104, 3), (12, .iconst 2, 1), (13, .lload_n 1, 1), (14, .aload_n 0, 1), (15, .getfield 35, 3), (18, .getfield 197, 3), (21, .lxor, 1), (22, .invokestatic 241, 3), (25, .imul, 1), (26, .isub, 1), (27, .ireturn, 1)]
theorem D184_0 : RW184_0.all (xDr prog_1_method_30_code) = true := eAll 0 (by decide +kernel)
def d_184 : xDt := (⟨"IsingLab", "overlap", "(J)I"⟩, prog_1_method_30_code, 3, (some FieldType.int), 7, [])
def RW185_0 : List (Nat × Instr × Nat) := [(0, .aload_n 0, 1), (1, .iload_n 1, 1), (2, .invokevirtual 214, 3), (5, .aload_n 0, 1), (6, .getfield 35, 3), (9, .aload_n 0, 1), (10, .getfield 35, 3), (13, .aload_n 0, 1), (14, .getfield 35, 3), (17, .getfield 197, 3), (20, .iload_n 1, 1), (21, .invokevirtual 238, 3), (24, .invokevirtual 274, 3), (27, .istore_n 2, 1), (28, .iload_n 2, 1), (29, .iconst (-1), 1)]
theorem D185_0 : RW185_0.all (xDr prog_1_method_43_code) = true := eAll 0 (by decide +kernel)
def RW185_1 : List (Nat × Instr × Nat) := [(30, .if_icmp .ne 5, 3), (33, .dconst 0, 1), (34, .dreturn, 1), (35, .dconst 1, 1), (36, .dstore_n 3, 1), (37, .iconst 0, 1), (38, .istore 5, 2), (40, .iload 5, 2), (42, .iload_n 2, 1), (43, .if_icmp .ge 29, 3), (46, .dload_n 3, 1), (47, .aload_n 0, 1), (48, .getfield 35, 3), (51, .getfield 151, 3), (54, .i2d, 1), (55, .aload_n 0, 1)]
theorem D185_1 : RW185_1.all (xDr prog_1_method_43_code) = true := eAll 30 (by decide +kernel)
def RW185_2 : List (Nat × Instr × Nat) := [(56, .getfield 35, 3), (59, .getfield 154, 3), (62, .i2d, 1), (63, .ddiv, 1), (64, .dmul, 1), (65, .dstore_n 3, 1), (66, .iinc 5 1, 3), (69, .goto (-29), 3), (72, .dload_n 3, 1), (73, .dreturn, 1)]
theorem D185_2 : RW185_2.all (xDr prog_1_method_43_code) = true := eAll 56 (by decide +kernel)
def d_185 : xDt := (⟨"IsingLab", "chance", "(I)D"⟩, prog_1_method_43_code, 6, (some FieldType.double), 7, [])
def RW186_0 : List (Nat × Instr × Nat) := [(0, .aload_n 0, 1), (1, .invokevirtual 319, 3), (4, .iload_n 1, 1), (5, .invokevirtual 340, 3), (8, .ireturn, 1)]
theorem D186_0 : RW186_0.all (xDr prog_1_method_60_code) = true := eAll 0 (by decide +kernel)
def d_186 : xDt := (⟨"IsingLab", "countUpTo", "(I)I"⟩, prog_1_method_60_code, 2, (some FieldType.int), 7, [])
def RW187_0 : List (Nat × Instr × Nat) := [(0, .aload_n 0, 1), (1, .lload_n 1, 1), (2, .invokevirtual 220, 3), (5, .aload_n 0, 1), (6, .lload_n 3, 1), (7, .invokevirtual 220, 3), (10, .aload_n 0, 1), (11, .invokevirtual 319, 3), (14, .lload_n 1, 1), (15, .l2i, 1), (16, .lload_n 3, 1), (17, .l2i, 1), (18, .invokevirtual 372, 3), (21, .ireturn, 1)]
theorem D187_0 : RW187_0.all (xDr prog_1_method_71_code) = true := eAll 0 (by decide +kernel)
def d_187 : xDt := (⟨"IsingLab", "barrier", "(JJ)I"⟩, prog_1_method_71_code, 5, (some FieldType.int), 7, [])
def RW188_0 : List (Nat × Instr × Nat) := [(0, .aload_n 0, 1), (1, .lload_n 1, 1), (2, .invokevirtual 220, 3), (5, .lload_n 1, 1), (6, .lstore_n 3, 1), (7, .iconst 0, 1), (8, .istore 5, 2), (10, .iload 5, 2), (12, .ldc_w 286, 3), (15, .if_icmp .ge 32, 3), (18, .aload_n 0, 1), (19, .getfield 35, 3), (22, .lload_n 3, 1), (23, .invokevirtual 287, 3), (26, .lstore 6, 2), (28, .lload 6, 2)]
theorem D188_0 : RW188_0.all (xDr prog_1_method_48_code) = true := eAll 0 (by decide +kernel)
def RW188_1 : List (Nat × Instr × Nat) := [(30, .lload_n 3, 1), (31, .lcmp, 1), (32, .ifCond .ne 6, 3), (35, .goto 12, 3), (38, .lload 6, 2), (40, .lstore_n 3, 1), (41, .iinc 5 1, 3), (44, .goto (-34), 3), (47, .lload_n 3, 1), (48, .lreturn, 1)]
theorem D188_1 : RW188_1.all (xDr prog_1_method_48_code) = true := eAll 30 (by decide +kernel)
def d_188 : xDt := (⟨"IsingLab", "descentEnd", "(J)J"⟩, prog_1_method_48_code, 8, (some FieldType.long), 7, [])
def RW189_0 : List (Nat × Instr × Nat) := [(0, .aload_n 0, 1), (1, .iload_n 1, 1), (2, .invokevirtual 214, 3), (5, .aload_n 0, 1), (6, .iload_n 2, 1), (7, .invokevirtual 214, 3), (10, .aload_n 0, 1), (11, .getfield 35, 3), (14, .iload_n 1, 1), (15, .iload_n 2, 1), (16, .invokevirtual 246, 3), (19, .ireturn, 1)]
theorem D189_0 : RW189_0.all (xDr prog_1_method_34_code) = true := eAll 0 (by decide +kernel)
def d_189 : xDt := (⟨"IsingLab", "strengthBetween", "(II)I"⟩, prog_1_method_34_code, 3, (some FieldType.int), 7, [])
def RW190_0 : List (Nat × Instr × Nat) := [(0, .aload_n 0, 1), (1, .iload_n 1, 1), (2, .iconst 0, 1), (3, .iconst 2, 1), (4, .invokevirtual 206, 3), (7, .aload_n 0, 1), (8, .iload_n 2, 1), (9, .iconst 2, 1), (10, .bipush 30, 2), (12, .invokevirtual 206, 3), (15, .aload_n 0, 1), (16, .invokevirtual 319, 3), (19, .astore_n 3, 1), (20, .aload_n 0, 1), (21, .getfield 58, 3), (24, .iconst 0, 1)]
theorem D190_0 : RW190_0.all (xDr prog_1_method_73_code) = true := eAll 0 (by decide +kernel)
def RW190_1 : List (Nat × Instr × Nat) := [(25, .invokevirtual 78, 3), (28, .iconst 1, 1), (29, .istore 4, 2), (31, .iload 4, 2), (33, .iload_n 2, 1), (34, .if_icmp .ge 60, 3), (37, .aload_n 0, 1), (38, .getfield 58, 3), (41, .iload 4, 2), (43, .invokevirtual 382, 3), (46, .pop, 1), (47, .aload_n 0, 1), (48, .getfield 58, 3), (51, .bipush 58, 2), (53, .invokevirtual 375, 3), (56, .pop, 1)]
theorem D190_1 : RW190_1.all (xDr prog_1_method_73_code) = true := eAll 25 (by decide +kernel)
def RW190_2 : List (Nat × Instr × Nat) := [(57, .aload_n 0, 1), (58, .getfield 58, 3), (61, .aload_n 3, 1), (62, .iload_n 1, 1), (63, .iload 4, 2), (65, .iload_n 2, 1), (66, .invokevirtual 358, 3), (69, .ldc2_w 385, 3), (72, .dmul, 1), (73, .d2i, 1), (74, .invokevirtual 382, 3), (77, .pop, 1), (78, .aload_n 0, 1), (79, .getfield 58, 3), (82, .bipush 59, 2), (84, .invokevirtual 375, 3)]
theorem D190_2 : RW190_2.all (xDr prog_1_method_73_code) = true := eAll 57 (by decide +kernel)
def RW190_3 : List (Nat × Instr × Nat) := [(87, .pop, 1), (88, .iinc 4 1, 3), (91, .goto (-60), 3), (94, .aload_n 0, 1), (95, .getfield 58, 3), (98, .invokevirtual 379, 3), (101, .ireturn, 1)]
theorem D190_3 : RW190_3.all (xDr prog_1_method_73_code) = true := eAll 87 (by decide +kernel)
def d_190 : xDt := (⟨"IsingLab", "printTable", "(II)I"⟩, prog_1_method_73_code, 5, (some FieldType.int), 12, [])
def RW191_0 : List (Nat × Instr × Nat) := [(0, .aload_n 0, 1), (1, .getfield 42, 3), (4, .ifCond .ne 14, 3), (7, .new 135, 3), (10, .dup, 1), (11, .ldc_w 394, 3), (14, .invokespecial 139, 3), (17, .athrow, 1), (18, .aload_n 0, 1), (19, .getfield 35, 3), (22, .aload_n 0, 1), (23, .getfield 39, 3), (26, .invokevirtual 391, 3), (29, .aload_n 0, 1), (30, .getfield 51, 3), (33, .invokevirtual 75, 3)]
theorem D191_0 : RW191_0.all (xDr prog_1_method_76_code) = true := eAll 0 (by decide +kernel)
def RW191_1 : List (Nat × Instr × Nat) := [(36, .aload_n 0, 1), (37, .invokevirtual 224, 3), (40, .ireturn, 1)]
theorem D191_1 : RW191_1.all (xDr prog_1_method_76_code) = true := eAll 36 (by decide +kernel)
def d_191 : xDt := (⟨"IsingLab", "restoreState", "()I"⟩, prog_1_method_76_code, 1, (some FieldType.int), 6, [])
def RW192_0 : List (Nat × Instr × Nat) := [(0, .aload_n 0, 1), (1, .invokespecial 1, 3), (4, .aload_n 0, 1), (5, .sipush 144, 3), (8, .newarray .int, 2), (10, .putfield 7, 3), (13, .aload_n 0, 1), (14, .sipush 144, 3), (17, .newarray .int, 2), (19, .putfield 13, 3), (22, .aload_n 0, 1), (23, .sipush 144, 3), (26, .newarray .int, 2), (28, .putfield 16, 3), (31, .aload_n 0, 1), (32, .sipush 10000, 3)]
theorem D192_0 : RW192_0.all (xDr prog_9_method_1_code) = true := eAll 0 (by decide +kernel)
def RW192_1 : List (Nat × Instr × Nat) := [(35, .newarray .int, 2), (37, .putfield 19, 3), (40, .aload_n 0, 1), (41, .sipush 10000, 3), (44, .newarray .int, 2), (46, .putfield 22, 3), (49, .aload_n 0, 1), (50, .sipush 10000, 3), (53, .newarray .long, 2), (55, .putfield 25, 3), (58, .aload_n 0, 1), (59, .sipush 10000, 3), (62, .newarray .int, 2), (64, .putfield 29, 3), (67, .aload_n 0, 1), (68, .sipush 10000, 3)]
theorem D192_1 : RW192_1.all (xDr prog_9_method_1_code) = true := eAll 35 (by decide +kernel)
def RW192_2 : List (Nat × Instr × Nat) := [(71, .newarray .int, 2), (73, .putfield 32, 3), (76, .aload_n 0, 1), (77, .sipush 10000, 3), (80, .newarray .long, 2), (82, .putfield 35, 3), (85, .aload_n 0, 1), (86, .sipush 128, 3), (89, .newarray .int, 2), (91, .putfield 38, 3), (94, .aload_n 0, 1), (95, .sipush 128, 3), (98, .newarray .int, 2), (100, .putfield 41, 3), (103, .aload_n 0, 1), (104, .sipush 256, 3)]
theorem D192_2 : RW192_2.all (xDr prog_9_method_1_code) = true := eAll 71 (by decide +kernel)
def RW192_3 : List (Nat × Instr × Nat) := [(107, .newarray .int, 2), (109, .putfield 44, 3), (112, .aload_n 0, 1), (113, .bipush 64, 2), (115, .newarray .int, 2), (117, .putfield 47, 3), (120, .aload_n 0, 1), (121, .sipush 600, 3), (124, .newarray .int, 2), (126, .putfield 50, 3), (129, .aload_n 0, 1), (130, .iconst (-1), 1), (131, .putfield 53, 3), (134, .aload_n 0, 1), (135, .bipush 12, 2), (137, .newarray .int, 2)]
theorem D192_3 : RW192_3.all (xDr prog_9_method_1_code) = true := eAll 107 (by decide +kernel)
def RW192_4 : List (Nat × Instr × Nat) := [(139, .putfield 57, 3), (142, .aload_n 0, 1), (143, .bipush 12, 2), (145, .newarray .int, 2), (147, .putfield 60, 3), (150, .aload_n 0, 1), (151, .bipush 64, 2), (153, .newarray .int, 2), (155, .putfield 63, 3), (158, .aload_n 0, 1), (159, .bipush 64, 2), (161, .newarray .int, 2), (163, .putfield 66, 3), (166, .aload_n 0, 1), (167, .ldc 69, 2), (169, .newarray .int, 2)]
theorem D192_4 : RW192_4.all (xDr prog_9_method_1_code) = true := eAll 139 (by decide +kernel)
def RW192_5 : List (Nat × Instr × Nat) := [(171, .putfield 70, 3), (174, .aload_n 0, 1), (175, .ldc 73, 2), (177, .newarray .int, 2), (179, .putfield 74, 3), (182, .aload_n 0, 1), (183, .ldc 73, 2), (185, .newarray .int, 2), (187, .putfield 77, 3), (190, .aload_n 0, 1), (191, .sipush 13233, 3), (194, .newarray .int, 2), (196, .putfield 80, 3), (199, .aload_n 0, 1), (200, .sipush 6000, 3), (203, .newarray .int, 2)]
theorem D192_5 : RW192_5.all (xDr prog_9_method_1_code) = true := eAll 171 (by decide +kernel)
def RW192_6 : List (Nat × Instr × Nat) := [(205, .putfield 83, 3), (208, .aload_n 0, 1), (209, .sipush 6000, 3), (212, .newarray .int, 2), (214, .putfield 86, 3), (217, .aload_n 0, 1), (218, .sipush 6000, 3), (221, .newarray .int, 2), (223, .putfield 89, 3), (226, .aload_n 0, 1), (227, .sipush 401, 3), (230, .newarray .double, 2), (232, .putfield 92, 3), (235, .aload_n 0, 1), (236, .sipush 401, 3), (239, .newarray .int, 2)]
theorem D192_6 : RW192_6.all (xDr prog_9_method_1_code) = true := eAll 205 (by decide +kernel)
def RW192_7 : List (Nat × Instr × Nat) := [(241, .putfield 96, 3), (244, .aload_n 0, 1), (245, .sipush 401, 3), (248, .newarray .int, 2), (250, .putfield 99, 3), (253, .aload_n 0, 1), (254, .ldc 73, 2), (256, .newarray .int, 2), (258, .putfield 102, 3), (261, .aload_n 0, 1), (262, .ldc 73, 2), (264, .newarray .int, 2), (266, .putfield 105, 3), (269, .aload_n 0, 1), (270, .sipush 402, 3), (273, .newarray .int, 2)]
theorem D192_7 : RW192_7.all (xDr prog_9_method_1_code) = true := eAll 241 (by decide +kernel)
def RW192_8 : List (Nat × Instr × Nat) := [(275, .putfield 108, 3), (278, .aload_n 0, 1), (279, .sipush 800, 3), (282, .newarray .int, 2), (284, .putfield 111, 3), (287, .aload_n 0, 1), (288, .invokevirtual 114, 3), (291, .aload_n 0, 1), (292, .invokevirtual 117, 3), (295, .aload_n 0, 1), (296, .invokevirtual 120, 3), (299, .aload_n 0, 1), (300, .invokevirtual 123, 3), (303, .return_, 1)]
theorem D192_8 : RW192_8.all (xDr prog_9_method_1_code) = true := eAll 275 (by decide +kernel)
def d_192 : xDt := (⟨"IsingLabModel", "<init>", "()V"⟩, prog_9_method_1_code, 1, none, 3, [])
def RW193_0 : List (Nat × Instr × Nat) := [(0, .iconst 0, 1), (1, .istore_n 1, 1), (2, .iload_n 1, 1), (3, .sipush 144, 3), (6, .if_icmp .ge 16, 3), (9, .aload_n 0, 1), (10, .getfield 7, 3), (13, .iload_n 1, 1), (14, .iconst 0, 1), (15, .iastore, 1), (16, .iinc 1 1, 3), (19, .goto (-17), 3), (22, .aload_n 0, 1), (23, .getfield 7, 3), (26, .iconst 0, 1), (27, .iconst 4, 1)]
theorem D193_0 : RW193_0.all (xDr prog_9_method_6_code) = true := eAll 0 (by decide +kernel)
def RW193_1 : List (Nat × Instr × Nat) := [(28, .iastore, 1), (29, .aload_n 0, 1), (30, .getfield 7, 3), (33, .iconst 1, 1), (34, .iconst 4, 1), (35, .iastore, 1), (36, .aload_n 0, 1), (37, .getfield 7, 3), (40, .iconst 2, 1), (41, .iconst 1, 1), (42, .iastore, 1), (43, .aload_n 0, 1), (44, .getfield 7, 3), (47, .iconst 3, 1), (48, .iconst 2, 1), (49, .iastore, 1)]
theorem D193_1 : RW193_1.all (xDr prog_9_method_6_code) = true := eAll 28 (by decide +kernel)
def RW193_2 : List (Nat × Instr × Nat) := [(50, .aload_n 0, 1), (51, .iconst 0, 1), (52, .putfield 129, 3), (55, .aload_n 0, 1), (56, .iconst 1, 1), (57, .putfield 132, 3), (60, .aload_n 0, 1), (61, .iconst 0, 1), (62, .putfield 135, 3), (65, .aload_n 0, 1), (66, .iconst 1, 1), (67, .putfield 138, 3), (70, .aload_n 0, 1), (71, .iconst 0, 1), (72, .putfield 141, 3), (75, .return_, 1)]
theorem D193_2 : RW193_2.all (xDr prog_9_method_6_code) = true := eAll 50 (by decide +kernel)
def d_193 : xDt := (⟨"IsingLabModel", "clear", "()V"⟩, prog_9_method_6_code, 2, none, 1, [])
def RW194_0 : List (Nat × Instr × Nat) := [(0, .aload_n 0, 1), (1, .getfield 7, 3), (4, .bipush 10, 2), (6, .aload_n 0, 1), (7, .getfield 7, 3), (10, .iconst 0, 1), (11, .iaload, 1), (12, .aload_n 0, 1), (13, .getfield 7, 3), (16, .iconst 1, 1), (17, .iaload, 1), (18, .imul, 1), (19, .iastore, 1), (20, .aload_n 0, 1), (21, .getfield 7, 3), (24, .bipush 8, 2)]
theorem D194_0 : RW194_0.all (xDr prog_9_method_10_code) = true := eAll 0 (by decide +kernel)
def RW194_1 : List (Nat × Instr × Nat) := [(26, .iconst 0, 1), (27, .iastore, 1), (28, .iconst 0, 1), (29, .istore_n 1, 1), (30, .iload_n 1, 1), (31, .aload_n 0, 1), (32, .getfield 7, 3), (35, .bipush 10, 2), (37, .iaload, 1), (38, .if_icmp .ge 16, 3), (41, .aload_n 0, 1), (42, .getfield 47, 3), (45, .iload_n 1, 1), (46, .iconst 0, 1), (47, .iastore, 1), (48, .iinc 1 1, 3)]
theorem D194_1 : RW194_1.all (xDr prog_9_method_10_code) = true := eAll 26 (by decide +kernel)
def RW194_2 : List (Nat × Instr × Nat) := [(51, .goto (-21), 3), (54, .iconst 0, 1), (55, .istore_n 1, 1), (56, .iload_n 1, 1), (57, .aload_n 0, 1), (58, .getfield 7, 3), (61, .bipush 10, 2), (63, .iaload, 1), (64, .if_icmp .ge 91, 3), (67, .iload_n 1, 1), (68, .aload_n 0, 1), (69, .getfield 7, 3), (72, .iconst 1, 1), (73, .iaload, 1), (74, .idiv, 1), (75, .istore_n 2, 1)]
theorem D194_2 : RW194_2.all (xDr prog_9_method_10_code) = true := eAll 51 (by decide +kernel)
def RW194_3 : List (Nat × Instr × Nat) := [(76, .iload_n 1, 1), (77, .aload_n 0, 1), (78, .getfield 7, 3), (81, .iconst 1, 1), (82, .iaload, 1), (83, .irem, 1), (84, .istore_n 3, 1), (85, .aload_n 0, 1), (86, .iload_n 1, 1), (87, .invokevirtual 144, 3), (90, .ifCond .eq 27, 3), (93, .aload_n 0, 1), (94, .iload_n 1, 1), (95, .iload_n 2, 1), (96, .aload_n 0, 1), (97, .getfield 7, 3)]
theorem D194_3 : RW194_3.all (xDr prog_9_method_10_code) = true := eAll 76 (by decide +kernel)
def RW194_4 : List (Nat × Instr × Nat) := [(100, .iconst 1, 1), (101, .iaload, 1), (102, .imul, 1), (103, .iload_n 3, 1), (104, .iconst 1, 1), (105, .iadd, 1), (106, .aload_n 0, 1), (107, .getfield 7, 3), (110, .iconst 1, 1), (111, .iaload, 1), (112, .irem, 1), (113, .iadd, 1), (114, .invokevirtual 148, 3), (117, .aload_n 0, 1), (118, .iload_n 1, 1), (119, .invokevirtual 152, 3)]
theorem D194_4 : RW194_4.all (xDr prog_9_method_10_code) = true := eAll 100 (by decide +kernel)
def RW194_5 : List (Nat × Instr × Nat) := [(122, .ifCond .eq 27, 3), (125, .aload_n 0, 1), (126, .iload_n 1, 1), (127, .iload_n 2, 1), (128, .iconst 1, 1), (129, .iadd, 1), (130, .aload_n 0, 1), (131, .getfield 7, 3), (134, .iconst 0, 1), (135, .iaload, 1), (136, .irem, 1), (137, .aload_n 0, 1), (138, .getfield 7, 3), (141, .iconst 1, 1), (142, .iaload, 1), (143, .imul, 1)]
theorem D194_5 : RW194_5.all (xDr prog_9_method_10_code) = true := eAll 122 (by decide +kernel)
def RW194_6 : List (Nat × Instr × Nat) := [(144, .iload_n 3, 1), (145, .iadd, 1), (146, .invokevirtual 148, 3), (149, .iinc 1 1, 3), (152, .goto (-96), 3), (155, .return_, 1)]
theorem D194_6 : RW194_6.all (xDr prog_9_method_10_code) = true := eAll 144 (by decide +kernel)
def d_194 : xDt := (⟨"IsingLabModel", "laysBonds", "()V"⟩, prog_9_method_10_code, 4, none, 2, [])
def RW195_0 : List (Nat × Instr × Nat) := [(0, .iload_n 1, 1), (1, .aload_n 0, 1), (2, .getfield 7, 3), (5, .iconst 1, 1), (6, .iaload, 1), (7, .irem, 1), (8, .iconst 1, 1), (9, .iadd, 1), (10, .aload_n 0, 1), (11, .getfield 7, 3), (14, .iconst 1, 1), (15, .iaload, 1), (16, .if_icmp .lt 11, 3), (19, .aload_n 0, 1), (20, .getfield 129, 3), (23, .iconst 1, 1)]
theorem D195_0 : RW195_0.all (xDr prog_9_method_7_code) = true := eAll 0 (by decide +kernel)
def RW195_1 : List (Nat × Instr × Nat) := [(24, .if_icmp .eq 7, 3), (27, .iconst 1, 1), (28, .goto 4, 3), (31, .iconst 0, 1), (32, .ireturn, 1)]
theorem D195_1 : RW195_1.all (xDr prog_9_method_7_code) = true := eAll 24 (by decide +kernel)
def d_195 : xDt := (⟨"IsingLabModel", "hasRight", "(I)Z"⟩, prog_9_method_7_code, 2, (some FieldType.boolean), 1, [])
def RW196_0 : List (Nat × Instr × Nat) := [(0, .aload_n 0, 1), (1, .getfield 7, 3), (4, .bipush 8, 2), (6, .iaload, 1), (7, .istore_n 3, 1), (8, .aload_n 0, 1), (9, .getfield 38, 3), (12, .iload_n 3, 1), (13, .iload_n 1, 1), (14, .iastore, 1), (15, .aload_n 0, 1), (16, .getfield 41, 3), (19, .iload_n 3, 1), (20, .iload_n 2, 1), (21, .iastore, 1), (22, .aload_n 0, 1)]
theorem D196_0 : RW196_0.all (xDr prog_9_method_9_code) = true := eAll 0 (by decide +kernel)
def RW196_1 : List (Nat × Instr × Nat) := [(23, .getfield 44, 3), (26, .iconst 4, 1), (27, .iload_n 1, 1), (28, .imul, 1), (29, .aload_n 0, 1), (30, .getfield 47, 3), (33, .iload_n 1, 1), (34, .iaload, 1), (35, .iadd, 1), (36, .iload_n 3, 1), (37, .iastore, 1), (38, .aload_n 0, 1), (39, .getfield 47, 3), (42, .iload_n 1, 1), (43, .dup2, 1), (44, .iaload, 1)]
theorem D196_1 : RW196_1.all (xDr prog_9_method_9_code) = true := eAll 23 (by decide +kernel)
def RW196_2 : List (Nat × Instr × Nat) := [(45, .iconst 1, 1), (46, .iadd, 1), (47, .iastore, 1), (48, .aload_n 0, 1), (49, .getfield 44, 3), (52, .iconst 4, 1), (53, .iload_n 2, 1), (54, .imul, 1), (55, .aload_n 0, 1), (56, .getfield 47, 3), (59, .iload_n 2, 1), (60, .iaload, 1), (61, .iadd, 1), (62, .iload_n 3, 1), (63, .iastore, 1), (64, .aload_n 0, 1)]
theorem D196_2 : RW196_2.all (xDr prog_9_method_9_code) = true := eAll 45 (by decide +kernel)
def RW196_3 : List (Nat × Instr × Nat) := [(65, .getfield 47, 3), (68, .iload_n 2, 1), (69, .dup2, 1), (70, .iaload, 1), (71, .iconst 1, 1), (72, .iadd, 1), (73, .iastore, 1), (74, .aload_n 0, 1), (75, .getfield 7, 3), (78, .bipush 8, 2), (80, .dup2, 1), (81, .iaload, 1), (82, .iconst 1, 1), (83, .iadd, 1), (84, .iastore, 1), (85, .return_, 1)]
theorem D196_3 : RW196_3.all (xDr prog_9_method_9_code) = true := eAll 65 (by decide +kernel)
def d_196 : xDt := (⟨"IsingLabModel", "laysBond", "(II)V"⟩, prog_9_method_9_code, 4, none, 1, [])
def RW197_0 : List (Nat × Instr × Nat) := [(0, .iload_n 1, 1), (1, .aload_n 0, 1), (2, .getfield 7, 3), (5, .iconst 1, 1), (6, .iaload, 1), (7, .idiv, 1), (8, .iconst 1, 1), (9, .iadd, 1), (10, .aload_n 0, 1), (11, .getfield 7, 3), (14, .iconst 0, 1), (15, .iaload, 1), (16, .if_icmp .lt 10, 3), (19, .aload_n 0, 1), (20, .getfield 129, 3), (23, .ifCond .ne 7, 3)]
theorem D197_0 : RW197_0.all (xDr prog_9_method_8_code) = true := eAll 0 (by decide +kernel)
def RW197_1 : List (Nat × Instr × Nat) := [(26, .iconst 1, 1), (27, .goto 4, 3), (30, .iconst 0, 1), (31, .ireturn, 1)]
theorem D197_1 : RW197_1.all (xDr prog_9_method_8_code) = true := eAll 26 (by decide +kernel)
def d_197 : xDt := (⟨"IsingLabModel", "hasDown", "(I)Z"⟩, prog_9_method_8_code, 2, (some FieldType.boolean), 1, [])
def RW198_0 : List (Nat × Instr × Nat) := [(0, .iconst 0, 1), (1, .istore_n 1, 1), (2, .iload_n 1, 1), (3, .aload_n 0, 1), (4, .getfield 7, 3), (7, .bipush 8, 2), (9, .iaload, 1), (10, .if_icmp .ge 22, 3), (13, .aload_n 0, 1), (14, .getfield 7, 3), (17, .bipush 16, 2), (19, .iload_n 1, 1), (20, .iadd, 1), (21, .aload_n 0, 1), (22, .getfield 132, 3), (25, .iastore, 1)]
theorem D198_0 : RW198_0.all (xDr prog_9_method_14_code) = true := eAll 0 (by decide +kernel)
def RW198_1 : List (Nat × Instr × Nat) := [(26, .iinc 1 1, 3), (29, .goto (-27), 3), (32, .iconst 0, 1), (33, .istore_n 1, 1), (34, .iload_n 1, 1), (35, .aload_n 0, 1), (36, .getfield 141, 3), (39, .if_icmp .ge 29, 3), (42, .aload_n 0, 1), (43, .getfield 7, 3), (46, .bipush 16, 2), (48, .aload_n 0, 1), (49, .getfield 57, 3), (52, .iload_n 1, 1), (53, .iaload, 1), (54, .iadd, 1)]
theorem D198_1 : RW198_1.all (xDr prog_9_method_14_code) = true := eAll 26 (by decide +kernel)
def RW198_2 : List (Nat × Instr × Nat) := [(55, .aload_n 0, 1), (56, .getfield 60, 3), (59, .iload_n 1, 1), (60, .iaload, 1), (61, .iastore, 1), (62, .iinc 1 1, 3), (65, .goto (-31), 3), (68, .aload_n 0, 1), (69, .iconst 0, 1), (70, .putfield 168, 3), (73, .return_, 1)]
theorem D198_2 : RW198_2.all (xDr prog_9_method_14_code) = true := eAll 55 (by decide +kernel)
def d_198 : xDt := (⟨"IsingLabModel", "setsStrengths", "()V"⟩, prog_9_method_14_code, 2, none, 1, [])
def RW199_0 : List (Nat × Instr × Nat) := [(0, .aload_n 0, 1), (1, .aload_n 0, 1), (2, .getfield 138, 3), (5, .i2l, 1), (6, .putfield 157, 3), (9, .aload_n 0, 1), (10, .aload_n 0, 1), (11, .getfield 135, 3), (14, .iconst 1, 1), (15, .if_icmp .ne 7, 3), (18, .lconst 0, 1), (19, .goto 7, 3), (22, .aload_n 0, 1), (23, .invokevirtual 161, 3), (26, .putfield 165, 3), (29, .aload_n 0, 1)]
theorem D199_0 : RW199_0.all (xDr prog_9_method_13_code) = true := eAll 0 (by decide +kernel)
def RW199_1 : List (Nat × Instr × Nat) := [(30, .getfield 135, 3), (33, .iconst 2, 1), (34, .if_icmp .eq 4, 3), (37, .return_, 1), (38, .aload_n 0, 1), (39, .lconst 0, 1), (40, .putfield 165, 3), (43, .iconst 0, 1), (44, .istore_n 1, 1), (45, .iload_n 1, 1), (46, .aload_n 0, 1), (47, .getfield 7, 3), (50, .bipush 10, 2), (52, .iaload, 1), (53, .if_icmp .ge 43, 3), (56, .iload_n 1, 1)]
theorem D199_1 : RW199_1.all (xDr prog_9_method_13_code) = true := eAll 30 (by decide +kernel)
def RW199_2 : List (Nat × Instr × Nat) := [(57, .aload_n 0, 1), (58, .getfield 7, 3), (61, .iconst 1, 1), (62, .iaload, 1), (63, .idiv, 1), (64, .iload_n 1, 1), (65, .aload_n 0, 1), (66, .getfield 7, 3), (69, .iconst 1, 1), (70, .iaload, 1), (71, .irem, 1), (72, .iadd, 1), (73, .iconst 2, 1), (74, .irem, 1), (75, .ifCond .ne 15, 3), (78, .aload_n 0, 1)]
theorem D199_2 : RW199_2.all (xDr prog_9_method_13_code) = true := eAll 57 (by decide +kernel)
def RW199_3 : List (Nat × Instr × Nat) := [(79, .dup, 1), (80, .getfield 165, 3), (83, .lconst 1, 1), (84, .iload_n 1, 1), (85, .lshl, 1), (86, .lor, 1), (87, .putfield 165, 3), (90, .iinc 1 1, 3), (93, .goto (-48), 3), (96, .return_, 1)]
theorem D199_3 : RW199_3.all (xDr prog_9_method_13_code) = true := eAll 79 (by decide +kernel)
def d_199 : xDt := (⟨"IsingLabModel", "starts", "()V"⟩, prog_9_method_13_code, 2, none, 2, [])
def RW200_0 : List (Nat × Instr × Nat) := [(0, .aload_n 0, 1), (1, .getfield 7, 3), (4, .bipush 10, 2), (6, .iaload, 1), (7, .bipush 64, 2), (9, .if_icmp .ne 9, 3), (12, .ldc2_w 155, 3), (15, .goto 14, 3), (18, .lconst 1, 1), (19, .aload_n 0, 1), (20, .getfield 7, 3), (23, .bipush 10, 2), (25, .iaload, 1), (26, .lshl, 1), (27, .lconst 1, 1), (28, .lsub, 1)]
theorem D200_0 : RW200_0.all (xDr prog_9_method_12_code) = true := eAll 0 (by decide +kernel)
def RW200_1 : List (Nat × Instr × Nat) := [(29, .lreturn, 1)]
theorem D200_1 : RW200_1.all (xDr prog_9_method_12_code) = true := eAll 29 (by decide +kernel)
def d_200 : xDt := (⟨"IsingLabModel", "allSites", "()J"⟩, prog_9_method_12_code, 1, (some FieldType.long), 1, [])
def RW201_0 : List (Nat × Instr × Nat) := [(0, .aload_n 0, 1), (1, .getfield 126, 3), (4, .ireturn, 1)]
theorem D201_0 : RW201_0.all (xDr prog_9_method_2_code) = true := eAll 0 (by decide +kernel)
def d_201 : xDt := (⟨"IsingLabModel", "thrown", "()I"⟩, prog_9_method_2_code, 1, (some FieldType.int), 1, [])
def RW202_0 : List (Nat × Instr × Nat) := [(0, .aload_n 0, 1), (1, .iconst 0, 1), (2, .putfield 126, 3), (5, .aload_n 0, 1), (6, .getfield 172, 3), (9, .bipush 20, 2), (11, .iadd, 1), (12, .sipush 600, 3), (15, .if_icmp .le 5, 3), (18, .iconst (-1), 1), (19, .ireturn, 1), (20, .aload_n 0, 1), (21, .iload_n 1, 1), (22, .invokevirtual 175, 3), (25, .aload_n 0, 1), (26, .iload_n 2, 1)]
theorem D202_0 : RW202_0.all (xDr prog_9_method_16_code) = true := eAll 0 (by decide +kernel)
def RW202_1 : List (Nat × Instr × Nat) := [(27, .invokevirtual 175, 3), (30, .aload_n 0, 1), (31, .iload_n 3, 1), (32, .invokevirtual 175, 3), (35, .aload_n 0, 1), (36, .iload 4, 2), (38, .invokevirtual 175, 3), (41, .aload_n 0, 1), (42, .iload 5, 2), (44, .invokevirtual 175, 3), (47, .aload_n 0, 1), (48, .getfield 172, 3), (51, .ireturn, 1)]
theorem D202_1 : RW202_1.all (xDr prog_9_method_16_code) = true := eAll 27 (by decide +kernel)
def d_202 : xDt := (⟨"IsingLabModel", "appendInput", "(IIIII)I"⟩, prog_9_method_16_code, 6, (some FieldType.int), 2, [])
def RW203_0 : List (Nat × Instr × Nat) := [(0, .bipush 24, 2), (2, .istore_n 2, 1), (3, .iload_n 2, 1), (4, .ifCond .lt 35, 3), (7, .aload_n 0, 1), (8, .getfield 50, 3), (11, .aload_n 0, 1), (12, .getfield 172, 3), (15, .iload_n 1, 1), (16, .iload_n 2, 1), (17, .ishr, 1), (18, .sipush 255, 3), (21, .iand, 1), (22, .iastore, 1), (23, .aload_n 0, 1), (24, .dup, 1)]
theorem D203_0 : RW203_0.all (xDr prog_9_method_15_code) = true := eAll 0 (by decide +kernel)
def RW203_1 : List (Nat × Instr × Nat) := [(25, .getfield 172, 3), (28, .iconst 1, 1), (29, .iadd, 1), (30, .putfield 172, 3), (33, .iinc 2 (-8), 3), (36, .goto (-33), 3), (39, .return_, 1)]
theorem D203_1 : RW203_1.all (xDr prog_9_method_15_code) = true := eAll 25 (by decide +kernel)
def d_203 : xDt := (⟨"IsingLabModel", "appendWord", "(I)V"⟩, prog_9_method_15_code, 3, none, 1, [])
def RW204_0 : List (Nat × Instr × Nat) := [(0, .aload_n 0, 1), (1, .iconst 0, 1), (2, .putfield 126, 3), (5, .iload_n 1, 1), (6, .i2l, 1), (7, .lconst 0, 1), (8, .aload_n 0, 1), (9, .getfield 172, 3), (12, .i2l, 1), (13, .invokestatic 179, 3), (16, .ifCond .ne 5, 3), (19, .iconst 0, 1), (20, .ireturn, 1), (21, .aload_n 0, 1), (22, .iload_n 1, 1), (23, .putfield 172, 3)]
theorem D204_0 : RW204_0.all (xDr prog_9_method_17_code) = true := eAll 0 (by decide +kernel)
def RW204_1 : List (Nat × Instr × Nat) := [(26, .iconst 1, 1), (27, .ireturn, 1)]
theorem D204_1 : RW204_1.all (xDr prog_9_method_17_code) = true := eAll 26 (by decide +kernel)
def d_204 : xDt := (⟨"IsingLabModel", "truncateInput", "(I)Z"⟩, prog_9_method_17_code, 2, (some FieldType.boolean), 2, [])
def RW205_0 : List (Nat × Instr × Nat) := [(0, .lload_n 0, 1), (1, .lload_n 2, 1), (2, .lcmp, 1), (3, .ifCond .lt 14, 3), (6, .lload_n 0, 1), (7, .lload 4, 2), (9, .lcmp, 1), (10, .ifCond .gt 7, 3), (13, .iconst 1, 1), (14, .goto 4, 3), (17, .iconst 0, 1), (18, .ireturn, 1)]
theorem D205_0 : RW205_0.all (xDr prog_9_method_3_code) = true := eAll 0 (by decide +kernel)
def d_205 : xDt := (⟨"IsingLabModel", "inRange", "(JJJ)Z"⟩, prog_9_method_3_code, 6, (some FieldType.boolean), 1, [])
def RW206_0 : List (Nat × Instr × Nat) := [(0, .aload_n 0, 1), (1, .iconst 0, 1), (2, .putfield 126, 3), (5, .aload_n 0, 1), (6, .getfield 7, 3), (9, .aload_n 0, 1), (10, .getfield 13, 3), (13, .sipush 144, 3), (16, .invokestatic 335, 3), (19, .aload_n 0, 1), (20, .getfield 129, 3), (23, .istore_n 1, 1), (24, .aload_n 0, 1), (25, .invokevirtual 114, 3), (28, .aload_n 0, 1), (29, .iconst 0, 1)]
theorem D206_0 : RW206_0.all (xDr prog_9_method_40_code) = true := eAll 0 (by decide +kernel)
def RW206_1 : List (Nat × Instr × Nat) := [(30, .putfield 207, 3), (33, .aload_n 0, 1), (34, .iconst (-1), 1), (35, .putfield 210, 3), (38, .aload_n 0, 1), (39, .iconst 0, 1), (40, .putfield 183, 3), (43, .aload_n 0, 1), (44, .iconst 0, 1), (45, .putfield 239, 3), (48, .aload_n 0, 1), (49, .invokevirtual 223, 3), (52, .aload_n 0, 1), (53, .invokevirtual 339, 3), (56, .istore_n 2, 1), (57, .aload_n 0, 1)]
theorem D206_1 : RW206_1.all (xDr prog_9_method_40_code) = true := eAll 30 (by decide +kernel)
def RW206_2 : List (Nat × Instr × Nat) := [(58, .iconst 0, 1), (59, .putfield 172, 3), (62, .aload_n 0, 1), (63, .aload_n 0, 1), (64, .getfield 207, 3), (67, .putfield 342, 3), (70, .aload_n 0, 1), (71, .aload_n 0, 1), (72, .getfield 210, 3), (75, .putfield 53, 3), (78, .iload_n 2, 1), (79, .ifCond .ne 24, 3), (82, .aload_n 0, 1), (83, .getfield 13, 3), (86, .aload_n 0, 1), (87, .getfield 7, 3)]
theorem D206_2 : RW206_2.all (xDr prog_9_method_40_code) = true := eAll 58 (by decide +kernel)
def RW206_3 : List (Nat × Instr × Nat) := [(90, .sipush 144, 3), (93, .invokestatic 335, 3), (96, .aload_n 0, 1), (97, .iload_n 1, 1), (98, .putfield 129, 3), (101, .iconst (-1), 1), (102, .ireturn, 1), (103, .aload_n 0, 1), (104, .invokevirtual 117, 3), (107, .aload_n 0, 1), (108, .invokevirtual 120, 3), (111, .aload_n 0, 1), (112, .invokevirtual 123, 3), (115, .aload_n 0, 1), (116, .iconst 0, 1), (117, .putfield 345, 3)]
theorem D206_3 : RW206_3.all (xDr prog_9_method_40_code) = true := eAll 90 (by decide +kernel)
def RW206_4 : List (Nat × Instr × Nat) := [(120, .aload_n 0, 1), (121, .getfield 7, 3), (124, .bipush 10, 2), (126, .iaload, 1), (127, .ireturn, 1)]
theorem D206_4 : RW206_4.all (xDr prog_9_method_40_code) = true := eAll 120 (by decide +kernel)
def d_206 : xDt := (⟨"IsingLabModel", "loadLab", "()I"⟩, prog_9_method_40_code, 3, (some FieldType.int), 10, [])
def RW207_0 : List (Nat × Instr × Nat) := [(0, .iconst 0, 1), (1, .istore_n 3, 1), (2, .iload_n 3, 1), (3, .iload_n 2, 1), (4, .if_icmp .ge 15, 3), (7, .aload_n 1, 1), (8, .iload_n 3, 1), (9, .aload_n 0, 1), (10, .iload_n 3, 1), (11, .iaload, 1), (12, .iastore, 1), (13, .iinc 3 1, 3), (16, .goto (-14), 3), (19, .return_, 1)]
theorem D207_0 : RW207_0.all (xDr prog_9_method_5_code) = true := eAll 0 (by decide +kernel)
def d_207 : xDt := (⟨"IsingLabModel", "copies", "([I[II)V"⟩, prog_9_method_5_code, 4, none, 1, [])
def RW208_0 : List (Nat × Instr × Nat) := [(0, .aload_n 0, 1), (1, .aload_n 0, 1), (2, .getfield 183, 3), (5, .invokevirtual 186, 3), (8, .bipush 32, 2), (10, .if_icmp .eq 16, 3), (13, .aload_n 0, 1), (14, .aload_n 0, 1), (15, .getfield 183, 3), (18, .invokevirtual 186, 3), (21, .bipush 10, 2), (23, .if_icmp .ne 16, 3), (26, .aload_n 0, 1), (27, .dup, 1), (28, .getfield 183, 3), (31, .iconst 1, 1)]
theorem D208_0 : RW208_0.all (xDr prog_9_method_19_code) = true := eAll 0 (by decide +kernel)
def RW208_1 : List (Nat × Instr × Nat) := [(32, .iadd, 1), (33, .putfield 183, 3), (36, .goto (-36), 3), (39, .aload_n 0, 1), (40, .aload_n 0, 1), (41, .getfield 183, 3), (44, .putfield 190, 3), (47, .aload_n 0, 1), (48, .aload_n 0, 1), (49, .getfield 183, 3), (52, .invokevirtual 186, 3), (55, .istore_n 1, 1), (56, .aload_n 0, 1), (57, .iload_n 1, 1), (58, .putfield 193, 3), (61, .iload_n 1, 1)]
theorem D208_1 : RW208_1.all (xDr prog_9_method_19_code) = true := eAll 32 (by decide +kernel)
def RW208_2 : List (Nat × Instr × Nat) := [(62, .iconst (-1), 1), (63, .if_icmp .ne 11, 3), (66, .aload_n 0, 1), (67, .iconst 0, 1), (68, .putfield 196, 3), (71, .goto 181, 3), (74, .iload_n 1, 1), (75, .i2l, 1), (76, .ldc2_w 199, 3), (79, .ldc2_w 201, 3), (82, .invokestatic 179, 3), (85, .ifCond .eq 42, 3), (88, .aload_n 0, 1), (89, .iconst 1, 1), (90, .putfield 196, 3), (93, .aload_n 0, 1)]
theorem D208_2 : RW208_2.all (xDr prog_9_method_19_code) = true := eAll 62 (by decide +kernel)
def RW208_3 : List (Nat × Instr × Nat) := [(94, .aload_n 0, 1), (95, .getfield 183, 3), (98, .invokevirtual 186, 3), (101, .i2l, 1), (102, .ldc2_w 199, 3), (105, .ldc2_w 201, 3), (108, .invokestatic 179, 3), (111, .ifCond .eq 141, 3), (114, .aload_n 0, 1), (115, .dup, 1), (116, .getfield 183, 3), (119, .iconst 1, 1), (120, .iadd, 1), (121, .putfield 183, 3), (124, .goto (-31), 3), (127, .iload_n 1, 1)]
theorem D208_3 : RW208_3.all (xDr prog_9_method_19_code) = true := eAll 94 (by decide +kernel)
def RW208_4 : List (Nat × Instr × Nat) := [(128, .i2l, 1), (129, .ldc2_w 203, 3), (132, .ldc2_w 205, 3), (135, .invokestatic 179, 3), (138, .ifCond .eq 83, 3), (141, .aload_n 0, 1), (142, .iconst 2, 1), (143, .putfield 196, 3), (146, .aload_n 0, 1), (147, .iconst 0, 1), (148, .putfield 193, 3), (151, .aload_n 0, 1), (152, .aload_n 0, 1), (153, .getfield 183, 3), (156, .invokevirtual 186, 3), (159, .i2l, 1)]
theorem D208_4 : RW208_4.all (xDr prog_9_method_19_code) = true := eAll 128 (by decide +kernel)
def RW208_5 : List (Nat × Instr × Nat) := [(160, .ldc2_w 203, 3), (163, .ldc2_w 205, 3), (166, .invokestatic 179, 3), (169, .ifCond .eq 83, 3), (172, .aload_n 0, 1), (173, .getfield 183, 3), (176, .aload_n 0, 1), (177, .getfield 190, 3), (180, .isub, 1), (181, .iconst 4, 1), (182, .if_icmp .ge 26, 3), (185, .aload_n 0, 1), (186, .bipush 10, 2), (188, .aload_n 0, 1), (189, .getfield 193, 3), (192, .imul, 1)]
theorem D208_5 : RW208_5.all (xDr prog_9_method_19_code) = true := eAll 160 (by decide +kernel)
def RW208_6 : List (Nat × Instr × Nat) := [(193, .aload_n 0, 1), (194, .aload_n 0, 1), (195, .getfield 183, 3), (198, .invokevirtual 186, 3), (201, .iadd, 1), (202, .bipush 48, 2), (204, .isub, 1), (205, .putfield 193, 3), (208, .aload_n 0, 1), (209, .dup, 1), (210, .getfield 183, 3), (213, .iconst 1, 1), (214, .iadd, 1), (215, .putfield 183, 3), (218, .goto (-67), 3), (221, .aload_n 0, 1)]
theorem D208_6 : RW208_6.all (xDr prog_9_method_19_code) = true := eAll 193 (by decide +kernel)
def RW208_7 : List (Nat × Instr × Nat) := [(222, .iload_n 1, 1), (223, .bipush 59, 2), (225, .if_icmp .eq 9, 3), (228, .iload_n 1, 1), (229, .bipush 45, 2), (231, .if_icmp .ne 7, 3), (234, .iconst 3, 1), (235, .goto 4, 3), (238, .iconst 4, 1), (239, .putfield 196, 3), (242, .aload_n 0, 1), (243, .dup, 1), (244, .getfield 183, 3), (247, .iconst 1, 1), (248, .iadd, 1), (249, .putfield 183, 3)]
theorem D208_7 : RW208_7.all (xDr prog_9_method_19_code) = true := eAll 222 (by decide +kernel)
def RW208_8 : List (Nat × Instr × Nat) := [(252, .return_, 1)]
theorem D208_8 : RW208_8.all (xDr prog_9_method_19_code) = true := eAll 252 (by decide +kernel)
def d_208 : xDt := (⟨"IsingLabModel", "advanceToken", "()V"⟩, prog_9_method_19_code, 2, none, 2, [])
def RW209_0 : List (Nat × Instr × Nat) := [(0, .iload_n 1, 1), (1, .aload_n 0, 1), (2, .getfield 172, 3), (5, .if_icmp .ge 12, 3), (8, .aload_n 0, 1), (9, .getfield 50, 3), (12, .iload_n 1, 1), (13, .iaload, 1), (14, .goto 4, 3), (17, .iconst (-1), 1), (18, .ireturn, 1)]
theorem D209_0 : RW209_0.all (xDr prog_9_method_18_code) = true := eAll 0 (by decide +kernel)
def d_209 : xDt := (⟨"IsingLabModel", "byteAt", "(I)I"⟩, prog_9_method_18_code, 2, (some FieldType.int), 1, [])
def RW210_0 : List (Nat × Instr × Nat) := [(0, .aload_n 0, 1), (1, .getfield 196, 3), (4, .ifCond .eq 27, 3), (7, .aload_n 0, 1), (8, .invokevirtual 332, 3), (11, .ifCond .ne 5, 3), (14, .iconst 0, 1), (15, .ireturn, 1), (16, .aload_n 0, 1), (17, .bipush 59, 2), (19, .invokevirtual 232, 3), (22, .ifCond .ne (-22), 3), (25, .aload_n 0, 1), (26, .iconst 1, 1), (27, .invokevirtual 226, 3), (30, .ireturn, 1)]
theorem D210_0 : RW210_0.all (xDr prog_9_method_39_code) = true := eAll 0 (by decide +kernel)
def RW210_1 : List (Nat × Instr × Nat) := [(31, .iconst 1, 1), (32, .ireturn, 1)]
theorem D210_1 : RW210_1.all (xDr prog_9_method_39_code) = true := eAll 31 (by decide +kernel)
def d_210 : xDt := (⟨"IsingLabModel", "readLab", "()Z"⟩, prog_9_method_39_code, 1, (some FieldType.boolean), 9, [])
def RW211_0 : List (Nat × Instr × Nat) := [(0, .aload_n 0, 1), (1, .ldc_w 288, 3), (4, .invokevirtual 245, 3), (7, .ifCond .eq 20, 3), (10, .aload_n 0, 1), (11, .invokevirtual 290, 3), (14, .istore_n 1, 1), (15, .aload_n 0, 1), (16, .dup, 1), (17, .getfield 239, 3), (20, .iconst 1, 1), (21, .ior, 1), (22, .putfield 239, 3), (25, .iload_n 1, 1), (26, .ireturn, 1), (27, .aload_n 0, 1)]
theorem D211_0 : RW211_0.all (xDr prog_9_method_38_code) = true := eAll 0 (by decide +kernel)
def RW211_1 : List (Nat × Instr × Nat) := [(28, .ldc_w 293, 3), (31, .invokevirtual 245, 3), (34, .ifCond .eq 20, 3), (37, .aload_n 0, 1), (38, .invokevirtual 294, 3), (41, .istore_n 1, 1), (42, .aload_n 0, 1), (43, .dup, 1), (44, .getfield 239, 3), (47, .iconst 2, 1), (48, .ior, 1), (49, .putfield 239, 3), (52, .iload_n 1, 1), (53, .ireturn, 1), (54, .aload_n 0, 1), (55, .ldc_w 297, 3)]
theorem D211_1 : RW211_1.all (xDr prog_9_method_38_code) = true := eAll 28 (by decide +kernel)
def RW211_2 : List (Nat × Instr × Nat) := [(58, .invokevirtual 245, 3), (61, .ifCond .eq 8, 3), (64, .aload_n 0, 1), (65, .invokevirtual 299, 3), (68, .ireturn, 1), (69, .aload_n 0, 1), (70, .ldc_w 302, 3), (73, .invokevirtual 245, 3), (76, .ifCond .eq 8, 3), (79, .aload_n 0, 1), (80, .invokevirtual 304, 3), (83, .ireturn, 1), (84, .aload_n 0, 1), (85, .ldc_w 307, 3), (88, .invokevirtual 245, 3), (91, .ifCond .eq 8, 3)]
theorem D211_2 : RW211_2.all (xDr prog_9_method_38_code) = true := eAll 58 (by decide +kernel)
def RW211_3 : List (Nat × Instr × Nat) := [(94, .aload_n 0, 1), (95, .invokevirtual 309, 3), (98, .ireturn, 1), (99, .aload_n 0, 1), (100, .ldc_w 312, 3), (103, .invokevirtual 245, 3), (106, .ifCond .eq 8, 3), (109, .aload_n 0, 1), (110, .invokevirtual 314, 3), (113, .ireturn, 1), (114, .aload_n 0, 1), (115, .ldc_w 317, 3), (118, .invokevirtual 245, 3), (121, .ifCond .eq 8, 3), (124, .aload_n 0, 1), (125, .invokevirtual 319, 3)]
theorem D211_3 : RW211_3.all (xDr prog_9_method_38_code) = true := eAll 94 (by decide +kernel)
def RW211_4 : List (Nat × Instr × Nat) := [(128, .ireturn, 1), (129, .aload_n 0, 1), (130, .ldc_w 322, 3), (133, .invokevirtual 245, 3), (136, .ifCond .eq 8, 3), (139, .aload_n 0, 1), (140, .invokevirtual 324, 3), (143, .ireturn, 1), (144, .aload_n 0, 1), (145, .ldc_w 327, 3), (148, .invokevirtual 245, 3), (151, .ifCond .eq 10, 3), (154, .aload_n 0, 1), (155, .invokevirtual 329, 3), (158, .goto 8, 3), (161, .aload_n 0, 1)]
theorem D211_4 : RW211_4.all (xDr prog_9_method_38_code) = true := eAll 128 (by decide +kernel)
def RW211_5 : List (Nat × Instr × Nat) := [(162, .iconst 1, 1), (163, .invokevirtual 226, 3), (166, .ireturn, 1)]
theorem D211_5 : RW211_5.all (xDr prog_9_method_38_code) = true := eAll 162 (by decide +kernel)
def d_211 : xDt := (⟨"IsingLabModel", "readStatement", "()Z"⟩, prog_9_method_38_code, 2, (some FieldType.boolean), 8, [])
def RW212_0 : List (Nat × Instr × Nat) := [(0, .aload_n 0, 1), (1, .getfield 196, 3), (4, .iconst 1, 1), (5, .if_icmp .ne 19, 3), (8, .aload_n 0, 1), (9, .getfield 183, 3), (12, .aload_n 0, 1), (13, .getfield 190, 3), (16, .isub, 1), (17, .aload_n 1, 1), (18, .invokevirtual 213, 3), (21, .if_icmp .eq 5, 3), (24, .iconst 0, 1), (25, .ireturn, 1), (26, .iconst 0, 1), (27, .istore_n 2, 1)]
theorem D212_0 : RW212_0.all (xDr prog_9_method_21_code) = true := eAll 0 (by decide +kernel)
def RW212_1 : List (Nat × Instr × Nat) := [(28, .iload_n 2, 1), (29, .aload_n 1, 1), (30, .invokevirtual 213, 3), (33, .if_icmp .ge 30, 3), (36, .aload_n 0, 1), (37, .getfield 50, 3), (40, .aload_n 0, 1), (41, .getfield 190, 3), (44, .iload_n 2, 1), (45, .iadd, 1), (46, .iaload, 1), (47, .aload_n 1, 1), (48, .iload_n 2, 1), (49, .invokevirtual 219, 3), (52, .if_icmp .eq 5, 3), (55, .iconst 0, 1)]
theorem D212_1 : RW212_1.all (xDr prog_9_method_21_code) = true := eAll 28 (by decide +kernel)
def RW212_2 : List (Nat × Instr × Nat) := [(56, .ireturn, 1), (57, .iinc 2 1, 3), (60, .goto (-32), 3), (63, .iconst 1, 1), (64, .ireturn, 1)]
theorem D212_2 : RW212_2.all (xDr prog_9_method_21_code) = true := eAll 56 (by decide +kernel)
def d_212 : xDt := (⟨"IsingLabModel", "isWord", "(Ljava/lang/String;)Z"⟩, prog_9_method_21_code, 3, (some FieldType.boolean), 5, [])
def RW213_0 : List (Nat × Instr × Nat) := [(0, .aload_n 0, 1), (1, .aload_n 0, 1), (2, .getfield 239, 3), (5, .iconst 1, 1), (6, .iand, 1), (7, .ifCond .ne 14, 3), (10, .aload_n 0, 1), (11, .getfield 141, 3), (14, .ifCond .ne 7, 3), (17, .iconst 1, 1), (18, .goto 4, 3), (21, .iconst 0, 1), (22, .invokevirtual 242, 3), (25, .ifCond .eq 29, 3), (28, .aload_n 0, 1), (29, .iconst 0, 1)]
theorem D213_0 : RW213_0.all (xDr prog_9_method_29_code) = true := eAll 0 (by decide +kernel)
def RW213_1 : List (Nat × Instr × Nat) := [(30, .iconst 2, 1), (31, .bipush 8, 2), (33, .invokevirtual 249, 3), (36, .ifCond .eq 18, 3), (39, .aload_n 0, 1), (40, .iconst 1, 1), (41, .iconst 2, 1), (42, .bipush 8, 2), (44, .invokevirtual 249, 3), (47, .ifCond .eq 7, 3), (50, .iconst 1, 1), (51, .goto 4, 3), (54, .iconst 0, 1), (55, .ireturn, 1)]
theorem D213_1 : RW213_1.all (xDr prog_9_method_29_code) = true := eAll 30 (by decide +kernel)
def d_213 : xDt := (⟨"IsingLabModel", "readSize", "()Z"⟩, prog_9_method_29_code, 1, (some FieldType.boolean), 5, [])
def RW214_0 : List (Nat × Instr × Nat) := [(0, .iload_n 1, 1), (1, .ifCond .ne 9, 3), (4, .aload_n 0, 1), (5, .iconst 3, 1), (6, .invokevirtual 226, 3), (9, .ireturn, 1), (10, .aload_n 0, 1), (11, .invokevirtual 223, 3), (14, .iconst 1, 1), (15, .ireturn, 1)]
theorem D214_0 : RW214_0.all (xDr prog_9_method_26_code) = true := eAll 0 (by decide +kernel)
def d_214 : xDt := (⟨"IsingLabModel", "starts", "(Z)Z"⟩, prog_9_method_26_code, 2, (some FieldType.boolean), 3, [])
def RW215_0 : List (Nat × Instr × Nat) := [(0, .aload_n 0, 1), (1, .getfield 207, 3), (4, .ifCond .ne 16, 3), (7, .aload_n 0, 1), (8, .iload_n 1, 1), (9, .putfield 207, 3), (12, .aload_n 0, 1), (13, .aload_n 0, 1), (14, .getfield 190, 3), (17, .putfield 210, 3), (20, .iconst 0, 1), (21, .ireturn, 1)]
theorem D215_0 : RW215_0.all (xDr prog_9_method_20_code) = true := eAll 0 (by decide +kernel)
def d_215 : xDt := (⟨"IsingLabModel", "failsAt", "(I)Z"⟩, prog_9_method_20_code, 2, (some FieldType.boolean), 1, [])
def RW216_0 : List (Nat × Instr × Nat) := [(0, .aload_n 0, 1), (1, .iload_n 2, 1), (2, .iload_n 3, 1), (3, .invokevirtual 235, 3), (6, .ifCond .ne 5, 3), (9, .iconst 0, 1), (10, .ireturn, 1), (11, .aload_n 0, 1), (12, .getfield 7, 3), (15, .iload_n 1, 1), (16, .aload_n 0, 1), (17, .getfield 229, 3), (20, .iastore, 1), (21, .iconst 1, 1), (22, .ireturn, 1)]
theorem D216_0 : RW216_0.all (xDr prog_9_method_25_code) = true := eAll 0 (by decide +kernel)
def d_216 : xDt := (⟨"IsingLabModel", "takesInto", "(III)Z"⟩, prog_9_method_25_code, 4, (some FieldType.boolean), 4, [])
def RW217_0 : List (Nat × Instr × Nat) := [(0, .aload_n 0, 1), (1, .getfield 196, 3), (4, .iconst 2, 1), (5, .if_icmp .ne 16, 3), (8, .aload_n 0, 1), (9, .getfield 183, 3), (12, .aload_n 0, 1), (13, .getfield 190, 3), (16, .isub, 1), (17, .iconst 4, 1), (18, .if_icmp .le 9, 3), (21, .aload_n 0, 1), (22, .iconst 1, 1), (23, .invokevirtual 226, 3), (26, .ireturn, 1), (27, .aload_n 0, 1)]
theorem D217_0 : RW217_0.all (xDr prog_9_method_23_code) = true := eAll 0 (by decide +kernel)
def RW217_1 : List (Nat × Instr × Nat) := [(28, .getfield 193, 3), (31, .i2l, 1), (32, .iload_n 1, 1), (33, .i2l, 1), (34, .iload_n 2, 1), (35, .i2l, 1), (36, .invokestatic 179, 3), (39, .ifCond .ne 9, 3), (42, .aload_n 0, 1), (43, .iconst 2, 1), (44, .invokevirtual 226, 3), (47, .ireturn, 1), (48, .aload_n 0, 1), (49, .aload_n 0, 1), (50, .getfield 193, 3), (53, .putfield 229, 3)]
theorem D217_1 : RW217_1.all (xDr prog_9_method_23_code) = true := eAll 28 (by decide +kernel)
def RW217_2 : List (Nat × Instr × Nat) := [(56, .aload_n 0, 1), (57, .invokevirtual 223, 3), (60, .iconst 1, 1), (61, .ireturn, 1)]
theorem D217_2 : RW217_2.all (xDr prog_9_method_23_code) = true := eAll 56 (by decide +kernel)
def d_217 : xDt := (⟨"IsingLabModel", "takesNumber", "(II)Z"⟩, prog_9_method_23_code, 3, (some FieldType.boolean), 3, [])
def RW218_0 : List (Nat × Instr × Nat) := [(0, .aload_n 0, 1), (1, .aload_n 0, 1), (2, .getfield 239, 3), (5, .iconst 2, 1), (6, .iand, 1), (7, .ifCond .ne 14, 3), (10, .aload_n 0, 1), (11, .getfield 141, 3), (14, .ifCond .ne 7, 3), (17, .iconst 1, 1), (18, .goto 4, 3), (21, .iconst 0, 1), (22, .invokevirtual 242, 3), (25, .ifCond .ne 5, 3), (28, .iconst 0, 1), (29, .ireturn, 1)]
theorem D218_0 : RW218_0.all (xDr prog_9_method_30_code) = true := eAll 0 (by decide +kernel)
def RW218_1 : List (Nat × Instr × Nat) := [(30, .aload_n 0, 1), (31, .aload_n 0, 1), (32, .ldc 253, 2), (34, .ldc 255, 2), (36, .ldc_w 257, 3), (39, .invokevirtual 259, 3), (42, .putfield 129, 3), (45, .aload_n 0, 1), (46, .getfield 129, 3), (49, .iconst (-1), 1), (50, .if_icmp .eq 7, 3), (53, .iconst 1, 1), (54, .goto 4, 3), (57, .iconst 0, 1), (58, .ireturn, 1)]
theorem D218_1 : RW218_1.all (xDr prog_9_method_30_code) = true := eAll 30 (by decide +kernel)
def d_218 : xDt := (⟨"IsingLabModel", "readEdge", "()Z"⟩, prog_9_method_30_code, 1, (some FieldType.boolean), 7, [])
def RW219_0 : List (Nat × Instr × Nat) := [(0, .aload_n 0, 1), (1, .aload_n 1, 1), (2, .invokevirtual 245, 3), (5, .ifCond .eq 7, 3), (8, .iconst 0, 1), (9, .goto 28, 3), (12, .aload_n 0, 1), (13, .aload_n 2, 1), (14, .invokevirtual 245, 3), (17, .ifCond .eq 7, 3), (20, .iconst 1, 1), (21, .goto 16, 3), (24, .aload_n 0, 1), (25, .aload_n 3, 1), (26, .invokevirtual 245, 3), (29, .ifCond .eq 7, 3)]
theorem D219_0 : RW219_0.all (xDr prog_9_method_28_code) = true := eAll 0 (by decide +kernel)
def RW219_1 : List (Nat × Instr × Nat) := [(32, .iconst 2, 1), (33, .goto 4, 3), (36, .iconst (-1), 1), (37, .istore 4, 2), (39, .iload 4, 2), (41, .iconst (-1), 1), (42, .if_icmp .ne 12, 3), (45, .aload_n 0, 1), (46, .iconst 1, 1), (47, .invokevirtual 226, 3), (50, .istore 5, 2), (52, .iconst (-1), 1), (53, .ireturn, 1), (54, .aload_n 0, 1), (55, .invokevirtual 223, 3), (58, .iload 4, 2)]
theorem D219_1 : RW219_1.all (xDr prog_9_method_28_code) = true := eAll 32 (by decide +kernel)
def RW219_2 : List (Nat × Instr × Nat) := [(60, .ireturn, 1)]
theorem D219_2 : RW219_2.all (xDr prog_9_method_28_code) = true := eAll 60 (by decide +kernel)
def d_219 : xDt := (⟨"IsingLabModel", "takesOne", "(Ljava/lang/String;Ljava/lang/String;Ljava/lang/String;)I"⟩, prog_9_method_28_code, 6, (some FieldType.int), 6, [])
def RW220_0 : List (Nat × Instr × Nat) := [(0, .aload_n 0, 1), (1, .iconst 4, 1), (2, .invokevirtual 263, 3), (5, .ifCond .eq 36, 3), (8, .aload_n 0, 1), (9, .iconst 2, 1), (10, .iconst 1, 1), (11, .bipush 98, 2), (13, .invokevirtual 249, 3), (16, .ifCond .eq 25, 3), (19, .aload_n 0, 1), (20, .iconst 3, 1), (21, .aload_n 0, 1), (22, .getfield 7, 3), (25, .iconst 2, 1), (26, .iaload, 1)]
theorem D220_0 : RW220_0.all (xDr prog_9_method_31_code) = true := eAll 0 (by decide +kernel)
def RW220_1 : List (Nat × Instr × Nat) := [(27, .iconst 1, 1), (28, .iadd, 1), (29, .bipush 99, 2), (31, .invokevirtual 249, 3), (34, .ifCond .eq 7, 3), (37, .iconst 1, 1), (38, .goto 4, 3), (41, .iconst 0, 1), (42, .ireturn, 1)]
theorem D220_1 : RW220_1.all (xDr prog_9_method_31_code) = true := eAll 27 (by decide +kernel)
def d_220 : xDt := (⟨"IsingLabModel", "readRatio", "()Z"⟩, prog_9_method_31_code, 1, (some FieldType.boolean), 5, [])
def RW221_0 : List (Nat × Instr × Nat) := [(0, .aload_n 0, 1), (1, .getfield 239, 3), (4, .iload_n 1, 1), (5, .iand, 1), (6, .ifCond .ne 7, 3), (9, .iconst 1, 1), (10, .goto 4, 3), (13, .iconst 0, 1), (14, .istore_n 2, 1), (15, .aload_n 0, 1), (16, .dup, 1), (17, .getfield 239, 3), (20, .iload_n 1, 1), (21, .ior, 1), (22, .putfield 239, 3), (25, .aload_n 0, 1)]
theorem D221_0 : RW221_0.all (xDr prog_9_method_27_code) = true := eAll 0 (by decide +kernel)
def RW221_1 : List (Nat × Instr × Nat) := [(26, .iload_n 2, 1), (27, .invokevirtual 242, 3), (30, .ireturn, 1)]
theorem D221_1 : RW221_1.all (xDr prog_9_method_27_code) = true := eAll 26 (by decide +kernel)
def d_221 : xDt := (⟨"IsingLabModel", "startsOnce", "(I)Z"⟩, prog_9_method_27_code, 3, (some FieldType.boolean), 4, [])
def RW222_0 : List (Nat × Instr × Nat) := [(0, .aload_n 0, 1), (1, .bipush 8, 2), (3, .invokevirtual 263, 3), (6, .ifCond .eq 10, 3), (9, .aload_n 0, 1), (10, .invokevirtual 266, 3), (13, .ifCond .ne 5, 3), (16, .iconst 0, 1), (17, .ireturn, 1), (18, .aload_n 0, 1), (19, .aload_n 0, 1), (20, .getfield 229, 3), (23, .putfield 132, 3), (26, .iconst 1, 1), (27, .ireturn, 1)]
theorem D222_0 : RW222_0.all (xDr prog_9_method_32_code) = true := eAll 0 (by decide +kernel)
def d_222 : xDt := (⟨"IsingLabModel", "readStrength", "()Z"⟩, prog_9_method_32_code, 1, (some FieldType.boolean), 5, [])
def RW223_0 : List (Nat × Instr × Nat) := [(0, .aload_n 0, 1), (1, .bipush 45, 2), (3, .invokevirtual 232, 3), (6, .istore_n 1, 1), (7, .aload_n 0, 1), (8, .iconst 0, 1), (9, .iconst 3, 1), (10, .invokevirtual 235, 3), (13, .ifCond .ne 5, 3), (16, .iconst 0, 1), (17, .ireturn, 1), (18, .aload_n 0, 1), (19, .iload_n 1, 1), (20, .ifCond .eq 11, 3), (23, .aload_n 0, 1), (24, .getfield 229, 3)]
theorem D223_0 : RW223_0.all (xDr prog_9_method_24_code) = true := eAll 0 (by decide +kernel)
def RW223_1 : List (Nat × Instr × Nat) := [(27, .ineg, 1), (28, .goto 7, 3), (31, .aload_n 0, 1), (32, .getfield 229, 3), (35, .putfield 229, 3), (38, .iconst 1, 1), (39, .ireturn, 1)]
theorem D223_1 : RW223_1.all (xDr prog_9_method_24_code) = true := eAll 27 (by decide +kernel)
def d_223 : xDt := (⟨"IsingLabModel", "takesSigned", "()Z"⟩, prog_9_method_24_code, 2, (some FieldType.boolean), 4, [])
def RW224_0 : List (Nat × Instr × Nat) := [(0, .aload_n 0, 1), (1, .getfield 196, 3), (4, .iconst 3, 1), (5, .if_icmp .ne 11, 3), (8, .aload_n 0, 1), (9, .getfield 193, 3), (12, .iload_n 1, 1), (13, .if_icmp .eq 5, 3), (16, .iconst 0, 1), (17, .ireturn, 1), (18, .aload_n 0, 1), (19, .invokevirtual 223, 3), (22, .iconst 1, 1), (23, .ireturn, 1)]
theorem D224_0 : RW224_0.all (xDr prog_9_method_22_code) = true := eAll 0 (by decide +kernel)
def d_224 : xDt := (⟨"IsingLabModel", "takesSign", "(I)Z"⟩, prog_9_method_22_code, 2, (some FieldType.boolean), 3, [])
def RW225_0 : List (Nat × Instr × Nat) := [(0, .aload_n 0, 1), (1, .bipush 16, 2), (3, .invokevirtual 263, 3), (6, .ifCond .eq 10, 3), (9, .aload_n 0, 1), (10, .invokevirtual 266, 3), (13, .ifCond .ne 5, 3), (16, .iconst 0, 1), (17, .ireturn, 1), (18, .aload_n 0, 1), (19, .getfield 7, 3), (22, .iconst 4, 1), (23, .aload_n 0, 1), (24, .getfield 229, 3), (27, .iastore, 1), (28, .iconst 1, 1)]
theorem D225_0 : RW225_0.all (xDr prog_9_method_33_code) = true := eAll 0 (by decide +kernel)
def RW225_1 : List (Nat × Instr × Nat) := [(29, .ireturn, 1)]
theorem D225_1 : RW225_1.all (xDr prog_9_method_33_code) = true := eAll 29 (by decide +kernel)
def d_225 : xDt := (⟨"IsingLabModel", "readField", "()Z"⟩, prog_9_method_33_code, 1, (some FieldType.boolean), 5, [])
def RW226_0 : List (Nat × Instr × Nat) := [(0, .aload_n 0, 1), (1, .bipush 32, 2), (3, .invokevirtual 263, 3), (6, .ifCond .ne 5, 3), (9, .iconst 0, 1), (10, .ireturn, 1), (11, .aload_n 0, 1), (12, .getfield 7, 3), (15, .iconst 5, 1), (16, .aload_n 0, 1), (17, .ldc_w 270, 3), (20, .ldc_w 272, 3), (23, .ldc_w 274, 3), (26, .invokevirtual 259, 3), (29, .iastore, 1), (30, .aload_n 0, 1)]
theorem D226_0 : RW226_0.all (xDr prog_9_method_34_code) = true := eAll 0 (by decide +kernel)
def RW226_1 : List (Nat × Instr × Nat) := [(31, .getfield 7, 3), (34, .iconst 5, 1), (35, .iaload, 1), (36, .iconst (-1), 1), (37, .if_icmp .eq 7, 3), (40, .iconst 1, 1), (41, .goto 4, 3), (44, .iconst 0, 1), (45, .ireturn, 1)]
theorem D226_1 : RW226_1.all (xDr prog_9_method_34_code) = true := eAll 31 (by decide +kernel)
def d_226 : xDt := (⟨"IsingLabModel", "readRule", "()Z"⟩, prog_9_method_34_code, 1, (some FieldType.boolean), 7, [])
def RW227_0 : List (Nat × Instr × Nat) := [(0, .aload_n 0, 1), (1, .bipush 64, 2), (3, .invokevirtual 263, 3), (6, .ifCond .eq 14, 3), (9, .aload_n 0, 1), (10, .iconst 0, 1), (11, .sipush 9999, 3), (14, .invokevirtual 235, 3), (17, .ifCond .ne 5, 3), (20, .iconst 0, 1), (21, .ireturn, 1), (22, .aload_n 0, 1), (23, .aload_n 0, 1), (24, .getfield 229, 3), (27, .putfield 138, 3), (30, .iconst 1, 1)]
theorem D227_0 : RW227_0.all (xDr prog_9_method_35_code) = true := eAll 0 (by decide +kernel)
def RW227_1 : List (Nat × Instr × Nat) := [(31, .ireturn, 1)]
theorem D227_1 : RW227_1.all (xDr prog_9_method_35_code) = true := eAll 31 (by decide +kernel)
def d_227 : xDt := (⟨"IsingLabModel", "readSeed", "()Z"⟩, prog_9_method_35_code, 1, (some FieldType.boolean), 5, [])
def RW228_0 : List (Nat × Instr × Nat) := [(0, .aload_n 0, 1), (1, .sipush 128, 3), (4, .invokevirtual 263, 3), (7, .ifCond .ne 5, 3), (10, .iconst 0, 1), (11, .ireturn, 1), (12, .aload_n 0, 1), (13, .aload_n 0, 1), (14, .ldc_w 276, 3), (17, .ldc_w 278, 3), (20, .ldc_w 280, 3), (23, .invokevirtual 259, 3), (26, .putfield 135, 3), (29, .aload_n 0, 1), (30, .getfield 135, 3), (33, .iconst (-1), 1)]
theorem D228_0 : RW228_0.all (xDr prog_9_method_36_code) = true := eAll 0 (by decide +kernel)
def RW228_1 : List (Nat × Instr × Nat) := [(34, .if_icmp .eq 7, 3), (37, .iconst 1, 1), (38, .goto 4, 3), (41, .iconst 0, 1), (42, .ireturn, 1)]
theorem D228_1 : RW228_1.all (xDr prog_9_method_36_code) = true := eAll 34 (by decide +kernel)
def d_228 : xDt := (⟨"IsingLabModel", "readStart", "()Z"⟩, prog_9_method_36_code, 1, (some FieldType.boolean), 7, [])
def RW229_0 : List (Nat × Instr × Nat) := [(0, .aload_n 0, 1), (1, .aload_n 0, 1), (2, .getfield 141, 3), (5, .bipush 12, 2), (7, .if_icmp .ge 7, 3), (10, .iconst 1, 1), (11, .goto 4, 3), (14, .iconst 0, 1), (15, .invokevirtual 242, 3), (18, .ifCond .eq 19, 3), (21, .aload_n 0, 1), (22, .iconst 0, 1), (23, .aload_n 0, 1), (24, .getfield 7, 3), (27, .iconst 0, 1), (28, .iaload, 1)]
theorem D229_0 : RW229_0.all (xDr prog_9_method_37_code) = true := eAll 0 (by decide +kernel)
def RW229_1 : List (Nat × Instr × Nat) := [(29, .iconst 1, 1), (30, .isub, 1), (31, .invokevirtual 235, 3), (34, .ifCond .ne 5, 3), (37, .iconst 0, 1), (38, .ireturn, 1), (39, .aload_n 0, 1), (40, .getfield 229, 3), (43, .aload_n 0, 1), (44, .getfield 7, 3), (47, .iconst 1, 1), (48, .iaload, 1), (49, .imul, 1), (50, .istore_n 1, 1), (51, .aload_n 0, 1), (52, .iconst 0, 1)]
theorem D229_1 : RW229_1.all (xDr prog_9_method_37_code) = true := eAll 29 (by decide +kernel)
def RW229_2 : List (Nat × Instr × Nat) := [(53, .aload_n 0, 1), (54, .getfield 7, 3), (57, .iconst 1, 1), (58, .iaload, 1), (59, .iconst 1, 1), (60, .isub, 1), (61, .invokevirtual 235, 3), (64, .ifCond .ne 5, 3), (67, .iconst 0, 1), (68, .ireturn, 1), (69, .iload_n 1, 1), (70, .aload_n 0, 1), (71, .getfield 229, 3), (74, .iadd, 1), (75, .istore_n 1, 1), (76, .aload_n 0, 1)]
theorem D229_2 : RW229_2.all (xDr prog_9_method_37_code) = true := eAll 53 (by decide +kernel)
def RW229_3 : List (Nat × Instr × Nat) := [(77, .ldc_w 282, 3), (80, .invokevirtual 245, 3), (83, .istore_n 2, 1), (84, .iload_n 2, 1), (85, .ifCond .ne 19, 3), (88, .aload_n 0, 1), (89, .ldc_w 278, 3), (92, .invokevirtual 245, 3), (95, .ifCond .ne 9, 3), (98, .aload_n 0, 1), (99, .iconst 1, 1), (100, .invokevirtual 226, 3), (103, .ireturn, 1), (104, .iload_n 2, 1), (105, .ifCond .eq 14, 3), (108, .aload_n 0, 1)]
theorem D229_3 : RW229_3.all (xDr prog_9_method_37_code) = true := eAll 77 (by decide +kernel)
def RW229_4 : List (Nat × Instr × Nat) := [(109, .iload_n 1, 1), (110, .invokevirtual 144, 3), (113, .ifCond .eq 14, 3), (116, .goto 17, 3), (119, .aload_n 0, 1), (120, .iload_n 1, 1), (121, .invokevirtual 152, 3), (124, .ifCond .ne 9, 3), (127, .aload_n 0, 1), (128, .iconst 3, 1), (129, .invokevirtual 226, 3), (132, .ireturn, 1), (133, .aload_n 0, 1), (134, .invokevirtual 223, 3), (137, .aload_n 0, 1), (138, .invokevirtual 266, 3)]
theorem D229_4 : RW229_4.all (xDr prog_9_method_37_code) = true := eAll 109 (by decide +kernel)
def RW229_5 : List (Nat × Instr × Nat) := [(141, .ifCond .ne 5, 3), (144, .iconst 0, 1), (145, .ireturn, 1), (146, .aload_n 0, 1), (147, .getfield 57, 3), (150, .aload_n 0, 1), (151, .getfield 141, 3), (154, .aload_n 0, 1), (155, .iload_n 1, 1), (156, .iload_n 2, 1), (157, .invokevirtual 284, 3), (160, .iastore, 1), (161, .aload_n 0, 1), (162, .getfield 60, 3), (165, .aload_n 0, 1), (166, .getfield 141, 3)]
theorem D229_5 : RW229_5.all (xDr prog_9_method_37_code) = true := eAll 141 (by decide +kernel)
def RW229_6 : List (Nat × Instr × Nat) := [(169, .aload_n 0, 1), (170, .getfield 229, 3), (173, .iastore, 1), (174, .aload_n 0, 1), (175, .dup, 1), (176, .getfield 141, 3), (179, .iconst 1, 1), (180, .iadd, 1), (181, .putfield 141, 3), (184, .iconst 1, 1), (185, .ireturn, 1)]
theorem D229_6 : RW229_6.all (xDr prog_9_method_37_code) = true := eAll 169 (by decide +kernel)
def d_229 : xDt := (⟨"IsingLabModel", "readBond", "()Z"⟩, prog_9_method_37_code, 3, (some FieldType.boolean), 6, [])
def RW230_0 : List (Nat × Instr × Nat) := [(0, .iconst 0, 1), (1, .istore_n 3, 1), (2, .iconst 0, 1), (3, .istore 4, 2), (5, .iload 4, 2), (7, .iload_n 1, 1), (8, .if_icmp .ge 41, 3), (11, .iload_n 3, 1), (12, .aload_n 0, 1), (13, .iload 4, 2), (15, .invokevirtual 144, 3), (18, .ifCond .eq 7, 3), (21, .iconst 1, 1), (22, .goto 4, 3), (25, .iconst 0, 1), (26, .aload_n 0, 1)]
theorem D230_0 : RW230_0.all (xDr prog_9_method_11_code) = true := eAll 0 (by decide +kernel)
def RW230_1 : List (Nat × Instr × Nat) := [(27, .iload 4, 2), (29, .invokevirtual 152, 3), (32, .ifCond .eq 7, 3), (35, .iconst 1, 1), (36, .goto 4, 3), (39, .iconst 0, 1), (40, .iadd, 1), (41, .iadd, 1), (42, .istore_n 3, 1), (43, .iinc 4 1, 3), (46, .goto (-41), 3), (49, .iload_n 3, 1), (50, .iload_n 2, 1), (51, .ifCond .ne 11, 3), (54, .aload_n 0, 1), (55, .iload_n 1, 1)]
theorem D230_1 : RW230_1.all (xDr prog_9_method_11_code) = true := eAll 27 (by decide +kernel)
def RW230_2 : List (Nat × Instr × Nat) := [(56, .invokevirtual 144, 3), (59, .ifCond .ne 7, 3), (62, .iconst 0, 1), (63, .goto 4, 3), (66, .iconst 1, 1), (67, .iadd, 1), (68, .ireturn, 1)]
theorem D230_2 : RW230_2.all (xDr prog_9_method_11_code) = true := eAll 56 (by decide +kernel)
def d_230 : xDt := (⟨"IsingLabModel", "bondFrom", "(IZ)I"⟩, prog_9_method_11_code, 5, (some FieldType.int), 2, [])
def RW231_0 : List (Nat × Instr × Nat) := [(0, .aload_n 0, 1), (1, .iconst 0, 1), (2, .putfield 126, 3), (5, .aload_n 0, 1), (6, .getfield 342, 3), (9, .ireturn, 1)]
theorem D231_0 : RW231_0.all (xDr prog_9_method_41_code) = true := eAll 0 (by decide +kernel)
def d_231 : xDt := (⟨"IsingLabModel", "errorCode", "()I"⟩, prog_9_method_41_code, 1, (some FieldType.int), 1, [])
def RW232_0 : List (Nat × Instr × Nat) := [(0, .aload_n 0, 1), (1, .iconst 0, 1), (2, .putfield 126, 3), (5, .aload_n 0, 1), (6, .getfield 53, 3), (9, .ireturn, 1)]
theorem D232_0 : RW232_0.all (xDr prog_9_method_42_code) = true := eAll 0 (by decide +kernel)
def d_232 : xDt := (⟨"IsingLabModel", "errorOffset", "()I"⟩, prog_9_method_42_code, 1, (some FieldType.int), 1, [])
def RW233_0 : List (Nat × Instr × Nat) := [(0, .aload_n 0, 1), (1, .iconst 0, 1), (2, .putfield 126, 3), (5, .iload_n 1, 1), (6, .tableswitch 138 0 10 #[58, 65, 72, 80, 87, 94, 101, 108, 116, 124, 132], 58), (64, .aload_n 0, 1), (65, .getfield 7, 3), (68, .iconst 0, 1), (69, .iaload, 1), (70, .ireturn, 1), (71, .aload_n 0, 1), (72, .getfield 7, 3), (75, .iconst 1, 1), (76, .iaload, 1), (77, .ireturn, 1), (78, .aload_n 0, 1)]
theorem D233_0 : RW233_0.all (xDr prog_9_method_55_code) = true := by decide +kernel
def RW233_1 : List (Nat × Instr × Nat) := [(79, .getfield 7, 3), (82, .bipush 8, 2), (84, .iaload, 1), (85, .ireturn, 1), (86, .aload_n 0, 1), (87, .getfield 7, 3), (90, .iconst 2, 1), (91, .iaload, 1), (92, .ireturn, 1), (93, .aload_n 0, 1), (94, .getfield 7, 3), (97, .iconst 3, 1), (98, .iaload, 1), (99, .ireturn, 1), (100, .aload_n 0, 1), (101, .getfield 7, 3)]
theorem D233_1 : RW233_1.all (xDr prog_9_method_55_code) = true := eAll 79 (by decide +kernel)
def RW233_2 : List (Nat × Instr × Nat) := [(104, .iconst 4, 1), (105, .iaload, 1), (106, .ireturn, 1), (107, .aload_n 0, 1), (108, .getfield 7, 3), (111, .iconst 5, 1), (112, .iaload, 1), (113, .ireturn, 1), (114, .aload_n 0, 1), (115, .getfield 7, 3), (118, .bipush 6, 2), (120, .iaload, 1), (121, .ireturn, 1), (122, .aload_n 0, 1), (123, .getfield 7, 3), (126, .bipush 7, 2)]
theorem D233_2 : RW233_2.all (xDr prog_9_method_55_code) = true := eAll 104 (by decide +kernel)
def RW233_3 : List (Nat × Instr × Nat) := [(128, .iaload, 1), (129, .ireturn, 1), (130, .aload_n 0, 1), (131, .getfield 7, 3), (134, .bipush 9, 2), (136, .iaload, 1), (137, .ireturn, 1), (138, .aload_n 0, 1), (139, .getfield 157, 3), (142, .l2i, 1), (143, .ireturn, 1), (144, .aload_n 0, 1), (145, .iconst 1, 1), (146, .iconst 1, 1), (147, .invokevirtual 379, 3), (150, .ifCond .eq 7, 3)]
theorem D233_3 : RW233_3.all (xDr prog_9_method_55_code) = true := eAll 128 (by decide +kernel)
def RW233_4 : List (Nat × Instr × Nat) := [(153, .iconst 0, 1), (154, .goto 4, 3), (157, .iconst (-1), 1), (158, .ireturn, 1)]
theorem D233_4 : RW233_4.all (xDr prog_9_method_55_code) = true := eAll 153 (by decide +kernel)
def d_233 : xDt := (⟨"IsingLabModel", "count", "(I)I"⟩, prog_9_method_55_code, 2, (some FieldType.int), 2, [])
def RW234_0 : List (Nat × Instr × Nat) := [(0, .iload_n 1, 1), (1, .ifCond .eq 8, 3), (4, .aload_n 0, 1), (5, .iload_n 2, 1), (6, .putfield 126, 3), (9, .iload_n 1, 1), (10, .ireturn, 1)]
theorem D234_0 : RW234_0.all (xDr prog_9_method_4_code) = true := eAll 0 (by decide +kernel)
def d_234 : xDt := (⟨"IsingLabModel", "fails", "(ZI)Z"⟩, prog_9_method_4_code, 3, (some FieldType.boolean), 1, [])
def RW235_0 : List (Nat × Instr × Nat) := [(0, .aload_n 0, 1), (1, .iload_n 1, 1), (2, .invokevirtual 383, 3), (5, .ifCond .ne 28, 3), (8, .aload_n 0, 1), (9, .iload_n 2, 1), (10, .i2l, 1), (11, .lconst 0, 1), (12, .ldc2_w 386, 3), (15, .invokestatic 179, 3), (18, .ifCond .ne 7, 3), (21, .iconst 1, 1), (22, .goto 4, 3), (25, .iconst 0, 1), (26, .iconst 2, 1), (27, .invokevirtual 379, 3)]
theorem D235_0 : RW235_0.all (xDr prog_9_method_57_code) = true := eAll 0 (by decide +kernel)
def RW235_1 : List (Nat × Instr × Nat) := [(30, .ifCond .eq 5, 3), (33, .iconst 0, 1), (34, .ireturn, 1), (35, .iload_n 2, 1), (36, .ifCond .ne 12, 3), (39, .aload_n 0, 1), (40, .getfield 38, 3), (43, .iload_n 1, 1), (44, .iaload, 1), (45, .goto 43, 3), (48, .iload_n 2, 1), (49, .iconst 1, 1), (50, .if_icmp .ne 12, 3), (53, .aload_n 0, 1), (54, .getfield 41, 3), (57, .iload_n 1, 1)]
theorem D235_1 : RW235_1.all (xDr prog_9_method_57_code) = true := eAll 30 (by decide +kernel)
def RW235_2 : List (Nat × Instr × Nat) := [(58, .iaload, 1), (59, .goto 29, 3), (62, .iload_n 2, 1), (63, .iconst 2, 1), (64, .if_icmp .ne 15, 3), (67, .aload_n 0, 1), (68, .getfield 7, 3), (71, .bipush 16, 2), (73, .iload_n 1, 1), (74, .iadd, 1), (75, .iaload, 1), (76, .goto 12, 3), (79, .aload_n 0, 1), (80, .aload_n 0, 1), (81, .getfield 165, 3), (84, .iload_n 1, 1)]
theorem D235_2 : RW235_2.all (xDr prog_9_method_57_code) = true := eAll 58 (by decide +kernel)
def RW235_3 : List (Nat × Instr × Nat) := [(85, .invokevirtual 356, 3), (88, .ireturn, 1)]
theorem D235_3 : RW235_3.all (xDr prog_9_method_57_code) = true := eAll 85 (by decide +kernel)
def d_235 : xDt := (⟨"IsingLabModel", "bond", "(II)I"⟩, prog_9_method_57_code, 3, (some FieldType.int), 3, [])
def RW236_0 : List (Nat × Instr × Nat) := [(0, .aload_n 0, 1), (1, .iconst 0, 1), (2, .putfield 126, 3), (5, .aload_n 0, 1), (6, .iload_n 1, 1), (7, .i2l, 1), (8, .lconst 0, 1), (9, .aload_n 0, 1), (10, .getfield 7, 3), (13, .bipush 8, 2), (15, .iaload, 1), (16, .iconst 1, 1), (17, .isub, 1), (18, .i2l, 1), (19, .invokestatic 179, 3), (22, .ifCond .ne 7, 3)]
theorem D236_0 : RW236_0.all (xDr prog_9_method_56_code) = true := eAll 0 (by decide +kernel)
def RW236_1 : List (Nat × Instr × Nat) := [(25, .iconst 1, 1), (26, .goto 4, 3), (29, .iconst 0, 1), (30, .iconst 1, 1), (31, .invokevirtual 379, 3), (34, .ireturn, 1)]
theorem D236_1 : RW236_1.all (xDr prog_9_method_56_code) = true := eAll 25 (by decide +kernel)
def d_236 : xDt := (⟨"IsingLabModel", "noBond", "(I)Z"⟩, prog_9_method_56_code, 2, (some FieldType.boolean), 2, [])
def RW237_0 : List (Nat × Instr × Nat) := [(0, .aload_n 0, 1), (1, .getfield 7, 3), (4, .bipush 16, 2), (6, .iload_n 3, 1), (7, .iadd, 1), (8, .iaload, 1), (9, .lload_n 1, 1), (10, .aload_n 0, 1), (11, .getfield 38, 3), (14, .iload_n 3, 1), (15, .iaload, 1), (16, .invokestatic 348, 3), (19, .imul, 1), (20, .lload_n 1, 1), (21, .aload_n 0, 1), (22, .getfield 41, 3)]
theorem D237_0 : RW237_0.all (xDr prog_9_method_44_code) = true := eAll 0 (by decide +kernel)
def RW237_1 : List (Nat × Instr × Nat) := [(25, .iload_n 3, 1), (26, .iaload, 1), (27, .invokestatic 348, 3), (30, .imul, 1), (31, .ireturn, 1)]
theorem D237_1 : RW237_1.all (xDr prog_9_method_44_code) = true := eAll 25 (by decide +kernel)
def d_237 : xDt := (⟨"IsingLabModel", "pull", "(JI)I"⟩, prog_9_method_44_code, 4, (some FieldType.int), 2, [])
def RW238_0 : List (Nat × Instr × Nat) := [(0, .lload_n 0, 1), (1, .iload_n 2, 1), (2, .lshr, 1), (3, .lconst 1, 1), (4, .land, 1), (5, .lconst 1, 1), (6, .lcmp, 1), (7, .ifCond .ne 7, 3), (10, .iconst 1, 1), (11, .goto 4, 3), (14, .iconst (-1), 1), (15, .ireturn, 1)]
theorem D238_0 : RW238_0.all (xDr prog_9_method_43_code) = true := eAll 0 (by decide +kernel)
def d_238 : xDt := (⟨"IsingLabModel", "spinIn", "(JI)I"⟩, prog_9_method_43_code, 3, (some FieldType.int), 1, [])
def RW239_0 : List (Nat × Instr × Nat) := [(0, .aload_n 0, 1), (1, .iload_n 1, 1), (2, .invokevirtual 383, 3), (5, .ifCond .ne 30, 3), (8, .aload_n 0, 1), (9, .iload_n 2, 1), (10, .i2l, 1), (11, .ldc2_w 388, 3), (14, .ldc2_w 386, 3), (17, .invokestatic 179, 3), (20, .ifCond .ne 7, 3), (23, .iconst 1, 1), (24, .goto 4, 3), (27, .iconst 0, 1), (28, .iconst 2, 1), (29, .invokevirtual 379, 3)]
theorem D239_0 : RW239_0.all (xDr prog_9_method_59_code) = true := eAll 0 (by decide +kernel)
def RW239_1 : List (Nat × Instr × Nat) := [(32, .ifCond .eq 7, 3), (35, .iconst 0, 1), (36, .goto 12, 3), (39, .aload_n 0, 1), (40, .bipush 16, 2), (42, .iload_n 1, 1), (43, .iadd, 1), (44, .iload_n 2, 1), (45, .invokevirtual 390, 3), (48, .ireturn, 1)]
theorem D239_1 : RW239_1.all (xDr prog_9_method_59_code) = true := eAll 32 (by decide +kernel)
def d_239 : xDt := (⟨"IsingLabModel", "setBond", "(II)I"⟩, prog_9_method_59_code, 3, (some FieldType.int), 3, [])
def RW240_0 : List (Nat × Instr × Nat) := [(0, .aload_n 0, 1), (1, .getfield 7, 3), (4, .iload_n 1, 1), (5, .iaload, 1), (6, .istore_n 3, 1), (7, .aload_n 0, 1), (8, .getfield 7, 3), (11, .iload_n 1, 1), (12, .iload_n 2, 1), (13, .iastore, 1), (14, .aload_n 0, 1), (15, .iconst 0, 1), (16, .putfield 168, 3), (19, .iload_n 3, 1), (20, .ireturn, 1)]
theorem D240_0 : RW240_0.all (xDr prog_9_method_58_code) = true := eAll 0 (by decide +kernel)
def d_240 : xDt := (⟨"IsingLabModel", "becomes", "(II)I"⟩, prog_9_method_58_code, 4, (some FieldType.int), 1, [])
def RW241_0 : List (Nat × Instr × Nat) := [(0, .aload_n 0, 1), (1, .iconst 0, 1), (2, .putfield 126, 3), (5, .aload_n 0, 1), (6, .iload_n 1, 1), (7, .iload_n 2, 1), (8, .invokestatic 396, 3), (11, .ifCond .ne 7, 3), (14, .iconst 1, 1), (15, .goto 4, 3), (18, .iconst 0, 1), (19, .iconst 1, 1), (20, .invokevirtual 379, 3), (23, .ifCond .eq 5, 3), (26, .iconst 0, 1), (27, .ireturn, 1)]
theorem D241_0 : RW241_0.all (xDr prog_9_method_61_code) = true := eAll 0 (by decide +kernel)
def RW241_1 : List (Nat × Instr × Nat) := [(28, .aload_n 0, 1), (29, .getfield 7, 3), (32, .iconst 3, 1), (33, .iload_n 2, 1), (34, .iastore, 1), (35, .aload_n 0, 1), (36, .getfield 7, 3), (39, .iconst 2, 1), (40, .iaload, 1), (41, .istore_n 3, 1), (42, .aload_n 0, 1), (43, .getfield 7, 3), (46, .iconst 2, 1), (47, .iload_n 1, 1), (48, .iastore, 1), (49, .iload_n 3, 1)]
theorem D241_1 : RW241_1.all (xDr prog_9_method_61_code) = true := eAll 28 (by decide +kernel)
def RW241_2 : List (Nat × Instr × Nat) := [(50, .ireturn, 1)]
theorem D241_2 : RW241_2.all (xDr prog_9_method_61_code) = true := eAll 50 (by decide +kernel)
def d_241 : xDt := (⟨"IsingLabModel", "setRatio", "(II)I"⟩, prog_9_method_61_code, 4, (some FieldType.int), 3, [])
def RW242_0 : List (Nat × Instr × Nat) := [(0, .iload_n 0, 1), (1, .i2l, 1), (2, .lconst 1, 1), (3, .ldc2_w 394, 3), (6, .invokestatic 179, 3), (9, .ifCond .eq 18, 3), (12, .iload_n 1, 1), (13, .iload_n 0, 1), (14, .if_icmp .le 13, 3), (17, .iload_n 1, 1), (18, .bipush 99, 2), (20, .if_icmp .gt 7, 3), (23, .iconst 1, 1), (24, .goto 4, 3), (27, .iconst 0, 1), (28, .ireturn, 1)]
theorem D242_0 : RW242_0.all (xDr prog_9_method_60_code) = true := eAll 0 (by decide +kernel)
def d_242 : xDt := (⟨"IsingLabModel", "isRatio", "(II)Z"⟩, prog_9_method_60_code, 2, (some FieldType.boolean), 2, [])
def RW243_0 : List (Nat × Instr × Nat) := [(0, .aload_n 0, 1), (1, .iconst 0, 1), (2, .putfield 126, 3), (5, .aload_n 0, 1), (6, .iload_n 1, 1), (7, .i2l, 1), (8, .ldc2_w 388, 3), (11, .ldc2_w 386, 3), (14, .invokestatic 179, 3), (17, .ifCond .ne 7, 3), (20, .iconst 1, 1), (21, .goto 4, 3), (24, .iconst 0, 1), (25, .iconst 1, 1), (26, .invokevirtual 379, 3), (29, .ifCond .eq 7, 3)]
theorem D243_0 : RW243_0.all (xDr prog_9_method_62_code) = true := eAll 0 (by decide +kernel)
def RW243_1 : List (Nat × Instr × Nat) := [(32, .iconst 0, 1), (33, .goto 9, 3), (36, .aload_n 0, 1), (37, .iconst 4, 1), (38, .iload_n 1, 1), (39, .invokevirtual 390, 3), (42, .ireturn, 1)]
theorem D243_1 : RW243_1.all (xDr prog_9_method_62_code) = true := eAll 32 (by decide +kernel)
def d_243 : xDt := (⟨"IsingLabModel", "setField", "(I)I"⟩, prog_9_method_62_code, 2, (some FieldType.int), 2, [])
def RW244_0 : List (Nat × Instr × Nat) := [(0, .aload_n 0, 1), (1, .iconst 0, 1), (2, .putfield 126, 3), (5, .aload_n 0, 1), (6, .iload_n 1, 1), (7, .i2l, 1), (8, .lconst 0, 1), (9, .ldc2_w 399, 3), (12, .invokestatic 179, 3), (15, .ifCond .ne 7, 3), (18, .iconst 1, 1), (19, .goto 4, 3), (22, .iconst 0, 1), (23, .iconst 1, 1), (24, .invokevirtual 379, 3), (27, .ifCond .eq 5, 3)]
theorem D244_0 : RW244_0.all (xDr prog_9_method_63_code) = true := eAll 0 (by decide +kernel)
def RW244_1 : List (Nat × Instr × Nat) := [(30, .iconst 0, 1), (31, .ireturn, 1), (32, .aload_n 0, 1), (33, .getfield 7, 3), (36, .iconst 5, 1), (37, .iaload, 1), (38, .istore_n 2, 1), (39, .aload_n 0, 1), (40, .getfield 7, 3), (43, .iconst 5, 1), (44, .iload_n 1, 1), (45, .iastore, 1), (46, .iload_n 2, 1), (47, .ireturn, 1)]
theorem D244_1 : RW244_1.all (xDr prog_9_method_63_code) = true := eAll 30 (by decide +kernel)
def d_244 : xDt := (⟨"IsingLabModel", "setRule", "(I)I"⟩, prog_9_method_63_code, 3, (some FieldType.int), 2, [])
def RW245_0 : List (Nat × Instr × Nat) := [(0, .aload_n 0, 1), (1, .iload_n 1, 1), (2, .invokevirtual 401, 3), (5, .ifCond .eq 7, 3), (8, .iconst 0, 1), (9, .goto 11, 3), (12, .aload_n 0, 1), (13, .getfield 165, 3), (16, .iload_n 1, 1), (17, .invokestatic 348, 3), (20, .ireturn, 1)]
theorem D245_0 : RW245_0.all (xDr prog_9_method_64_code) = true := eAll 0 (by decide +kernel)
def d_245 : xDt := (⟨"IsingLabModel", "spin", "(I)I"⟩, prog_9_method_64_code, 2, (some FieldType.int), 3, [])
def RW246_0 : List (Nat × Instr × Nat) := [(0, .aload_n 0, 1), (1, .iconst 0, 1), (2, .putfield 126, 3), (5, .aload_n 0, 1), (6, .iload_n 1, 1), (7, .i2l, 1), (8, .lconst 0, 1), (9, .aload_n 0, 1), (10, .getfield 7, 3), (13, .bipush 10, 2), (15, .iaload, 1), (16, .iconst 1, 1), (17, .isub, 1), (18, .i2l, 1), (19, .invokestatic 179, 3), (22, .ifCond .ne 7, 3)]
theorem D246_0 : RW246_0.all (xDr prog_9_method_54_code) = true := eAll 0 (by decide +kernel)
def RW246_1 : List (Nat × Instr × Nat) := [(25, .iconst 1, 1), (26, .goto 4, 3), (29, .iconst 0, 1), (30, .iconst 1, 1), (31, .invokevirtual 379, 3), (34, .ireturn, 1)]
theorem D246_1 : RW246_1.all (xDr prog_9_method_54_code) = true := eAll 25 (by decide +kernel)
def d_246 : xDt := (⟨"IsingLabModel", "noSite", "(I)Z"⟩, prog_9_method_54_code, 2, (some FieldType.boolean), 2, [])
def RW247_0 : List (Nat × Instr × Nat) := [(0, .aload_n 0, 1), (1, .iconst 0, 1), (2, .putfield 126, 3), (5, .aload_n 0, 1), (6, .getfield 165, 3), (9, .lreturn, 1)]
theorem D247_0 : RW247_0.all (xDr prog_9_method_65_code) = true := eAll 0 (by decide +kernel)
def d_247 : xDt := (⟨"IsingLabModel", "configuration", "()J"⟩, prog_9_method_65_code, 1, (some FieldType.long), 1, [])
def RW248_0 : List (Nat × Instr × Nat) := [(0, .aload_n 0, 1), (1, .iconst 0, 1), (2, .putfield 126, 3), (5, .aload_n 0, 1), (6, .aload_n 0, 1), (7, .lload_n 1, 1), (8, .invokevirtual 404, 3), (11, .iconst 1, 1), (12, .invokevirtual 379, 3), (15, .ifCond .eq 5, 3), (18, .iconst 0, 1), (19, .ireturn, 1), (20, .aload_n 0, 1), (21, .lload_n 1, 1), (22, .putfield 165, 3), (25, .aload_n 0, 1)]
theorem D248_0 : RW248_0.all (xDr prog_9_method_67_code) = true := eAll 0 (by decide +kernel)
def RW248_1 : List (Nat × Instr × Nat) := [(26, .aload_n 0, 1), (27, .getfield 165, 3), (30, .invokevirtual 408, 3), (33, .ireturn, 1)]
theorem D248_1 : RW248_1.all (xDr prog_9_method_67_code) = true := eAll 26 (by decide +kernel)
def d_248 : xDt := (⟨"IsingLabModel", "setConfiguration", "(J)I"⟩, prog_9_method_67_code, 3, (some FieldType.int), 4, [])
def RW249_0 : List (Nat × Instr × Nat) := [(0, .lload_n 1, 1), (1, .aload_n 0, 1), (2, .invokevirtual 161, 3), (5, .ldc2_w 155, 3), (8, .lxor, 1), (9, .land, 1), (10, .lconst 0, 1), (11, .lcmp, 1), (12, .ifCond .eq 7, 3), (15, .iconst 1, 1), (16, .goto 4, 3), (19, .iconst 0, 1), (20, .ireturn, 1)]
theorem D249_0 : RW249_0.all (xDr prog_9_method_66_code) = true := eAll 0 (by decide +kernel)
def d_249 : xDt := (⟨"IsingLabModel", "isOut", "(J)Z"⟩, prog_9_method_66_code, 3, (some FieldType.boolean), 2, [])
def RW250_0 : List (Nat × Instr × Nat) := [(0, .aload_n 0, 1), (1, .getfield 7, 3), (4, .iconst 4, 1), (5, .iaload, 1), (6, .ineg, 1), (7, .aload_n 0, 1), (8, .lload_n 1, 1), (9, .invokevirtual 352, 3), (12, .imul, 1), (13, .istore_n 3, 1), (14, .iconst 0, 1), (15, .istore 4, 2), (17, .iload 4, 2), (19, .aload_n 0, 1), (20, .getfield 7, 3), (23, .bipush 8, 2)]
theorem D250_0 : RW250_0.all (xDr prog_9_method_46_code) = true := eAll 0 (by decide +kernel)
def RW250_1 : List (Nat × Instr × Nat) := [(25, .iaload, 1), (26, .if_icmp .ge 19, 3), (29, .iload_n 3, 1), (30, .aload_n 0, 1), (31, .lload_n 1, 1), (32, .iload 4, 2), (34, .invokevirtual 356, 3), (37, .isub, 1), (38, .istore_n 3, 1), (39, .iinc 4 1, 3), (42, .goto (-25), 3), (45, .iload_n 3, 1), (46, .ireturn, 1)]
theorem D250_1 : RW250_1.all (xDr prog_9_method_46_code) = true := eAll 25 (by decide +kernel)
def d_250 : xDt := (⟨"IsingLabModel", "energyOf", "(J)I"⟩, prog_9_method_46_code, 5, (some FieldType.int), 3, [])
def RW251_0 : List (Nat × Instr × Nat) := [(0, .iconst 0, 1), (1, .istore_n 3, 1), (2, .iconst 0, 1), (3, .istore 4, 2), (5, .iload 4, 2), (7, .aload_n 0, 1), (8, .getfield 7, 3), (11, .bipush 10, 2), (13, .iaload, 1), (14, .if_icmp .ge 18, 3), (17, .iload_n 3, 1), (18, .lload_n 1, 1), (19, .iload 4, 2), (21, .invokestatic 348, 3), (24, .iadd, 1), (25, .istore_n 3, 1)]
theorem D251_0 : RW251_0.all (xDr prog_9_method_45_code) = true := eAll 0 (by decide +kernel)
def RW251_1 : List (Nat × Instr × Nat) := [(26, .iinc 4 1, 3), (29, .goto (-24), 3), (32, .iload_n 3, 1), (33, .ireturn, 1)]
theorem D251_1 : RW251_1.all (xDr prog_9_method_45_code) = true := eAll 26 (by decide +kernel)
def d_251 : xDt := (⟨"IsingLabModel", "magnetOf", "(J)I"⟩, prog_9_method_45_code, 5, (some FieldType.int), 2, [])
def RW252_0 : List (Nat × Instr × Nat) := [(0, .aload_n 0, 1), (1, .iload_n 1, 1), (2, .invokevirtual 401, 3), (5, .ifCond .eq 5, 3), (8, .iconst 0, 1), (9, .ireturn, 1), (10, .aload_n 0, 1), (11, .dup, 1), (12, .getfield 165, 3), (15, .lconst 1, 1), (16, .iload_n 1, 1), (17, .lshl, 1), (18, .lxor, 1), (19, .putfield 165, 3), (22, .aload_n 0, 1), (23, .aload_n 0, 1)]
theorem D252_0 : RW252_0.all (xDr prog_9_method_68_code) = true := eAll 0 (by decide +kernel)
def RW252_1 : List (Nat × Instr × Nat) := [(24, .getfield 165, 3), (27, .invokevirtual 408, 3), (30, .ireturn, 1)]
theorem D252_1 : RW252_1.all (xDr prog_9_method_68_code) = true := eAll 24 (by decide +kernel)
def d_252 : xDt := (⟨"IsingLabModel", "flip", "(I)I"⟩, prog_9_method_68_code, 2, (some FieldType.int), 4, [])
def RW253_0 : List (Nat × Instr × Nat) := [(0, .aload_n 0, 1), (1, .iconst 0, 1), (2, .putfield 126, 3), (5, .aload_n 0, 1), (6, .dup, 1), (7, .getfield 165, 3), (10, .aload_n 0, 1), (11, .invokevirtual 161, 3), (14, .lxor, 1), (15, .putfield 165, 3), (18, .aload_n 0, 1), (19, .aload_n 0, 1), (20, .getfield 165, 3), (23, .invokevirtual 408, 3), (26, .ireturn, 1)]
theorem D253_0 : RW253_0.all (xDr prog_9_method_69_code) = true := eAll 0 (by decide +kernel)
def d_253 : xDt := (⟨"IsingLabModel", "reverse", "()I"⟩, prog_9_method_69_code, 1, (some FieldType.int), 4, [])
def RW254_0 : List (Nat × Instr × Nat) := [(0, .aload_n 0, 1), (1, .iconst 0, 1), (2, .putfield 126, 3), (5, .aload_n 0, 1), (6, .aload_n 0, 1), (7, .getfield 165, 3), (10, .invokevirtual 408, 3), (13, .ireturn, 1)]
theorem D254_0 : RW254_0.all (xDr prog_9_method_70_code) = true := eAll 0 (by decide +kernel)
def d_254 : xDt := (⟨"IsingLabModel", "energy", "()I"⟩, prog_9_method_70_code, 1, (some FieldType.int), 4, [])
def RW255_0 : List (Nat × Instr × Nat) := [(0, .aload_n 0, 1), (1, .iconst 0, 1), (2, .putfield 126, 3), (5, .aload_n 0, 1), (6, .aload_n 0, 1), (7, .getfield 165, 3), (10, .invokevirtual 352, 3), (13, .ireturn, 1)]
theorem D255_0 : RW255_0.all (xDr prog_9_method_71_code) = true := eAll 0 (by decide +kernel)
def d_255 : xDt := (⟨"IsingLabModel", "magnetization", "()I"⟩, prog_9_method_71_code, 1, (some FieldType.int), 3, [])
def RW256_0 : List (Nat × Instr × Nat) := [(0, .aload_n 0, 1), (1, .iload_n 1, 1), (2, .invokevirtual 401, 3), (5, .ifCond .eq 7, 3), (8, .iconst 0, 1), (9, .goto 12, 3), (12, .aload_n 0, 1), (13, .aload_n 0, 1), (14, .getfield 165, 3), (17, .iload_n 1, 1), (18, .invokevirtual 370, 3), (21, .ireturn, 1)]
theorem D256_0 : RW256_0.all (xDr prog_9_method_72_code) = true := eAll 0 (by decide +kernel)
def d_256 : xDt := (⟨"IsingLabModel", "delta", "(I)I"⟩, prog_9_method_72_code, 2, (some FieldType.int), 4, [])
def RW257_0 : List (Nat × Instr × Nat) := [(0, .aload_n 0, 1), (1, .getfield 7, 3), (4, .iconst 4, 1), (5, .iaload, 1), (6, .lload_n 1, 1), (7, .iload_n 3, 1), (8, .invokestatic 348, 3), (11, .imul, 1), (12, .istore 4, 2), (14, .iconst 0, 1), (15, .istore 5, 2), (17, .iload 5, 2), (19, .aload_n 0, 1), (20, .getfield 47, 3), (23, .iload_n 3, 1), (24, .iaload, 1)]
theorem D257_0 : RW257_0.all (xDr prog_9_method_47_code) = true := eAll 0 (by decide +kernel)
def RW257_1 : List (Nat × Instr × Nat) := [(25, .if_icmp .ge 30, 3), (28, .iload 4, 2), (30, .aload_n 0, 1), (31, .lload_n 1, 1), (32, .aload_n 0, 1), (33, .getfield 44, 3), (36, .iconst 4, 1), (37, .iload_n 3, 1), (38, .imul, 1), (39, .iload 5, 2), (41, .iadd, 1), (42, .iaload, 1), (43, .invokevirtual 356, 3), (46, .iadd, 1), (47, .istore 4, 2), (49, .iinc 5 1, 3)]
theorem D257_1 : RW257_1.all (xDr prog_9_method_47_code) = true := eAll 25 (by decide +kernel)
def RW257_2 : List (Nat × Instr × Nat) := [(52, .goto (-35), 3), (55, .iconst 2, 1), (56, .iload 4, 2), (58, .imul, 1), (59, .ireturn, 1)]
theorem D257_2 : RW257_2.all (xDr prog_9_method_47_code) = true := eAll 52 (by decide +kernel)
def d_257 : xDt := (⟨"IsingLabModel", "deltaOf", "(JI)I"⟩, prog_9_method_47_code, 6, (some FieldType.int), 3, [])
def RW258_0 : List (Nat × Instr × Nat) := [(0, .aload_n 0, 1), (1, .iconst 0, 1), (2, .putfield 126, 3), (5, .iconst 0, 1), (6, .istore_n 1, 1), (7, .iconst 0, 1), (8, .istore_n 2, 1), (9, .iload_n 2, 1), (10, .aload_n 0, 1), (11, .getfield 7, 3), (14, .bipush 8, 2), (16, .iaload, 1), (17, .if_icmp .ge 29, 3), (20, .iload_n 1, 1), (21, .aload_n 0, 1), (22, .aload_n 0, 1)]
theorem D258_0 : RW258_0.all (xDr prog_9_method_73_code) = true := eAll 0 (by decide +kernel)
def RW258_1 : List (Nat × Instr × Nat) := [(23, .getfield 165, 3), (26, .iload_n 2, 1), (27, .invokevirtual 356, 3), (30, .ifCond .ge 7, 3), (33, .iconst 1, 1), (34, .goto 4, 3), (37, .iconst 0, 1), (38, .iadd, 1), (39, .istore_n 1, 1), (40, .iinc 2 1, 3), (43, .goto (-34), 3), (46, .iload_n 1, 1), (47, .ireturn, 1)]
theorem D258_1 : RW258_1.all (xDr prog_9_method_73_code) = true := eAll 23 (by decide +kernel)
def d_258 : xDt := (⟨"IsingLabModel", "unsatisfied", "()I"⟩, prog_9_method_73_code, 3, (some FieldType.int), 3, [])
def RW259_0 : List (Nat × Instr × Nat) := [(0, .aload_n 0, 1), (1, .iconst 0, 1), (2, .putfield 126, 3), (5, .iconst 0, 1), (6, .istore_n 1, 1), (7, .iconst 0, 1), (8, .istore_n 2, 1), (9, .iload_n 2, 1), (10, .aload_n 0, 1), (11, .getfield 7, 3), (14, .bipush 10, 2), (16, .iaload, 1), (17, .if_icmp .ge 29, 3), (20, .iload_n 1, 1), (21, .aload_n 0, 1), (22, .aload_n 0, 1)]
theorem D259_0 : RW259_0.all (xDr prog_9_method_74_code) = true := eAll 0 (by decide +kernel)
def RW259_1 : List (Nat × Instr × Nat) := [(23, .getfield 165, 3), (26, .iload_n 2, 1), (27, .invokevirtual 370, 3), (30, .ifCond .le 7, 3), (33, .iconst 1, 1), (34, .goto 4, 3), (37, .iconst 0, 1), (38, .iadd, 1), (39, .istore_n 1, 1), (40, .iinc 2 1, 3), (43, .goto (-34), 3), (46, .iload_n 1, 1), (47, .ireturn, 1)]
theorem D259_1 : RW259_1.all (xDr prog_9_method_74_code) = true := eAll 23 (by decide +kernel)
def d_259 : xDt := (⟨"IsingLabModel", "stable", "()I"⟩, prog_9_method_74_code, 3, (some FieldType.int), 4, [])
def RW260_0 : List (Nat × Instr × Nat) := [(0, .aload_n 0, 1), (1, .iconst 0, 1), (2, .putfield 126, 3), (5, .iconst 0, 1), (6, .istore_n 1, 1), (7, .iconst 0, 1), (8, .istore_n 2, 1), (9, .iload_n 2, 1), (10, .aload_n 0, 1), (11, .getfield 7, 3), (14, .bipush 10, 2), (16, .iaload, 1), (17, .if_icmp .ge 29, 3), (20, .iload_n 1, 1), (21, .aload_n 0, 1), (22, .aload_n 0, 1)]
theorem D260_0 : RW260_0.all (xDr prog_9_method_75_code) = true := eAll 0 (by decide +kernel)
def RW260_1 : List (Nat × Instr × Nat) := [(23, .getfield 165, 3), (26, .iload_n 2, 1), (27, .invokevirtual 370, 3), (30, .ifCond .ne 7, 3), (33, .iconst 1, 1), (34, .goto 4, 3), (37, .iconst 0, 1), (38, .iadd, 1), (39, .istore_n 1, 1), (40, .iinc 2 1, 3), (43, .goto (-34), 3), (46, .iload_n 1, 1), (47, .ireturn, 1)]
theorem D260_1 : RW260_1.all (xDr prog_9_method_75_code) = true := eAll 23 (by decide +kernel)
def d_260 : xDt := (⟨"IsingLabModel", "free", "()I"⟩, prog_9_method_75_code, 3, (some FieldType.int), 4, [])
def RW261_0 : List (Nat × Instr × Nat) := [(0, .aload_n 0, 1), (1, .iconst 0, 1), (2, .putfield 126, 3), (5, .aload_n 0, 1), (6, .aload_n 0, 1), (7, .lload_n 1, 1), (8, .invokevirtual 404, 3), (11, .iconst 1, 1), (12, .invokevirtual 379, 3), (15, .ifCond .eq 5, 3), (18, .iconst 0, 1), (19, .ireturn, 1), (20, .iconst 0, 1), (21, .istore_n 3, 1), (22, .iconst 0, 1), (23, .istore 4, 2)]
theorem D261_0 : RW261_0.all (xDr prog_9_method_76_code) = true := eAll 0 (by decide +kernel)
def RW261_1 : List (Nat × Instr × Nat) := [(25, .iload 4, 2), (27, .aload_n 0, 1), (28, .getfield 7, 3), (31, .bipush 10, 2), (33, .iaload, 1), (34, .if_icmp .ge 28, 3), (37, .iload_n 3, 1), (38, .lload_n 1, 1), (39, .iload 4, 2), (41, .invokestatic 348, 3), (44, .aload_n 0, 1), (45, .getfield 165, 3), (48, .iload 4, 2), (50, .invokestatic 348, 3), (53, .imul, 1), (54, .iadd, 1)]
theorem D261_1 : RW261_1.all (xDr prog_9_method_76_code) = true := eAll 25 (by decide +kernel)
def RW261_2 : List (Nat × Instr × Nat) := [(55, .istore_n 3, 1), (56, .iinc 4 1, 3), (59, .goto (-34), 3), (62, .iload_n 3, 1), (63, .ireturn, 1)]
theorem D261_2 : RW261_2.all (xDr prog_9_method_76_code) = true := eAll 55 (by decide +kernel)
def d_261 : xDt := (⟨"IsingLabModel", "overlap", "(J)I"⟩, prog_9_method_76_code, 5, (some FieldType.int), 3, [])
def RW262_0 : List (Nat × Instr × Nat) := [(0, .aload_n 0, 1), (1, .iload_n 1, 1), (2, .invokevirtual 401, 3), (5, .ifCond .ne 11, 3), (8, .aload_n 0, 1), (9, .iload_n 2, 1), (10, .invokevirtual 401, 3), (13, .ifCond .eq 5, 3), (16, .iconst 0, 1), (17, .ireturn, 1), (18, .iconst 0, 1), (19, .istore_n 3, 1), (20, .iconst 0, 1), (21, .istore 4, 2), (23, .iload 4, 2), (25, .aload_n 0, 1)]
theorem D262_0 : RW262_0.all (xDr prog_9_method_77_code) = true := eAll 0 (by decide +kernel)
def RW262_1 : List (Nat × Instr × Nat) := [(26, .getfield 7, 3), (29, .bipush 8, 2), (31, .iaload, 1), (32, .if_icmp .ge 70, 3), (35, .iload_n 3, 1), (36, .aload_n 0, 1), (37, .getfield 38, 3), (40, .iload 4, 2), (42, .iaload, 1), (43, .iload_n 1, 1), (44, .if_icmp .ne 14, 3), (47, .aload_n 0, 1), (48, .getfield 41, 3), (51, .iload 4, 2), (53, .iaload, 1), (54, .iload_n 2, 1)]
theorem D262_1 : RW262_1.all (xDr prog_9_method_77_code) = true := eAll 26 (by decide +kernel)
def RW262_2 : List (Nat × Instr × Nat) := [(55, .if_icmp .eq 25, 3), (58, .aload_n 0, 1), (59, .getfield 38, 3), (62, .iload 4, 2), (64, .iaload, 1), (65, .iload_n 2, 1), (66, .if_icmp .ne 27, 3), (69, .aload_n 0, 1), (70, .getfield 41, 3), (73, .iload 4, 2), (75, .iaload, 1), (76, .iload_n 1, 1), (77, .if_icmp .ne 16, 3), (80, .aload_n 0, 1), (81, .getfield 7, 3), (84, .bipush 16, 2)]
theorem D262_2 : RW262_2.all (xDr prog_9_method_77_code) = true := eAll 55 (by decide +kernel)
def RW262_3 : List (Nat × Instr × Nat) := [(86, .iload 4, 2), (88, .iadd, 1), (89, .iaload, 1), (90, .goto 4, 3), (93, .iconst 0, 1), (94, .iadd, 1), (95, .istore_n 3, 1), (96, .iinc 4 1, 3), (99, .goto (-76), 3), (102, .iload_n 3, 1), (103, .ireturn, 1)]
theorem D262_3 : RW262_3.all (xDr prog_9_method_77_code) = true := eAll 86 (by decide +kernel)
def d_262 : xDt := (⟨"IsingLabModel", "strengthBetween", "(II)I"⟩, prog_9_method_77_code, 5, (some FieldType.int), 3, [])
def RW263_0 : List (Nat × Instr × Nat) := [(0, .aload_n 0, 1), (1, .iconst 0, 1), (2, .putfield 126, 3), (5, .iconst 0, 1), (6, .istore_n 1, 1), (7, .iconst 0, 1), (8, .istore_n 2, 1), (9, .iload_n 2, 1), (10, .aload_n 0, 1), (11, .getfield 7, 3), (14, .bipush 8, 2), (16, .iaload, 1), (17, .if_icmp .ge 21, 3), (20, .iload_n 1, 1), (21, .aload_n 0, 1), (22, .aload_n 0, 1)]
theorem D263_0 : RW263_0.all (xDr prog_9_method_78_code) = true := eAll 0 (by decide +kernel)
def RW263_1 : List (Nat × Instr × Nat) := [(23, .getfield 165, 3), (26, .iload_n 2, 1), (27, .invokevirtual 356, 3), (30, .iadd, 1), (31, .istore_n 1, 1), (32, .iinc 2 1, 3), (35, .goto (-26), 3), (38, .iload_n 1, 1), (39, .i2f, 1), (40, .aload_n 0, 1), (41, .getfield 7, 3), (44, .bipush 8, 2), (46, .iaload, 1), (47, .i2f, 1), (48, .fdiv, 1), (49, .freturn, 1)]
theorem D263_1 : RW263_1.all (xDr prog_9_method_78_code) = true := eAll 23 (by decide +kernel)
def d_263 : xDt := (⟨"IsingLabModel", "bondMean", "()F"⟩, prog_9_method_78_code, 3, (some FieldType.float), 3, [])
def RW264_0 : List (Nat × Instr × Nat) := [(0, .aload_n 0, 1), (1, .iconst 0, 1), (2, .putfield 126, 3), (5, .aload_n 0, 1), (6, .getfield 7, 3), (9, .bipush 6, 2), (11, .iaload, 1), (12, .ifCond .ne 7, 3), (15, .fconst 0, 1), (16, .goto 20, 3), (19, .aload_n 0, 1), (20, .getfield 7, 3), (23, .bipush 7, 2), (25, .iaload, 1), (26, .i2f, 1), (27, .aload_n 0, 1)]
theorem D264_0 : RW264_0.all (xDr prog_9_method_79_code) = true := eAll 0 (by decide +kernel)
def RW264_1 : List (Nat × Instr × Nat) := [(28, .getfield 7, 3), (31, .bipush 6, 2), (33, .iaload, 1), (34, .i2f, 1), (35, .fdiv, 1), (36, .freturn, 1)]
theorem D264_1 : RW264_1.all (xDr prog_9_method_79_code) = true := eAll 28 (by decide +kernel)
def d_264 : xDt := (⟨"IsingLabModel", "accepted", "()F"⟩, prog_9_method_79_code, 1, (some FieldType.float), 1, [])
def RW265_0 : List (Nat × Instr × Nat) := [(0, .aload_n 0, 1), (1, .iload_n 1, 1), (2, .invokevirtual 401, 3), (5, .ifCond .eq 5, 3), (8, .dconst 0, 1), (9, .dreturn, 1), (10, .aload_n 0, 1), (11, .aload_n 0, 1), (12, .getfield 165, 3), (15, .iload_n 1, 1), (16, .invokevirtual 370, 3), (19, .istore_n 2, 1), (20, .iload_n 2, 1), (21, .ifCond .le 13, 3), (24, .aload_n 0, 1), (25, .getfield 7, 3)]
theorem D265_0 : RW265_0.all (xDr prog_9_method_80_code) = true := eAll 0 (by decide +kernel)
def RW265_1 : List (Nat × Instr × Nat) := [(28, .iconst 5, 1), (29, .iaload, 1), (30, .iconst 2, 1), (31, .if_icmp .ne 5, 3), (34, .dconst 1, 1), (35, .dreturn, 1), (36, .aload_n 0, 1), (37, .getfield 7, 3), (40, .iconst 5, 1), (41, .iaload, 1), (42, .iconst 1, 1), (43, .if_icmp .ne 7, 3), (46, .dconst 0, 1), (47, .goto 19, 3), (50, .iload_n 2, 1), (51, .aload_n 0, 1)]
theorem D265_1 : RW265_1.all (xDr prog_9_method_80_code) = true := eAll 28 (by decide +kernel)
def RW265_2 : List (Nat × Instr × Nat) := [(52, .getfield 7, 3), (55, .iconst 2, 1), (56, .iaload, 1), (57, .aload_n 0, 1), (58, .getfield 7, 3), (61, .iconst 3, 1), (62, .iaload, 1), (63, .invokestatic 411, 3), (66, .dreturn, 1)]
theorem D265_2 : RW265_2.all (xDr prog_9_method_80_code) = true := eAll 52 (by decide +kernel)
def d_265 : xDt := (⟨"IsingLabModel", "chance", "(I)D"⟩, prog_9_method_80_code, 3, (some FieldType.double), 4, [])
def RW266_0 : List (Nat × Instr × Nat) := [(0, .dconst 1, 1), (1, .dstore_n 3, 1), (2, .iconst 0, 1), (3, .istore 5, 2), (5, .iload 5, 2), (7, .iload_n 0, 1), (8, .if_icmp .ge 17, 3), (11, .dload_n 3, 1), (12, .iload_n 1, 1), (13, .i2d, 1), (14, .iload_n 2, 1), (15, .i2d, 1), (16, .ddiv, 1), (17, .dmul, 1), (18, .dstore_n 3, 1), (19, .iinc 5 1, 3)]
theorem D266_0 : RW266_0.all (xDr prog_9_method_123_code) = true := eAll 0 (by decide +kernel)
def RW266_1 : List (Nat × Instr × Nat) := [(22, .goto (-17), 3), (25, .dload_n 3, 1), (26, .dreturn, 1)]
theorem D266_1 : RW266_1.all (xDr prog_9_method_123_code) = true := eAll 22 (by decide +kernel)
def d_266 : xDt := (⟨"IsingLabModel", "weight", "(III)D"⟩, prog_9_method_123_code, 6, (some FieldType.double), 1, [])
def RW267_0 : List (Nat × Instr × Nat) := [(0, .aload_n 0, 1), (1, .iconst 0, 1), (2, .putfield 126, 3), (5, .aload_n 0, 1), (6, .aload_n 0, 1), (7, .lload_n 1, 1), (8, .invokevirtual 404, 3), (11, .iconst 1, 1), (12, .invokevirtual 379, 3), (15, .ifCond .eq 5, 3), (18, .iconst 0, 1), (19, .ireturn, 1), (20, .aload_n 0, 1), (21, .lload_n 1, 1), (22, .invokevirtual 415, 3), (25, .aload_n 0, 1)]
theorem D267_0 : RW267_0.all (xDr prog_9_method_81_code) = true := eAll 0 (by decide +kernel)
def RW267_1 : List (Nat × Instr × Nat) := [(26, .getfield 419, 3), (29, .ireturn, 1)]
theorem D267_1 : RW267_1.all (xDr prog_9_method_81_code) = true := eAll 26 (by decide +kernel)
def d_267 : xDt := (⟨"IsingLabModel", "descent", "(J)I"⟩, prog_9_method_81_code, 3, (some FieldType.int), 5, [])
def RW268_0 : List (Nat × Instr × Nat) := [(0, .aload_n 0, 1), (1, .iconst 0, 1), (2, .putfield 419, 3), (5, .aload_n 0, 1), (6, .lload_n 1, 1), (7, .putfield 422, 3), (10, .iconst (-1), 1), (11, .istore_n 3, 1), (12, .iconst 0, 1), (13, .istore 4, 2), (15, .iconst 0, 1), (16, .istore 5, 2), (18, .iload 5, 2), (20, .aload_n 0, 1), (21, .getfield 7, 3), (24, .bipush 10, 2)]
theorem D268_0 : RW268_0.all (xDr prog_9_method_83_code) = true := eAll 0 (by decide +kernel)
def RW268_1 : List (Nat × Instr × Nat) := [(26, .iaload, 1), (27, .if_icmp .ge 38, 3), (30, .aload_n 0, 1), (31, .aload_n 0, 1), (32, .getfield 422, 3), (35, .iload 5, 2), (37, .invokevirtual 370, 3), (40, .istore 6, 2), (42, .iload 6, 2), (44, .iload 4, 2), (46, .if_icmp .lt 6, 3), (49, .goto 10, 3), (52, .iload 5, 2), (54, .istore_n 3, 1), (55, .iload 6, 2), (57, .istore 4, 2)]
theorem D268_1 : RW268_1.all (xDr prog_9_method_83_code) = true := eAll 26 (by decide +kernel)
def RW268_2 : List (Nat × Instr × Nat) := [(59, .iinc 5 1, 3), (62, .goto (-44), 3), (65, .iload_n 3, 1), (66, .iconst (-1), 1), (67, .if_icmp .ne 4, 3), (70, .return_, 1), (71, .aload_n 0, 1), (72, .dup, 1), (73, .getfield 422, 3), (76, .lconst 1, 1), (77, .iload_n 3, 1), (78, .lshl, 1), (79, .lxor, 1), (80, .putfield 422, 3), (83, .aload_n 0, 1), (84, .dup, 1)]
theorem D268_2 : RW268_2.all (xDr prog_9_method_83_code) = true := eAll 59 (by decide +kernel)
def RW268_3 : List (Nat × Instr × Nat) := [(85, .getfield 419, 3), (88, .iconst 1, 1), (89, .iadd, 1), (90, .putfield 419, 3), (93, .goto (-83), 3)]
theorem D268_3 : RW268_3.all (xDr prog_9_method_83_code) = true := eAll 85 (by decide +kernel)
def d_268 : xDt := (⟨"IsingLabModel", "descends", "(J)V"⟩, prog_9_method_83_code, 7, none, 4, [])
def RW269_0 : List (Nat × Instr × Nat) := [(0, .aload_n 0, 1), (1, .iconst 0, 1), (2, .putfield 126, 3), (5, .aload_n 0, 1), (6, .aload_n 0, 1), (7, .lload_n 1, 1), (8, .invokevirtual 404, 3), (11, .iconst 1, 1), (12, .invokevirtual 379, 3), (15, .ifCond .eq 5, 3), (18, .lconst 0, 1), (19, .lreturn, 1), (20, .aload_n 0, 1), (21, .lload_n 1, 1), (22, .invokevirtual 415, 3), (25, .aload_n 0, 1)]
theorem D269_0 : RW269_0.all (xDr prog_9_method_82_code) = true := eAll 0 (by decide +kernel)
def RW269_1 : List (Nat × Instr × Nat) := [(26, .getfield 422, 3), (29, .lreturn, 1)]
theorem D269_1 : RW269_1.all (xDr prog_9_method_82_code) = true := eAll 26 (by decide +kernel)
def d_269 : xDt := (⟨"IsingLabModel", "descentEnd", "(J)J"⟩, prog_9_method_82_code, 3, (some FieldType.long), 5, [])
def RW270_0 : List (Nat × Instr × Nat) := [(0, .aload_n 0, 1), (1, .iload_n 1, 1), (2, .invokevirtual 401, 3), (5, .ifCond .ne 15, 3), (8, .aload_n 0, 1), (9, .iload_n 1, 1), (10, .invokevirtual 376, 3), (13, .ifCond .eq 7, 3), (16, .iconst 1, 1), (17, .goto 4, 3), (20, .iconst 0, 1), (21, .ireturn, 1)]
theorem D270_0 : RW270_0.all (xDr prog_9_method_84_code) = true := eAll 0 (by decide +kernel)
def d_270 : xDt := (⟨"IsingLabModel", "attempt", "(I)Z"⟩, prog_9_method_84_code, 2, (some FieldType.boolean), 5, [])
def RW271_0 : List (Nat × Instr × Nat) := [(0, .aload_n 0, 1), (1, .aload_n 0, 1), (2, .getfield 165, 3), (5, .iload_n 1, 1), (6, .invokevirtual 370, 3), (9, .istore_n 2, 1), (10, .aload_n 0, 1), (11, .getfield 7, 3), (14, .bipush 6, 2), (16, .dup2, 1), (17, .iaload, 1), (18, .iconst 1, 1), (19, .iadd, 1), (20, .iastore, 1), (21, .aload_n 0, 1), (22, .getfield 7, 3)]
theorem D271_0 : RW271_0.all (xDr prog_9_method_52_code) = true := eAll 0 (by decide +kernel)
def RW271_1 : List (Nat × Instr × Nat) := [(25, .iconst 5, 1), (26, .iaload, 1), (27, .iconst 2, 1), (28, .if_icmp .eq 24, 3), (31, .iload_n 2, 1), (32, .ifCond .le 20, 3), (35, .aload_n 0, 1), (36, .getfield 7, 3), (39, .iconst 5, 1), (40, .iaload, 1), (41, .ifCond .ne 15, 3), (44, .aload_n 0, 1), (45, .iload_n 2, 1), (46, .invokevirtual 373, 3), (49, .ifCond .eq 7, 3), (52, .iconst 1, 1)]
theorem D271_1 : RW271_1.all (xDr prog_9_method_52_code) = true := eAll 25 (by decide +kernel)
def RW271_2 : List (Nat × Instr × Nat) := [(53, .goto 4, 3), (56, .iconst 0, 1), (57, .istore_n 3, 1), (58, .iload_n 3, 1), (59, .ifCond .ne 5, 3), (62, .iconst 0, 1), (63, .ireturn, 1), (64, .aload_n 0, 1), (65, .getfield 7, 3), (68, .bipush 7, 2), (70, .dup2, 1), (71, .iaload, 1), (72, .iconst 1, 1), (73, .iadd, 1), (74, .iastore, 1), (75, .aload_n 0, 1)]
theorem D271_2 : RW271_2.all (xDr prog_9_method_52_code) = true := eAll 53 (by decide +kernel)
def RW271_3 : List (Nat × Instr × Nat) := [(76, .dup, 1), (77, .getfield 165, 3), (80, .lconst 1, 1), (81, .iload_n 1, 1), (82, .lshl, 1), (83, .lxor, 1), (84, .putfield 165, 3), (87, .iconst 1, 1), (88, .ireturn, 1)]
theorem D271_3 : RW271_3.all (xDr prog_9_method_52_code) = true := eAll 76 (by decide +kernel)
def d_271 : xDt := (⟨"IsingLabModel", "tries", "(I)Z"⟩, prog_9_method_52_code, 4, (some FieldType.boolean), 4, [])
def RW272_0 : List (Nat × Instr × Nat) := [(0, .iconst 0, 1), (1, .istore_n 2, 1), (2, .iload_n 2, 1), (3, .iload_n 1, 1), (4, .if_icmp .ge 30, 3), (7, .aload_n 0, 1), (8, .aload_n 0, 1), (9, .getfield 7, 3), (12, .iconst 3, 1), (13, .iaload, 1), (14, .invokevirtual 367, 3), (17, .aload_n 0, 1), (18, .getfield 7, 3), (21, .iconst 2, 1), (22, .iaload, 1), (23, .if_icmp .lt 5, 3)]
theorem D272_0 : RW272_0.all (xDr prog_9_method_51_code) = true := eAll 0 (by decide +kernel)
def RW272_1 : List (Nat × Instr × Nat) := [(26, .iconst 0, 1), (27, .ireturn, 1), (28, .iinc 2 1, 3), (31, .goto (-29), 3), (34, .iconst 1, 1), (35, .ireturn, 1)]
theorem D272_1 : RW272_1.all (xDr prog_9_method_51_code) = true := eAll 26 (by decide +kernel)
def d_272 : xDt := (⟨"IsingLabModel", "passes", "(I)Z"⟩, prog_9_method_51_code, 3, (some FieldType.boolean), 2, [])
def RW273_0 : List (Nat × Instr × Nat) := [(0, .aload_n 0, 1), (1, .aload_n 0, 1), (2, .getfield 157, 3), (5, .ldc2_w 359, 3), (8, .lmul, 1), (9, .ldc2_w 361, 3), (12, .ladd, 1), (13, .ldc2_w 363, 3), (16, .lrem, 1), (17, .putfield 157, 3), (20, .aload_n 0, 1), (21, .getfield 157, 3), (24, .ldc2_w 365, 3), (27, .ldiv, 1), (28, .iload_n 1, 1), (29, .i2l, 1)]
theorem D273_0 : RW273_0.all (xDr prog_9_method_50_code) = true := eAll 0 (by decide +kernel)
def RW273_1 : List (Nat × Instr × Nat) := [(30, .lrem, 1), (31, .l2i, 1), (32, .ireturn, 1)]
theorem D273_1 : RW273_1.all (xDr prog_9_method_50_code) = true := eAll 30 (by decide +kernel)
def d_273 : xDt := (⟨"IsingLabModel", "draw", "(I)I"⟩, prog_9_method_50_code, 2, (some FieldType.int), 1, [])
def RW274_0 : List (Nat × Instr × Nat) := [(0, .aload_n 0, 1), (1, .iconst 0, 1), (2, .putfield 126, 3), (5, .aload_n 0, 1), (6, .iload_n 1, 1), (7, .i2l, 1), (8, .lconst 1, 1), (9, .ldc2_w 425, 3), (12, .invokestatic 179, 3), (15, .ifCond .ne 7, 3), (18, .iconst 1, 1), (19, .goto 4, 3), (22, .iconst 0, 1), (23, .iconst 1, 1), (24, .invokevirtual 379, 3), (27, .ifCond .eq 5, 3)]
theorem D274_0 : RW274_0.all (xDr prog_9_method_85_code) = true := eAll 0 (by decide +kernel)
def RW274_1 : List (Nat × Instr × Nat) := [(30, .iconst 0, 1), (31, .ireturn, 1), (32, .iconst 0, 1), (33, .istore_n 2, 1), (34, .iconst 0, 1), (35, .istore_n 3, 1), (36, .iload_n 3, 1), (37, .iload_n 1, 1), (38, .if_icmp .ge 35, 3), (41, .iload_n 2, 1), (42, .aload_n 0, 1), (43, .aload_n 0, 1), (44, .aload_n 0, 1), (45, .getfield 7, 3), (48, .bipush 10, 2), (50, .iaload, 1)]
theorem D274_1 : RW274_1.all (xDr prog_9_method_85_code) = true := eAll 30 (by decide +kernel)
def RW274_2 : List (Nat × Instr × Nat) := [(51, .invokevirtual 367, 3), (54, .invokevirtual 376, 3), (57, .ifCond .eq 7, 3), (60, .iconst 1, 1), (61, .goto 4, 3), (64, .iconst 0, 1), (65, .iadd, 1), (66, .istore_n 2, 1), (67, .iinc 3 1, 3), (70, .goto (-34), 3), (73, .iload_n 2, 1), (74, .ireturn, 1)]
theorem D274_2 : RW274_2.all (xDr prog_9_method_85_code) = true := eAll 51 (by decide +kernel)
def d_274 : xDt := (⟨"IsingLabModel", "steps", "(I)I"⟩, prog_9_method_85_code, 4, (some FieldType.int), 5, [])
def RW275_0 : List (Nat × Instr × Nat) := [(0, .aload_n 0, 1), (1, .iconst 0, 1), (2, .putfield 126, 3), (5, .aload_n 0, 1), (6, .iload_n 1, 1), (7, .i2l, 1), (8, .lconst 1, 1), (9, .ldc2_w 427, 3), (12, .invokestatic 179, 3), (15, .ifCond .ne 7, 3), (18, .iconst 1, 1), (19, .goto 4, 3), (22, .iconst 0, 1), (23, .iconst 1, 1), (24, .invokevirtual 379, 3), (27, .ifCond .eq 5, 3)]
theorem D275_0 : RW275_0.all (xDr prog_9_method_86_code) = true := eAll 0 (by decide +kernel)
def RW275_1 : List (Nat × Instr × Nat) := [(30, .iconst 0, 1), (31, .ireturn, 1), (32, .iconst 0, 1), (33, .istore_n 2, 1), (34, .iconst 0, 1), (35, .istore_n 3, 1), (36, .iload_n 3, 1), (37, .iload_n 1, 1), (38, .if_icmp .ge 16, 3), (41, .iload_n 2, 1), (42, .aload_n 0, 1), (43, .invokevirtual 429, 3), (46, .iadd, 1), (47, .istore_n 2, 1), (48, .iinc 3 1, 3), (51, .goto (-15), 3)]
theorem D275_1 : RW275_1.all (xDr prog_9_method_86_code) = true := eAll 30 (by decide +kernel)
def RW275_2 : List (Nat × Instr × Nat) := [(54, .iload_n 2, 1), (55, .ireturn, 1)]
theorem D275_2 : RW275_2.all (xDr prog_9_method_86_code) = true := eAll 54 (by decide +kernel)
def d_275 : xDt := (⟨"IsingLabModel", "sweep", "(I)I"⟩, prog_9_method_86_code, 4, (some FieldType.int), 6, [])
def RW276_0 : List (Nat × Instr × Nat) := [(0, .iconst 0, 1), (1, .istore_n 1, 1), (2, .iconst 0, 1), (3, .istore_n 2, 1), (4, .iload_n 2, 1), (5, .aload_n 0, 1), (6, .getfield 7, 3), (9, .bipush 10, 2), (11, .iaload, 1), (12, .if_icmp .ge 25, 3), (15, .iload_n 1, 1), (16, .aload_n 0, 1), (17, .iload_n 2, 1), (18, .invokevirtual 376, 3), (21, .ifCond .eq 7, 3), (24, .iconst 1, 1)]
theorem D276_0 : RW276_0.all (xDr prog_9_method_53_code) = true := eAll 0 (by decide +kernel)
def RW276_1 : List (Nat × Instr × Nat) := [(25, .goto 4, 3), (28, .iconst 0, 1), (29, .iadd, 1), (30, .istore_n 1, 1), (31, .iinc 2 1, 3), (34, .goto (-30), 3), (37, .iload_n 1, 1), (38, .ireturn, 1)]
theorem D276_1 : RW276_1.all (xDr prog_9_method_53_code) = true := eAll 25 (by decide +kernel)
def d_276 : xDt := (⟨"IsingLabModel", "sweepNow", "()I"⟩, prog_9_method_53_code, 3, (some FieldType.int), 5, [])
def RW277_0 : List (Nat × Instr × Nat) := [(0, .aload_n 0, 1), (1, .iload_n 1, 1), (2, .invokevirtual 401, 3), (5, .ifCond .ne 15, 3), (8, .aload_n 0, 1), (9, .aload_n 0, 1), (10, .invokevirtual 432, 3), (13, .iconst 2, 1), (14, .invokevirtual 379, 3), (17, .ifCond .eq 5, 3), (20, .iconst 0, 1), (21, .ireturn, 1), (22, .lconst 1, 1), (23, .iload_n 1, 1), (24, .lshl, 1), (25, .lstore_n 2, 1)]
theorem D277_0 : RW277_0.all (xDr prog_9_method_88_code) = true := eAll 0 (by decide +kernel)
def RW277_1 : List (Nat × Instr × Nat) := [(26, .iconst 1, 1), (27, .istore 4, 2), (29, .aload_n 0, 1), (30, .getfield 63, 3), (33, .iconst 0, 1), (34, .iload_n 1, 1), (35, .iastore, 1), (36, .iconst 0, 1), (37, .istore 5, 2), (39, .iload 5, 2), (41, .iload 4, 2), (43, .if_icmp .ge 137, 3), (46, .aload_n 0, 1), (47, .getfield 63, 3), (50, .iload 5, 2), (52, .iaload, 1)]
theorem D277_1 : RW277_1.all (xDr prog_9_method_88_code) = true := eAll 26 (by decide +kernel)
def RW277_2 : List (Nat × Instr × Nat) := [(53, .istore 6, 2), (55, .iconst 0, 1), (56, .istore 7, 2), (58, .iload 7, 2), (60, .aload_n 0, 1), (61, .getfield 7, 3), (64, .bipush 8, 2), (66, .iaload, 1), (67, .if_icmp .ge 107, 3), (70, .aload_n 0, 1), (71, .getfield 38, 3), (74, .iload 7, 2), (76, .iaload, 1), (77, .iload 6, 2), (79, .if_icmp .eq 18, 3), (82, .aload_n 0, 1)]
theorem D277_2 : RW277_2.all (xDr prog_9_method_88_code) = true := eAll 53 (by decide +kernel)
def RW277_3 : List (Nat × Instr × Nat) := [(83, .getfield 41, 3), (86, .iload 7, 2), (88, .iaload, 1), (89, .iload 6, 2), (91, .if_icmp .eq 6, 3), (94, .goto 74, 3), (97, .aload_n 0, 1), (98, .iload 7, 2), (100, .iload 6, 2), (102, .invokevirtual 435, 3), (105, .istore 8, 2), (107, .lload_n 2, 1), (108, .iload 8, 2), (110, .lshr, 1), (111, .lconst 1, 1), (112, .land, 1)]
theorem D277_3 : RW277_3.all (xDr prog_9_method_88_code) = true := eAll 83 (by decide +kernel)
def RW277_4 : List (Nat × Instr × Nat) := [(113, .lconst 1, 1), (114, .lcmp, 1), (115, .ifCond .eq 53, 3), (118, .aload_n 0, 1), (119, .iload 7, 2), (121, .invokevirtual 438, 3), (124, .ifCond .eq 44, 3), (127, .aload_n 0, 1), (128, .iconst 2, 1), (129, .aload_n 0, 1), (130, .getfield 7, 3), (133, .bipush 16, 2), (135, .iload 7, 2), (137, .iadd, 1), (138, .iaload, 1), (139, .imul, 1)]
theorem D277_4 : RW277_4.all (xDr prog_9_method_88_code) = true := eAll 113 (by decide +kernel)
def RW277_5 : List (Nat × Instr × Nat) := [(140, .invokevirtual 373, 3), (143, .ifCond .eq 6, 3), (146, .goto 22, 3), (149, .lload_n 2, 1), (150, .lconst 1, 1), (151, .iload 8, 2), (153, .lshl, 1), (154, .lor, 1), (155, .lstore_n 2, 1), (156, .aload_n 0, 1), (157, .getfield 63, 3), (160, .iload 4, 2), (162, .iload 8, 2), (164, .iastore, 1), (165, .iinc 4 1, 3), (168, .iinc 7 1, 3)]
theorem D277_5 : RW277_5.all (xDr prog_9_method_88_code) = true := eAll 140 (by decide +kernel)
def RW277_6 : List (Nat × Instr × Nat) := [(171, .goto (-113), 3), (174, .iinc 5 1, 3), (177, .goto (-138), 3), (180, .aload_n 0, 1), (181, .dup, 1), (182, .getfield 165, 3), (185, .lload_n 2, 1), (186, .lxor, 1), (187, .putfield 165, 3), (190, .iload 4, 2), (192, .ireturn, 1)]
theorem D277_6 : RW277_6.all (xDr prog_9_method_88_code) = true := eAll 171 (by decide +kernel)
def d_277 : xDt := (⟨"IsingLabModel", "cluster", "(I)I"⟩, prog_9_method_88_code, 9, (some FieldType.int), 3, [])
def RW278_0 : List (Nat × Instr × Nat) := [(0, .iconst 0, 1), (1, .istore_n 1, 1), (2, .iload_n 1, 1), (3, .aload_n 0, 1), (4, .getfield 7, 3), (7, .bipush 8, 2), (9, .iaload, 1), (10, .if_icmp .ge 23, 3), (13, .aload_n 0, 1), (14, .getfield 7, 3), (17, .bipush 16, 2), (19, .iload_n 1, 1), (20, .iadd, 1), (21, .iaload, 1), (22, .ifCond .ge 5, 3), (25, .iconst 1, 1)]
theorem D278_0 : RW278_0.all (xDr prog_9_method_87_code) = true := eAll 0 (by decide +kernel)
def RW278_1 : List (Nat × Instr × Nat) := [(26, .ireturn, 1), (27, .iinc 1 1, 3), (30, .goto (-28), 3), (33, .aload_n 0, 1), (34, .getfield 7, 3), (37, .iconst 4, 1), (38, .iaload, 1), (39, .ifCond .eq 7, 3), (42, .iconst 1, 1), (43, .goto 4, 3), (46, .iconst 0, 1), (47, .ireturn, 1)]
theorem D278_1 : RW278_1.all (xDr prog_9_method_87_code) = true := eAll 26 (by decide +kernel)
def d_278 : xDt := (⟨"IsingLabModel", "isMixed", "()Z"⟩, prog_9_method_87_code, 2, (some FieldType.boolean), 1, [])
def RW279_0 : List (Nat × Instr × Nat) := [(0, .aload_n 0, 1), (1, .getfield 38, 3), (4, .iload_n 1, 1), (5, .iaload, 1), (6, .iload_n 2, 1), (7, .if_icmp .ne 12, 3), (10, .aload_n 0, 1), (11, .getfield 41, 3), (14, .iload_n 1, 1), (15, .iaload, 1), (16, .goto 9, 3), (19, .aload_n 0, 1), (20, .getfield 38, 3), (23, .iload_n 1, 1), (24, .iaload, 1), (25, .ireturn, 1)]
theorem D279_0 : RW279_0.all (xDr prog_9_method_48_code) = true := eAll 0 (by decide +kernel)
def d_279 : xDt := (⟨"IsingLabModel", "other", "(II)I"⟩, prog_9_method_48_code, 3, (some FieldType.int), 1, [])
def RW280_0 : List (Nat × Instr × Nat) := [(0, .aload_n 0, 1), (1, .getfield 165, 3), (4, .aload_n 0, 1), (5, .getfield 38, 3), (8, .iload_n 1, 1), (9, .iaload, 1), (10, .invokestatic 348, 3), (13, .aload_n 0, 1), (14, .getfield 165, 3), (17, .aload_n 0, 1), (18, .getfield 41, 3), (21, .iload_n 1, 1), (22, .iaload, 1), (23, .invokestatic 348, 3), (26, .if_icmp .ne 7, 3), (29, .iconst 1, 1)]
theorem D280_0 : RW280_0.all (xDr prog_9_method_49_code) = true := eAll 0 (by decide +kernel)
def RW280_1 : List (Nat × Instr × Nat) := [(30, .goto 4, 3), (33, .iconst 0, 1), (34, .ireturn, 1)]
theorem D280_1 : RW280_1.all (xDr prog_9_method_49_code) = true := eAll 30 (by decide +kernel)
def d_280 : xDt := (⟨"IsingLabModel", "areAlike", "(I)Z"⟩, prog_9_method_49_code, 2, (some FieldType.boolean), 2, [])
def RW281_0 : List (Nat × Instr × Nat) := [(0, .aload_n 0, 1), (1, .iconst 0, 1), (2, .putfield 126, 3), (5, .aload_n 0, 1), (6, .aload_n 0, 1), (7, .invokevirtual 432, 3), (10, .iconst 1, 1), (11, .invokevirtual 379, 3), (14, .ifCond .eq 5, 3), (17, .iconst 0, 1), (18, .ireturn, 1), (19, .aload_n 0, 1), (20, .invokevirtual 449, 3), (23, .iconst 0, 1), (24, .istore_n 1, 1), (25, .iload_n 1, 1)]
theorem D281_0 : RW281_0.all (xDr prog_9_method_93_code) = true := eAll 0 (by decide +kernel)
def RW281_1 : List (Nat × Instr × Nat) := [(26, .aload_n 0, 1), (27, .getfield 7, 3), (30, .bipush 8, 2), (32, .iaload, 1), (33, .if_icmp .ge 51, 3), (36, .aload_n 0, 1), (37, .iload_n 1, 1), (38, .invokevirtual 438, 3), (41, .ifCond .eq 37, 3), (44, .aload_n 0, 1), (45, .iconst 2, 1), (46, .aload_n 0, 1), (47, .getfield 7, 3), (50, .bipush 16, 2), (52, .iload_n 1, 1), (53, .iadd, 1)]
theorem D281_1 : RW281_1.all (xDr prog_9_method_93_code) = true := eAll 26 (by decide +kernel)
def RW281_2 : List (Nat × Instr × Nat) := [(54, .iaload, 1), (55, .imul, 1), (56, .invokevirtual 373, 3), (59, .ifCond .ne 19, 3), (62, .aload_n 0, 1), (63, .aload_n 0, 1), (64, .getfield 38, 3), (67, .iload_n 1, 1), (68, .iaload, 1), (69, .aload_n 0, 1), (70, .getfield 41, 3), (73, .iload_n 1, 1), (74, .iaload, 1), (75, .invokevirtual 452, 3), (78, .iinc 1 1, 3), (81, .goto (-56), 3)]
theorem D281_2 : RW281_2.all (xDr prog_9_method_93_code) = true := eAll 54 (by decide +kernel)
def RW281_3 : List (Nat × Instr × Nat) := [(84, .iconst 0, 1), (85, .istore_n 1, 1), (86, .iload_n 1, 1), (87, .aload_n 0, 1), (88, .getfield 7, 3), (91, .bipush 10, 2), (93, .iaload, 1), (94, .if_icmp .ge 72, 3), (97, .aload_n 0, 1), (98, .getfield 66, 3), (101, .iload_n 1, 1), (102, .iaload, 1), (103, .iload_n 1, 1), (104, .if_icmp .ne 56, 3), (107, .aload_n 0, 1), (108, .iconst 2, 1)]
theorem D281_3 : RW281_3.all (xDr prog_9_method_93_code) = true := eAll 84 (by decide +kernel)
def RW281_4 : List (Nat × Instr × Nat) := [(109, .invokevirtual 367, 3), (112, .iconst 1, 1), (113, .if_icmp .eq 6, 3), (116, .goto 44, 3), (119, .iconst 0, 1), (120, .istore_n 2, 1), (121, .iload_n 2, 1), (122, .aload_n 0, 1), (123, .getfield 7, 3), (126, .bipush 10, 2), (128, .iaload, 1), (129, .if_icmp .ge 31, 3), (132, .aload_n 0, 1), (133, .getfield 66, 3), (136, .iload_n 2, 1), (137, .iaload, 1)]
theorem D281_4 : RW281_4.all (xDr prog_9_method_93_code) = true := eAll 109 (by decide +kernel)
def RW281_5 : List (Nat × Instr × Nat) := [(138, .iload_n 1, 1), (139, .if_icmp .ne 15, 3), (142, .aload_n 0, 1), (143, .dup, 1), (144, .getfield 165, 3), (147, .lconst 1, 1), (148, .iload_n 2, 1), (149, .lshl, 1), (150, .lxor, 1), (151, .putfield 165, 3), (154, .iinc 2 1, 3), (157, .goto (-36), 3), (160, .iinc 1 1, 3), (163, .goto (-77), 3), (166, .aload_n 0, 1), (167, .invokevirtual 455, 3)]
theorem D281_5 : RW281_5.all (xDr prog_9_method_93_code) = true := eAll 138 (by decide +kernel)
def RW281_6 : List (Nat × Instr × Nat) := [(170, .ireturn, 1)]
theorem D281_6 : RW281_6.all (xDr prog_9_method_93_code) = true := eAll 170 (by decide +kernel)
def d_281 : xDt := (⟨"IsingLabModel", "allClusters", "()I"⟩, prog_9_method_93_code, 3, (some FieldType.int), 3, [])
def RW282_0 : List (Nat × Instr × Nat) := [(0, .iconst 0, 1), (1, .istore_n 1, 1), (2, .iload_n 1, 1), (3, .aload_n 0, 1), (4, .getfield 7, 3), (7, .bipush 10, 2), (9, .iaload, 1), (10, .if_icmp .ge 16, 3), (13, .aload_n 0, 1), (14, .getfield 66, 3), (17, .iload_n 1, 1), (18, .iload_n 1, 1), (19, .iastore, 1), (20, .iinc 1 1, 3), (23, .goto (-21), 3), (26, .return_, 1)]
theorem D282_0 : RW282_0.all (xDr prog_9_method_90_code) = true := eAll 0 (by decide +kernel)
def d_282 : xDt := (⟨"IsingLabModel", "parts", "()V"⟩, prog_9_method_90_code, 2, none, 1, [])
def RW283_0 : List (Nat × Instr × Nat) := [(0, .aload_n 0, 1), (1, .getfield 66, 3), (4, .iload_n 1, 1), (5, .iaload, 1), (6, .aload_n 0, 1), (7, .getfield 66, 3), (10, .iload_n 2, 1), (11, .iaload, 1), (12, .invokestatic 441, 3), (15, .istore_n 3, 1), (16, .aload_n 0, 1), (17, .getfield 66, 3), (20, .iload_n 1, 1), (21, .iaload, 1), (22, .aload_n 0, 1), (23, .getfield 66, 3)]
theorem D283_0 : RW283_0.all (xDr prog_9_method_89_code) = true := eAll 0 (by decide +kernel)
def RW283_1 : List (Nat × Instr × Nat) := [(26, .iload_n 2, 1), (27, .iaload, 1), (28, .invokestatic 446, 3), (31, .istore 4, 2), (33, .iconst 0, 1), (34, .istore 5, 2), (36, .iload 5, 2), (38, .aload_n 0, 1), (39, .getfield 7, 3), (42, .bipush 10, 2), (44, .iaload, 1), (45, .if_icmp .ge 29, 3), (48, .aload_n 0, 1), (49, .getfield 66, 3), (52, .iload 5, 2), (54, .iaload, 1)]
theorem D283_1 : RW283_1.all (xDr prog_9_method_89_code) = true := eAll 26 (by decide +kernel)
def RW283_2 : List (Nat × Instr × Nat) := [(55, .iload 4, 2), (57, .if_icmp .ne 11, 3), (60, .aload_n 0, 1), (61, .getfield 66, 3), (64, .iload 5, 2), (66, .iload_n 3, 1), (67, .iastore, 1), (68, .iinc 5 1, 3), (71, .goto (-35), 3), (74, .return_, 1)]
theorem D283_2 : RW283_2.all (xDr prog_9_method_89_code) = true := eAll 55 (by decide +kernel)
def d_283 : xDt := (⟨"IsingLabModel", "joins", "(II)V"⟩, prog_9_method_89_code, 6, none, 2, [])
def RW284_0 : List (Nat × Instr × Nat) := [(0, .iconst 0, 1), (1, .istore_n 1, 1), (2, .iconst 0, 1), (3, .istore_n 2, 1), (4, .iload_n 2, 1), (5, .aload_n 0, 1), (6, .getfield 7, 3), (9, .bipush 10, 2), (11, .iaload, 1), (12, .if_icmp .ge 27, 3), (15, .iload_n 1, 1), (16, .aload_n 0, 1), (17, .getfield 66, 3), (20, .iload_n 2, 1), (21, .iaload, 1), (22, .iload_n 2, 1)]
theorem D284_0 : RW284_0.all (xDr prog_9_method_91_code) = true := eAll 0 (by decide +kernel)
def RW284_1 : List (Nat × Instr × Nat) := [(23, .if_icmp .ne 7, 3), (26, .iconst 1, 1), (27, .goto 4, 3), (30, .iconst 0, 1), (31, .iadd, 1), (32, .istore_n 1, 1), (33, .iinc 2 1, 3), (36, .goto (-32), 3), (39, .iload_n 1, 1), (40, .ireturn, 1)]
theorem D284_1 : RW284_1.all (xDr prog_9_method_91_code) = true := eAll 23 (by decide +kernel)
def d_284 : xDt := (⟨"IsingLabModel", "groups", "()I"⟩, prog_9_method_91_code, 3, (some FieldType.int), 1, [])
def RW285_0 : List (Nat × Instr × Nat) := [(0, .aload_n 0, 1), (1, .iconst 0, 1), (2, .putfield 126, 3), (5, .aload_n 0, 1), (6, .invokevirtual 458, 3), (9, .aload_n 0, 1), (10, .invokevirtual 455, 3), (13, .ireturn, 1)]
theorem D285_0 : RW285_0.all (xDr prog_9_method_95_code) = true := eAll 0 (by decide +kernel)
def d_285 : xDt := (⟨"IsingLabModel", "domains", "()I"⟩, prog_9_method_95_code, 1, (some FieldType.int), 4, [])
def RW286_0 : List (Nat × Instr × Nat) := [(0, .aload_n 0, 1), (1, .invokevirtual 449, 3), (4, .iconst 0, 1), (5, .istore_n 1, 1), (6, .iload_n 1, 1), (7, .aload_n 0, 1), (8, .getfield 7, 3), (11, .bipush 8, 2), (13, .iaload, 1), (14, .if_icmp .ge 45, 3), (17, .aload_n 0, 1), (18, .iload_n 1, 1), (19, .invokevirtual 438, 3), (22, .ifCond .eq 31, 3), (25, .aload_n 0, 1), (26, .getfield 7, 3)]
theorem D286_0 : RW286_0.all (xDr prog_9_method_94_code) = true := eAll 0 (by decide +kernel)
def RW286_1 : List (Nat × Instr × Nat) := [(29, .bipush 16, 2), (31, .iload_n 1, 1), (32, .iadd, 1), (33, .iaload, 1), (34, .ifCond .eq 19, 3), (37, .aload_n 0, 1), (38, .aload_n 0, 1), (39, .getfield 38, 3), (42, .iload_n 1, 1), (43, .iaload, 1), (44, .aload_n 0, 1), (45, .getfield 41, 3), (48, .iload_n 1, 1), (49, .iaload, 1), (50, .invokevirtual 452, 3), (53, .iinc 1 1, 3)]
theorem D286_1 : RW286_1.all (xDr prog_9_method_94_code) = true := eAll 29 (by decide +kernel)
def RW286_2 : List (Nat × Instr × Nat) := [(56, .goto (-50), 3), (59, .return_, 1)]
theorem D286_2 : RW286_2.all (xDr prog_9_method_94_code) = true := eAll 56 (by decide +kernel)
def d_286 : xDt := (⟨"IsingLabModel", "laysDomains", "()V"⟩, prog_9_method_94_code, 2, none, 3, [])
def RW287_0 : List (Nat × Instr × Nat) := [(0, .aload_n 0, 1), (1, .iload_n 1, 1), (2, .invokevirtual 401, 3), (5, .ifCond .eq 5, 3), (8, .iconst 0, 1), (9, .ireturn, 1), (10, .aload_n 0, 1), (11, .invokevirtual 458, 3), (14, .aload_n 0, 1), (15, .iload_n 1, 1), (16, .invokevirtual 461, 3), (19, .ireturn, 1)]
theorem D287_0 : RW287_0.all (xDr prog_9_method_96_code) = true := eAll 0 (by decide +kernel)
def d_287 : xDt := (⟨"IsingLabModel", "domainOf", "(I)I"⟩, prog_9_method_96_code, 2, (some FieldType.int), 4, [])
def RW288_0 : List (Nat × Instr × Nat) := [(0, .iconst 0, 1), (1, .istore_n 2, 1), (2, .iconst 0, 1), (3, .istore_n 3, 1), (4, .iload_n 3, 1), (5, .aload_n 0, 1), (6, .getfield 7, 3), (9, .bipush 10, 2), (11, .iaload, 1), (12, .if_icmp .ge 32, 3), (15, .iload_n 2, 1), (16, .aload_n 0, 1), (17, .getfield 66, 3), (20, .iload_n 3, 1), (21, .iaload, 1), (22, .aload_n 0, 1)]
theorem D288_0 : RW288_0.all (xDr prog_9_method_92_code) = true := eAll 0 (by decide +kernel)
def RW288_1 : List (Nat × Instr × Nat) := [(23, .getfield 66, 3), (26, .iload_n 1, 1), (27, .iaload, 1), (28, .if_icmp .ne 7, 3), (31, .iconst 1, 1), (32, .goto 4, 3), (35, .iconst 0, 1), (36, .iadd, 1), (37, .istore_n 2, 1), (38, .iinc 3 1, 3), (41, .goto (-37), 3), (44, .iload_n 2, 1), (45, .ireturn, 1)]
theorem D288_1 : RW288_1.all (xDr prog_9_method_92_code) = true := eAll 23 (by decide +kernel)
def d_288 : xDt := (⟨"IsingLabModel", "groupSize", "(I)I"⟩, prog_9_method_92_code, 4, (some FieldType.int), 1, [])
def RW289_0 : List (Nat × Instr × Nat) := [(0, .aload_n 0, 1), (1, .iconst 0, 1), (2, .putfield 126, 3), (5, .aload_n 0, 1), (6, .invokevirtual 458, 3), (9, .iconst 0, 1), (10, .istore_n 1, 1), (11, .iconst 0, 1), (12, .istore_n 2, 1), (13, .iload_n 2, 1), (14, .aload_n 0, 1), (15, .getfield 7, 3), (18, .bipush 10, 2), (20, .iaload, 1), (21, .if_icmp .ge 19, 3), (24, .iload_n 1, 1)]
theorem D289_0 : RW289_0.all (xDr prog_9_method_97_code) = true := eAll 0 (by decide +kernel)
def RW289_1 : List (Nat × Instr × Nat) := [(25, .aload_n 0, 1), (26, .iload_n 2, 1), (27, .invokevirtual 461, 3), (30, .invokestatic 446, 3), (33, .istore_n 1, 1), (34, .iinc 2 1, 3), (37, .goto (-24), 3), (40, .iload_n 1, 1), (41, .ireturn, 1)]
theorem D289_1 : RW289_1.all (xDr prog_9_method_97_code) = true := eAll 25 (by decide +kernel)
def d_289 : xDt := (⟨"IsingLabModel", "largestDomain", "()I"⟩, prog_9_method_97_code, 3, (some FieldType.int), 4, [])
def RW290_0 : List (Nat × Instr × Nat) := [(0, .aload_n 0, 1), (1, .iconst 0, 1), (2, .putfield 126, 3), (5, .aload_n 0, 1), (6, .aload_n 0, 1), (7, .getfield 7, 3), (10, .bipush 9, 2), (12, .iaload, 1), (13, .sipush 10000, 3), (16, .if_icmp .ne 7, 3), (19, .iconst 1, 1), (20, .goto 4, 3), (23, .iconst 0, 1), (24, .iconst 1, 1), (25, .invokevirtual 379, 3), (28, .ifCond .eq 5, 3)]
theorem D290_0 : RW290_0.all (xDr prog_9_method_99_code) = true := eAll 0 (by decide +kernel)
def RW290_1 : List (Nat × Instr × Nat) := [(31, .iconst 0, 1), (32, .ireturn, 1), (33, .aload_n 0, 1), (34, .invokevirtual 464, 3), (37, .aload_n 0, 1), (38, .getfield 7, 3), (41, .bipush 9, 2), (43, .iaload, 1), (44, .ireturn, 1)]
theorem D290_1 : RW290_1.all (xDr prog_9_method_99_code) = true := eAll 31 (by decide +kernel)
def d_290 : xDt := (⟨"IsingLabModel", "sample", "()I"⟩, prog_9_method_99_code, 1, (some FieldType.int), 5, [])
def RW291_0 : List (Nat × Instr × Nat) := [(0, .aload_n 0, 1), (1, .getfield 19, 3), (4, .aload_n 0, 1), (5, .getfield 7, 3), (8, .bipush 9, 2), (10, .iaload, 1), (11, .aload_n 0, 1), (12, .aload_n 0, 1), (13, .getfield 165, 3), (16, .invokevirtual 408, 3), (19, .iastore, 1), (20, .aload_n 0, 1), (21, .getfield 22, 3), (24, .aload_n 0, 1), (25, .getfield 7, 3), (28, .bipush 9, 2)]
theorem D291_0 : RW291_0.all (xDr prog_9_method_98_code) = true := eAll 0 (by decide +kernel)
def RW291_1 : List (Nat × Instr × Nat) := [(30, .iaload, 1), (31, .aload_n 0, 1), (32, .aload_n 0, 1), (33, .getfield 165, 3), (36, .invokevirtual 352, 3), (39, .iastore, 1), (40, .aload_n 0, 1), (41, .getfield 25, 3), (44, .aload_n 0, 1), (45, .getfield 7, 3), (48, .bipush 9, 2), (50, .iaload, 1), (51, .aload_n 0, 1), (52, .getfield 165, 3), (55, .lastore, 1), (56, .aload_n 0, 1)]
theorem D291_1 : RW291_1.all (xDr prog_9_method_98_code) = true := eAll 30 (by decide +kernel)
def RW291_2 : List (Nat × Instr × Nat) := [(57, .getfield 7, 3), (60, .bipush 9, 2), (62, .dup2, 1), (63, .iaload, 1), (64, .iconst 1, 1), (65, .iadd, 1), (66, .iastore, 1), (67, .return_, 1)]
theorem D291_2 : RW291_2.all (xDr prog_9_method_98_code) = true := eAll 57 (by decide +kernel)
def d_291 : xDt := (⟨"IsingLabModel", "samples", "()V"⟩, prog_9_method_98_code, 1, none, 4, [])
def RW292_0 : List (Nat × Instr × Nat) := [(0, .aload_n 0, 1), (1, .iconst 0, 1), (2, .putfield 126, 3), (5, .aload_n 0, 1), (6, .iload_n 1, 1), (7, .i2l, 1), (8, .lconst 1, 1), (9, .ldc2_w 467, 3), (12, .invokestatic 179, 3), (15, .ifCond .ne 7, 3), (18, .iconst 1, 1), (19, .goto 4, 3), (22, .iconst 0, 1), (23, .iconst 1, 1), (24, .invokevirtual 379, 3), (27, .ifCond .ne 31, 3)]
theorem D292_0 : RW292_0.all (xDr prog_9_method_100_code) = true := eAll 0 (by decide +kernel)
def RW292_1 : List (Nat × Instr × Nat) := [(30, .aload_n 0, 1), (31, .aload_n 0, 1), (32, .getfield 7, 3), (35, .bipush 9, 2), (37, .iaload, 1), (38, .iload_n 1, 1), (39, .iadd, 1), (40, .sipush 10000, 3), (43, .if_icmp .le 7, 3), (46, .iconst 1, 1), (47, .goto 4, 3), (50, .iconst 0, 1), (51, .iconst 2, 1), (52, .invokevirtual 379, 3), (55, .ifCond .eq 5, 3), (58, .iconst 0, 1)]
theorem D292_1 : RW292_1.all (xDr prog_9_method_100_code) = true := eAll 30 (by decide +kernel)
def RW292_2 : List (Nat × Instr × Nat) := [(59, .ireturn, 1), (60, .iconst 0, 1), (61, .istore_n 2, 1), (62, .iload_n 2, 1), (63, .iload_n 1, 1), (64, .if_icmp .ge 18, 3), (67, .aload_n 0, 1), (68, .invokevirtual 429, 3), (71, .istore_n 3, 1), (72, .aload_n 0, 1), (73, .invokevirtual 464, 3), (76, .iinc 2 1, 3), (79, .goto (-17), 3), (82, .aload_n 0, 1), (83, .getfield 7, 3), (86, .bipush 9, 2)]
theorem D292_2 : RW292_2.all (xDr prog_9_method_100_code) = true := eAll 59 (by decide +kernel)
def RW292_3 : List (Nat × Instr × Nat) := [(88, .iaload, 1), (89, .ireturn, 1)]
theorem D292_3 : RW292_3.all (xDr prog_9_method_100_code) = true := eAll 88 (by decide +kernel)
def d_292 : xDt := (⟨"IsingLabModel", "sampleSweeps", "(I)I"⟩, prog_9_method_100_code, 4, (some FieldType.int), 6, [])
def RW293_0 : List (Nat × Instr × Nat) := [(0, .aload_n 0, 1), (1, .iconst 0, 1), (2, .putfield 126, 3), (5, .aload_n 0, 1), (6, .iload_n 1, 1), (7, .i2l, 1), (8, .lconst 0, 1), (9, .ldc2_w 386, 3), (12, .invokestatic 179, 3), (15, .ifCond .ne 7, 3), (18, .iconst 1, 1), (19, .goto 4, 3), (22, .iconst 0, 1), (23, .iconst 1, 1), (24, .invokevirtual 379, 3), (27, .ifCond .eq 7, 3)]
theorem D293_0 : RW293_0.all (xDr prog_9_method_103_code) = true := eAll 0 (by decide +kernel)
def RW293_1 : List (Nat × Instr × Nat) := [(30, .dconst 0, 1), (31, .goto 8, 3), (34, .aload_n 0, 1), (35, .iload_n 1, 1), (36, .invokevirtual 477, 3), (39, .dreturn, 1)]
theorem D293_1 : RW293_1.all (xDr prog_9_method_103_code) = true := eAll 30 (by decide +kernel)
def d_293 : xDt := (⟨"IsingLabModel", "sampleMean", "(I)D"⟩, prog_9_method_103_code, 2, (some FieldType.double), 4, [])
def RW294_0 : List (Nat × Instr × Nat) := [(0, .lconst 0, 1), (1, .lstore_n 2, 1), (2, .iconst 0, 1), (3, .istore 4, 2), (5, .iload 4, 2), (7, .aload_n 0, 1), (8, .getfield 7, 3), (11, .bipush 9, 2), (13, .iaload, 1), (14, .if_icmp .ge 32, 3), (17, .lload_n 2, 1), (18, .iload_n 1, 1), (19, .aload_n 0, 1), (20, .getfield 19, 3), (23, .iload 4, 2), (25, .iaload, 1)]
theorem D294_0 : RW294_0.all (xDr prog_9_method_102_code) = true := eAll 0 (by decide +kernel)
def RW294_1 : List (Nat × Instr × Nat) := [(26, .i2l, 1), (27, .aload_n 0, 1), (28, .getfield 22, 3), (31, .iload 4, 2), (33, .iaload, 1), (34, .i2l, 1), (35, .invokestatic 473, 3), (38, .ladd, 1), (39, .lstore_n 2, 1), (40, .iinc 4 1, 3), (43, .goto (-38), 3), (46, .aload_n 0, 1), (47, .getfield 7, 3), (50, .bipush 9, 2), (52, .iaload, 1), (53, .ifCond .ne 7, 3)]
theorem D294_1 : RW294_1.all (xDr prog_9_method_102_code) = true := eAll 26 (by decide +kernel)
def RW294_2 : List (Nat × Instr × Nat) := [(56, .dconst 0, 1), (57, .goto 14, 3), (60, .lload_n 2, 1), (61, .l2d, 1), (62, .aload_n 0, 1), (63, .getfield 7, 3), (66, .bipush 9, 2), (68, .iaload, 1), (69, .i2d, 1), (70, .ddiv, 1), (71, .dreturn, 1)]
theorem D294_2 : RW294_2.all (xDr prog_9_method_102_code) = true := eAll 56 (by decide +kernel)
def d_294 : xDt := (⟨"IsingLabModel", "meanNow", "(I)D"⟩, prog_9_method_102_code, 5, (some FieldType.double), 3, [])
def RW295_0 : List (Nat × Instr × Nat) := [(0, .iload_n 0, 1), (1, .tableswitch 50 0 3 #[31, 33, 38, 42], 31), (32, .lload_n 1, 1), (33, .lreturn, 1), (34, .lload_n 3, 1), (35, .invokestatic 469, 3), (38, .lreturn, 1), (39, .lload_n 3, 1), (40, .lload_n 3, 1), (41, .lmul, 1), (42, .lreturn, 1), (43, .lload_n 3, 1), (44, .lload_n 3, 1), (45, .lmul, 1), (46, .lload_n 3, 1), (47, .lmul, 1)]
theorem D295_0 : RW295_0.all (xDr prog_9_method_101_code) = true := by decide +kernel
def RW295_1 : List (Nat × Instr × Nat) := [(48, .lload_n 3, 1), (49, .lmul, 1), (50, .lreturn, 1), (51, .lload_n 1, 1), (52, .lload_n 1, 1), (53, .lmul, 1), (54, .lreturn, 1)]
theorem D295_1 : RW295_1.all (xDr prog_9_method_101_code) = true := eAll 48 (by decide +kernel)
def d_295 : xDt := (⟨"IsingLabModel", "valueOf", "(IJJ)J"⟩, prog_9_method_101_code, 5, (some FieldType.long), 2, [])
def RW296_0 : List (Nat × Instr × Nat) := [(0, .aload_n 0, 1), (1, .iconst 0, 1), (2, .putfield 126, 3), (5, .aload_n 0, 1), (6, .getfield 7, 3), (9, .bipush 9, 2), (11, .iaload, 1), (12, .ifCond .ne 5, 3), (15, .dconst 0, 1), (16, .dreturn, 1), (17, .aload_n 0, 1), (18, .iconst 0, 1), (19, .invokevirtual 477, 3), (22, .dstore_n 1, 1), (23, .aload_n 0, 1), (24, .iconst 4, 1)]
theorem D296_0 : RW296_0.all (xDr prog_9_method_104_code) = true := eAll 0 (by decide +kernel)
def RW296_1 : List (Nat × Instr × Nat) := [(25, .invokevirtual 477, 3), (28, .dload_n 1, 1), (29, .dload_n 1, 1), (30, .dmul, 1), (31, .dsub, 1), (32, .dreturn, 1)]
theorem D296_1 : RW296_1.all (xDr prog_9_method_104_code) = true := eAll 25 (by decide +kernel)
def d_296 : xDt := (⟨"IsingLabModel", "sampleSpread", "()D"⟩, prog_9_method_104_code, 3, (some FieldType.double), 4, [])
def RW297_0 : List (Nat × Instr × Nat) := [(0, .aload_n 0, 1), (1, .iconst 0, 1), (2, .putfield 126, 3), (5, .iconst 0, 1), (6, .istore_n 2, 1), (7, .iconst 0, 1), (8, .istore_n 3, 1), (9, .iload_n 3, 1), (10, .aload_n 0, 1), (11, .getfield 7, 3), (14, .bipush 9, 2), (16, .iaload, 1), (17, .if_icmp .ge 27, 3), (20, .iload_n 2, 1), (21, .aload_n 0, 1), (22, .getfield 19, 3)]
theorem D297_0 : RW297_0.all (xDr prog_9_method_105_code) = true := eAll 0 (by decide +kernel)
def RW297_1 : List (Nat × Instr × Nat) := [(25, .iload_n 3, 1), (26, .iaload, 1), (27, .iload_n 1, 1), (28, .if_icmp .ne 7, 3), (31, .iconst 1, 1), (32, .goto 4, 3), (35, .iconst 0, 1), (36, .iadd, 1), (37, .istore_n 2, 1), (38, .iinc 3 1, 3), (41, .goto (-32), 3), (44, .iload_n 2, 1), (45, .ireturn, 1)]
theorem D297_1 : RW297_1.all (xDr prog_9_method_105_code) = true := eAll 25 (by decide +kernel)
def d_297 : xDt := (⟨"IsingLabModel", "samplesWith", "(I)I"⟩, prog_9_method_105_code, 4, (some FieldType.int), 1, [])
def RW298_0 : List (Nat × Instr × Nat) := [(0, .aload_n 0, 1), (1, .iconst 0, 1), (2, .putfield 126, 3), (5, .iconst 0, 1), (6, .istore_n 1, 1), (7, .iload_n 1, 1), (8, .ldc 69, 2), (10, .if_icmp .ge 16, 3), (13, .aload_n 0, 1), (14, .getfield 70, 3), (17, .iload_n 1, 1), (18, .iconst 0, 1), (19, .iastore, 1), (20, .iinc 1 1, 3), (23, .goto (-16), 3), (26, .iconst 0, 1)]
theorem D298_0 : RW298_0.all (xDr prog_9_method_106_code) = true := eAll 0 (by decide +kernel)
def RW298_1 : List (Nat × Instr × Nat) := [(27, .istore_n 1, 1), (28, .iconst 0, 1), (29, .istore_n 2, 1), (30, .iload_n 2, 1), (31, .aload_n 0, 1), (32, .getfield 7, 3), (35, .bipush 9, 2), (37, .iaload, 1), (38, .if_icmp .ge 106, 3), (41, .aload_n 0, 1), (42, .getfield 25, 3), (45, .iload_n 2, 1), (46, .laload, 1), (47, .lstore_n 3, 1), (48, .lload_n 3, 1), (49, .lload_n 3, 1)]
theorem D298_1 : RW298_1.all (xDr prog_9_method_106_code) = true := eAll 27 (by decide +kernel)
def RW298_2 : List (Nat × Instr × Nat) := [(50, .bipush 15, 2), (52, .lushr, 1), (53, .lxor, 1), (54, .lload_n 3, 1), (55, .bipush 31, 2), (57, .lushr, 1), (58, .lxor, 1), (59, .lload_n 3, 1), (60, .bipush 47, 2), (62, .lushr, 1), (63, .lxor, 1), (64, .ldc2_w 481, 3), (67, .land, 1), (68, .l2i, 1), (69, .istore 5, 2), (71, .aload_n 0, 1)]
theorem D298_2 : RW298_2.all (xDr prog_9_method_106_code) = true := eAll 50 (by decide +kernel)
def RW298_3 : List (Nat × Instr × Nat) := [(72, .getfield 70, 3), (75, .iload 5, 2), (77, .iaload, 1), (78, .ifCond .eq 34, 3), (81, .aload_n 0, 1), (82, .getfield 25, 3), (85, .aload_n 0, 1), (86, .getfield 70, 3), (89, .iload 5, 2), (91, .iaload, 1), (92, .iconst 1, 1), (93, .isub, 1), (94, .laload, 1), (95, .lload_n 3, 1), (96, .lcmp, 1), (97, .ifCond .eq 15, 3)]
theorem D298_3 : RW298_3.all (xDr prog_9_method_106_code) = true := eAll 72 (by decide +kernel)
def RW298_4 : List (Nat × Instr × Nat) := [(100, .iload 5, 2), (102, .iconst 1, 1), (103, .iadd, 1), (104, .ldc 69, 2), (106, .irem, 1), (107, .istore 5, 2), (109, .goto (-38), 3), (112, .aload_n 0, 1), (113, .getfield 70, 3), (116, .iload 5, 2), (118, .iaload, 1), (119, .ifCond .eq 6, 3), (122, .goto 16, 3), (125, .aload_n 0, 1), (126, .getfield 70, 3), (129, .iload 5, 2)]
theorem D298_4 : RW298_4.all (xDr prog_9_method_106_code) = true := eAll 100 (by decide +kernel)
def RW298_5 : List (Nat × Instr × Nat) := [(131, .iload_n 2, 1), (132, .iconst 1, 1), (133, .iadd, 1), (134, .iastore, 1), (135, .iinc 1 1, 3), (138, .iinc 2 1, 3), (141, .goto (-111), 3), (144, .iload_n 1, 1), (145, .ireturn, 1)]
theorem D298_5 : RW298_5.all (xDr prog_9_method_106_code) = true := eAll 131 (by decide +kernel)
def d_298 : xDt := (⟨"IsingLabModel", "visited", "()I"⟩, prog_9_method_106_code, 6, (some FieldType.int), 1, [])
def RW299_0 : List (Nat × Instr × Nat) := [(0, .aload_n 0, 1), (1, .iconst 0, 1), (2, .putfield 126, 3), (5, .aload_n 0, 1), (6, .getfield 7, 3), (9, .bipush 9, 2), (11, .iaload, 1), (12, .istore_n 1, 1), (13, .aload_n 0, 1), (14, .getfield 7, 3), (17, .bipush 9, 2), (19, .iconst 0, 1), (20, .iastore, 1), (21, .iload_n 1, 1), (22, .ireturn, 1)]
theorem D299_0 : RW299_0.all (xDr prog_9_method_107_code) = true := eAll 0 (by decide +kernel)
def d_299 : xDt := (⟨"IsingLabModel", "clearSamples", "()I"⟩, prog_9_method_107_code, 2, (some FieldType.int), 1, [])
def RW300_0 : List (Nat × Instr × Nat) := [(0, .aload_n 0, 1), (1, .iconst 0, 1), (2, .putfield 126, 3), (5, .aload_n 0, 1), (6, .iconst 1, 1), (7, .invokevirtual 495, 3), (10, .ifCond .eq 5, 3), (13, .iconst 0, 1), (14, .ireturn, 1), (15, .aload_n 0, 1), (16, .invokevirtual 498, 3), (19, .aload_n 0, 1), (20, .getfield 489, 3), (23, .ireturn, 1)]
theorem D300_0 : RW300_0.all (xDr prog_9_method_112_code) = true := eAll 0 (by decide +kernel)
def d_300 : xDt := (⟨"IsingLabModel", "levels", "()I"⟩, prog_9_method_112_code, 1, (some FieldType.int), 5, [])
def RW301_0 : List (Nat × Instr × Nat) := [(0, .aload_n 0, 1), (1, .aload_n 0, 1), (2, .getfield 7, 3), (5, .bipush 10, 2), (7, .iaload, 1), (8, .bipush 16, 2), (10, .if_icmp .le 7, 3), (13, .iconst 1, 1), (14, .goto 4, 3), (17, .iconst 0, 1), (18, .iload_n 1, 1), (19, .invokevirtual 379, 3), (22, .ireturn, 1)]
theorem D301_0 : RW301_0.all (xDr prog_9_method_108_code) = true := eAll 0 (by decide +kernel)
def d_301 : xDt := (⟨"IsingLabModel", "noExact", "(I)Z"⟩, prog_9_method_108_code, 2, (some FieldType.boolean), 2, [])
def RW302_0 : List (Nat × Instr × Nat) := [(0, .aload_n 0, 1), (1, .getfield 168, 3), (4, .ifCond .eq 4, 3), (7, .return_, 1), (8, .aload_n 0, 1), (9, .iconst 1, 1), (10, .putfield 168, 3), (13, .iconst 0, 1), (14, .istore_n 1, 1), (15, .iload_n 1, 1), (16, .sipush 13233, 3), (19, .if_icmp .ge 16, 3), (22, .aload_n 0, 1), (23, .getfield 80, 3), (26, .iload_n 1, 1), (27, .iconst 0, 1)]
theorem D302_0 : RW302_0.all (xDr prog_9_method_111_code) = true := eAll 0 (by decide +kernel)
def RW302_1 : List (Nat × Instr × Nat) := [(28, .iastore, 1), (29, .iinc 1 1, 3), (32, .goto (-17), 3), (35, .aload_n 0, 1), (36, .getfield 74, 3), (39, .iconst 0, 1), (40, .aload_n 0, 1), (41, .lconst 0, 1), (42, .invokevirtual 408, 3), (45, .iastore, 1), (46, .aload_n 0, 1), (47, .getfield 77, 3), (50, .iconst 0, 1), (51, .aload_n 0, 1), (52, .getfield 7, 3), (55, .bipush 10, 2)]
theorem D302_1 : RW302_1.all (xDr prog_9_method_111_code) = true := eAll 28 (by decide +kernel)
def RW302_2 : List (Nat × Instr × Nat) := [(57, .iaload, 1), (58, .ineg, 1), (59, .iastore, 1), (60, .iconst 1, 1), (61, .istore_n 1, 1), (62, .iload_n 1, 1), (63, .aload_n 0, 1), (64, .invokevirtual 483, 3), (67, .if_icmp .ge 55, 3), (70, .aload_n 0, 1), (71, .iload_n 1, 1), (72, .invokevirtual 486, 3), (75, .istore_n 2, 1), (76, .iload_n 1, 1), (77, .iconst 1, 1), (78, .iload_n 2, 1)]
theorem D302_2 : RW302_2.all (xDr prog_9_method_111_code) = true := eAll 57 (by decide +kernel)
def RW302_3 : List (Nat × Instr × Nat) := [(79, .ishl, 1), (80, .ixor, 1), (81, .istore_n 3, 1), (82, .aload_n 0, 1), (83, .getfield 74, 3), (86, .iload_n 1, 1), (87, .aload_n 0, 1), (88, .getfield 74, 3), (91, .iload_n 3, 1), (92, .iaload, 1), (93, .aload_n 0, 1), (94, .iload_n 3, 1), (95, .i2l, 1), (96, .iload_n 2, 1), (97, .invokevirtual 370, 3), (100, .iadd, 1)]
theorem D302_3 : RW302_3.all (xDr prog_9_method_111_code) = true := eAll 79 (by decide +kernel)
def RW302_4 : List (Nat × Instr × Nat) := [(101, .iastore, 1), (102, .aload_n 0, 1), (103, .getfield 77, 3), (106, .iload_n 1, 1), (107, .aload_n 0, 1), (108, .getfield 77, 3), (111, .iload_n 3, 1), (112, .iaload, 1), (113, .iconst 2, 1), (114, .iadd, 1), (115, .iastore, 1), (116, .iinc 1 1, 3), (119, .goto (-57), 3), (122, .iconst 0, 1), (123, .istore_n 1, 1), (124, .iload_n 1, 1)]
theorem D302_4 : RW302_4.all (xDr prog_9_method_111_code) = true := eAll 101 (by decide +kernel)
def RW302_5 : List (Nat × Instr × Nat) := [(125, .aload_n 0, 1), (126, .invokevirtual 483, 3), (129, .if_icmp .ge 41, 3), (132, .aload_n 0, 1), (133, .getfield 80, 3), (136, .bipush 33, 2), (138, .aload_n 0, 1), (139, .getfield 74, 3), (142, .iload_n 1, 1), (143, .iaload, 1), (144, .sipush 200, 3), (147, .iadd, 1), (148, .imul, 1), (149, .aload_n 0, 1), (150, .getfield 77, 3), (153, .iload_n 1, 1)]
theorem D302_5 : RW302_5.all (xDr prog_9_method_111_code) = true := eAll 125 (by decide +kernel)
def RW302_6 : List (Nat × Instr × Nat) := [(154, .iaload, 1), (155, .iadd, 1), (156, .bipush 16, 2), (158, .iadd, 1), (159, .dup2, 1), (160, .iaload, 1), (161, .iconst 1, 1), (162, .iadd, 1), (163, .iastore, 1), (164, .iinc 1 1, 3), (167, .goto (-43), 3), (170, .aload_n 0, 1), (171, .iconst 0, 1), (172, .putfield 489, 3), (175, .iconst 0, 1), (176, .istore_n 1, 1)]
theorem D302_6 : RW302_6.all (xDr prog_9_method_111_code) = true := eAll 154 (by decide +kernel)
def RW302_7 : List (Nat × Instr × Nat) := [(177, .iload_n 1, 1), (178, .sipush 13233, 3), (181, .if_icmp .ge 79, 3), (184, .aload_n 0, 1), (185, .getfield 80, 3), (188, .iload_n 1, 1), (189, .iaload, 1), (190, .ifCond .ne 6, 3), (193, .goto 61, 3), (196, .aload_n 0, 1), (197, .getfield 83, 3), (200, .aload_n 0, 1), (201, .getfield 489, 3), (204, .iload_n 1, 1), (205, .bipush 33, 2), (207, .idiv, 1)]
theorem D302_7 : RW302_7.all (xDr prog_9_method_111_code) = true := eAll 177 (by decide +kernel)
def RW302_8 : List (Nat × Instr × Nat) := [(208, .sipush 200, 3), (211, .isub, 1), (212, .iastore, 1), (213, .aload_n 0, 1), (214, .getfield 86, 3), (217, .aload_n 0, 1), (218, .getfield 489, 3), (221, .iload_n 1, 1), (222, .bipush 33, 2), (224, .irem, 1), (225, .bipush 16, 2), (227, .isub, 1), (228, .iastore, 1), (229, .aload_n 0, 1), (230, .getfield 89, 3), (233, .aload_n 0, 1)]
theorem D302_8 : RW302_8.all (xDr prog_9_method_111_code) = true := eAll 208 (by decide +kernel)
def RW302_9 : List (Nat × Instr × Nat) := [(234, .getfield 489, 3), (237, .aload_n 0, 1), (238, .getfield 80, 3), (241, .iload_n 1, 1), (242, .iaload, 1), (243, .iastore, 1), (244, .aload_n 0, 1), (245, .dup, 1), (246, .getfield 489, 3), (249, .iconst 1, 1), (250, .iadd, 1), (251, .putfield 489, 3), (254, .iinc 1 1, 3), (257, .goto (-80), 3), (260, .aload_n 0, 1), (261, .aload_n 0, 1)]
theorem D302_9 : RW302_9.all (xDr prog_9_method_111_code) = true := eAll 234 (by decide +kernel)
def RW302_10 : List (Nat × Instr × Nat) := [(262, .getfield 83, 3), (265, .iconst 0, 1), (266, .iaload, 1), (267, .putfield 492, 3), (270, .return_, 1)]
theorem D302_10 : RW302_10.all (xDr prog_9_method_111_code) = true := eAll 262 (by decide +kernel)
def d_302 : xDt := (⟨"IsingLabModel", "knows", "()V"⟩, prog_9_method_111_code, 4, none, 4, [])
def RW303_0 : List (Nat × Instr × Nat) := [(0, .iconst 1, 1), (1, .aload_n 0, 1), (2, .getfield 7, 3), (5, .bipush 10, 2), (7, .iaload, 1), (8, .ishl, 1), (9, .ireturn, 1)]
theorem D303_0 : RW303_0.all (xDr prog_9_method_109_code) = true := eAll 0 (by decide +kernel)
def d_303 : xDt := (⟨"IsingLabModel", "all", "()I"⟩, prog_9_method_109_code, 1, (some FieldType.int), 1, [])
def RW304_0 : List (Nat × Instr × Nat) := [(0, .iconst 0, 1), (1, .istore_n 2, 1), (2, .iload_n 1, 1), (3, .iload_n 2, 1), (4, .ishr, 1), (5, .iconst 1, 1), (6, .iand, 1), (7, .ifCond .ne 9, 3), (10, .iinc 2 1, 3), (13, .goto (-11), 3), (16, .iload_n 2, 1), (17, .ireturn, 1)]
theorem D304_0 : RW304_0.all (xDr prog_9_method_110_code) = true := eAll 0 (by decide +kernel)
def d_304 : xDt := (⟨"IsingLabModel", "lowest", "(I)I"⟩, prog_9_method_110_code, 3, (some FieldType.int), 1, [])
def RW305_0 : List (Nat × Instr × Nat) := [(0, .aload_n 0, 1), (1, .iconst 0, 1), (2, .putfield 126, 3), (5, .aload_n 0, 1), (6, .iload_n 2, 1), (7, .i2l, 1), (8, .lconst 0, 1), (9, .ldc2_w 399, 3), (12, .invokestatic 179, 3), (15, .ifCond .ne 7, 3), (18, .iconst 1, 1), (19, .goto 4, 3), (22, .iconst 0, 1), (23, .iconst 1, 1), (24, .invokevirtual 379, 3), (27, .ifCond .ne 11, 3)]
theorem D305_0 : RW305_0.all (xDr prog_9_method_113_code) = true := eAll 0 (by decide +kernel)
def RW305_1 : List (Nat × Instr × Nat) := [(30, .aload_n 0, 1), (31, .iconst 2, 1), (32, .invokevirtual 495, 3), (35, .ifCond .eq 5, 3), (38, .iconst 0, 1), (39, .ireturn, 1), (40, .aload_n 0, 1), (41, .invokevirtual 498, 3), (44, .aload_n 0, 1), (45, .iload_n 1, 1), (46, .i2l, 1), (47, .lconst 0, 1), (48, .aload_n 0, 1), (49, .getfield 489, 3), (52, .iconst 1, 1), (53, .isub, 1)]
theorem D305_1 : RW305_1.all (xDr prog_9_method_113_code) = true := eAll 30 (by decide +kernel)
def RW305_2 : List (Nat × Instr × Nat) := [(54, .i2l, 1), (55, .invokestatic 179, 3), (58, .ifCond .ne 7, 3), (61, .iconst 1, 1), (62, .goto 4, 3), (65, .iconst 0, 1), (66, .iconst 3, 1), (67, .invokevirtual 379, 3), (70, .ifCond .eq 5, 3), (73, .iconst 0, 1), (74, .ireturn, 1), (75, .iload_n 2, 1), (76, .ifCond .ne 12, 3), (79, .aload_n 0, 1), (80, .getfield 83, 3), (83, .iload_n 1, 1)]
theorem D305_2 : RW305_2.all (xDr prog_9_method_113_code) = true := eAll 54 (by decide +kernel)
def RW305_3 : List (Nat × Instr × Nat) := [(84, .iaload, 1), (85, .goto 23, 3), (88, .iload_n 2, 1), (89, .iconst 1, 1), (90, .if_icmp .ne 12, 3), (93, .aload_n 0, 1), (94, .getfield 86, 3), (97, .iload_n 1, 1), (98, .iaload, 1), (99, .goto 9, 3), (102, .aload_n 0, 1), (103, .getfield 89, 3), (106, .iload_n 1, 1), (107, .iaload, 1), (108, .ireturn, 1)]
theorem D305_3 : RW305_3.all (xDr prog_9_method_113_code) = true := eAll 84 (by decide +kernel)
def d_305 : xDt := (⟨"IsingLabModel", "level", "(II)I"⟩, prog_9_method_113_code, 3, (some FieldType.int), 5, [])
def RW306_0 : List (Nat × Instr × Nat) := [(0, .aload_n 0, 1), (1, .iconst 0, 1), (2, .putfield 126, 3), (5, .aload_n 0, 1), (6, .iconst 1, 1), (7, .invokevirtual 495, 3), (10, .ifCond .eq 5, 3), (13, .iconst 0, 1), (14, .ireturn, 1), (15, .aload_n 0, 1), (16, .invokevirtual 498, 3), (19, .iconst 0, 1), (20, .istore_n 3, 1), (21, .iload_n 3, 1), (22, .aload_n 0, 1), (23, .getfield 489, 3)]
theorem D306_0 : RW306_0.all (xDr prog_9_method_114_code) = true := eAll 0 (by decide +kernel)
def RW306_1 : List (Nat × Instr × Nat) := [(26, .if_icmp .ge 36, 3), (29, .aload_n 0, 1), (30, .getfield 83, 3), (33, .iload_n 3, 1), (34, .iaload, 1), (35, .iload_n 1, 1), (36, .if_icmp .ne 20, 3), (39, .aload_n 0, 1), (40, .getfield 86, 3), (43, .iload_n 3, 1), (44, .iaload, 1), (45, .iload_n 2, 1), (46, .if_icmp .ne 10, 3), (49, .aload_n 0, 1), (50, .getfield 89, 3), (53, .iload_n 3, 1)]
theorem D306_1 : RW306_1.all (xDr prog_9_method_114_code) = true := eAll 26 (by decide +kernel)
def RW306_2 : List (Nat × Instr × Nat) := [(54, .iaload, 1), (55, .ireturn, 1), (56, .iinc 3 1, 3), (59, .goto (-38), 3), (62, .iconst 0, 1), (63, .ireturn, 1)]
theorem D306_2 : RW306_2.all (xDr prog_9_method_114_code) = true := eAll 54 (by decide +kernel)
def d_306 : xDt := (⟨"IsingLabModel", "countOf", "(II)I"⟩, prog_9_method_114_code, 4, (some FieldType.int), 5, [])
def RW307_0 : List (Nat × Instr × Nat) := [(0, .aload_n 0, 1), (1, .iconst 0, 1), (2, .putfield 126, 3), (5, .aload_n 0, 1), (6, .iconst 1, 1), (7, .invokevirtual 495, 3), (10, .ifCond .eq 5, 3), (13, .iconst 0, 1), (14, .ireturn, 1), (15, .aload_n 0, 1), (16, .invokevirtual 498, 3), (19, .iconst 0, 1), (20, .istore_n 2, 1), (21, .iconst 0, 1), (22, .istore_n 3, 1), (23, .iload_n 3, 1)]
theorem D307_0 : RW307_0.all (xDr prog_9_method_115_code) = true := eAll 0 (by decide +kernel)
def RW307_1 : List (Nat × Instr × Nat) := [(24, .aload_n 0, 1), (25, .getfield 489, 3), (28, .if_icmp .ge 32, 3), (31, .iload_n 2, 1), (32, .aload_n 0, 1), (33, .getfield 83, 3), (36, .iload_n 3, 1), (37, .iaload, 1), (38, .iload_n 1, 1), (39, .if_icmp .gt 12, 3), (42, .aload_n 0, 1), (43, .getfield 89, 3), (46, .iload_n 3, 1), (47, .iaload, 1), (48, .goto 4, 3), (51, .iconst 0, 1)]
theorem D307_1 : RW307_1.all (xDr prog_9_method_115_code) = true := eAll 24 (by decide +kernel)
def RW307_2 : List (Nat × Instr × Nat) := [(52, .iadd, 1), (53, .istore_n 2, 1), (54, .iinc 3 1, 3), (57, .goto (-34), 3), (60, .iload_n 2, 1), (61, .ireturn, 1)]
theorem D307_2 : RW307_2.all (xDr prog_9_method_115_code) = true := eAll 52 (by decide +kernel)
def d_307 : xDt := (⟨"IsingLabModel", "countUpTo", "(I)I"⟩, prog_9_method_115_code, 4, (some FieldType.int), 5, [])
def RW308_0 : List (Nat × Instr × Nat) := [(0, .aload_n 0, 1), (1, .iconst 0, 1), (2, .putfield 126, 3), (5, .aload_n 0, 1), (6, .iconst 1, 1), (7, .invokevirtual 495, 3), (10, .ifCond .eq 5, 3), (13, .iconst 0, 1), (14, .ireturn, 1), (15, .aload_n 0, 1), (16, .invokevirtual 498, 3), (19, .aload_n 0, 1), (20, .getfield 492, 3), (23, .ireturn, 1)]
theorem D308_0 : RW308_0.all (xDr prog_9_method_116_code) = true := eAll 0 (by decide +kernel)
def d_308 : xDt := (⟨"IsingLabModel", "groundEnergy", "()I"⟩, prog_9_method_116_code, 1, (some FieldType.int), 5, [])
def RW309_0 : List (Nat × Instr × Nat) := [(0, .aload_n 0, 1), (1, .iconst 0, 1), (2, .putfield 126, 3), (5, .aload_n 0, 1), (6, .iconst 1, 1), (7, .invokevirtual 495, 3), (10, .ifCond .eq 5, 3), (13, .iconst 0, 1), (14, .ireturn, 1), (15, .aload_n 0, 1), (16, .invokevirtual 498, 3), (19, .iconst 0, 1), (20, .istore_n 1, 1), (21, .iconst 0, 1), (22, .istore_n 2, 1), (23, .iload_n 2, 1)]
theorem D309_0 : RW309_0.all (xDr prog_9_method_117_code) = true := eAll 0 (by decide +kernel)
def RW309_1 : List (Nat × Instr × Nat) := [(24, .aload_n 0, 1), (25, .getfield 489, 3), (28, .if_icmp .ge 35, 3), (31, .iload_n 1, 1), (32, .aload_n 0, 1), (33, .getfield 83, 3), (36, .iload_n 2, 1), (37, .iaload, 1), (38, .aload_n 0, 1), (39, .getfield 492, 3), (42, .if_icmp .ne 12, 3), (45, .aload_n 0, 1), (46, .getfield 89, 3), (49, .iload_n 2, 1), (50, .iaload, 1), (51, .goto 4, 3)]
theorem D309_1 : RW309_1.all (xDr prog_9_method_117_code) = true := eAll 24 (by decide +kernel)
def RW309_2 : List (Nat × Instr × Nat) := [(54, .iconst 0, 1), (55, .iadd, 1), (56, .istore_n 1, 1), (57, .iinc 2 1, 3), (60, .goto (-37), 3), (63, .iload_n 1, 1), (64, .ireturn, 1)]
theorem D309_2 : RW309_2.all (xDr prog_9_method_117_code) = true := eAll 54 (by decide +kernel)
def d_309 : xDt := (⟨"IsingLabModel", "groundStates", "()I"⟩, prog_9_method_117_code, 3, (some FieldType.int), 5, [])
def RW310_0 : List (Nat × Instr × Nat) := [(0, .aload_n 0, 1), (1, .iconst 0, 1), (2, .putfield 126, 3), (5, .aload_n 0, 1), (6, .iconst 1, 1), (7, .invokevirtual 495, 3), (10, .ifCond .eq 5, 3), (13, .iconst 0, 1), (14, .ireturn, 1), (15, .aload_n 0, 1), (16, .invokevirtual 498, 3), (19, .iconst 0, 1), (20, .istore_n 1, 1), (21, .aload_n 0, 1), (22, .getfield 74, 3), (25, .iload_n 1, 1)]
theorem D310_0 : RW310_0.all (xDr prog_9_method_118_code) = true := eAll 0 (by decide +kernel)
def RW310_1 : List (Nat × Instr × Nat) := [(26, .iaload, 1), (27, .aload_n 0, 1), (28, .getfield 492, 3), (31, .if_icmp .eq 9, 3), (34, .iinc 1 1, 3), (37, .goto (-16), 3), (40, .iload_n 1, 1), (41, .ireturn, 1)]
theorem D310_1 : RW310_1.all (xDr prog_9_method_118_code) = true := eAll 26 (by decide +kernel)
def d_310 : xDt := (⟨"IsingLabModel", "groundState", "()I"⟩, prog_9_method_118_code, 2, (some FieldType.int), 5, [])
def RW311_0 : List (Nat × Instr × Nat) := [(0, .aload_n 0, 1), (1, .iconst 0, 1), (2, .putfield 126, 3), (5, .aload_n 0, 1), (6, .iconst 1, 1), (7, .invokevirtual 495, 3), (10, .ifCond .eq 5, 3), (13, .iconst 0, 1), (14, .ireturn, 1), (15, .aload_n 0, 1), (16, .invokevirtual 498, 3), (19, .iconst 0, 1), (20, .istore_n 1, 1), (21, .iconst 0, 1), (22, .istore_n 2, 1), (23, .iload_n 2, 1)]
theorem D311_0 : RW311_0.all (xDr prog_9_method_120_code) = true := eAll 0 (by decide +kernel)
def RW311_1 : List (Nat × Instr × Nat) := [(24, .aload_n 0, 1), (25, .invokevirtual 483, 3), (28, .if_icmp .ge 25, 3), (31, .iload_n 1, 1), (32, .aload_n 0, 1), (33, .iload_n 2, 1), (34, .invokevirtual 501, 3), (37, .ifCond .eq 7, 3), (40, .iconst 1, 1), (41, .goto 4, 3), (44, .iconst 0, 1), (45, .iadd, 1), (46, .istore_n 1, 1), (47, .iinc 2 1, 3), (50, .goto (-27), 3), (53, .iload_n 1, 1)]
theorem D311_1 : RW311_1.all (xDr prog_9_method_120_code) = true := eAll 24 (by decide +kernel)
def RW311_2 : List (Nat × Instr × Nat) := [(54, .ireturn, 1)]
theorem D311_2 : RW311_2.all (xDr prog_9_method_120_code) = true := eAll 54 (by decide +kernel)
def d_311 : xDt := (⟨"IsingLabModel", "minima", "()I"⟩, prog_9_method_120_code, 3, (some FieldType.int), 5, [])
def RW312_0 : List (Nat × Instr × Nat) := [(0, .iconst 0, 1), (1, .istore_n 2, 1), (2, .iload_n 2, 1), (3, .aload_n 0, 1), (4, .getfield 7, 3), (7, .bipush 10, 2), (9, .iaload, 1), (10, .if_icmp .ge 30, 3), (13, .aload_n 0, 1), (14, .getfield 74, 3), (17, .iload_n 1, 1), (18, .iconst 1, 1), (19, .iload_n 2, 1), (20, .ishl, 1), (21, .ixor, 1), (22, .iaload, 1)]
theorem D312_0 : RW312_0.all (xDr prog_9_method_119_code) = true := eAll 0 (by decide +kernel)
def RW312_1 : List (Nat × Instr × Nat) := [(23, .aload_n 0, 1), (24, .getfield 74, 3), (27, .iload_n 1, 1), (28, .iaload, 1), (29, .if_icmp .gt 5, 3), (32, .iconst 0, 1), (33, .ireturn, 1), (34, .iinc 2 1, 3), (37, .goto (-35), 3), (40, .iconst 1, 1), (41, .ireturn, 1)]
theorem D312_1 : RW312_1.all (xDr prog_9_method_119_code) = true := eAll 23 (by decide +kernel)
def d_312 : xDt := (⟨"IsingLabModel", "isMinimum", "(I)Z"⟩, prog_9_method_119_code, 3, (some FieldType.boolean), 1, [])
def RW313_0 : List (Nat × Instr × Nat) := [(0, .aload_n 0, 1), (1, .iconst 0, 1), (2, .putfield 126, 3), (5, .aload_n 0, 1), (6, .iconst 1, 1), (7, .invokevirtual 495, 3), (10, .ifCond .eq 5, 3), (13, .iconst 0, 1), (14, .ireturn, 1), (15, .aload_n 0, 1), (16, .invokevirtual 498, 3), (19, .iconst 0, 1), (20, .istore_n 1, 1), (21, .iconst 0, 1), (22, .istore_n 2, 1), (23, .iload_n 2, 1)]
theorem D313_0 : RW313_0.all (xDr prog_9_method_121_code) = true := eAll 0 (by decide +kernel)
def RW313_1 : List (Nat × Instr × Nat) := [(24, .aload_n 0, 1), (25, .invokevirtual 483, 3), (28, .if_icmp .ge 72, 3), (31, .aload_n 0, 1), (32, .getfield 7, 3), (35, .iconst 5, 1), (36, .iaload, 1), (37, .ifCond .eq 63, 3), (40, .iconst 0, 1), (41, .istore_n 3, 1), (42, .iload_n 3, 1), (43, .aload_n 0, 1), (44, .getfield 7, 3), (47, .bipush 10, 2), (49, .iaload, 1), (50, .if_icmp .ge 44, 3)]
theorem D313_1 : RW313_1.all (xDr prog_9_method_121_code) = true := eAll 24 (by decide +kernel)
def RW313_2 : List (Nat × Instr × Nat) := [(53, .iload_n 1, 1), (54, .iload_n 2, 1), (55, .iload_n 3, 1), (56, .ishr, 1), (57, .iconst 1, 1), (58, .iand, 1), (59, .ifCond .ne 26, 3), (62, .aload_n 0, 1), (63, .getfield 74, 3), (66, .iload_n 2, 1), (67, .iaload, 1), (68, .aload_n 0, 1), (69, .getfield 74, 3), (72, .iload_n 2, 1), (73, .iconst 1, 1), (74, .iload_n 3, 1)]
theorem D313_2 : RW313_2.all (xDr prog_9_method_121_code) = true := eAll 53 (by decide +kernel)
def RW313_3 : List (Nat × Instr × Nat) := [(75, .ishl, 1), (76, .ixor, 1), (77, .iaload, 1), (78, .if_icmp .eq 7, 3), (81, .iconst 1, 1), (82, .goto 4, 3), (85, .iconst 0, 1), (86, .iadd, 1), (87, .istore_n 1, 1), (88, .iinc 3 1, 3), (91, .goto (-49), 3), (94, .iinc 2 1, 3), (97, .goto (-74), 3), (100, .iload_n 1, 1), (101, .ireturn, 1)]
theorem D313_3 : RW313_3.all (xDr prog_9_method_121_code) = true := eAll 75 (by decide +kernel)
def d_313 : xDt := (⟨"IsingLabModel", "unbalanced", "()I"⟩, prog_9_method_121_code, 4, (some FieldType.int), 5, [])
def RW314_0 : List (Nat × Instr × Nat) := [(0, .aload_n 0, 1), (1, .iconst 0, 1), (2, .putfield 126, 3), (5, .aload_n 0, 1), (6, .iload_n 1, 1), (7, .i2l, 1), (8, .lconst 0, 1), (9, .ldc2_w 516, 3), (12, .invokestatic 179, 3), (15, .ifCond .eq 11, 3), (18, .iload_n 2, 1), (19, .iload_n 3, 1), (20, .invokestatic 396, 3), (23, .ifCond .ne 7, 3), (26, .iconst 1, 1), (27, .goto 4, 3)]
theorem D314_0 : RW314_0.all (xDr prog_9_method_127_code) = true := eAll 0 (by decide +kernel)
def RW314_1 : List (Nat × Instr × Nat) := [(30, .iconst 0, 1), (31, .iconst 1, 1), (32, .invokevirtual 379, 3), (35, .ifCond .ne 11, 3), (38, .aload_n 0, 1), (39, .iconst 2, 1), (40, .invokevirtual 495, 3), (43, .ifCond .eq 5, 3), (46, .dconst 0, 1), (47, .dreturn, 1), (48, .aload_n 0, 1), (49, .invokevirtual 498, 3), (52, .aload_n 0, 1), (53, .iload_n 1, 1), (54, .iload_n 2, 1), (55, .iload_n 3, 1)]
theorem D314_1 : RW314_1.all (xDr prog_9_method_127_code) = true := eAll 30 (by decide +kernel)
def RW314_2 : List (Nat × Instr × Nat) := [(56, .invokevirtual 511, 3), (59, .dreturn, 1)]
theorem D314_2 : RW314_2.all (xDr prog_9_method_127_code) = true := eAll 56 (by decide +kernel)
def d_314 : xDt := (⟨"IsingLabModel", "exactMean", "(III)D"⟩, prog_9_method_127_code, 4, (some FieldType.double), 5, [])
def RW315_0 : List (Nat × Instr × Nat) := [(0, .dconst 0, 1), (1, .dstore 4, 2), (3, .aload_n 0, 1), (4, .iload_n 2, 1), (5, .iload_n 3, 1), (6, .invokevirtual 504, 3), (9, .iconst 0, 1), (10, .istore 6, 2), (12, .iload 6, 2), (14, .aload_n 0, 1), (15, .getfield 489, 3), (18, .if_icmp .ge 62, 3), (21, .dload 4, 2), (23, .aload_n 0, 1), (24, .getfield 89, 3), (27, .iload 6, 2)]
theorem D315_0 : RW315_0.all (xDr prog_9_method_125_code) = true := eAll 0 (by decide +kernel)
def RW315_1 : List (Nat × Instr × Nat) := [(29, .iaload, 1), (30, .i2d, 1), (31, .aload_n 0, 1), (32, .getfield 92, 3), (35, .aload_n 0, 1), (36, .getfield 83, 3), (39, .iload 6, 2), (41, .iaload, 1), (42, .aload_n 0, 1), (43, .getfield 492, 3), (46, .isub, 1), (47, .daload, 1), (48, .dmul, 1), (49, .iload_n 1, 1), (50, .aload_n 0, 1), (51, .getfield 83, 3)]
theorem D315_1 : RW315_1.all (xDr prog_9_method_125_code) = true := eAll 29 (by decide +kernel)
def RW315_2 : List (Nat × Instr × Nat) := [(54, .iload 6, 2), (56, .iaload, 1), (57, .i2l, 1), (58, .aload_n 0, 1), (59, .getfield 86, 3), (62, .iload 6, 2), (64, .iaload, 1), (65, .i2l, 1), (66, .invokestatic 473, 3), (69, .l2d, 1), (70, .dmul, 1), (71, .dadd, 1), (72, .dstore 4, 2), (74, .iinc 6 1, 3), (77, .goto (-65), 3), (80, .dload 4, 2)]
theorem D315_2 : RW315_2.all (xDr prog_9_method_125_code) = true := eAll 54 (by decide +kernel)
def RW315_3 : List (Nat × Instr × Nat) := [(82, .aload_n 0, 1), (83, .iload_n 2, 1), (84, .iload_n 3, 1), (85, .invokevirtual 507, 3), (88, .ddiv, 1), (89, .dreturn, 1)]
theorem D315_3 : RW315_3.all (xDr prog_9_method_125_code) = true := eAll 82 (by decide +kernel)
def d_315 : xDt := (⟨"IsingLabModel", "mean", "(III)D"⟩, prog_9_method_125_code, 7, (some FieldType.double), 3, [])
def RW316_0 : List (Nat × Instr × Nat) := [(0, .aload_n 0, 1), (1, .getfield 92, 3), (4, .iconst 0, 1), (5, .dconst 1, 1), (6, .dastore, 1), (7, .iconst 1, 1), (8, .istore_n 3, 1), (9, .iload_n 3, 1), (10, .sipush 401, 3), (13, .if_icmp .ge 29, 3), (16, .aload_n 0, 1), (17, .getfield 92, 3), (20, .iload_n 3, 1), (21, .aload_n 0, 1), (22, .getfield 92, 3), (25, .iload_n 3, 1)]
theorem D316_0 : RW316_0.all (xDr prog_9_method_122_code) = true := eAll 0 (by decide +kernel)
def RW316_1 : List (Nat × Instr × Nat) := [(26, .iconst 1, 1), (27, .isub, 1), (28, .daload, 1), (29, .iload_n 1, 1), (30, .i2d, 1), (31, .iload_n 2, 1), (32, .i2d, 1), (33, .ddiv, 1), (34, .dmul, 1), (35, .dastore, 1), (36, .iinc 3 1, 3), (39, .goto (-30), 3), (42, .return_, 1)]
theorem D316_1 : RW316_1.all (xDr prog_9_method_122_code) = true := eAll 26 (by decide +kernel)
def d_316 : xDt := (⟨"IsingLabModel", "laysScale", "(II)V"⟩, prog_9_method_122_code, 4, none, 1, [])
def RW317_0 : List (Nat × Instr × Nat) := [(0, .dconst 0, 1), (1, .dstore_n 3, 1), (2, .aload_n 0, 1), (3, .iload_n 1, 1), (4, .iload_n 2, 1), (5, .invokevirtual 504, 3), (8, .iconst 0, 1), (9, .istore 5, 2), (11, .iload 5, 2), (13, .aload_n 0, 1), (14, .getfield 489, 3), (17, .if_icmp .ge 38, 3), (20, .dload_n 3, 1), (21, .aload_n 0, 1), (22, .getfield 89, 3), (25, .iload 5, 2)]
theorem D317_0 : RW317_0.all (xDr prog_9_method_124_code) = true := eAll 0 (by decide +kernel)
def RW317_1 : List (Nat × Instr × Nat) := [(27, .iaload, 1), (28, .i2d, 1), (29, .aload_n 0, 1), (30, .getfield 92, 3), (33, .aload_n 0, 1), (34, .getfield 83, 3), (37, .iload 5, 2), (39, .iaload, 1), (40, .aload_n 0, 1), (41, .getfield 492, 3), (44, .isub, 1), (45, .daload, 1), (46, .dmul, 1), (47, .dadd, 1), (48, .dstore_n 3, 1), (49, .iinc 5 1, 3)]
theorem D317_1 : RW317_1.all (xDr prog_9_method_124_code) = true := eAll 27 (by decide +kernel)
def RW317_2 : List (Nat × Instr × Nat) := [(52, .goto (-41), 3), (55, .dload_n 3, 1), (56, .dreturn, 1)]
theorem D317_2 : RW317_2.all (xDr prog_9_method_124_code) = true := eAll 52 (by decide +kernel)
def d_317 : xDt := (⟨"IsingLabModel", "weights", "(II)D"⟩, prog_9_method_124_code, 6, (some FieldType.double), 2, [])
def RW318_0 : List (Nat × Instr × Nat) := [(0, .aload_n 0, 1), (1, .iconst 0, 1), (2, .putfield 126, 3), (5, .aload_n 0, 1), (6, .iload_n 1, 1), (7, .i2l, 1), (8, .lconst 0, 1), (9, .ldc2_w 399, 3), (12, .invokestatic 179, 3), (15, .ifCond .eq 11, 3), (18, .iload_n 2, 1), (19, .iload_n 3, 1), (20, .invokestatic 396, 3), (23, .ifCond .ne 7, 3), (26, .iconst 1, 1), (27, .goto 4, 3)]
theorem D318_0 : RW318_0.all (xDr prog_9_method_128_code) = true := eAll 0 (by decide +kernel)
def RW318_1 : List (Nat × Instr × Nat) := [(30, .iconst 0, 1), (31, .iconst 1, 1), (32, .invokevirtual 379, 3), (35, .ifCond .ne 11, 3), (38, .aload_n 0, 1), (39, .iconst 2, 1), (40, .invokevirtual 495, 3), (43, .ifCond .eq 5, 3), (46, .dconst 0, 1), (47, .dreturn, 1), (48, .aload_n 0, 1), (49, .invokevirtual 498, 3), (52, .aload_n 0, 1), (53, .iload_n 1, 1), (54, .iload_n 2, 1), (55, .iload_n 3, 1)]
theorem D318_1 : RW318_1.all (xDr prog_9_method_128_code) = true := eAll 30 (by decide +kernel)
def RW318_2 : List (Nat × Instr × Nat) := [(56, .invokevirtual 518, 3), (59, .dreturn, 1)]
theorem D318_2 : RW318_2.all (xDr prog_9_method_128_code) = true := eAll 56 (by decide +kernel)
def d_318 : xDt := (⟨"IsingLabModel", "figure", "(III)D"⟩, prog_9_method_128_code, 4, (some FieldType.double), 5, [])
def RW319_0 : List (Nat × Instr × Nat) := [(0, .iload_n 1, 1), (1, .iconst 2, 1), (2, .if_icmp .ne 32, 3), (5, .aload_n 0, 1), (6, .iconst 2, 1), (7, .iload_n 2, 1), (8, .iload_n 3, 1), (9, .invokevirtual 511, 3), (12, .dstore 4, 2), (14, .dconst 1, 1), (15, .aload_n 0, 1), (16, .iconst 3, 1), (17, .iload_n 2, 1), (18, .iload_n 3, 1), (19, .invokevirtual 511, 3), (22, .ldc2_w 514, 3)]
theorem D319_0 : RW319_0.all (xDr prog_9_method_126_code) = true := eAll 0 (by decide +kernel)
def RW319_1 : List (Nat × Instr × Nat) := [(25, .dload 4, 2), (27, .dmul, 1), (28, .dload 4, 2), (30, .dmul, 1), (31, .ddiv, 1), (32, .dsub, 1), (33, .dreturn, 1), (34, .aload_n 0, 1), (35, .iload_n 1, 1), (36, .iload_n 2, 1), (37, .iload_n 3, 1), (38, .invokevirtual 511, 3), (41, .dstore 4, 2), (43, .aload_n 0, 1), (44, .iload_n 1, 1), (45, .ifCond .ne 7, 3)]
theorem D319_1 : RW319_1.all (xDr prog_9_method_126_code) = true := eAll 25 (by decide +kernel)
def RW319_2 : List (Nat × Instr × Nat) := [(48, .iconst 4, 1), (49, .goto 4, 3), (52, .iconst 2, 1), (53, .iload_n 2, 1), (54, .iload_n 3, 1), (55, .invokevirtual 511, 3), (58, .dload 4, 2), (60, .dload 4, 2), (62, .dmul, 1), (63, .dsub, 1), (64, .dreturn, 1)]
theorem D319_2 : RW319_2.all (xDr prog_9_method_126_code) = true := eAll 48 (by decide +kernel)
def d_319 : xDt := (⟨"IsingLabModel", "figureNow", "(III)D"⟩, prog_9_method_126_code, 6, (some FieldType.double), 4, [])
def RW320_0 : List (Nat × Instr × Nat) := [(0, .aload_n 0, 1), (1, .iconst 0, 1), (2, .putfield 126, 3), (5, .aload_n 0, 1), (6, .aload_n 0, 1), (7, .lload_n 1, 1), (8, .invokevirtual 404, 3), (11, .ifCond .ne 12, 3), (14, .iload_n 3, 1), (15, .iload 4, 2), (17, .invokestatic 396, 3), (20, .ifCond .ne 7, 3), (23, .iconst 1, 1), (24, .goto 4, 3), (27, .iconst 0, 1), (28, .iconst 1, 1)]
theorem D320_0 : RW320_0.all (xDr prog_9_method_129_code) = true := eAll 0 (by decide +kernel)
def RW320_1 : List (Nat × Instr × Nat) := [(29, .invokevirtual 379, 3), (32, .ifCond .ne 11, 3), (35, .aload_n 0, 1), (36, .iconst 2, 1), (37, .invokevirtual 495, 3), (40, .ifCond .eq 5, 3), (43, .dconst 0, 1), (44, .dreturn, 1), (45, .aload_n 0, 1), (46, .invokevirtual 498, 3), (49, .aload_n 0, 1), (50, .getfield 74, 3), (53, .lload_n 1, 1), (54, .l2i, 1), (55, .iaload, 1), (56, .aload_n 0, 1)]
theorem D320_1 : RW320_1.all (xDr prog_9_method_129_code) = true := eAll 29 (by decide +kernel)
def RW320_2 : List (Nat × Instr × Nat) := [(57, .getfield 492, 3), (60, .isub, 1), (61, .iload_n 3, 1), (62, .iload 4, 2), (64, .invokestatic 411, 3), (67, .aload_n 0, 1), (68, .iload_n 3, 1), (69, .iload 4, 2), (71, .invokevirtual 507, 3), (74, .ddiv, 1), (75, .dreturn, 1)]
theorem D320_2 : RW320_2.all (xDr prog_9_method_129_code) = true := eAll 57 (by decide +kernel)
def d_320 : xDt := (⟨"IsingLabModel", "probability", "(JII)D"⟩, prog_9_method_129_code, 5, (some FieldType.double), 5, [])
def RW321_0 : List (Nat × Instr × Nat) := [(0, .aload_n 0, 1), (1, .iload_n 1, 1), (2, .invokevirtual 401, 3), (5, .ifCond .ne 41, 3), (8, .aload_n 0, 1), (9, .iload_n 2, 1), (10, .invokevirtual 401, 3), (13, .ifCond .ne 33, 3), (16, .aload_n 0, 1), (17, .iload_n 3, 1), (18, .iload 4, 2), (20, .invokestatic 396, 3), (23, .ifCond .ne 7, 3), (26, .iconst 1, 1), (27, .goto 4, 3), (30, .iconst 0, 1)]
theorem D321_0 : RW321_0.all (xDr prog_9_method_130_code) = true := eAll 0 (by decide +kernel)
def RW321_1 : List (Nat × Instr × Nat) := [(31, .iconst 2, 1), (32, .invokevirtual 379, 3), (35, .ifCond .ne 11, 3), (38, .aload_n 0, 1), (39, .iconst 3, 1), (40, .invokevirtual 495, 3), (43, .ifCond .eq 5, 3), (46, .dconst 0, 1), (47, .dreturn, 1), (48, .aload_n 0, 1), (49, .invokevirtual 498, 3), (52, .iconst 0, 1), (53, .istore 5, 2), (55, .iload 5, 2), (57, .sipush 401, 3), (60, .if_icmp .ge 25, 3)]
theorem D321_1 : RW321_1.all (xDr prog_9_method_130_code) = true := eAll 31 (by decide +kernel)
def RW321_2 : List (Nat × Instr × Nat) := [(63, .aload_n 0, 1), (64, .getfield 96, 3), (67, .iload 5, 2), (69, .iconst 0, 1), (70, .iastore, 1), (71, .aload_n 0, 1), (72, .getfield 99, 3), (75, .iload 5, 2), (77, .iconst 0, 1), (78, .iastore, 1), (79, .iinc 5 1, 3), (82, .goto (-27), 3), (85, .iconst 0, 1), (86, .istore 5, 2), (88, .iload 5, 2), (90, .aload_n 0, 1)]
theorem D321_2 : RW321_2.all (xDr prog_9_method_130_code) = true := eAll 63 (by decide +kernel)
def RW321_3 : List (Nat × Instr × Nat) := [(91, .invokevirtual 483, 3), (94, .if_icmp .ge 63, 3), (97, .aload_n 0, 1), (98, .getfield 96, 3), (101, .aload_n 0, 1), (102, .getfield 74, 3), (105, .iload 5, 2), (107, .iaload, 1), (108, .sipush 200, 3), (111, .iadd, 1), (112, .dup2, 1), (113, .iaload, 1), (114, .iload 5, 2), (116, .i2l, 1), (117, .iload_n 1, 1), (118, .invokestatic 348, 3)]
theorem D321_3 : RW321_3.all (xDr prog_9_method_130_code) = true := eAll 91 (by decide +kernel)
def RW321_4 : List (Nat × Instr × Nat) := [(121, .iload 5, 2), (123, .i2l, 1), (124, .iload_n 2, 1), (125, .invokestatic 348, 3), (128, .imul, 1), (129, .iadd, 1), (130, .iastore, 1), (131, .aload_n 0, 1), (132, .getfield 99, 3), (135, .aload_n 0, 1), (136, .getfield 74, 3), (139, .iload 5, 2), (141, .iaload, 1), (142, .sipush 200, 3), (145, .iadd, 1), (146, .dup2, 1)]
theorem D321_4 : RW321_4.all (xDr prog_9_method_130_code) = true := eAll 121 (by decide +kernel)
def RW321_5 : List (Nat × Instr × Nat) := [(147, .iaload, 1), (148, .iconst 1, 1), (149, .iadd, 1), (150, .iastore, 1), (151, .iinc 5 1, 3), (154, .goto (-66), 3), (157, .dconst 0, 1), (158, .dstore 5, 2), (160, .dconst 0, 1), (161, .dstore 7, 2), (163, .aload_n 0, 1), (164, .iload_n 3, 1), (165, .iload 4, 2), (167, .invokevirtual 504, 3), (170, .aload_n 0, 1), (171, .getfield 492, 3)]
theorem D321_5 : RW321_5.all (xDr prog_9_method_130_code) = true := eAll 147 (by decide +kernel)
def RW321_6 : List (Nat × Instr × Nat) := [(174, .sipush 200, 3), (177, .iadd, 1), (178, .istore 9, 2), (180, .iload 9, 2), (182, .sipush 401, 3), (185, .if_icmp .ge 72, 3), (188, .aload_n 0, 1), (189, .getfield 99, 3), (192, .iload 9, 2), (194, .iaload, 1), (195, .ifCond .ne 6, 3), (198, .goto 53, 3), (201, .aload_n 0, 1), (202, .getfield 92, 3), (205, .iload 9, 2), (207, .sipush 200, 3)]
theorem D321_6 : RW321_6.all (xDr prog_9_method_130_code) = true := eAll 174 (by decide +kernel)
def RW321_7 : List (Nat × Instr × Nat) := [(210, .isub, 1), (211, .aload_n 0, 1), (212, .getfield 492, 3), (215, .isub, 1), (216, .daload, 1), (217, .dstore 10, 2), (219, .dload 5, 2), (221, .aload_n 0, 1), (222, .getfield 96, 3), (225, .iload 9, 2), (227, .iaload, 1), (228, .i2d, 1), (229, .dload 10, 2), (231, .dmul, 1), (232, .dadd, 1), (233, .dstore 5, 2)]
theorem D321_7 : RW321_7.all (xDr prog_9_method_130_code) = true := eAll 210 (by decide +kernel)
def RW321_8 : List (Nat × Instr × Nat) := [(235, .dload 7, 2), (237, .aload_n 0, 1), (238, .getfield 99, 3), (241, .iload 9, 2), (243, .iaload, 1), (244, .i2d, 1), (245, .dload 10, 2), (247, .dmul, 1), (248, .dadd, 1), (249, .dstore 7, 2), (251, .iinc 9 1, 3), (254, .goto (-74), 3), (257, .dload 5, 2), (259, .dload 7, 2), (261, .ddiv, 1), (262, .dreturn, 1)]
theorem D321_8 : RW321_8.all (xDr prog_9_method_130_code) = true := eAll 235 (by decide +kernel)
def d_321 : xDt := (⟨"IsingLabModel", "correlation", "(IIII)D"⟩, prog_9_method_130_code, 12, (some FieldType.double), 5, [])
def RW322_0 : List (Nat × Instr × Nat) := [(0, .aload_n 0, 1), (1, .iconst 0, 1), (2, .putfield 126, 3), (5, .aload_n 0, 1), (6, .iload_n 1, 1), (7, .i2l, 1), (8, .lconst 0, 1), (9, .ldc2_w 399, 3), (12, .invokestatic 179, 3), (15, .ifCond .eq 17, 3), (18, .iload_n 2, 1), (19, .i2l, 1), (20, .ldc2_w 399, 3), (23, .ldc2_w 521, 3), (26, .invokestatic 179, 3), (29, .ifCond .ne 7, 3)]
theorem D322_0 : RW322_0.all (xDr prog_9_method_131_code) = true := eAll 0 (by decide +kernel)
def RW322_1 : List (Nat × Instr × Nat) := [(32, .iconst 1, 1), (33, .goto 4, 3), (36, .iconst 0, 1), (37, .iconst 1, 1), (38, .invokevirtual 379, 3), (41, .ifCond .ne 11, 3), (44, .aload_n 0, 1), (45, .iconst 2, 1), (46, .invokevirtual 495, 3), (49, .ifCond .eq 5, 3), (52, .iconst 0, 1), (53, .ireturn, 1), (54, .aload_n 0, 1), (55, .invokevirtual 498, 3), (58, .iconst 1, 1), (59, .istore_n 3, 1)]
theorem D322_1 : RW322_1.all (xDr prog_9_method_131_code) = true := eAll 32 (by decide +kernel)
def RW322_2 : List (Nat × Instr × Nat) := [(60, .aload_n 0, 1), (61, .iload_n 1, 1), (62, .iconst 1, 1), (63, .iload_n 2, 1), (64, .invokevirtual 518, 3), (67, .dstore 4, 2), (69, .iconst 2, 1), (70, .istore 6, 2), (72, .iload 6, 2), (74, .iload_n 2, 1), (75, .if_icmp .ge 37, 3), (78, .aload_n 0, 1), (79, .iload_n 1, 1), (80, .iload 6, 2), (82, .iload_n 2, 1), (83, .invokevirtual 518, 3)]
theorem D322_2 : RW322_2.all (xDr prog_9_method_131_code) = true := eAll 60 (by decide +kernel)
def RW322_3 : List (Nat × Instr × Nat) := [(86, .dstore 7, 2), (88, .dload 7, 2), (90, .dload 4, 2), (92, .dcmp .l, 1), (93, .ifCond .gt 6, 3), (96, .goto 10, 3), (99, .iload 6, 2), (101, .istore_n 3, 1), (102, .dload 7, 2), (104, .dstore 4, 2), (106, .iinc 6 1, 3), (109, .goto (-37), 3), (112, .iload_n 3, 1), (113, .ireturn, 1)]
theorem D322_3 : RW322_3.all (xDr prog_9_method_131_code) = true := eAll 86 (by decide +kernel)
def d_322 : xDt := (⟨"IsingLabModel", "peak", "(II)I"⟩, prog_9_method_131_code, 9, (some FieldType.int), 5, [])
def RW323_0 : List (Nat × Instr × Nat) := [(0, .aload_n 0, 1), (1, .iconst 0, 1), (2, .putfield 126, 3), (5, .aload_n 0, 1), (6, .aload_n 0, 1), (7, .lload_n 1, 1), (8, .invokevirtual 404, 3), (11, .ifCond .ne 11, 3), (14, .aload_n 0, 1), (15, .lload_n 3, 1), (16, .invokevirtual 404, 3), (19, .ifCond .eq 7, 3), (22, .iconst 1, 1), (23, .goto 4, 3), (26, .iconst 0, 1), (27, .iconst 1, 1)]
theorem D323_0 : RW323_0.all (xDr prog_9_method_134_code) = true := eAll 0 (by decide +kernel)
def RW323_1 : List (Nat × Instr × Nat) := [(28, .invokevirtual 379, 3), (31, .ifCond .ne 11, 3), (34, .aload_n 0, 1), (35, .iconst 2, 1), (36, .invokevirtual 495, 3), (39, .ifCond .eq 5, 3), (42, .iconst 0, 1), (43, .ireturn, 1), (44, .aload_n 0, 1), (45, .invokevirtual 498, 3), (48, .lload_n 1, 1), (49, .l2i, 1), (50, .istore 5, 2), (52, .lload_n 3, 1), (53, .l2i, 1), (54, .istore 6, 2)]
theorem D323_1 : RW323_1.all (xDr prog_9_method_134_code) = true := eAll 28 (by decide +kernel)
def RW323_2 : List (Nat × Instr × Nat) := [(56, .aload_n 0, 1), (57, .invokevirtual 523, 3), (60, .iconst 0, 1), (61, .istore 7, 2), (63, .iload 7, 2), (65, .aload_n 0, 1), (66, .invokevirtual 483, 3), (69, .if_icmp .ge 141, 3), (72, .aload_n 0, 1), (73, .getfield 102, 3), (76, .iload 7, 2), (78, .iaload, 1), (79, .istore 8, 2), (81, .aload_n 0, 1), (82, .getfield 105, 3), (85, .iload 8, 2)]
theorem D323_2 : RW323_2.all (xDr prog_9_method_134_code) = true := eAll 56 (by decide +kernel)
def RW323_3 : List (Nat × Instr × Nat) := [(87, .iload 8, 2), (89, .iastore, 1), (90, .iconst 0, 1), (91, .istore 9, 2), (93, .iload 9, 2), (95, .aload_n 0, 1), (96, .getfield 7, 3), (99, .bipush 10, 2), (101, .iaload, 1), (102, .if_icmp .ge 57, 3), (105, .iload 8, 2), (107, .iconst 1, 1), (108, .iload 9, 2), (110, .ishl, 1), (111, .ixor, 1), (112, .istore 10, 2)]
theorem D323_3 : RW323_3.all (xDr prog_9_method_134_code) = true := eAll 87 (by decide +kernel)
def RW323_4 : List (Nat × Instr × Nat) := [(114, .aload_n 0, 1), (115, .getfield 105, 3), (118, .iload 10, 2), (120, .iaload, 1), (121, .iconst (-1), 1), (122, .if_icmp .ne 6, 3), (125, .goto 28, 3), (128, .aload_n 0, 1), (129, .iload 10, 2), (131, .invokevirtual 526, 3), (134, .istore 11, 2), (136, .aload_n 0, 1), (137, .iload 8, 2), (139, .invokevirtual 526, 3), (142, .istore 12, 2), (144, .aload_n 0, 1)]
theorem D323_4 : RW323_4.all (xDr prog_9_method_134_code) = true := eAll 114 (by decide +kernel)
def RW323_5 : List (Nat × Instr × Nat) := [(145, .getfield 105, 3), (148, .iload 11, 2), (150, .iload 12, 2), (152, .iastore, 1), (153, .iinc 9 1, 3), (156, .goto (-63), 3), (159, .aload_n 0, 1), (160, .getfield 105, 3), (163, .iload 5, 2), (165, .iaload, 1), (166, .iconst (-1), 1), (167, .if_icmp .eq 37, 3), (170, .aload_n 0, 1), (171, .getfield 105, 3), (174, .iload 6, 2), (176, .iaload, 1)]
theorem D323_5 : RW323_5.all (xDr prog_9_method_134_code) = true := eAll 145 (by decide +kernel)
def RW323_6 : List (Nat × Instr × Nat) := [(177, .iconst (-1), 1), (178, .if_icmp .eq 26, 3), (181, .aload_n 0, 1), (182, .iload 5, 2), (184, .invokevirtual 526, 3), (187, .aload_n 0, 1), (188, .iload 6, 2), (190, .invokevirtual 526, 3), (193, .if_icmp .ne 11, 3), (196, .aload_n 0, 1), (197, .getfield 74, 3), (200, .iload 8, 2), (202, .iaload, 1), (203, .ireturn, 1), (204, .iinc 7 1, 3), (207, .goto (-144), 3)]
theorem D323_6 : RW323_6.all (xDr prog_9_method_134_code) = true := eAll 177 (by decide +kernel)
def RW323_7 : List (Nat × Instr × Nat) := [(210, .iconst 0, 1), (211, .ireturn, 1)]
theorem D323_7 : RW323_7.all (xDr prog_9_method_134_code) = true := eAll 210 (by decide +kernel)
def d_323 : xDt := (⟨"IsingLabModel", "barrier", "(JJ)I"⟩, prog_9_method_134_code, 13, (some FieldType.int), 5, [])
def RW324_0 : List (Nat × Instr × Nat) := [(0, .iconst 0, 1), (1, .istore_n 1, 1), (2, .iload_n 1, 1), (3, .sipush 402, 3), (6, .if_icmp .ge 16, 3), (9, .aload_n 0, 1), (10, .getfield 108, 3), (13, .iload_n 1, 1), (14, .iconst 0, 1), (15, .iastore, 1), (16, .iinc 1 1, 3), (19, .goto (-17), 3), (22, .iconst 0, 1), (23, .istore_n 1, 1), (24, .iload_n 1, 1), (25, .aload_n 0, 1)]
theorem D324_0 : RW324_0.all (xDr prog_9_method_133_code) = true := eAll 0 (by decide +kernel)
def RW324_1 : List (Nat × Instr × Nat) := [(26, .invokevirtual 483, 3), (29, .if_icmp .ge 30, 3), (32, .aload_n 0, 1), (33, .getfield 108, 3), (36, .aload_n 0, 1), (37, .getfield 74, 3), (40, .iload_n 1, 1), (41, .iaload, 1), (42, .sipush 200, 3), (45, .iadd, 1), (46, .iconst 1, 1), (47, .iadd, 1), (48, .dup2, 1), (49, .iaload, 1), (50, .iconst 1, 1), (51, .iadd, 1)]
theorem D324_1 : RW324_1.all (xDr prog_9_method_133_code) = true := eAll 26 (by decide +kernel)
def RW324_2 : List (Nat × Instr × Nat) := [(52, .iastore, 1), (53, .iinc 1 1, 3), (56, .goto (-32), 3), (59, .iconst 1, 1), (60, .istore_n 1, 1), (61, .iload_n 1, 1), (62, .sipush 402, 3), (65, .if_icmp .ge 26, 3), (68, .aload_n 0, 1), (69, .getfield 108, 3), (72, .iload_n 1, 1), (73, .dup2, 1), (74, .iaload, 1), (75, .aload_n 0, 1), (76, .getfield 108, 3), (79, .iload_n 1, 1)]
theorem D324_2 : RW324_2.all (xDr prog_9_method_133_code) = true := eAll 52 (by decide +kernel)
def RW324_3 : List (Nat × Instr × Nat) := [(80, .iconst 1, 1), (81, .isub, 1), (82, .iaload, 1), (83, .iadd, 1), (84, .iastore, 1), (85, .iinc 1 1, 3), (88, .goto (-27), 3), (91, .iconst 0, 1), (92, .istore_n 1, 1), (93, .iload_n 1, 1), (94, .aload_n 0, 1), (95, .invokevirtual 483, 3), (98, .if_icmp .ge 56, 3), (101, .aload_n 0, 1), (102, .getfield 102, 3), (105, .aload_n 0, 1)]
theorem D324_3 : RW324_3.all (xDr prog_9_method_133_code) = true := eAll 80 (by decide +kernel)
def RW324_4 : List (Nat × Instr × Nat) := [(106, .getfield 108, 3), (109, .aload_n 0, 1), (110, .getfield 74, 3), (113, .iload_n 1, 1), (114, .iaload, 1), (115, .sipush 200, 3), (118, .iadd, 1), (119, .iaload, 1), (120, .iload_n 1, 1), (121, .iastore, 1), (122, .aload_n 0, 1), (123, .getfield 108, 3), (126, .aload_n 0, 1), (127, .getfield 74, 3), (130, .iload_n 1, 1), (131, .iaload, 1)]
theorem D324_4 : RW324_4.all (xDr prog_9_method_133_code) = true := eAll 106 (by decide +kernel)
def RW324_5 : List (Nat × Instr × Nat) := [(132, .sipush 200, 3), (135, .iadd, 1), (136, .dup2, 1), (137, .iaload, 1), (138, .iconst 1, 1), (139, .iadd, 1), (140, .iastore, 1), (141, .aload_n 0, 1), (142, .getfield 105, 3), (145, .iload_n 1, 1), (146, .iconst (-1), 1), (147, .iastore, 1), (148, .iinc 1 1, 3), (151, .goto (-58), 3), (154, .return_, 1)]
theorem D324_5 : RW324_5.all (xDr prog_9_method_133_code) = true := eAll 132 (by decide +kernel)
def d_324 : xDt := (⟨"IsingLabModel", "laysOrder", "()V"⟩, prog_9_method_133_code, 2, none, 2, [])
def RW325_0 : List (Nat × Instr × Nat) := [(0, .iload_n 1, 1), (1, .istore_n 2, 1), (2, .aload_n 0, 1), (3, .getfield 105, 3), (6, .iload_n 2, 1), (7, .iaload, 1), (8, .iload_n 2, 1), (9, .if_icmp .eq 30, 3), (12, .aload_n 0, 1), (13, .getfield 105, 3), (16, .iload_n 2, 1), (17, .aload_n 0, 1), (18, .getfield 105, 3), (21, .aload_n 0, 1), (22, .getfield 105, 3), (25, .iload_n 2, 1)]
theorem D325_0 : RW325_0.all (xDr prog_9_method_132_code) = true := eAll 0 (by decide +kernel)
def RW325_1 : List (Nat × Instr × Nat) := [(26, .iaload, 1), (27, .iaload, 1), (28, .iastore, 1), (29, .aload_n 0, 1), (30, .getfield 105, 3), (33, .iload_n 2, 1), (34, .iaload, 1), (35, .istore_n 2, 1), (36, .goto (-34), 3), (39, .iload_n 2, 1), (40, .ireturn, 1)]
theorem D325_1 : RW325_1.all (xDr prog_9_method_132_code) = true := eAll 26 (by decide +kernel)
def d_325 : xDt := (⟨"IsingLabModel", "topOf", "(I)I"⟩, prog_9_method_132_code, 3, (some FieldType.int), 1, [])
def RW326_0 : List (Nat × Instr × Nat) := [(0, .aload_n 0, 1), (1, .iconst 0, 1), (2, .putfield 126, 3), (5, .aload_n 0, 1), (6, .iconst 0, 1), (7, .putfield 529, 3), (10, .iconst 0, 1), (11, .istore_n 1, 1), (12, .iload_n 1, 1), (13, .aload_n 0, 1), (14, .getfield 7, 3), (17, .bipush 10, 2), (19, .iaload, 1), (20, .if_icmp .ge 57, 3), (23, .aload_n 0, 1), (24, .aload_n 0, 1)]
theorem D326_0 : RW326_0.all (xDr prog_9_method_137_code) = true := eAll 0 (by decide +kernel)
def RW326_1 : List (Nat × Instr × Nat) := [(25, .getfield 165, 3), (28, .iload_n 1, 1), (29, .invokestatic 348, 3), (32, .iconst 1, 1), (33, .if_icmp .ne 8, 3), (36, .bipush 43, 2), (38, .goto 5, 3), (41, .bipush 45, 2), (43, .invokevirtual 532, 3), (46, .iload_n 1, 1), (47, .aload_n 0, 1), (48, .getfield 7, 3), (51, .iconst 1, 1), (52, .iaload, 1), (53, .irem, 1), (54, .aload_n 0, 1)]
theorem D326_1 : RW326_1.all (xDr prog_9_method_137_code) = true := eAll 25 (by decide +kernel)
def RW326_2 : List (Nat × Instr × Nat) := [(55, .getfield 7, 3), (58, .iconst 1, 1), (59, .iaload, 1), (60, .iconst 1, 1), (61, .isub, 1), (62, .if_icmp .ne 9, 3), (65, .aload_n 0, 1), (66, .bipush 10, 2), (68, .invokevirtual 532, 3), (71, .iinc 1 1, 3), (74, .goto (-62), 3), (77, .aload_n 0, 1), (78, .getfield 529, 3), (81, .ireturn, 1)]
theorem D326_2 : RW326_2.all (xDr prog_9_method_137_code) = true := eAll 55 (by decide +kernel)
def d_326 : xDt := (⟨"IsingLabModel", "printGrid", "()I"⟩, prog_9_method_137_code, 2, (some FieldType.int), 2, [])
def RW327_0 : List (Nat × Instr × Nat) := [(0, .aload_n 0, 1), (1, .getfield 111, 3), (4, .aload_n 0, 1), (5, .getfield 529, 3), (8, .iload_n 1, 1), (9, .iastore, 1), (10, .aload_n 0, 1), (11, .dup, 1), (12, .getfield 529, 3), (15, .iconst 1, 1), (16, .iadd, 1), (17, .putfield 529, 3), (20, .return_, 1)]
theorem D327_0 : RW327_0.all (xDr prog_9_method_135_code) = true := eAll 0 (by decide +kernel)
def d_327 : xDt := (⟨"IsingLabModel", "write", "(I)V"⟩, prog_9_method_135_code, 2, none, 1, [])
def RW328_0 : List (Nat × Instr × Nat) := [(0, .aload_n 0, 1), (1, .iconst 0, 1), (2, .putfield 126, 3), (5, .aload_n 0, 1), (6, .iload_n 1, 1), (7, .i2l, 1), (8, .lconst 0, 1), (9, .ldc2_w 399, 3), (12, .invokestatic 179, 3), (15, .ifCond .eq 17, 3), (18, .iload_n 2, 1), (19, .i2l, 1), (20, .ldc2_w 399, 3), (23, .ldc2_w 521, 3), (26, .invokestatic 179, 3), (29, .ifCond .ne 7, 3)]
theorem D328_0 : RW328_0.all (xDr prog_9_method_138_code) = true := eAll 0 (by decide +kernel)
def RW328_1 : List (Nat × Instr × Nat) := [(32, .iconst 1, 1), (33, .goto 4, 3), (36, .iconst 0, 1), (37, .iconst 1, 1), (38, .invokevirtual 379, 3), (41, .ifCond .ne 11, 3), (44, .aload_n 0, 1), (45, .iconst 2, 1), (46, .invokevirtual 495, 3), (49, .ifCond .eq 5, 3), (52, .iconst 0, 1), (53, .ireturn, 1), (54, .aload_n 0, 1), (55, .invokevirtual 498, 3), (58, .aload_n 0, 1), (59, .iconst 0, 1)]
theorem D328_1 : RW328_1.all (xDr prog_9_method_138_code) = true := eAll 32 (by decide +kernel)
def RW328_2 : List (Nat × Instr × Nat) := [(60, .putfield 529, 3), (63, .iconst 1, 1), (64, .istore_n 3, 1), (65, .iload_n 3, 1), (66, .iload_n 2, 1), (67, .if_icmp .ge 42, 3), (70, .aload_n 0, 1), (71, .iload_n 3, 1), (72, .invokevirtual 539, 3), (75, .aload_n 0, 1), (76, .bipush 58, 2), (78, .invokevirtual 532, 3), (81, .aload_n 0, 1), (82, .aload_n 0, 1), (83, .iload_n 1, 1), (84, .iload_n 3, 1)]
theorem D328_2 : RW328_2.all (xDr prog_9_method_138_code) = true := eAll 60 (by decide +kernel)
def RW328_3 : List (Nat × Instr × Nat) := [(85, .iload_n 2, 1), (86, .invokevirtual 518, 3), (89, .ldc2_w 542, 3), (92, .dmul, 1), (93, .d2i, 1), (94, .invokevirtual 539, 3), (97, .aload_n 0, 1), (98, .bipush 59, 2), (100, .invokevirtual 532, 3), (103, .iinc 3 1, 3), (106, .goto (-41), 3), (109, .aload_n 0, 1), (110, .getfield 529, 3), (113, .ireturn, 1)]
theorem D328_3 : RW328_3.all (xDr prog_9_method_138_code) = true := eAll 85 (by decide +kernel)
def d_328 : xDt := (⟨"IsingLabModel", "printTable", "(II)I"⟩, prog_9_method_138_code, 4, (some FieldType.int), 5, [])
def RW329_0 : List (Nat × Instr × Nat) := [(0, .iload_n 1, 1), (1, .ifCond .ge 9, 3), (4, .aload_n 0, 1), (5, .bipush 45, 2), (7, .invokevirtual 532, 3), (10, .iload_n 1, 1), (11, .i2l, 1), (12, .invokestatic 469, 3), (15, .lstore_n 2, 1), (16, .lconst 1, 1), (17, .lstore 4, 2), (19, .lload_n 2, 1), (20, .lload 4, 2), (22, .ldiv, 1), (23, .ldc2_w 535, 3), (26, .lcmp, 1)]
theorem D329_0 : RW329_0.all (xDr prog_9_method_136_code) = true := eAll 0 (by decide +kernel)
def RW329_1 : List (Nat × Instr × Nat) := [(27, .ifCond .le 14, 3), (30, .lload 4, 2), (32, .ldc2_w 537, 3), (35, .lmul, 1), (36, .lstore 4, 2), (38, .goto (-19), 3), (41, .lload 4, 2), (43, .lconst 0, 1), (44, .lcmp, 1), (45, .ifCond .le 31, 3), (48, .aload_n 0, 1), (49, .ldc2_w 203, 3), (52, .lload_n 2, 1), (53, .lload 4, 2), (55, .ldiv, 1), (56, .ldc2_w 537, 3)]
theorem D329_1 : RW329_1.all (xDr prog_9_method_136_code) = true := eAll 27 (by decide +kernel)
def RW329_2 : List (Nat × Instr × Nat) := [(59, .lrem, 1), (60, .ladd, 1), (61, .l2i, 1), (62, .invokevirtual 532, 3), (65, .lload 4, 2), (67, .ldc2_w 537, 3), (70, .ldiv, 1), (71, .lstore 4, 2), (73, .goto (-32), 3), (76, .return_, 1)]
theorem D329_2 : RW329_2.all (xDr prog_9_method_136_code) = true := eAll 59 (by decide +kernel)
def d_329 : xDt := (⟨"IsingLabModel", "writeNumber", "(I)V"⟩, prog_9_method_136_code, 6, none, 2, [])
def RW330_0 : List (Nat × Instr × Nat) := [(0, .aload_n 0, 1), (1, .iconst 0, 1), (2, .putfield 126, 3), (5, .iload_n 1, 1), (6, .i2l, 1), (7, .lconst 0, 1), (8, .aload_n 0, 1), (9, .getfield 529, 3), (12, .iconst 1, 1), (13, .isub, 1), (14, .i2l, 1), (15, .invokestatic 179, 3), (18, .ifCond .eq 12, 3), (21, .aload_n 0, 1), (22, .getfield 111, 3), (25, .iload_n 1, 1)]
theorem D330_0 : RW330_0.all (xDr prog_9_method_139_code) = true := eAll 0 (by decide +kernel)
def RW330_1 : List (Nat × Instr × Nat) := [(26, .iaload, 1), (27, .goto 4, 3), (30, .iconst (-1), 1), (31, .ireturn, 1)]
theorem D330_1 : RW330_1.all (xDr prog_9_method_139_code) = true := eAll 26 (by decide +kernel)
def d_330 : xDt := (⟨"IsingLabModel", "outputByte", "(I)I"⟩, prog_9_method_139_code, 2, (some FieldType.int), 2, [])
def RW331_0 : List (Nat × Instr × Nat) := [(0, .aload_n 0, 1), (1, .iconst 0, 1), (2, .putfield 126, 3), (5, .aload_n 0, 1), (6, .getfield 7, 3), (9, .aload_n 0, 1), (10, .getfield 16, 3), (13, .sipush 144, 3), (16, .invokestatic 335, 3), (19, .aload_n 0, 1), (20, .getfield 19, 3), (23, .aload_n 0, 1), (24, .getfield 29, 3), (27, .aload_n 0, 1), (28, .getfield 7, 3), (31, .bipush 9, 2)]
theorem D331_0 : RW331_0.all (xDr prog_9_method_141_code) = true := eAll 0 (by decide +kernel)
def RW331_1 : List (Nat × Instr × Nat) := [(33, .iaload, 1), (34, .invokestatic 335, 3), (37, .aload_n 0, 1), (38, .getfield 22, 3), (41, .aload_n 0, 1), (42, .getfield 32, 3), (45, .aload_n 0, 1), (46, .getfield 7, 3), (49, .bipush 9, 2), (51, .iaload, 1), (52, .invokestatic 335, 3), (55, .aload_n 0, 1), (56, .getfield 25, 3), (59, .aload_n 0, 1), (60, .getfield 35, 3), (63, .aload_n 0, 1)]
theorem D331_1 : RW331_1.all (xDr prog_9_method_141_code) = true := eAll 33 (by decide +kernel)
def RW331_2 : List (Nat × Instr × Nat) := [(64, .getfield 7, 3), (67, .bipush 9, 2), (69, .iaload, 1), (70, .invokestatic 544, 3), (73, .aload_n 0, 1), (74, .aload_n 0, 1), (75, .getfield 165, 3), (78, .putfield 548, 3), (81, .aload_n 0, 1), (82, .aload_n 0, 1), (83, .getfield 157, 3), (86, .putfield 551, 3), (89, .aload_n 0, 1), (90, .iconst 1, 1), (91, .putfield 345, 3), (94, .aload_n 0, 1)]
theorem D331_2 : RW331_2.all (xDr prog_9_method_141_code) = true := eAll 64 (by decide +kernel)
def RW331_3 : List (Nat × Instr × Nat) := [(95, .aload_n 0, 1), (96, .getfield 165, 3), (99, .invokevirtual 408, 3), (102, .ireturn, 1)]
theorem D331_3 : RW331_3.all (xDr prog_9_method_141_code) = true := eAll 95 (by decide +kernel)
def d_331 : xDt := (⟨"IsingLabModel", "saveState", "()I"⟩, prog_9_method_141_code, 1, (some FieldType.int), 4, [])
def RW332_0 : List (Nat × Instr × Nat) := [(0, .iconst 0, 1), (1, .istore_n 3, 1), (2, .iload_n 3, 1), (3, .iload_n 2, 1), (4, .if_icmp .ge 15, 3), (7, .aload_n 1, 1), (8, .iload_n 3, 1), (9, .aload_n 0, 1), (10, .iload_n 3, 1), (11, .laload, 1), (12, .lastore, 1), (13, .iinc 3 1, 3), (16, .goto (-14), 3), (19, .return_, 1)]
theorem D332_0 : RW332_0.all (xDr prog_9_method_140_code) = true := eAll 0 (by decide +kernel)
def d_332 : xDt := (⟨"IsingLabModel", "copiesLong", "([J[JI)V"⟩, prog_9_method_140_code, 4, none, 1, [])
def RW333_0 : List (Nat × Instr × Nat) := [(0, .aload_n 0, 1), (1, .iconst 0, 1), (2, .putfield 126, 3), (5, .aload_n 0, 1), (6, .aload_n 0, 1), (7, .getfield 345, 3), (10, .ifCond .ne 7, 3), (13, .iconst 1, 1), (14, .goto 4, 3), (17, .iconst 0, 1), (18, .iconst 1, 1), (19, .invokevirtual 379, 3), (22, .ifCond .eq 5, 3), (25, .iconst 0, 1), (26, .ireturn, 1), (27, .aload_n 0, 1)]
theorem D333_0 : RW333_0.all (xDr prog_9_method_142_code) = true := eAll 0 (by decide +kernel)
def RW333_1 : List (Nat × Instr × Nat) := [(28, .getfield 16, 3), (31, .aload_n 0, 1), (32, .getfield 7, 3), (35, .sipush 144, 3), (38, .invokestatic 335, 3), (41, .aload_n 0, 1), (42, .getfield 29, 3), (45, .aload_n 0, 1), (46, .getfield 19, 3), (49, .aload_n 0, 1), (50, .getfield 7, 3), (53, .bipush 9, 2), (55, .iaload, 1), (56, .invokestatic 335, 3), (59, .aload_n 0, 1), (60, .getfield 32, 3)]
theorem D333_1 : RW333_1.all (xDr prog_9_method_142_code) = true := eAll 28 (by decide +kernel)
def RW333_2 : List (Nat × Instr × Nat) := [(63, .aload_n 0, 1), (64, .getfield 22, 3), (67, .aload_n 0, 1), (68, .getfield 7, 3), (71, .bipush 9, 2), (73, .iaload, 1), (74, .invokestatic 335, 3), (77, .aload_n 0, 1), (78, .getfield 35, 3), (81, .aload_n 0, 1), (82, .getfield 25, 3), (85, .aload_n 0, 1), (86, .getfield 7, 3), (89, .bipush 9, 2), (91, .iaload, 1), (92, .invokestatic 544, 3)]
theorem D333_2 : RW333_2.all (xDr prog_9_method_142_code) = true := eAll 63 (by decide +kernel)
def RW333_3 : List (Nat × Instr × Nat) := [(95, .aload_n 0, 1), (96, .aload_n 0, 1), (97, .getfield 548, 3), (100, .putfield 165, 3), (103, .aload_n 0, 1), (104, .aload_n 0, 1), (105, .getfield 551, 3), (108, .putfield 157, 3), (111, .aload_n 0, 1), (112, .iconst 0, 1), (113, .putfield 168, 3), (116, .aload_n 0, 1), (117, .aload_n 0, 1), (118, .getfield 165, 3), (121, .invokevirtual 408, 3), (124, .ireturn, 1)]
theorem D333_3 : RW333_3.all (xDr prog_9_method_142_code) = true := eAll 95 (by decide +kernel)
def d_333 : xDt := (⟨"IsingLabModel", "restoreState", "()I"⟩, prog_9_method_142_code, 1, (some FieldType.int), 4, [])
def RW334_0 : List (Nat × Instr × Nat) := [(0, .aload_n 2, 1), (1, .iconst 0, 1), (2, .aload_n 0, 1), (3, .iload_n 1, 1), (4, .invokevirtual 7, 3), (7, .i2l, 1), (8, .lastore, 1), (9, .goto 6, 3), (12, .astore_n 3, 1), (13, .iconst 1, 1), (14, .ireturn, 1), (15, .iconst 0, 1), (16, .ireturn, 1)]
theorem D334_0 : RW334_0.all (xDr method_3_code) = true := eAll 0 (by decide +kernel)
def d_334 : xDt := (⟨"IsingLabLaw", "count", "(LIsingLab;I[J)I"⟩, method_3_code, 4, (some FieldType.int), 7, [(0, 9, 12, 13)])
def RW335_0 : List (Nat × Instr × Nat) := [(0, .aload_n 3, 1), (1, .iconst 0, 1), (2, .aload_n 0, 1), (3, .iload_n 1, 1), (4, .iload_n 2, 1), (5, .invokevirtual 15, 3), (8, .i2l, 1), (9, .lastore, 1), (10, .goto 11, 3), (13, .astore 4, 2), (15, .iconst 1, 1), (16, .ireturn, 1), (17, .astore 4, 2), (19, .iconst 2, 1), (20, .ireturn, 1), (21, .iconst 0, 1)]
theorem D335_0 : RW335_0.all (xDr method_4_code) = true := eAll 0 (by decide +kernel)
def RW335_1 : List (Nat × Instr × Nat) := [(22, .ireturn, 1)]
theorem D335_1 : RW335_1.all (xDr method_4_code) = true := eAll 22 (by decide +kernel)
def d_335 : xDt := (⟨"IsingLabLaw", "bond", "(LIsingLab;II[J)I"⟩, method_4_code, 5, (some FieldType.int), 8, [(0, 10, 13, 19), (0, 10, 17, 13)])
def RW336_0 : List (Nat × Instr × Nat) := [(0, .aload_n 3, 1), (1, .iconst 0, 1), (2, .aload_n 0, 1), (3, .iload_n 1, 1), (4, .iload_n 2, 1), (5, .invokevirtual 21, 3), (8, .i2l, 1), (9, .lastore, 1), (10, .goto 11, 3), (13, .astore 4, 2), (15, .iconst 1, 1), (16, .ireturn, 1), (17, .astore 4, 2), (19, .iconst 2, 1), (20, .ireturn, 1), (21, .iconst 0, 1)]
theorem D336_0 : RW336_0.all (xDr method_5_code) = true := eAll 0 (by decide +kernel)
def RW336_1 : List (Nat × Instr × Nat) := [(22, .ireturn, 1)]
theorem D336_1 : RW336_1.all (xDr method_5_code) = true := eAll 22 (by decide +kernel)
def d_336 : xDt := (⟨"IsingLabLaw", "setBond", "(LIsingLab;II[J)I"⟩, method_5_code, 5, (some FieldType.int), 8, [(0, 10, 13, 19), (0, 10, 17, 13)])
def RW337_0 : List (Nat × Instr × Nat) := [(0, .aload_n 3, 1), (1, .iconst 0, 1), (2, .aload_n 0, 1), (3, .iload_n 1, 1), (4, .iload_n 2, 1), (5, .invokevirtual 24, 3), (8, .i2l, 1), (9, .lastore, 1), (10, .goto 7, 3), (13, .astore 4, 2), (15, .iconst 1, 1), (16, .ireturn, 1), (17, .iconst 0, 1), (18, .ireturn, 1)]
theorem D337_0 : RW337_0.all (xDr method_6_code) = true := eAll 0 (by decide +kernel)
def d_337 : xDt := (⟨"IsingLabLaw", "setRatio", "(LIsingLab;II[J)I"⟩, method_6_code, 5, (some FieldType.int), 8, [(0, 10, 13, 13)])
def RW338_0 : List (Nat × Instr × Nat) := [(0, .aload_n 2, 1), (1, .iconst 0, 1), (2, .aload_n 0, 1), (3, .iload_n 1, 1), (4, .invokevirtual 27, 3), (7, .i2l, 1), (8, .lastore, 1), (9, .goto 6, 3), (12, .astore_n 3, 1), (13, .iconst 1, 1), (14, .ireturn, 1), (15, .iconst 0, 1), (16, .ireturn, 1)]
theorem D338_0 : RW338_0.all (xDr method_7_code) = true := eAll 0 (by decide +kernel)
def d_338 : xDt := (⟨"IsingLabLaw", "setField", "(LIsingLab;I[J)I"⟩, method_7_code, 4, (some FieldType.int), 8, [(0, 9, 12, 13)])
def RW339_0 : List (Nat × Instr × Nat) := [(0, .aload_n 2, 1), (1, .iconst 0, 1), (2, .aload_n 0, 1), (3, .iload_n 1, 1), (4, .invokevirtual 30, 3), (7, .i2l, 1), (8, .lastore, 1), (9, .goto 6, 3), (12, .astore_n 3, 1), (13, .iconst 1, 1), (14, .ireturn, 1), (15, .iconst 0, 1), (16, .ireturn, 1)]
theorem D339_0 : RW339_0.all (xDr method_8_code) = true := eAll 0 (by decide +kernel)
def d_339 : xDt := (⟨"IsingLabLaw", "setRule", "(LIsingLab;I[J)I"⟩, method_8_code, 4, (some FieldType.int), 8, [(0, 9, 12, 13)])
def RW340_0 : List (Nat × Instr × Nat) := [(0, .aload_n 2, 1), (1, .iconst 0, 1), (2, .aload_n 0, 1), (3, .iload_n 1, 1), (4, .invokevirtual 33, 3), (7, .i2l, 1), (8, .lastore, 1), (9, .goto 6, 3), (12, .astore_n 3, 1), (13, .iconst 1, 1), (14, .ireturn, 1), (15, .iconst 0, 1), (16, .ireturn, 1)]
theorem D340_0 : RW340_0.all (xDr method_9_code) = true := eAll 0 (by decide +kernel)
def d_340 : xDt := (⟨"IsingLabLaw", "spin", "(LIsingLab;I[J)I"⟩, method_9_code, 4, (some FieldType.int), 8, [(0, 9, 12, 19)])
def RW341_0 : List (Nat × Instr × Nat) := [(0, .aload_n 3, 1), (1, .iconst 0, 1), (2, .aload_n 0, 1), (3, .lload_n 1, 1), (4, .invokevirtual 36, 3), (7, .i2l, 1), (8, .lastore, 1), (9, .goto 7, 3), (12, .astore 4, 2), (14, .iconst 1, 1), (15, .ireturn, 1), (16, .iconst 0, 1), (17, .ireturn, 1)]
theorem D341_0 : RW341_0.all (xDr method_10_code) = true := eAll 0 (by decide +kernel)
def d_341 : xDt := (⟨"IsingLabLaw", "setConfiguration", "(LIsingLab;J[J)I"⟩, method_10_code, 5, (some FieldType.int), 8, [(0, 9, 12, 13)])
def RW342_0 : List (Nat × Instr × Nat) := [(0, .aload_n 2, 1), (1, .iconst 0, 1), (2, .aload_n 0, 1), (3, .iload_n 1, 1), (4, .invokevirtual 40, 3), (7, .i2l, 1), (8, .lastore, 1), (9, .goto 6, 3), (12, .astore_n 3, 1), (13, .iconst 1, 1), (14, .ireturn, 1), (15, .iconst 0, 1), (16, .ireturn, 1)]
theorem D342_0 : RW342_0.all (xDr method_11_code) = true := eAll 0 (by decide +kernel)
def d_342 : xDt := (⟨"IsingLabLaw", "flip", "(LIsingLab;I[J)I"⟩, method_11_code, 4, (some FieldType.int), 8, [(0, 9, 12, 19)])
def RW343_0 : List (Nat × Instr × Nat) := [(0, .aload_n 2, 1), (1, .iconst 0, 1), (2, .aload_n 0, 1), (3, .iload_n 1, 1), (4, .invokevirtual 43, 3), (7, .i2l, 1), (8, .lastore, 1), (9, .goto 6, 3), (12, .astore_n 3, 1), (13, .iconst 1, 1), (14, .ireturn, 1), (15, .iconst 0, 1), (16, .ireturn, 1)]
theorem D343_0 : RW343_0.all (xDr method_12_code) = true := eAll 0 (by decide +kernel)
def d_343 : xDt := (⟨"IsingLabLaw", "delta", "(LIsingLab;I[J)I"⟩, method_12_code, 4, (some FieldType.int), 8, [(0, 9, 12, 19)])
def RW344_0 : List (Nat × Instr × Nat) := [(0, .aload_n 2, 1), (1, .iconst 0, 1), (2, .aload_n 0, 1), (3, .iload_n 1, 1), (4, .invokevirtual 46, 3), (7, .i2l, 1), (8, .lastore, 1), (9, .goto 6, 3), (12, .astore_n 3, 1), (13, .iconst 1, 1), (14, .ireturn, 1), (15, .iconst 0, 1), (16, .ireturn, 1)]
theorem D344_0 : RW344_0.all (xDr method_13_code) = true := eAll 0 (by decide +kernel)
def d_344 : xDt := (⟨"IsingLabLaw", "domainOf", "(LIsingLab;I[J)I"⟩, method_13_code, 4, (some FieldType.int), 8, [(0, 9, 12, 19)])
def RW345_0 : List (Nat × Instr × Nat) := [(0, .aload_n 2, 1), (1, .iconst 0, 1), (2, .aload_n 0, 1), (3, .iload_n 1, 1), (4, .invokevirtual 49, 3), (7, .ifCond .eq 7, 3), (10, .lconst 1, 1), (11, .goto 4, 3), (14, .lconst 0, 1), (15, .lastore, 1), (16, .goto 6, 3), (19, .astore_n 3, 1), (20, .iconst 1, 1), (21, .ireturn, 1), (22, .iconst 0, 1), (23, .ireturn, 1)]
theorem D345_0 : RW345_0.all (xDr method_14_code) = true := eAll 0 (by decide +kernel)
def d_345 : xDt := (⟨"IsingLabLaw", "attempt", "(LIsingLab;I[J)I"⟩, method_14_code, 4, (some FieldType.int), 8, [(0, 16, 19, 19)])
def RW346_0 : List (Nat × Instr × Nat) := [(0, .aload_n 2, 1), (1, .iconst 0, 1), (2, .aload_n 0, 1), (3, .iload_n 1, 1), (4, .invokevirtual 53, 3), (7, .i2l, 1), (8, .lastore, 1), (9, .goto 6, 3), (12, .astore_n 3, 1), (13, .iconst 1, 1), (14, .ireturn, 1), (15, .iconst 0, 1), (16, .ireturn, 1)]
theorem D346_0 : RW346_0.all (xDr method_15_code) = true := eAll 0 (by decide +kernel)
def d_346 : xDt := (⟨"IsingLabLaw", "steps", "(LIsingLab;I[J)I"⟩, method_15_code, 4, (some FieldType.int), 8, [(0, 9, 12, 13)])
def RW347_0 : List (Nat × Instr × Nat) := [(0, .aload_n 2, 1), (1, .iconst 0, 1), (2, .aload_n 0, 1), (3, .iload_n 1, 1), (4, .invokevirtual 56, 3), (7, .i2l, 1), (8, .lastore, 1), (9, .goto 6, 3), (12, .astore_n 3, 1), (13, .iconst 1, 1), (14, .ireturn, 1), (15, .iconst 0, 1), (16, .ireturn, 1)]
theorem D347_0 : RW347_0.all (xDr method_16_code) = true := eAll 0 (by decide +kernel)
def d_347 : xDt := (⟨"IsingLabLaw", "sweep", "(LIsingLab;I[J)I"⟩, method_16_code, 4, (some FieldType.int), 8, [(0, 9, 12, 13)])
def RW348_0 : List (Nat × Instr × Nat) := [(0, .aload_n 2, 1), (1, .iconst 0, 1), (2, .aload_n 0, 1), (3, .iload_n 1, 1), (4, .invokevirtual 59, 3), (7, .i2l, 1), (8, .lastore, 1), (9, .goto 9, 3), (12, .astore_n 3, 1), (13, .iconst 1, 1), (14, .ireturn, 1), (15, .astore_n 3, 1), (16, .iconst 2, 1), (17, .ireturn, 1), (18, .iconst 0, 1), (19, .ireturn, 1)]
theorem D348_0 : RW348_0.all (xDr method_17_code) = true := eAll 0 (by decide +kernel)
def d_348 : xDt := (⟨"IsingLabLaw", "cluster", "(LIsingLab;I[J)I"⟩, method_17_code, 4, (some FieldType.int), 8, [(0, 9, 12, 19), (0, 9, 15, 62)])
def RW349_0 : List (Nat × Instr × Nat) := [(0, .aload_n 1, 1), (1, .iconst 0, 1), (2, .aload_n 0, 1), (3, .invokevirtual 64, 3), (6, .i2l, 1), (7, .lastore, 1), (8, .goto 6, 3), (11, .astore_n 2, 1), (12, .iconst 1, 1), (13, .ireturn, 1), (14, .iconst 0, 1), (15, .ireturn, 1)]
theorem D349_0 : RW349_0.all (xDr method_18_code) = true := eAll 0 (by decide +kernel)
def d_349 : xDt := (⟨"IsingLabLaw", "allClusters", "(LIsingLab;[J)I"⟩, method_18_code, 3, (some FieldType.int), 8, [(0, 8, 11, 62)])
def RW350_0 : List (Nat × Instr × Nat) := [(0, .aload_n 1, 1), (1, .iconst 0, 1), (2, .aload_n 0, 1), (3, .invokevirtual 68, 3), (6, .i2l, 1), (7, .lastore, 1), (8, .goto 6, 3), (11, .astore_n 2, 1), (12, .iconst 1, 1), (13, .ireturn, 1), (14, .iconst 0, 1), (15, .ireturn, 1)]
theorem D350_0 : RW350_0.all (xDr method_19_code) = true := eAll 0 (by decide +kernel)
def d_350 : xDt := (⟨"IsingLabLaw", "sample", "(LIsingLab;[J)I"⟩, method_19_code, 3, (some FieldType.int), 7, [(0, 8, 11, 62)])
def RW351_0 : List (Nat × Instr × Nat) := [(0, .aload_n 2, 1), (1, .iconst 0, 1), (2, .aload_n 0, 1), (3, .iload_n 1, 1), (4, .invokevirtual 71, 3), (7, .i2l, 1), (8, .lastore, 1), (9, .goto 9, 3), (12, .astore_n 3, 1), (13, .iconst 1, 1), (14, .ireturn, 1), (15, .astore_n 3, 1), (16, .iconst 2, 1), (17, .ireturn, 1), (18, .iconst 0, 1), (19, .ireturn, 1)]
theorem D351_0 : RW351_0.all (xDr method_20_code) = true := eAll 0 (by decide +kernel)
def d_351 : xDt := (⟨"IsingLabLaw", "sampleSweeps", "(LIsingLab;I[J)I"⟩, method_20_code, 4, (some FieldType.int), 8, [(0, 9, 12, 13), (0, 9, 15, 62)])
def RW352_0 : List (Nat × Instr × Nat) := [(0, .aload_n 2, 1), (1, .iconst 0, 1), (2, .aload_n 0, 1), (3, .iload_n 1, 1), (4, .invokevirtual 74, 3), (7, .dastore, 1), (8, .goto 6, 3), (11, .astore_n 3, 1), (12, .iconst 1, 1), (13, .ireturn, 1), (14, .iconst 0, 1), (15, .ireturn, 1)]
theorem D352_0 : RW352_0.all (xDr method_21_code) = true := eAll 0 (by decide +kernel)
def d_352 : xDt := (⟨"IsingLabLaw", "sampleMean", "(LIsingLab;I[D)I"⟩, method_21_code, 4, (some FieldType.int), 8, [(0, 8, 11, 13)])
def RW353_0 : List (Nat × Instr × Nat) := [(0, .aload_n 1, 1), (1, .iconst 0, 1), (2, .aload_n 0, 1), (3, .invokevirtual 78, 3), (6, .i2l, 1), (7, .lastore, 1), (8, .goto 6, 3), (11, .astore_n 2, 1), (12, .iconst 1, 1), (13, .ireturn, 1), (14, .iconst 0, 1), (15, .ireturn, 1)]
theorem D353_0 : RW353_0.all (xDr method_22_code) = true := eAll 0 (by decide +kernel)
def d_353 : xDt := (⟨"IsingLabLaw", "levels", "(LIsingLab;[J)I"⟩, method_22_code, 3, (some FieldType.int), 8, [(0, 8, 11, 62)])
def RW354_0 : List (Nat × Instr × Nat) := [(0, .aload_n 3, 1), (1, .iconst 0, 1), (2, .aload_n 0, 1), (3, .iload_n 1, 1), (4, .iload_n 2, 1), (5, .invokevirtual 81, 3), (8, .i2l, 1), (9, .lastore, 1), (10, .goto 15, 3), (13, .astore 4, 2), (15, .iconst 1, 1), (16, .ireturn, 1), (17, .astore 4, 2), (19, .iconst 2, 1), (20, .ireturn, 1), (21, .astore 4, 2)]
theorem D354_0 : RW354_0.all (xDr method_23_code) = true := eAll 0 (by decide +kernel)
def RW354_1 : List (Nat × Instr × Nat) := [(23, .iconst 3, 1), (24, .ireturn, 1), (25, .iconst 0, 1), (26, .ireturn, 1)]
theorem D354_1 : RW354_1.all (xDr method_23_code) = true := eAll 23 (by decide +kernel)
def d_354 : xDt := (⟨"IsingLabLaw", "level", "(LIsingLab;II[J)I"⟩, method_23_code, 5, (some FieldType.int), 8, [(0, 10, 13, 13), (0, 10, 17, 62), (0, 10, 21, 84)])
def RW355_0 : List (Nat × Instr × Nat) := [(0, .aload_n 3, 1), (1, .iconst 0, 1), (2, .aload_n 0, 1), (3, .iload_n 1, 1), (4, .iload_n 2, 1), (5, .invokevirtual 86, 3), (8, .i2l, 1), (9, .lastore, 1), (10, .goto 7, 3), (13, .astore 4, 2), (15, .iconst 1, 1), (16, .ireturn, 1), (17, .iconst 0, 1), (18, .ireturn, 1)]
theorem D355_0 : RW355_0.all (xDr method_24_code) = true := eAll 0 (by decide +kernel)
def d_355 : xDt := (⟨"IsingLabLaw", "countOf", "(LIsingLab;II[J)I"⟩, method_24_code, 5, (some FieldType.int), 8, [(0, 10, 13, 62)])
def RW356_0 : List (Nat × Instr × Nat) := [(0, .aload_n 1, 1), (1, .iconst 0, 1), (2, .aload_n 0, 1), (3, .invokevirtual 89, 3), (6, .i2l, 1), (7, .lastore, 1), (8, .goto 6, 3), (11, .astore_n 2, 1), (12, .iconst 1, 1), (13, .ireturn, 1), (14, .iconst 0, 1), (15, .ireturn, 1)]
theorem D356_0 : RW356_0.all (xDr method_25_code) = true := eAll 0 (by decide +kernel)
def d_356 : xDt := (⟨"IsingLabLaw", "groundEnergy", "(LIsingLab;[J)I"⟩, method_25_code, 3, (some FieldType.int), 8, [(0, 8, 11, 62)])
def RW357_0 : List (Nat × Instr × Nat) := [(0, .aload_n 1, 1), (1, .iconst 0, 1), (2, .aload_n 0, 1), (3, .invokevirtual 92, 3), (6, .i2l, 1), (7, .lastore, 1), (8, .goto 6, 3), (11, .astore_n 2, 1), (12, .iconst 1, 1), (13, .ireturn, 1), (14, .iconst 0, 1), (15, .ireturn, 1)]
theorem D357_0 : RW357_0.all (xDr method_26_code) = true := eAll 0 (by decide +kernel)
def d_357 : xDt := (⟨"IsingLabLaw", "groundStates", "(LIsingLab;[J)I"⟩, method_26_code, 3, (some FieldType.int), 8, [(0, 8, 11, 62)])
def RW358_0 : List (Nat × Instr × Nat) := [(0, .aload_n 1, 1), (1, .iconst 0, 1), (2, .aload_n 0, 1), (3, .invokevirtual 95, 3), (6, .i2l, 1), (7, .lastore, 1), (8, .goto 6, 3), (11, .astore_n 2, 1), (12, .iconst 1, 1), (13, .ireturn, 1), (14, .iconst 0, 1), (15, .ireturn, 1)]
theorem D358_0 : RW358_0.all (xDr method_27_code) = true := eAll 0 (by decide +kernel)
def d_358 : xDt := (⟨"IsingLabLaw", "groundState", "(LIsingLab;[J)I"⟩, method_27_code, 3, (some FieldType.int), 8, [(0, 8, 11, 62)])
def RW359_0 : List (Nat × Instr × Nat) := [(0, .aload_n 1, 1), (1, .iconst 0, 1), (2, .aload_n 0, 1), (3, .invokevirtual 98, 3), (6, .i2l, 1), (7, .lastore, 1), (8, .goto 6, 3), (11, .astore_n 2, 1), (12, .iconst 1, 1), (13, .ireturn, 1), (14, .iconst 0, 1), (15, .ireturn, 1)]
theorem D359_0 : RW359_0.all (xDr method_28_code) = true := eAll 0 (by decide +kernel)
def d_359 : xDt := (⟨"IsingLabLaw", "minima", "(LIsingLab;[J)I"⟩, method_28_code, 3, (some FieldType.int), 8, [(0, 8, 11, 62)])
def RW360_0 : List (Nat × Instr × Nat) := [(0, .aload 4, 2), (2, .iconst 0, 1), (3, .aload_n 0, 1), (4, .iload_n 1, 1), (5, .iload_n 2, 1), (6, .iload_n 3, 1), (7, .invokevirtual 101, 3), (10, .dastore, 1), (11, .goto 11, 3), (14, .astore 5, 2), (16, .iconst 1, 1), (17, .ireturn, 1), (18, .astore 5, 2), (20, .iconst 2, 1), (21, .ireturn, 1), (22, .iconst 0, 1)]
theorem D360_0 : RW360_0.all (xDr method_29_code) = true := eAll 0 (by decide +kernel)
def RW360_1 : List (Nat × Instr × Nat) := [(23, .ireturn, 1)]
theorem D360_1 : RW360_1.all (xDr method_29_code) = true := eAll 23 (by decide +kernel)
def d_360 : xDt := (⟨"IsingLabLaw", "exactMean", "(LIsingLab;III[D)I"⟩, method_29_code, 6, (some FieldType.int), 8, [(0, 11, 14, 13), (0, 11, 18, 62)])
def RW361_0 : List (Nat × Instr × Nat) := [(0, .aload 4, 2), (2, .iconst 0, 1), (3, .aload_n 0, 1), (4, .iload_n 1, 1), (5, .iload_n 2, 1), (6, .iload_n 3, 1), (7, .invokevirtual 105, 3), (10, .dastore, 1), (11, .goto 11, 3), (14, .astore 5, 2), (16, .iconst 1, 1), (17, .ireturn, 1), (18, .astore 5, 2), (20, .iconst 2, 1), (21, .ireturn, 1), (22, .iconst 0, 1)]
theorem D361_0 : RW361_0.all (xDr method_30_code) = true := eAll 0 (by decide +kernel)
def RW361_1 : List (Nat × Instr × Nat) := [(23, .ireturn, 1)]
theorem D361_1 : RW361_1.all (xDr method_30_code) = true := eAll 23 (by decide +kernel)
def d_361 : xDt := (⟨"IsingLabLaw", "figure", "(LIsingLab;III[D)I"⟩, method_30_code, 6, (some FieldType.int), 8, [(0, 11, 14, 13), (0, 11, 18, 62)])
def RW362_0 : List (Nat × Instr × Nat) := [(0, .aload 5, 2), (2, .iconst 0, 1), (3, .aload_n 0, 1), (4, .lload_n 1, 1), (5, .iload_n 3, 1), (6, .iload 4, 2), (8, .invokevirtual 108, 3), (11, .dastore, 1), (12, .goto 11, 3), (15, .astore 6, 2), (17, .iconst 1, 1), (18, .ireturn, 1), (19, .astore 6, 2), (21, .iconst 2, 1), (22, .ireturn, 1), (23, .iconst 0, 1)]
theorem D362_0 : RW362_0.all (xDr method_31_code) = true := eAll 0 (by decide +kernel)
def RW362_1 : List (Nat × Instr × Nat) := [(24, .ireturn, 1)]
theorem D362_1 : RW362_1.all (xDr method_31_code) = true := eAll 24 (by decide +kernel)
def d_362 : xDt := (⟨"IsingLabLaw", "probability", "(LIsingLab;JII[D)I"⟩, method_31_code, 7, (some FieldType.int), 8, [(0, 12, 15, 13), (0, 12, 19, 62)])
def RW363_0 : List (Nat × Instr × Nat) := [(0, .aload 5, 2), (2, .iconst 0, 1), (3, .aload_n 0, 1), (4, .iload_n 1, 1), (5, .iload_n 2, 1), (6, .iload_n 3, 1), (7, .iload 4, 2), (9, .invokevirtual 112, 3), (12, .dastore, 1), (13, .goto 15, 3), (16, .astore 6, 2), (18, .iconst 1, 1), (19, .ireturn, 1), (20, .astore 6, 2), (22, .iconst 2, 1), (23, .ireturn, 1)]
theorem D363_0 : RW363_0.all (xDr method_32_code) = true := eAll 0 (by decide +kernel)
def RW363_1 : List (Nat × Instr × Nat) := [(24, .astore 6, 2), (26, .iconst 3, 1), (27, .ireturn, 1), (28, .iconst 0, 1), (29, .ireturn, 1)]
theorem D363_1 : RW363_1.all (xDr method_32_code) = true := eAll 24 (by decide +kernel)
def d_363 : xDt := (⟨"IsingLabLaw", "correlation", "(LIsingLab;IIII[D)I"⟩, method_32_code, 7, (some FieldType.int), 8, [(0, 13, 16, 19), (0, 13, 20, 13), (0, 13, 24, 62)])
def RW364_0 : List (Nat × Instr × Nat) := [(0, .aload_n 3, 1), (1, .iconst 0, 1), (2, .aload_n 0, 1), (3, .iload_n 1, 1), (4, .iload_n 2, 1), (5, .invokevirtual 116, 3), (8, .i2l, 1), (9, .lastore, 1), (10, .goto 11, 3), (13, .astore 4, 2), (15, .iconst 1, 1), (16, .ireturn, 1), (17, .astore 4, 2), (19, .iconst 2, 1), (20, .ireturn, 1), (21, .iconst 0, 1)]
theorem D364_0 : RW364_0.all (xDr method_33_code) = true := eAll 0 (by decide +kernel)
def RW364_1 : List (Nat × Instr × Nat) := [(22, .ireturn, 1)]
theorem D364_1 : RW364_1.all (xDr method_33_code) = true := eAll 22 (by decide +kernel)
def d_364 : xDt := (⟨"IsingLabLaw", "peak", "(LIsingLab;II[J)I"⟩, method_33_code, 5, (some FieldType.int), 8, [(0, 10, 13, 13), (0, 10, 17, 62)])
def RW365_0 : List (Nat × Instr × Nat) := [(0, .aload_n 1, 1), (1, .iconst 0, 1), (2, .aload_n 0, 1), (3, .invokevirtual 119, 3), (6, .i2l, 1), (7, .lastore, 1), (8, .goto 6, 3), (11, .astore_n 2, 1), (12, .iconst 1, 1), (13, .ireturn, 1), (14, .iconst 0, 1), (15, .ireturn, 1)]
theorem D365_0 : RW365_0.all (xDr method_34_code) = true := eAll 0 (by decide +kernel)
def d_365 : xDt := (⟨"IsingLabLaw", "unbalanced", "(LIsingLab;[J)I"⟩, method_34_code, 3, (some FieldType.int), 8, [(0, 8, 11, 62)])
def RW366_0 : List (Nat × Instr × Nat) := [(0, .aload_n 3, 1), (1, .iconst 0, 1), (2, .aload_n 0, 1), (3, .lload_n 1, 1), (4, .invokevirtual 122, 3), (7, .i2l, 1), (8, .lastore, 1), (9, .goto 7, 3), (12, .astore 4, 2), (14, .iconst 1, 1), (15, .ireturn, 1), (16, .iconst 0, 1), (17, .ireturn, 1)]
theorem D366_0 : RW366_0.all (xDr method_35_code) = true := eAll 0 (by decide +kernel)
def d_366 : xDt := (⟨"IsingLabLaw", "descent", "(LIsingLab;J[J)I"⟩, method_35_code, 5, (some FieldType.int), 8, [(0, 9, 12, 13)])
def RW367_0 : List (Nat × Instr × Nat) := [(0, .aload_n 3, 1), (1, .iconst 0, 1), (2, .aload_n 0, 1), (3, .lload_n 1, 1), (4, .invokevirtual 125, 3), (7, .i2l, 1), (8, .lastore, 1), (9, .goto 7, 3), (12, .astore 4, 2), (14, .iconst 1, 1), (15, .ireturn, 1), (16, .iconst 0, 1), (17, .ireturn, 1)]
theorem D367_0 : RW367_0.all (xDr method_36_code) = true := eAll 0 (by decide +kernel)
def d_367 : xDt := (⟨"IsingLabLaw", "overlap", "(LIsingLab;J[J)I"⟩, method_36_code, 5, (some FieldType.int), 8, [(0, 9, 12, 13)])
def RW368_0 : List (Nat × Instr × Nat) := [(0, .aload_n 2, 1), (1, .iconst 0, 1), (2, .aload_n 0, 1), (3, .iload_n 1, 1), (4, .invokevirtual 128, 3), (7, .dastore, 1), (8, .goto 6, 3), (11, .astore_n 3, 1), (12, .iconst 1, 1), (13, .ireturn, 1), (14, .iconst 0, 1), (15, .ireturn, 1)]
theorem D368_0 : RW368_0.all (xDr method_37_code) = true := eAll 0 (by decide +kernel)
def d_368 : xDt := (⟨"IsingLabLaw", "chance", "(LIsingLab;I[D)I"⟩, method_37_code, 4, (some FieldType.int), 8, [(0, 8, 11, 19)])
def RW369_0 : List (Nat × Instr × Nat) := [(0, .aload_n 2, 1), (1, .iconst 0, 1), (2, .aload_n 0, 1), (3, .iload_n 1, 1), (4, .invokevirtual 131, 3), (7, .i2l, 1), (8, .lastore, 1), (9, .goto 6, 3), (12, .astore_n 3, 1), (13, .iconst 1, 1), (14, .ireturn, 1), (15, .iconst 0, 1), (16, .ireturn, 1)]
theorem D369_0 : RW369_0.all (xDr method_38_code) = true := eAll 0 (by decide +kernel)
def d_369 : xDt := (⟨"IsingLabLaw", "countUpTo", "(LIsingLab;I[J)I"⟩, method_38_code, 4, (some FieldType.int), 8, [(0, 9, 12, 62)])
def RW370_0 : List (Nat × Instr × Nat) := [(0, .aload 5, 2), (2, .iconst 0, 1), (3, .aload_n 0, 1), (4, .lload_n 1, 1), (5, .lload_n 3, 1), (6, .invokevirtual 134, 3), (9, .i2l, 1), (10, .lastore, 1), (11, .goto 11, 3), (14, .astore 6, 2), (16, .iconst 1, 1), (17, .ireturn, 1), (18, .astore 6, 2), (20, .iconst 2, 1), (21, .ireturn, 1), (22, .iconst 0, 1)]
theorem D370_0 : RW370_0.all (xDr method_39_code) = true := eAll 0 (by decide +kernel)
def RW370_1 : List (Nat × Instr × Nat) := [(23, .ireturn, 1)]
theorem D370_1 : RW370_1.all (xDr method_39_code) = true := eAll 23 (by decide +kernel)
def d_370 : xDt := (⟨"IsingLabLaw", "barrier", "(LIsingLab;JJ[J)I"⟩, method_39_code, 7, (some FieldType.int), 8, [(0, 11, 14, 13), (0, 11, 18, 62)])
def RW371_0 : List (Nat × Instr × Nat) := [(0, .aload_n 3, 1), (1, .iconst 0, 1), (2, .aload_n 0, 1), (3, .lload_n 1, 1), (4, .invokevirtual 138, 3), (7, .lastore, 1), (8, .goto 7, 3), (11, .astore 4, 2), (13, .iconst 1, 1), (14, .ireturn, 1), (15, .iconst 0, 1), (16, .ireturn, 1)]
theorem D371_0 : RW371_0.all (xDr method_40_code) = true := eAll 0 (by decide +kernel)
def d_371 : xDt := (⟨"IsingLabLaw", "descentEnd", "(LIsingLab;J[J)I"⟩, method_40_code, 5, (some FieldType.int), 8, [(0, 8, 11, 13)])
def RW372_0 : List (Nat × Instr × Nat) := [(0, .aload_n 3, 1), (1, .iconst 0, 1), (2, .aload_n 0, 1), (3, .iload_n 1, 1), (4, .iload_n 2, 1), (5, .invokevirtual 142, 3), (8, .i2l, 1), (9, .lastore, 1), (10, .goto 7, 3), (13, .astore 4, 2), (15, .iconst 1, 1), (16, .ireturn, 1), (17, .iconst 0, 1), (18, .ireturn, 1)]
theorem D372_0 : RW372_0.all (xDr method_41_code) = true := eAll 0 (by decide +kernel)
def d_372 : xDt := (⟨"IsingLabLaw", "strengthBetween", "(LIsingLab;II[J)I"⟩, method_41_code, 5, (some FieldType.int), 8, [(0, 10, 13, 19)])
def RW373_0 : List (Nat × Instr × Nat) := [(0, .aload_n 3, 1), (1, .iconst 0, 1), (2, .aload_n 0, 1), (3, .iload_n 1, 1), (4, .iload_n 2, 1), (5, .invokevirtual 145, 3), (8, .i2l, 1), (9, .lastore, 1), (10, .goto 11, 3), (13, .astore 4, 2), (15, .iconst 1, 1), (16, .ireturn, 1), (17, .astore 4, 2), (19, .iconst 2, 1), (20, .ireturn, 1), (21, .iconst 0, 1)]
theorem D373_0 : RW373_0.all (xDr method_42_code) = true := eAll 0 (by decide +kernel)
def RW373_1 : List (Nat × Instr × Nat) := [(22, .ireturn, 1)]
theorem D373_1 : RW373_1.all (xDr method_42_code) = true := eAll 22 (by decide +kernel)
def d_373 : xDt := (⟨"IsingLabLaw", "printTable", "(LIsingLab;II[J)I"⟩, method_42_code, 5, (some FieldType.int), 13, [(0, 10, 13, 13), (0, 10, 17, 62)])
def RW374_0 : List (Nat × Instr × Nat) := [(0, .aload_n 1, 1), (1, .iconst 0, 1), (2, .aload_n 0, 1), (3, .invokevirtual 148, 3), (6, .i2l, 1), (7, .lastore, 1), (8, .goto 6, 3), (11, .astore_n 2, 1), (12, .iconst 1, 1), (13, .ireturn, 1), (14, .iconst 0, 1), (15, .ireturn, 1)]
theorem D374_0 : RW374_0.all (xDr method_43_code) = true := eAll 0 (by decide +kernel)
def d_374 : xDt := (⟨"IsingLabLaw", "restoreState", "(LIsingLab;[J)I"⟩, method_43_code, 3, (some FieldType.int), 7, [(0, 8, 11, 62)])
def d_375 : xDt := (⟨"IsingLabLaw", "law", "([I)Z"⟩, code, 10, (some FieldType.boolean), 14, [])
def xDl : List xDt := [d_1, d_1, d_2, d_3, d_4, d_5, d_6, d_7, d_8, d_9, d_10, d_11, d_12, d_13, d_14, d_15, d_16, d_17, d_18, d_19, d_20, d_21, d_22, d_23, d_24, d_25, d_26, d_27, d_28, d_29, d_30, d_31, d_32, d_33, d_34, d_35, d_36, d_37, d_38, d_39, d_40, d_41, d_42, d_43, d_44, d_45, d_46, d_47, d_48, d_49, d_50, d_51, d_52, d_53, d_54, d_55, d_56, d_57, d_58, d_59, d_60, d_61, d_62, d_63, d_64, d_65, d_66, d_67, d_68, d_69, d_70, d_71, d_72, d_73, d_74, d_75, d_76, d_77, d_78, d_79, d_80, d_81, d_82, d_83, d_84, d_85, d_86, d_87, d_88, d_89, d_90, d_91, d_92, d_93, d_94, d_95, d_96, d_97, d_98, d_99, d_100, d_101, d_102, d_103, d_104, d_105, d_106, d_107, d_108, d_109, d_110, d_111, d_112, d_113, d_114, d_115, d_116, d_117, d_118, d_119, d_120, d_121, d_122, d_123, d_124, d_125, d_126, d_127, d_128, d_129, d_130, d_131, d_132, d_133, d_134, d_135, d_136, d_137, d_138, d_139, d_140, d_141, d_142, d_143, d_144, d_145, d_146, d_147, d_148, d_149, d_150, d_151, d_152, d_153, d_154, d_155, d_156, d_157, d_158, d_159, d_160, d_161, d_162, d_163, d_164, d_165, d_166, d_167, d_168, d_169, d_170, d_171, d_172, d_173, d_174, d_175, d_176, d_177, d_178, d_179, d_180, d_181, d_182, d_183, d_184, d_185, d_186, d_187, d_188, d_189, d_190, d_191, d_192, d_193, d_194, d_195, d_196, d_197, d_198, d_199, d_200, d_201, d_202, d_203, d_204, d_205, d_206, d_207, d_208, d_209, d_210, d_211, d_212, d_213, d_214, d_215, d_216, d_217, d_218, d_219, d_220, d_221, d_222, d_223, d_224, d_225, d_226, d_227, d_228, d_229, d_230, d_231, d_232, d_233, d_234, d_235, d_236, d_237, d_238, d_239, d_240, d_241, d_242, d_243, d_244, d_245, d_246, d_247, d_248, d_249, d_250, d_251, d_252, d_253, d_254, d_255, d_256, d_257, d_258, d_259, d_260, d_261, d_262, d_263, d_264, d_265, d_266, d_267, d_268, d_269, d_270, d_271, d_272, d_273, d_274, d_275, d_276, d_277, d_278, d_279, d_280, d_281, d_282, d_283, d_284, d_285, d_286, d_287, d_288, d_289, d_290, d_291, d_292, d_293, d_294, d_295, d_296, d_297, d_298, d_299, d_300, d_301, d_302, d_303, d_304, d_305, d_306, d_307, d_308, d_309, d_310, d_311, d_312, d_313, d_314, d_315, d_316, d_317, d_318, d_319, d_320, d_321, d_322, d_323, d_324, d_325, d_326, d_327, d_328, d_329, d_330, d_331, d_332, d_333, d_334, d_335, d_336, d_337, d_338, d_339, d_340, d_341, d_342, d_343, d_344, d_345, d_346, d_347, d_348, d_349, d_350, d_351, d_352, d_353, d_354, d_355, d_356, d_357, d_358, d_359, d_360, d_361, d_362, d_363, d_364, d_365, d_366, d_367, d_368, d_369, d_370, d_371, d_372, d_373, d_374, d_375]
def xDat : Nat → xDt := fun y => xDl.getD y d_1
def xSr : List (String × Nat × String × Nat) := [("IsingLab$SetupReader", 70, "size", 0), ("IsingLab$SetupReader", 76, "edge", 1), ("IsingLab$SetupReader", 78, "ratio", 2), ("IsingLab$SetupReader", 80, "strength", 3), ("IsingLab$SetupReader", 82, "field", 4), ("IsingLab$SetupReader", 84, "rule", 5), ("IsingLab$SetupReader", 86, "seed", 6), ("IsingLab$SetupReader", 88, "start", 7), ("IsingLab$SetupReader", 89, "bond", 8), ("IsingLab$SetupReader", 98, "torus", 9), ("IsingLab$SetupReader", 100, "plane", 10), ("IsingLab$SetupReader", 102, "tube", 11), ("IsingLab$SetupReader", 121, "metropolis", 12), ("IsingLab$SetupReader", 123, "greedy", 13), ("IsingLab$SetupReader", 125, "eager", 14), ("IsingLab$SetupReader", 131, "up", 15), ("IsingLab$SetupReader", 133, "down", 16), ("IsingLab$SetupReader", 135, "chess", 17), ("IsingLab$SetupReader", 153, "right", 18), ("IsingLab", 121, "a number is out of range", 19), ("IsingLab", 182, "no such number", 20), ("IsingLab", 204, "no such property", 21), ("IsingLab", 117, "no such bond", 22), ("IsingLab", 124, "A or B is out of range", 23), ("IsingLab", 109, "no such site", 24), ("IsingLab", 130, "a bit of a site that does not exist", 25), ("IsingLab", 137, "clusters need strengths from 0 and no field", 26), ("IsingLab", 291, "there are 10000 samples", 27), ("IsingLab", 296, "there would be more than 10000 samples", 28), ("IsingLab", 140, "the grid has more than 16 sites", 29), ("IsingLab", 328, "no such level", 30), ("IsingLab", 394, "no state is saved", 31), ("IsingLabModel", 288, "size", 32), ("IsingLabModel", 293, "edge", 33), ("IsingLabModel", 297, "ratio", 34), ("IsingLabModel", 302, "strength", 35), ("IsingLabModel", 307, "field", 36), ("IsingLabModel", 312, "rule", 37), ("IsingLabModel", 317, "seed", 38), ("IsingLabModel", 322, "start", 39), ("IsingLabModel", 327, "bond", 40), ("IsingLabModel", 253, "torus", 41), ("IsingLabModel", 255, "plane", 42), ("IsingLabModel", 257, "tube", 43), ("IsingLabModel", 270, "metropolis", 44), ("IsingLabModel", 272, "greedy", 45), ("IsingLabModel", 274, "eager", 46), ("IsingLabModel", 276, "up", 47), ("IsingLabModel", 278, "down", 48), ("IsingLabModel", 280, "chess", 49), ("IsingLabModel", 282, "right", 50)]
abbrev xQt : Type := Launch × Nat × Heap × (Nat → ClassId) × (Nat → Nat → Nat) × (Nat → ClassId) × (Nat → Nat) × Bool
def xNl (q : xQt) : Value := if q.2.2.2.2.2.2.2 = true then .null else .ref (q.2.2.2.2.2.2.1 900502)
def xSv (q : xQt) : List (String × String × String × Value) := [("java/lang/String", "COMPACT_STRINGS", "Z", .int 1), ("java/lang/Integer", "DigitTens", "[B", .ref (q.2.2.2.2.2.2.1 900800)), ("java/lang/Integer", "DigitOnes", "[B", .ref (q.2.2.2.2.2.2.1 900801)), ("jdk/internal/util/Preconditions", "SIOOBE_FORMATTER", "Ljava/util/function/BiFunction;", xNl q)]
def xGm (q : xQt) : xGt := (q.1, q.2.1, q.2.2.1, q.2.2.2.1, q.2.2.2.2.1, q.2.2.2.2.2.1, q.2.2.2.2.2.2.1, xCl, xTB, xDat, xSr, xSv q)
theorem sr_0 (q : xQt) : xSr.getD 0 ("", 0, "", 0) ∈ (xGm q).sr := List.mem_of_getElem? (i := 0) rfl
theorem sr_1 (q : xQt) : xSr.getD 1 ("", 0, "", 0) ∈ (xGm q).sr := List.mem_of_getElem? (i := 1) rfl
theorem sr_2 (q : xQt) : xSr.getD 2 ("", 0, "", 0) ∈ (xGm q).sr := List.mem_of_getElem? (i := 2) rfl
theorem sr_3 (q : xQt) : xSr.getD 3 ("", 0, "", 0) ∈ (xGm q).sr := List.mem_of_getElem? (i := 3) rfl
theorem sr_4 (q : xQt) : xSr.getD 4 ("", 0, "", 0) ∈ (xGm q).sr := List.mem_of_getElem? (i := 4) rfl
theorem sr_5 (q : xQt) : xSr.getD 5 ("", 0, "", 0) ∈ (xGm q).sr := List.mem_of_getElem? (i := 5) rfl
theorem sr_6 (q : xQt) : xSr.getD 6 ("", 0, "", 0) ∈ (xGm q).sr := List.mem_of_getElem? (i := 6) rfl
theorem sr_7 (q : xQt) : xSr.getD 7 ("", 0, "", 0) ∈ (xGm q).sr := List.mem_of_getElem? (i := 7) rfl
theorem sr_8 (q : xQt) : xSr.getD 8 ("", 0, "", 0) ∈ (xGm q).sr := List.mem_of_getElem? (i := 8) rfl
theorem sr_9 (q : xQt) : xSr.getD 9 ("", 0, "", 0) ∈ (xGm q).sr := List.mem_of_getElem? (i := 9) rfl
theorem sr_10 (q : xQt) : xSr.getD 10 ("", 0, "", 0) ∈ (xGm q).sr := List.mem_of_getElem? (i := 10) rfl
theorem sr_11 (q : xQt) : xSr.getD 11 ("", 0, "", 0) ∈ (xGm q).sr := List.mem_of_getElem? (i := 11) rfl
theorem sr_12 (q : xQt) : xSr.getD 12 ("", 0, "", 0) ∈ (xGm q).sr := List.mem_of_getElem? (i := 12) rfl
theorem sr_13 (q : xQt) : xSr.getD 13 ("", 0, "", 0) ∈ (xGm q).sr := List.mem_of_getElem? (i := 13) rfl
theorem sr_14 (q : xQt) : xSr.getD 14 ("", 0, "", 0) ∈ (xGm q).sr := List.mem_of_getElem? (i := 14) rfl
theorem sr_15 (q : xQt) : xSr.getD 15 ("", 0, "", 0) ∈ (xGm q).sr := List.mem_of_getElem? (i := 15) rfl
theorem sr_16 (q : xQt) : xSr.getD 16 ("", 0, "", 0) ∈ (xGm q).sr := List.mem_of_getElem? (i := 16) rfl
theorem sr_17 (q : xQt) : xSr.getD 17 ("", 0, "", 0) ∈ (xGm q).sr := List.mem_of_getElem? (i := 17) rfl
theorem sr_18 (q : xQt) : xSr.getD 18 ("", 0, "", 0) ∈ (xGm q).sr := List.mem_of_getElem? (i := 18) rfl
theorem sr_19 (q : xQt) : xSr.getD 19 ("", 0, "", 0) ∈ (xGm q).sr := List.mem_of_getElem? (i := 19) rfl
theorem sr_20 (q : xQt) : xSr.getD 20 ("", 0, "", 0) ∈ (xGm q).sr := List.mem_of_getElem? (i := 20) rfl
theorem sr_21 (q : xQt) : xSr.getD 21 ("", 0, "", 0) ∈ (xGm q).sr := List.mem_of_getElem? (i := 21) rfl
theorem sr_22 (q : xQt) : xSr.getD 22 ("", 0, "", 0) ∈ (xGm q).sr := List.mem_of_getElem? (i := 22) rfl
theorem sr_23 (q : xQt) : xSr.getD 23 ("", 0, "", 0) ∈ (xGm q).sr := List.mem_of_getElem? (i := 23) rfl
theorem sr_24 (q : xQt) : xSr.getD 24 ("", 0, "", 0) ∈ (xGm q).sr := List.mem_of_getElem? (i := 24) rfl
theorem sr_25 (q : xQt) : xSr.getD 25 ("", 0, "", 0) ∈ (xGm q).sr := List.mem_of_getElem? (i := 25) rfl
theorem sr_26 (q : xQt) : xSr.getD 26 ("", 0, "", 0) ∈ (xGm q).sr := List.mem_of_getElem? (i := 26) rfl
theorem sr_27 (q : xQt) : xSr.getD 27 ("", 0, "", 0) ∈ (xGm q).sr := List.mem_of_getElem? (i := 27) rfl
theorem sr_28 (q : xQt) : xSr.getD 28 ("", 0, "", 0) ∈ (xGm q).sr := List.mem_of_getElem? (i := 28) rfl
theorem sr_29 (q : xQt) : xSr.getD 29 ("", 0, "", 0) ∈ (xGm q).sr := List.mem_of_getElem? (i := 29) rfl
theorem sr_30 (q : xQt) : xSr.getD 30 ("", 0, "", 0) ∈ (xGm q).sr := List.mem_of_getElem? (i := 30) rfl
theorem sr_31 (q : xQt) : xSr.getD 31 ("", 0, "", 0) ∈ (xGm q).sr := List.mem_of_getElem? (i := 31) rfl
theorem sr_32 (q : xQt) : xSr.getD 32 ("", 0, "", 0) ∈ (xGm q).sr := List.mem_of_getElem? (i := 32) rfl
theorem sr_33 (q : xQt) : xSr.getD 33 ("", 0, "", 0) ∈ (xGm q).sr := List.mem_of_getElem? (i := 33) rfl
theorem sr_34 (q : xQt) : xSr.getD 34 ("", 0, "", 0) ∈ (xGm q).sr := List.mem_of_getElem? (i := 34) rfl
theorem sr_35 (q : xQt) : xSr.getD 35 ("", 0, "", 0) ∈ (xGm q).sr := List.mem_of_getElem? (i := 35) rfl
theorem sr_36 (q : xQt) : xSr.getD 36 ("", 0, "", 0) ∈ (xGm q).sr := List.mem_of_getElem? (i := 36) rfl
theorem sr_37 (q : xQt) : xSr.getD 37 ("", 0, "", 0) ∈ (xGm q).sr := List.mem_of_getElem? (i := 37) rfl
theorem sr_38 (q : xQt) : xSr.getD 38 ("", 0, "", 0) ∈ (xGm q).sr := List.mem_of_getElem? (i := 38) rfl
theorem sr_39 (q : xQt) : xSr.getD 39 ("", 0, "", 0) ∈ (xGm q).sr := List.mem_of_getElem? (i := 39) rfl
theorem sr_40 (q : xQt) : xSr.getD 40 ("", 0, "", 0) ∈ (xGm q).sr := List.mem_of_getElem? (i := 40) rfl
theorem sr_41 (q : xQt) : xSr.getD 41 ("", 0, "", 0) ∈ (xGm q).sr := List.mem_of_getElem? (i := 41) rfl
theorem sr_42 (q : xQt) : xSr.getD 42 ("", 0, "", 0) ∈ (xGm q).sr := List.mem_of_getElem? (i := 42) rfl
theorem sr_43 (q : xQt) : xSr.getD 43 ("", 0, "", 0) ∈ (xGm q).sr := List.mem_of_getElem? (i := 43) rfl
theorem sr_44 (q : xQt) : xSr.getD 44 ("", 0, "", 0) ∈ (xGm q).sr := List.mem_of_getElem? (i := 44) rfl
theorem sr_45 (q : xQt) : xSr.getD 45 ("", 0, "", 0) ∈ (xGm q).sr := List.mem_of_getElem? (i := 45) rfl
theorem sr_46 (q : xQt) : xSr.getD 46 ("", 0, "", 0) ∈ (xGm q).sr := List.mem_of_getElem? (i := 46) rfl
theorem sr_47 (q : xQt) : xSr.getD 47 ("", 0, "", 0) ∈ (xGm q).sr := List.mem_of_getElem? (i := 47) rfl
theorem sr_48 (q : xQt) : xSr.getD 48 ("", 0, "", 0) ∈ (xGm q).sr := List.mem_of_getElem? (i := 48) rfl
theorem sr_49 (q : xQt) : xSr.getD 49 ("", 0, "", 0) ∈ (xGm q).sr := List.mem_of_getElem? (i := 49) rfl
theorem sr_50 (q : xQt) : xSr.getD 50 ("", 0, "", 0) ∈ (xGm q).sr := List.mem_of_getElem? (i := 50) rfl
theorem sv_0 (q : xQt) : (xSv q).getD 0 ("", "", "", .null) ∈ (xGm q).sv := List.mem_of_getElem? (i := 0) rfl
theorem sv_1 (q : xQt) : (xSv q).getD 1 ("", "", "", .null) ∈ (xGm q).sv := List.mem_of_getElem? (i := 1) rfl
theorem sv_2 (q : xQt) : (xSv q).getD 2 ("", "", "", .null) ∈ (xGm q).sv := List.mem_of_getElem? (i := 2) rfl
theorem sv_3 (q : xQt) : (xSv q).getD 3 ("", "", "", .null) ∈ (xGm q).sv := List.mem_of_getElem? (i := 3) rfl
theorem xNul (q : xQt) : xNl q = .null ∨ xNl q = .ref ((xGm q).aC 900502) := by
  unfold xNl
  split
  · exact Or.inl rfl
  · exact Or.inr rfl
theorem xGood_ (q : xQt) : xGood (xGm q) := fun w hw => (List.mem_filter.mp hw).2
theorem ck1 (q : xQt) : xClsOk (xGm q) 1 := ⟨(Nat.le_of_ble_eq_true rfl), (Nat.le_of_ble_eq_true rfl), hin1, ⟨ty1, tyo1⟩, nmo1⟩
theorem ck2 (q : xQt) : xClsOk (xGm q) 2 := ⟨(Nat.le_of_ble_eq_true rfl), (Nat.le_of_ble_eq_true rfl), hin2, ⟨ty2, tyo2⟩, nmo2⟩
theorem ck3 (q : xQt) : xClsOk (xGm q) 3 := ⟨(Nat.le_of_ble_eq_true rfl), (Nat.le_of_ble_eq_true rfl), hin3, ⟨ty3, tyo3⟩, nmo3⟩
theorem ck4 (q : xQt) : xClsOk (xGm q) 4 := ⟨(Nat.le_of_ble_eq_true rfl), (Nat.le_of_ble_eq_true rfl), hin4, ⟨ty4, tyo4⟩, nmo4⟩
theorem ck5 (q : xQt) : xClsOk (xGm q) 5 := ⟨(Nat.le_of_ble_eq_true rfl), (Nat.le_of_ble_eq_true rfl), hin5, ⟨ty5, tyo5⟩, nmo5⟩
theorem ck6 (q : xQt) : xClsOk (xGm q) 6 := ⟨(Nat.le_of_ble_eq_true rfl), (Nat.le_of_ble_eq_true rfl), hin6, ⟨ty6, tyo6⟩, nmo6⟩
theorem ck7 (q : xQt) : xClsOk (xGm q) 7 := ⟨(Nat.le_of_ble_eq_true rfl), (Nat.le_of_ble_eq_true rfl), hin7, ⟨ty7, tyo7⟩, nmo7⟩
theorem ck8 (q : xQt) : xClsOk (xGm q) 8 := ⟨(Nat.le_of_ble_eq_true rfl), (Nat.le_of_ble_eq_true rfl), hin8, ⟨ty8, tyo8⟩, nmo8⟩
theorem ck9 (q : xQt) : xClsOk (xGm q) 9 := ⟨(Nat.le_of_ble_eq_true rfl), (Nat.le_of_ble_eq_true rfl), hin9, ⟨ty9, tyo9⟩, nmo9⟩
theorem ck10 (q : xQt) : xClsOk (xGm q) 10 := ⟨(Nat.le_of_ble_eq_true rfl), (Nat.le_of_ble_eq_true rfl), hin10, ⟨ty10, tyo10⟩, nmo10⟩
theorem na_int (q : xQt) {d : xDt} {pc : Nat} (hd : decode d.2.1 pc = .ok (.newarray .int, 2)) : xSnd (xGm q) d pc (i_newa 100 4) 2 := s_newa (by decide) (by decide) rfl rfl (fun o j h sh => by simp [xAv, gI_nS, gL_nS, gD_nS]; rfl) hd wf1946
theorem na_long (q : xQt) {d : xDt} {pc : Nat} (hd : decode d.2.1 pc = .ok (.newarray .long, 2)) : xSnd (xGm q) d pc (i_newa 101 8) 2 := s_newa (by decide) (by decide) rfl rfl (fun o j h sh => by simp [xAv, gI_nS, gL_nS, gD_nS]; rfl) hd wf1947
theorem na_double (q : xQt) {d : xDt} {pc : Nat} (hd : decode d.2.1 pc = .ok (.newarray .double, 2)) : xSnd (xGm q) d pc (i_newa 102 8) 2 := s_newa (by decide) (by decide) rfl rfl (fun o j h sh => by simp [xAv, gI_nS, gL_nS, gD_nS]; rfl) hd wf1948
theorem na_byte (q : xQt) {d : xDt} {pc : Nat} (hd : decode d.2.1 pc = .ok (.newarray .byte, 2)) : xSnd (xGm q) d pc (i_newa 103 1) 2 := s_newa (by decide) (by decide) rfl rfl (fun o j h sh => by simp [xAv, gI_nS, gL_nS, gD_nS]; rfl) hd wf1949
theorem na_short (q : xQt) {d : xDt} {pc : Nat} (hd : decode d.2.1 pc = .ok (.newarray .short, 2)) : xSnd (xGm q) d pc (i_newa 104 2) 2 := s_newa (by decide) (by decide) rfl rfl (fun o j h sh => by simp [xAv, gI_nS, gL_nS, gD_nS]; rfl) hd wf1950
theorem na_boolean (q : xQt) {d : xDt} {pc : Nat} (hd : decode d.2.1 pc = .ok (.newarray .boolean, 2)) : xSnd (xGm q) d pc (i_newa 105 1) 2 := s_newa (by decide) (by decide) rfl rfl (fun o j h sh => by simp [xAv, gI_nS, gL_nS, gD_nS]; rfl) hd wf1951
theorem dt1 (q : xQt) : (xGm q).dat 1 = d_1 := rfl
theorem cpn0 : plainName "java/util/Arrays" = true := by decide +kernel
theorem cnm0 : "java/util/Arrays" ≠ "java/lang/invoke/MethodHandle" ∧ "java/util/Arrays" ≠ "java/lang/invoke/VarHandle" := ⟨by decide +kernel, by decide +kernel⟩
theorem cds0 : (parseMethodDescriptor "(III)V").map (fun g => g.parameters.length) = some 3 := by decide +kernel
theorem co1 (q : xQt) : xCal (xGm q) d_1 3 3 := ⟨xGood_ q, wf1563, trivial, wf1564, cpn0, cnm0, (Nat.le_of_ble_eq_true rfl), Nat.le_refl _, cds0⟩
theorem dt2 (q : xQt) : (xGm q).dat 2 = d_2 := rfl
theorem cpn1 : plainName "java/lang/Long" = true := by decide +kernel
theorem cnm1 : "java/lang/Long" ≠ "java/lang/invoke/MethodHandle" ∧ "java/lang/Long" ≠ "java/lang/invoke/VarHandle" := ⟨by decide +kernel, by decide +kernel⟩
theorem cds1 : (parseMethodDescriptor "(J)I").map (fun g => g.parameters.length) = some 1 := by decide +kernel
theorem co2 (q : xQt) : xCal (xGm q) d_2 1 2 := ⟨xGood_ q, wf1565, trivial, wf1566, cpn1, cnm1, (Nat.le_of_ble_eq_true rfl), Nat.le_refl _, cds1⟩
theorem dt3 (q : xQt) : (xGm q).dat 3 = d_3 := rfl
theorem co3 (q : xQt) : xCal (xGm q) d_3 1 3 := ⟨xGood_ q, wf1567, trivial, wf1566, cpn1, cnm1, (Nat.le_of_ble_eq_true rfl), Nat.le_refl _, cds1⟩
theorem dt4 (q : xQt) : (xGm q).dat 4 = d_4 := rfl
theorem cpn2 : plainName "java/lang/Integer" = true := by decide +kernel
theorem cnm2 : "java/lang/Integer" ≠ "java/lang/invoke/MethodHandle" ∧ "java/lang/Integer" ≠ "java/lang/invoke/VarHandle" := ⟨by decide +kernel, by decide +kernel⟩
theorem cds2 : (parseMethodDescriptor "(I)I").map (fun g => g.parameters.length) = some 1 := by decide +kernel
theorem co4 (q : xQt) : xCal (xGm q) d_4 1 1 := ⟨xGood_ q, wf1568, trivial, wf1569, cpn2, cnm2, (Nat.le_of_ble_eq_true rfl), Nat.le_refl _, cds2⟩
theorem dt5 (q : xQt) : (xGm q).dat 5 = d_5 := rfl
theorem co5 (q : xQt) : xCal (xGm q) d_5 1 2 := ⟨xGood_ q, wf1570, trivial, wf1569, cpn2, cnm2, (Nat.le_of_ble_eq_true rfl), Nat.le_refl _, cds2⟩
theorem dt6 (q : xQt) : (xGm q).dat 6 = d_6 := rfl
theorem cds3 : (parseMethodDescriptor "([II)V").map (fun g => g.parameters.length) = some 2 := by decide +kernel
theorem co6 (q : xQt) : xCal (xGm q) d_6 2 4 := ⟨xGood_ q, wf1571, trivial, wf1564, cpn0, cnm0, (Nat.le_of_ble_eq_true rfl), Nat.le_refl _, cds3⟩
theorem dt7 (q : xQt) : (xGm q).dat 7 = d_7 := rfl
theorem cpn3 : plainName "java/lang/String" = true := by decide +kernel
theorem cnm3 : "java/lang/String" ≠ "java/lang/invoke/MethodHandle" ∧ "java/lang/String" ≠ "java/lang/invoke/VarHandle" := ⟨by decide +kernel, by decide +kernel⟩
theorem cds4 : (parseMethodDescriptor "()I").map (fun g => g.parameters.length) = some 0 := by decide +kernel
theorem co7 (q : xQt) : xCal (xGm q) d_7 0 1 := ⟨xGood_ q, wf1572, trivial, wf1573, cpn3, cnm3, (Nat.le_of_ble_eq_true rfl), Nat.le_refl _, cds4⟩
theorem dt8 (q : xQt) : (xGm q).dat 8 = d_8 := rfl
theorem cds5 : (parseMethodDescriptor "(I)C").map (fun g => g.parameters.length) = some 1 := by decide +kernel
theorem co8 (q : xQt) : xCal (xGm q) d_8 1 2 := ⟨xGood_ q, wf1574, trivial, wf1573, cpn3, cnm3, (Nat.le_of_ble_eq_true rfl), Nat.le_refl _, cds5⟩
theorem dt9 (q : xQt) : (xGm q).dat 9 = d_9 := rfl
theorem cds6 : (parseMethodDescriptor "()B").map (fun g => g.parameters.length) = some 0 := by decide +kernel
theorem co9 (q : xQt) : xCal (xGm q) d_9 0 1 := ⟨xGood_ q, wf1575, trivial, wf1573, cpn3, cnm3, (Nat.le_of_ble_eq_true rfl), Nat.le_refl _, cds6⟩
theorem dt10 (q : xQt) : (xGm q).dat 10 = d_10 := rfl
theorem cds7 : (parseMethodDescriptor "()Z").map (fun g => g.parameters.length) = some 0 := by decide +kernel
theorem co10 (q : xQt) : xCal (xGm q) d_10 0 1 := ⟨xGood_ q, wf1576, trivial, wf1573, cpn3, cnm3, (Nat.le_of_ble_eq_true rfl), Nat.le_refl _, cds7⟩
theorem dt11 (q : xQt) : (xGm q).dat 11 = d_11 := rfl
theorem cds8 : (parseMethodDescriptor "(II)V").map (fun g => g.parameters.length) = some 2 := by decide +kernel
theorem co11 (q : xQt) : xCal (xGm q) d_11 2 2 := ⟨xGood_ q, wf1577, trivial, wf1573, cpn3, cnm3, (Nat.le_of_ble_eq_true rfl), Nat.le_refl _, cds8⟩
theorem dt12 (q : xQt) : (xGm q).dat 12 = d_12 := rfl
theorem cpn4 : plainName "java/lang/StringLatin1" = true := by decide +kernel
theorem cnm4 : "java/lang/StringLatin1" ≠ "java/lang/invoke/MethodHandle" ∧ "java/lang/StringLatin1" ≠ "java/lang/invoke/VarHandle" := ⟨by decide +kernel, by decide +kernel⟩
theorem cds9 : (parseMethodDescriptor "([BI)C").map (fun g => g.parameters.length) = some 2 := by decide +kernel
theorem co12 (q : xQt) : xCal (xGm q) d_12 2 2 := ⟨xGood_ q, wf1578, trivial, wf1579, cpn4, cnm4, (Nat.le_of_ble_eq_true rfl), Nat.le_refl _, cds9⟩
theorem dt13 (q : xQt) : (xGm q).dat 13 = d_13 := rfl
theorem cpn5 : plainName "jdk/internal/util/Preconditions" = true := by decide +kernel
theorem cnm5 : "jdk/internal/util/Preconditions" ≠ "java/lang/invoke/MethodHandle" ∧ "jdk/internal/util/Preconditions" ≠ "java/lang/invoke/VarHandle" := ⟨by decide +kernel, by decide +kernel⟩
theorem cds10 : (parseMethodDescriptor "(IILjava/util/function/BiFunction;)I").map (fun g => g.parameters.length) = some 3 := by decide +kernel
theorem co13 (q : xQt) : xCal (xGm q) d_13 3 3 := ⟨xGood_ q, wf1580, trivial, wf1581, cpn5, cnm5, (Nat.le_of_ble_eq_true rfl), Nat.le_refl _, cds10⟩
theorem dt14 (q : xQt) : (xGm q).dat 14 = d_14 := rfl
theorem cpn6 : plainName "java/lang/StringBuilder" = true := by decide +kernel
theorem cnm6 : "java/lang/StringBuilder" ≠ "java/lang/invoke/MethodHandle" ∧ "java/lang/StringBuilder" ≠ "java/lang/invoke/VarHandle" := ⟨by decide +kernel, by decide +kernel⟩
theorem cds11 : (parseMethodDescriptor "()V").map (fun g => g.parameters.length) = some 0 := by decide +kernel
theorem co14 (q : xQt) : xCal (xGm q) d_14 0 1 := ⟨xGood_ q, wf1582, trivial, wf435, cpn6, cnm6, (Nat.le_of_ble_eq_true rfl), Nat.le_refl _, cds11⟩
theorem dt15 (q : xQt) : (xGm q).dat 15 = d_15 := rfl
theorem cpn7 : plainName "java/lang/AbstractStringBuilder" = true := by decide +kernel
theorem cnm7 : "java/lang/AbstractStringBuilder" ≠ "java/lang/invoke/MethodHandle" ∧ "java/lang/AbstractStringBuilder" ≠ "java/lang/invoke/VarHandle" := ⟨by decide +kernel, by decide +kernel⟩
theorem cds12 : (parseMethodDescriptor "(I)V").map (fun g => g.parameters.length) = some 1 := by decide +kernel
theorem co15 (q : xQt) : xCal (xGm q) d_15 1 2 := ⟨xGood_ q, wf1583, trivial, wf1584, cpn7, cnm7, (Nat.le_of_ble_eq_true rfl), Nat.le_refl _, cds12⟩
theorem dt16 (q : xQt) : (xGm q).dat 16 = d_16 := rfl
theorem co16 (q : xQt) : xCal (xGm q) d_16 1 2 := ⟨xGood_ q, wf1585, trivial, wf435, cpn6, cnm6, (Nat.le_of_ble_eq_true rfl), Nat.le_refl _, cds12⟩
theorem dt17 (q : xQt) : (xGm q).dat 17 = d_17 := rfl
theorem co17 (q : xQt) : xCal (xGm q) d_17 1 2 := ⟨xGood_ q, wf1586, trivial, wf1584, cpn7, cnm7, (Nat.le_of_ble_eq_true rfl), Nat.le_refl _, cds12⟩
theorem dt18 (q : xQt) : (xGm q).dat 18 = d_18 := rfl
theorem co18 (q : xQt) : xCal (xGm q) d_18 1 3 := ⟨xGood_ q, wf1587, trivial, wf1584, cpn7, cnm7, (Nat.le_of_ble_eq_true rfl), Nat.le_refl _, cds12⟩
theorem dt19 (q : xQt) : (xGm q).dat 19 = d_19 := rfl
theorem co19 (q : xQt) : xCal (xGm q) d_19 1 6 := ⟨xGood_ q, wf1588, trivial, wf1584, cpn7, cnm7, (Nat.le_of_ble_eq_true rfl), Nat.le_refl _, cds2⟩
theorem dt20 (q : xQt) : (xGm q).dat 20 = d_20 := rfl
theorem cpn8 : plainName "jdk/internal/util/ArraysSupport" = true := by decide +kernel
theorem cnm8 : "jdk/internal/util/ArraysSupport" ≠ "java/lang/invoke/MethodHandle" ∧ "jdk/internal/util/ArraysSupport" ≠ "java/lang/invoke/VarHandle" := ⟨by decide +kernel, by decide +kernel⟩
theorem cds13 : (parseMethodDescriptor "(III)I").map (fun g => g.parameters.length) = some 3 := by decide +kernel
theorem co20 (q : xQt) : xCal (xGm q) d_20 3 4 := ⟨xGood_ q, wf1589, trivial, wf1590, cpn8, cnm8, (Nat.le_of_ble_eq_true rfl), Nat.le_refl _, cds13⟩
theorem dt21 (q : xQt) : (xGm q).dat 21 = d_21 := rfl
theorem cds14 : (parseMethodDescriptor "([BI)[B").map (fun g => g.parameters.length) = some 2 := by decide +kernel
theorem co21 (q : xQt) : xCal (xGm q) d_21 2 3 := ⟨xGood_ q, wf1591, trivial, wf1564, cpn0, cnm0, (Nat.le_of_ble_eq_true rfl), Nat.le_refl _, cds14⟩
theorem dt22 (q : xQt) : (xGm q).dat 22 = d_22 := rfl
theorem co22 (q : xQt) : xCal (xGm q) d_22 0 1 := ⟨xGood_ q, wf1592, trivial, wf1584, cpn7, cnm7, (Nat.le_of_ble_eq_true rfl), Nat.le_refl _, cds7⟩
theorem dt23 (q : xQt) : (xGm q).dat 23 = d_23 := rfl
theorem cds15 : (parseMethodDescriptor "([BII)V").map (fun g => g.parameters.length) = some 3 := by decide +kernel
theorem co23 (q : xQt) : xCal (xGm q) d_23 3 3 := ⟨xGood_ q, wf1593, trivial, wf1579, cpn4, cnm4, (Nat.le_of_ble_eq_true rfl), Nat.le_refl _, cds15⟩
theorem dt24 (q : xQt) : (xGm q).dat 24 = d_24 := rfl
theorem cds16 : (parseMethodDescriptor "([BIIB)V").map (fun g => g.parameters.length) = some 4 := by decide +kernel
theorem co24 (q : xQt) : xCal (xGm q) d_24 4 5 := ⟨xGood_ q, wf1594, trivial, wf1564, cpn0, cnm0, (Nat.le_of_ble_eq_true rfl), Nat.le_refl _, cds16⟩
theorem dt25 (q : xQt) : (xGm q).dat 25 = d_25 := rfl
theorem cds17 : (parseMethodDescriptor "(C)Ljava/lang/StringBuilder;").map (fun g => g.parameters.length) = some 1 := by decide +kernel
theorem co25 (q : xQt) : xCal (xGm q) d_25 1 2 := ⟨xGood_ q, wf1595, trivial, wf435, cpn6, cnm6, (Nat.le_of_ble_eq_true rfl), Nat.le_refl _, cds17⟩
theorem dt26 (q : xQt) : (xGm q).dat 26 = d_26 := rfl
theorem cds18 : (parseMethodDescriptor "(C)Ljava/lang/AbstractStringBuilder;").map (fun g => g.parameters.length) = some 1 := by decide +kernel
theorem co26 (q : xQt) : xCal (xGm q) d_26 1 2 := ⟨xGood_ q, wf1596, trivial, wf1584, cpn7, cnm7, (Nat.le_of_ble_eq_true rfl), Nat.le_refl _, cds18⟩
theorem dt27 (q : xQt) : (xGm q).dat 27 = d_27 := rfl
theorem cds19 : (parseMethodDescriptor "(C)Z").map (fun g => g.parameters.length) = some 1 := by decide +kernel
theorem co27 (q : xQt) : xCal (xGm q) d_27 1 1 := ⟨xGood_ q, wf1597, trivial, wf1579, cpn4, cnm4, (Nat.le_of_ble_eq_true rfl), Nat.le_refl _, cds19⟩
theorem dt28 (q : xQt) : (xGm q).dat 28 = d_28 := rfl
theorem cds20 : (parseMethodDescriptor "(I)Ljava/lang/StringBuilder;").map (fun g => g.parameters.length) = some 1 := by decide +kernel
theorem co28 (q : xQt) : xCal (xGm q) d_28 1 2 := ⟨xGood_ q, wf1598, trivial, wf435, cpn6, cnm6, (Nat.le_of_ble_eq_true rfl), Nat.le_refl _, cds20⟩
theorem dt29 (q : xQt) : (xGm q).dat 29 = d_29 := rfl
theorem cds21 : (parseMethodDescriptor "(I)Ljava/lang/AbstractStringBuilder;").map (fun g => g.parameters.length) = some 1 := by decide +kernel
theorem co29 (q : xQt) : xCal (xGm q) d_29 1 4 := ⟨xGood_ q, wf1599, trivial, wf1584, cpn7, cnm7, (Nat.le_of_ble_eq_true rfl), Nat.le_refl _, cds21⟩
theorem dt30 (q : xQt) : (xGm q).dat 30 = d_30 := rfl
theorem co30 (q : xQt) : xCal (xGm q) d_30 1 4 := ⟨xGood_ q, wf1600, trivial, wf1569, cpn2, cnm2, (Nat.le_of_ble_eq_true rfl), Nat.le_refl _, cds2⟩
theorem dt31 (q : xQt) : (xGm q).dat 31 = d_31 := rfl
theorem cds22 : (parseMethodDescriptor "(II[B)I").map (fun g => g.parameters.length) = some 3 := by decide +kernel
theorem co31 (q : xQt) : xCal (xGm q) d_31 3 7 := ⟨xGood_ q, wf1601, trivial, wf1569, cpn2, cnm2, (Nat.le_of_ble_eq_true rfl), Nat.le_refl _, cds22⟩
theorem dt32 (q : xQt) : (xGm q).dat 32 = d_32 := rfl
theorem co32 (q : xQt) : xCal (xGm q) d_32 0 1 := ⟨xGood_ q, wf1602, trivial, wf435, cpn6, cnm6, (Nat.le_of_ble_eq_true rfl), Nat.le_refl _, cds4⟩
theorem dt33 (q : xQt) : (xGm q).dat 33 = d_33 := rfl
theorem co33 (q : xQt) : xCal (xGm q) d_33 0 1 := ⟨xGood_ q, wf1603, trivial, wf1584, cpn7, cnm7, (Nat.le_of_ble_eq_true rfl), Nat.le_refl _, cds4⟩
theorem dt34 (q : xQt) : (xGm q).dat 34 = d_34 := rfl
theorem co34 (q : xQt) : xCal (xGm q) d_34 1 2 := ⟨xGood_ q, wf1604, trivial, wf435, cpn6, cnm6, (Nat.le_of_ble_eq_true rfl), Nat.le_refl _, cds5⟩
theorem dt35 (q : xQt) : (xGm q).dat 35 = d_35 := rfl
theorem co35 (q : xQt) : xCal (xGm q) d_35 1 5 := ⟨xGood_ q, wf1605, trivial, wf1584, cpn7, cnm7, (Nat.le_of_ble_eq_true rfl), Nat.le_refl _, cds5⟩
theorem dt36 (q : xQt) : (xGm q).dat 36 = d_36 := rfl
theorem cpn9 : plainName "IsingLab$Samples" = true := by decide +kernel
theorem cnm9 : "IsingLab$Samples" ≠ "java/lang/invoke/MethodHandle" ∧ "IsingLab$Samples" ≠ "java/lang/invoke/VarHandle" := ⟨by decide +kernel, by decide +kernel⟩
theorem co36 (q : xQt) : xCal (xGm q) d_36 0 1 := ⟨xGood_ q, wf1606, trivial, wf241, cpn9, cnm9, (Nat.le_of_ble_eq_true rfl), Nat.le_refl _, cds11⟩
theorem dt37 (q : xQt) : (xGm q).dat 37 = d_37 := rfl
theorem co37 (q : xQt) : xCal (xGm q) d_37 0 3 := ⟨xGood_ q, wf1607, trivial, wf241, cpn9, cnm9, (Nat.le_of_ble_eq_true rfl), Nat.le_refl _, cds4⟩
theorem dt38 (q : xQt) : (xGm q).dat 38 = d_38 := rfl
theorem cds23 : (parseMethodDescriptor "(I)Z").map (fun g => g.parameters.length) = some 1 := by decide +kernel
theorem co38 (q : xQt) : xCal (xGm q) d_38 1 7 := ⟨xGood_ q, wf1608, trivial, wf241, cpn9, cnm9, (Nat.le_of_ble_eq_true rfl), Nat.le_refl _, cds23⟩
theorem dt39 (q : xQt) : (xGm q).dat 39 = d_39 := rfl
theorem cds24 : (parseMethodDescriptor "(LIsingLab$Samples;)V").map (fun g => g.parameters.length) = some 1 := by decide +kernel
theorem co39 (q : xQt) : xCal (xGm q) d_39 1 2 := ⟨xGood_ q, wf1609, trivial, wf241, cpn9, cnm9, (Nat.le_of_ble_eq_true rfl), Nat.le_refl _, cds24⟩
theorem dt40 (q : xQt) : (xGm q).dat 40 = d_40 := rfl
theorem co40 (q : xQt) : xCal (xGm q) d_40 0 1 := ⟨xGood_ q, wf1610, trivial, wf241, cpn9, cnm9, (Nat.le_of_ble_eq_true rfl), Nat.le_refl _, cds11⟩
theorem dt41 (q : xQt) : (xGm q).dat 41 = d_41 := rfl
theorem cds25 : (parseMethodDescriptor "(JI)V").map (fun g => g.parameters.length) = some 2 := by decide +kernel
theorem co41 (q : xQt) : xCal (xGm q) d_41 2 4 := ⟨xGood_ q, wf1611, trivial, wf241, cpn9, cnm9, (Nat.le_of_ble_eq_true rfl), Nat.le_refl _, cds25⟩
theorem dt42 (q : xQt) : (xGm q).dat 42 = d_42 := rfl
theorem cpn10 : plainName "IsingLab$Setup" = true := by decide +kernel
theorem cnm10 : "IsingLab$Setup" ≠ "java/lang/invoke/MethodHandle" ∧ "IsingLab$Setup" ≠ "java/lang/invoke/VarHandle" := ⟨by decide +kernel, by decide +kernel⟩
theorem co42 (q : xQt) : xCal (xGm q) d_42 0 1 := ⟨xGood_ q, wf1612, trivial, wf162, cpn10, cnm10, (Nat.le_of_ble_eq_true rfl), Nat.le_refl _, cds11⟩
theorem dt43 (q : xQt) : (xGm q).dat 43 = d_43 := rfl
theorem co43 (q : xQt) : xCal (xGm q) d_43 1 2 := ⟨xGood_ q, wf1613, trivial, wf162, cpn10, cnm10, (Nat.le_of_ble_eq_true rfl), Nat.le_refl _, cds23⟩
theorem dt44 (q : xQt) : (xGm q).dat 44 = d_44 := rfl
theorem co44 (q : xQt) : xCal (xGm q) d_44 1 2 := ⟨xGood_ q, wf1614, trivial, wf162, cpn10, cnm10, (Nat.le_of_ble_eq_true rfl), Nat.le_refl _, cds23⟩
theorem dt45 (q : xQt) : (xGm q).dat 45 = d_45 := rfl
theorem cds26 : (parseMethodDescriptor "(IZI)V").map (fun g => g.parameters.length) = some 3 := by decide +kernel
theorem co45 (q : xQt) : xCal (xGm q) d_45 3 4 := ⟨xGood_ q, wf1615, trivial, wf162, cpn10, cnm10, (Nat.le_of_ble_eq_true rfl), Nat.le_refl _, cds26⟩
theorem dt46 (q : xQt) : (xGm q).dat 46 = d_46 := rfl
theorem cpn11 : plainName "IsingLab$Lattice" = true := by decide +kernel
theorem cnm11 : "IsingLab$Lattice" ≠ "java/lang/invoke/MethodHandle" ∧ "IsingLab$Lattice" ≠ "java/lang/invoke/VarHandle" := ⟨by decide +kernel, by decide +kernel⟩
theorem co46 (q : xQt) : xCal (xGm q) d_46 0 1 := ⟨xGood_ q, wf1616, trivial, wf415, cpn11, cnm11, (Nat.le_of_ble_eq_true rfl), Nat.le_refl _, cds11⟩
theorem dt47 (q : xQt) : (xGm q).dat 47 = d_47 := rfl
theorem cds27 : (parseMethodDescriptor "(LIsingLab$Setup;)V").map (fun g => g.parameters.length) = some 1 := by decide +kernel
theorem co47 (q : xQt) : xCal (xGm q) d_47 1 3 := ⟨xGood_ q, wf1617, trivial, wf415, cpn11, cnm11, (Nat.le_of_ble_eq_true rfl), Nat.le_refl _, cds27⟩
theorem dt48 (q : xQt) : (xGm q).dat 48 = d_48 := rfl
theorem cds28 : (parseMethodDescriptor "(ILIsingLab$Setup;)V").map (fun g => g.parameters.length) = some 2 := by decide +kernel
theorem co48 (q : xQt) : xCal (xGm q) d_48 2 7 := ⟨xGood_ q, wf1618, trivial, wf415, cpn11, cnm11, (Nat.le_of_ble_eq_true rfl), Nat.le_refl _, cds28⟩
theorem dt49 (q : xQt) : (xGm q).dat 49 = d_49 := rfl
theorem cds29 : (parseMethodDescriptor "(II)I").map (fun g => g.parameters.length) = some 2 := by decide +kernel
theorem co49 (q : xQt) : xCal (xGm q) d_49 2 4 := ⟨xGood_ q, wf1619, trivial, wf415, cpn11, cnm11, (Nat.le_of_ble_eq_true rfl), Nat.le_refl _, cds29⟩
theorem dt50 (q : xQt) : (xGm q).dat 50 = d_50 := rfl
theorem co50 (q : xQt) : xCal (xGm q) d_50 2 3 := ⟨xGood_ q, wf1620, trivial, wf415, cpn11, cnm11, (Nat.le_of_ble_eq_true rfl), Nat.le_refl _, cds8⟩
theorem dt51 (q : xQt) : (xGm q).dat 51 = d_51 := rfl
theorem co51 (q : xQt) : xCal (xGm q) d_51 1 3 := ⟨xGood_ q, wf1621, trivial, wf415, cpn11, cnm11, (Nat.le_of_ble_eq_true rfl), Nat.le_refl _, cds1⟩
theorem dt52 (q : xQt) : (xGm q).dat 52 = d_52 := rfl
theorem co52 (q : xQt) : xCal (xGm q) d_52 2 3 := ⟨xGood_ q, wf1622, trivial, wf415, cpn11, cnm11, (Nat.le_of_ble_eq_true rfl), Nat.le_refl _, cds29⟩
theorem dt53 (q : xQt) : (xGm q).dat 53 = d_53 := rfl
theorem cds30 : (parseMethodDescriptor "(JI)Z").map (fun g => g.parameters.length) = some 2 := by decide +kernel
theorem co53 (q : xQt) : xCal (xGm q) d_53 2 4 := ⟨xGood_ q, wf1623, trivial, wf415, cpn11, cnm11, (Nat.le_of_ble_eq_true rfl), Nat.le_refl _, cds30⟩
theorem dt54 (q : xQt) : (xGm q).dat 54 = d_54 := rfl
theorem co54 (q : xQt) : xCal (xGm q) d_54 2 3 := ⟨xGood_ q, wf1624, trivial, wf415, cpn11, cnm11, (Nat.le_of_ble_eq_true rfl), Nat.le_refl _, cds29⟩
theorem dt55 (q : xQt) : (xGm q).dat 55 = d_55 := rfl
theorem cds31 : (parseMethodDescriptor "(J)Z").map (fun g => g.parameters.length) = some 1 := by decide +kernel
theorem co55 (q : xQt) : xCal (xGm q) d_55 1 3 := ⟨xGood_ q, wf1625, trivial, wf415, cpn11, cnm11, (Nat.le_of_ble_eq_true rfl), Nat.le_refl _, cds31⟩
theorem dt56 (q : xQt) : (xGm q).dat 56 = d_56 := rfl
theorem cpn12 : plainName "IsingLab$SetupReader" = true := by decide +kernel
theorem cnm12 : "IsingLab$SetupReader" ≠ "java/lang/invoke/MethodHandle" ∧ "IsingLab$SetupReader" ≠ "java/lang/invoke/VarHandle" := ⟨by decide +kernel, by decide +kernel⟩
theorem cds32 : (parseMethodDescriptor "([BI)V").map (fun g => g.parameters.length) = some 2 := by decide +kernel
theorem co56 (q : xQt) : xCal (xGm q) d_56 2 3 := ⟨xGood_ q, wf1626, trivial, wf461, cpn12, cnm12, (Nat.le_of_ble_eq_true rfl), Nat.le_refl _, cds32⟩
theorem dt57 (q : xQt) : (xGm q).dat 57 = d_57 := rfl
theorem co57 (q : xQt) : xCal (xGm q) d_57 0 3 := ⟨xGood_ q, wf1627, trivial, wf461, cpn12, cnm12, (Nat.le_of_ble_eq_true rfl), Nat.le_refl _, cds7⟩
theorem dt58 (q : xQt) : (xGm q).dat 58 = d_58 := rfl
theorem co58 (q : xQt) : xCal (xGm q) d_58 0 1 := ⟨xGood_ q, wf1628, trivial, wf461, cpn12, cnm12, (Nat.le_of_ble_eq_true rfl), Nat.le_refl _, cds11⟩
theorem dt59 (q : xQt) : (xGm q).dat 59 = d_59 := rfl
theorem co59 (q : xQt) : xCal (xGm q) d_59 1 3 := ⟨xGood_ q, wf1629, trivial, wf461, cpn12, cnm12, (Nat.le_of_ble_eq_true rfl), Nat.le_refl _, cds2⟩
theorem dt60 (q : xQt) : (xGm q).dat 60 = d_60 := rfl
theorem co60 (q : xQt) : xCal (xGm q) d_60 0 1 := ⟨xGood_ q, wf1630, trivial, wf461, cpn12, cnm12, (Nat.le_of_ble_eq_true rfl), Nat.le_refl _, cds4⟩
theorem dt61 (q : xQt) : (xGm q).dat 61 = d_61 := rfl
theorem cds33 : (parseMethodDescriptor "(Ljava/lang/String;)Z").map (fun g => g.parameters.length) = some 1 := by decide +kernel
theorem co61 (q : xQt) : xCal (xGm q) d_61 1 3 := ⟨xGood_ q, wf1631, trivial, wf461, cpn12, cnm12, (Nat.le_of_ble_eq_true rfl), Nat.le_refl _, cds33⟩
theorem dt62 (q : xQt) : (xGm q).dat 62 = d_62 := rfl
theorem co62 (q : xQt) : xCal (xGm q) d_62 1 4 := ⟨xGood_ q, wf1632, trivial, wf461, cpn12, cnm12, (Nat.le_of_ble_eq_true rfl), Nat.le_refl _, cds23⟩
theorem dt63 (q : xQt) : (xGm q).dat 63 = d_63 := rfl
theorem co63 (q : xQt) : xCal (xGm q) d_63 1 2 := ⟨xGood_ q, wf1633, trivial, wf461, cpn12, cnm12, (Nat.le_of_ble_eq_true rfl), Nat.le_refl _, cds23⟩
theorem dt64 (q : xQt) : (xGm q).dat 64 = d_64 := rfl
theorem co64 (q : xQt) : xCal (xGm q) d_64 1 3 := ⟨xGood_ q, wf1634, trivial, wf461, cpn12, cnm12, (Nat.le_of_ble_eq_true rfl), Nat.le_refl _, cds23⟩
theorem dt65 (q : xQt) : (xGm q).dat 65 = d_65 := rfl
theorem co65 (q : xQt) : xCal (xGm q) d_65 0 1 := ⟨xGood_ q, wf1635, trivial, wf461, cpn12, cnm12, (Nat.le_of_ble_eq_true rfl), Nat.le_refl _, cds7⟩
theorem dt66 (q : xQt) : (xGm q).dat 66 = d_66 := rfl
theorem cds34 : (parseMethodDescriptor "(II)Z").map (fun g => g.parameters.length) = some 2 := by decide +kernel
theorem co66 (q : xQt) : xCal (xGm q) d_66 2 5 := ⟨xGood_ q, wf1636, trivial, wf461, cpn12, cnm12, (Nat.le_of_ble_eq_true rfl), Nat.le_refl _, cds34⟩
theorem dt67 (q : xQt) : (xGm q).dat 67 = d_67 := rfl
theorem co67 (q : xQt) : xCal (xGm q) d_67 0 3 := ⟨xGood_ q, wf1637, trivial, wf461, cpn12, cnm12, (Nat.le_of_ble_eq_true rfl), Nat.le_refl _, cds4⟩
theorem dt68 (q : xQt) : (xGm q).dat 68 = d_68 := rfl
theorem cds35 : (parseMethodDescriptor "(Ljava/lang/String;Ljava/lang/String;Ljava/lang/String;)Z").map (fun g => g.parameters.length) = some 3 := by decide +kernel
theorem co68 (q : xQt) : xCal (xGm q) d_68 3 4 := ⟨xGood_ q, wf1638, trivial, wf461, cpn12, cnm12, (Nat.le_of_ble_eq_true rfl), Nat.le_refl _, cds35⟩
theorem dt69 (q : xQt) : (xGm q).dat 69 = d_69 := rfl
theorem co69 (q : xQt) : xCal (xGm q) d_69 0 1 := ⟨xGood_ q, wf1639, trivial, wf461, cpn12, cnm12, (Nat.le_of_ble_eq_true rfl), Nat.le_refl _, cds7⟩
theorem dt70 (q : xQt) : (xGm q).dat 70 = d_70 := rfl
theorem co70 (q : xQt) : xCal (xGm q) d_70 0 5 := ⟨xGood_ q, wf1640, trivial, wf461, cpn12, cnm12, (Nat.le_of_ble_eq_true rfl), Nat.le_refl _, cds7⟩
theorem dt71 (q : xQt) : (xGm q).dat 71 = d_71 := rfl
theorem cpn13 : plainName "IsingLab$State" = true := by decide +kernel
theorem cnm13 : "IsingLab$State" ≠ "java/lang/invoke/MethodHandle" ∧ "IsingLab$State" ≠ "java/lang/invoke/VarHandle" := ⟨by decide +kernel, by decide +kernel⟩
theorem cds36 : (parseMethodDescriptor "(LIsingLab$Lattice;)V").map (fun g => g.parameters.length) = some 1 := by decide +kernel
theorem co71 (q : xQt) : xCal (xGm q) d_71 1 2 := ⟨xGood_ q, wf1641, trivial, wf421, cpn13, cnm13, (Nat.le_of_ble_eq_true rfl), Nat.le_refl _, cds36⟩
theorem dt72 (q : xQt) : (xGm q).dat 72 = d_72 := rfl
theorem co72 (q : xQt) : xCal (xGm q) d_72 1 5 := ⟨xGood_ q, wf1642, trivial, wf421, cpn13, cnm13, (Nat.le_of_ble_eq_true rfl), Nat.le_refl _, cds27⟩
theorem dt73 (q : xQt) : (xGm q).dat 73 = d_73 := rfl
theorem cds37 : (parseMethodDescriptor "(I)J").map (fun g => g.parameters.length) = some 1 := by decide +kernel
theorem co73 (q : xQt) : xCal (xGm q) d_73 1 6 := ⟨xGood_ q, wf1643, trivial, wf421, cpn13, cnm13, (Nat.le_of_ble_eq_true rfl), Nat.le_refl _, cds37⟩
theorem dt74 (q : xQt) : (xGm q).dat 74 = d_74 := rfl
theorem co74 (q : xQt) : xCal (xGm q) d_74 1 5 := ⟨xGood_ q, wf1644, trivial, wf421, cpn13, cnm13, (Nat.le_of_ble_eq_true rfl), Nat.le_refl _, cds1⟩
theorem dt75 (q : xQt) : (xGm q).dat 75 = d_75 := rfl
theorem cds38 : (parseMethodDescriptor "(JI)I").map (fun g => g.parameters.length) = some 2 := by decide +kernel
theorem co75 (q : xQt) : xCal (xGm q) d_75 2 6 := ⟨xGood_ q, wf1645, trivial, wf421, cpn13, cnm13, (Nat.le_of_ble_eq_true rfl), Nat.le_refl _, cds38⟩
theorem dt76 (q : xQt) : (xGm q).dat 76 = d_76 := rfl
theorem co76 (q : xQt) : xCal (xGm q) d_76 2 6 := ⟨xGood_ q, wf1646, trivial, wf421, cpn13, cnm13, (Nat.le_of_ble_eq_true rfl), Nat.le_refl _, cds38⟩
theorem dt77 (q : xQt) : (xGm q).dat 77 = d_77 := rfl
theorem co77 (q : xQt) : xCal (xGm q) d_77 2 4 := ⟨xGood_ q, wf1647, trivial, wf421, cpn13, cnm13, (Nat.le_of_ble_eq_true rfl), Nat.le_refl _, cds38⟩
theorem dt78 (q : xQt) : (xGm q).dat 78 = d_78 := rfl
theorem co78 (q : xQt) : xCal (xGm q) d_78 1 10 := ⟨xGood_ q, wf1648, trivial, wf421, cpn13, cnm13, (Nat.le_of_ble_eq_true rfl), Nat.le_refl _, cds37⟩
theorem dt79 (q : xQt) : (xGm q).dat 79 = d_79 := rfl
theorem co79 (q : xQt) : xCal (xGm q) d_79 1 6 := ⟨xGood_ q, wf1649, trivial, wf421, cpn13, cnm13, (Nat.le_of_ble_eq_true rfl), Nat.le_refl _, cds37⟩
theorem dt80 (q : xQt) : (xGm q).dat 80 = d_80 := rfl
theorem cds39 : (parseMethodDescriptor "(LIsingLab$State;)V").map (fun g => g.parameters.length) = some 1 := by decide +kernel
theorem co80 (q : xQt) : xCal (xGm q) d_80 1 2 := ⟨xGood_ q, wf1650, trivial, wf421, cpn13, cnm13, (Nat.le_of_ble_eq_true rfl), Nat.le_refl _, cds39⟩
theorem dt81 (q : xQt) : (xGm q).dat 81 = d_81 := rfl
theorem co81 (q : xQt) : xCal (xGm q) d_81 1 3 := ⟨xGood_ q, wf1651, trivial, wf421, cpn13, cnm13, (Nat.le_of_ble_eq_true rfl), Nat.le_refl _, cds23⟩
theorem dt82 (q : xQt) : (xGm q).dat 82 = d_82 := rfl
theorem co82 (q : xQt) : xCal (xGm q) d_82 1 2 := ⟨xGood_ q, wf1652, trivial, wf421, cpn13, cnm13, (Nat.le_of_ble_eq_true rfl), Nat.le_refl _, cds2⟩
theorem dt83 (q : xQt) : (xGm q).dat 83 = d_83 := rfl
theorem co83 (q : xQt) : xCal (xGm q) d_83 1 3 := ⟨xGood_ q, wf1653, trivial, wf421, cpn13, cnm13, (Nat.le_of_ble_eq_true rfl), Nat.le_refl _, cds23⟩
theorem dt84 (q : xQt) : (xGm q).dat 84 = d_84 := rfl
theorem co84 (q : xQt) : xCal (xGm q) d_84 1 2 := ⟨xGood_ q, wf1654, trivial, wf421, cpn13, cnm13, (Nat.le_of_ble_eq_true rfl), Nat.le_refl _, cds2⟩
theorem dt85 (q : xQt) : (xGm q).dat 85 = d_85 := rfl
theorem co85 (q : xQt) : xCal (xGm q) d_85 0 2 := ⟨xGood_ q, wf1655, trivial, wf421, cpn13, cnm13, (Nat.le_of_ble_eq_true rfl), Nat.le_refl _, cds11⟩
theorem dt86 (q : xQt) : (xGm q).dat 86 = d_86 := rfl
theorem co86 (q : xQt) : xCal (xGm q) d_86 0 2 := ⟨xGood_ q, wf1656, trivial, wf421, cpn13, cnm13, (Nat.le_of_ble_eq_true rfl), Nat.le_refl _, cds7⟩
theorem dt87 (q : xQt) : (xGm q).dat 87 = d_87 := rfl
theorem co87 (q : xQt) : xCal (xGm q) d_87 1 11 := ⟨xGood_ q, wf1657, trivial, wf421, cpn13, cnm13, (Nat.le_of_ble_eq_true rfl), Nat.le_refl _, cds2⟩
theorem dt88 (q : xQt) : (xGm q).dat 88 = d_88 := rfl
theorem co88 (q : xQt) : xCal (xGm q) d_88 0 6 := ⟨xGood_ q, wf1658, trivial, wf421, cpn13, cnm13, (Nat.le_of_ble_eq_true rfl), Nat.le_refl _, cds4⟩
theorem dt89 (q : xQt) : (xGm q).dat 89 = d_89 := rfl
theorem co89 (q : xQt) : xCal (xGm q) d_89 0 4 := ⟨xGood_ q, wf1659, trivial, wf421, cpn13, cnm13, (Nat.le_of_ble_eq_true rfl), Nat.le_refl _, cds11⟩
theorem dt90 (q : xQt) : (xGm q).dat 90 = d_90 := rfl
theorem co90 (q : xQt) : xCal (xGm q) d_90 1 4 := ⟨xGood_ q, wf1660, trivial, wf421, cpn13, cnm13, (Nat.le_of_ble_eq_true rfl), Nat.le_refl _, cds2⟩
theorem dt91 (q : xQt) : (xGm q).dat 91 = d_91 := rfl
theorem co91 (q : xQt) : xCal (xGm q) d_91 0 1 := ⟨xGood_ q, wf1661, trivial, wf421, cpn13, cnm13, (Nat.le_of_ble_eq_true rfl), Nat.le_refl _, cds11⟩
theorem dt92 (q : xQt) : (xGm q).dat 92 = d_92 := rfl
theorem co92 (q : xQt) : xCal (xGm q) d_92 2 6 := ⟨xGood_ q, wf1662, trivial, wf421, cpn13, cnm13, (Nat.le_of_ble_eq_true rfl), Nat.le_refl _, cds29⟩
theorem dt93 (q : xQt) : (xGm q).dat 93 = d_93 := rfl
theorem cds40 : (parseMethodDescriptor "(J)J").map (fun g => g.parameters.length) = some 1 := by decide +kernel
theorem co93 (q : xQt) : xCal (xGm q) d_93 1 8 := ⟨xGood_ q, wf1663, trivial, wf421, cpn13, cnm13, (Nat.le_of_ble_eq_true rfl), Nat.le_refl _, cds40⟩
theorem dt94 (q : xQt) : (xGm q).dat 94 = d_94 := rfl
theorem cpn14 : plainName "IsingLab$Exact" = true := by decide +kernel
theorem cnm14 : "IsingLab$Exact" ≠ "java/lang/invoke/MethodHandle" ∧ "IsingLab$Exact" ≠ "java/lang/invoke/VarHandle" := ⟨by decide +kernel, by decide +kernel⟩
theorem co94 (q : xQt) : xCal (xGm q) d_94 1 2 := ⟨xGood_ q, wf1664, trivial, wf429, cpn14, cnm14, (Nat.le_of_ble_eq_true rfl), Nat.le_refl _, cds39⟩
theorem dt95 (q : xQt) : (xGm q).dat 95 = d_95 := rfl
theorem co95 (q : xQt) : xCal (xGm q) d_95 0 1 := ⟨xGood_ q, wf1665, trivial, wf429, cpn14, cnm14, (Nat.le_of_ble_eq_true rfl), Nat.le_refl _, cds11⟩
theorem dt96 (q : xQt) : (xGm q).dat 96 = d_96 := rfl
theorem co96 (q : xQt) : xCal (xGm q) d_96 0 1 := ⟨xGood_ q, wf1666, trivial, wf429, cpn14, cnm14, (Nat.le_of_ble_eq_true rfl), Nat.le_refl _, cds11⟩
theorem dt97 (q : xQt) : (xGm q).dat 97 = d_97 := rfl
theorem co97 (q : xQt) : xCal (xGm q) d_97 0 1 := ⟨xGood_ q, wf1667, trivial, wf429, cpn14, cnm14, (Nat.le_of_ble_eq_true rfl), Nat.le_refl _, cds11⟩
theorem dt98 (q : xQt) : (xGm q).dat 98 = d_98 := rfl
theorem co98 (q : xQt) : xCal (xGm q) d_98 0 4 := ⟨xGood_ q, wf1668, trivial, wf429, cpn14, cnm14, (Nat.le_of_ble_eq_true rfl), Nat.le_refl _, cds11⟩
theorem dt99 (q : xQt) : (xGm q).dat 99 = d_99 := rfl
theorem co99 (q : xQt) : xCal (xGm q) d_99 1 6 := ⟨xGood_ q, wf1669, trivial, wf429, cpn14, cnm14, (Nat.le_of_ble_eq_true rfl), Nat.le_refl _, cds12⟩
theorem dt100 (q : xQt) : (xGm q).dat 100 = d_100 := rfl
theorem co100 (q : xQt) : xCal (xGm q) d_100 0 2 := ⟨xGood_ q, wf1670, trivial, wf429, cpn14, cnm14, (Nat.le_of_ble_eq_true rfl), Nat.le_refl _, cds11⟩
theorem dt101 (q : xQt) : (xGm q).dat 101 = d_101 := rfl
theorem co101 (q : xQt) : xCal (xGm q) d_101 0 4 := ⟨xGood_ q, wf1671, trivial, wf429, cpn14, cnm14, (Nat.le_of_ble_eq_true rfl), Nat.le_refl _, cds11⟩
theorem dt102 (q : xQt) : (xGm q).dat 102 = d_102 := rfl
theorem co102 (q : xQt) : xCal (xGm q) d_102 1 4 := ⟨xGood_ q, wf1672, trivial, wf429, cpn14, cnm14, (Nat.le_of_ble_eq_true rfl), Nat.le_refl _, cds2⟩
theorem dt103 (q : xQt) : (xGm q).dat 103 = d_103 := rfl
theorem co103 (q : xQt) : xCal (xGm q) d_103 0 2 := ⟨xGood_ q, wf1673, trivial, wf429, cpn14, cnm14, (Nat.le_of_ble_eq_true rfl), Nat.le_refl _, cds4⟩
theorem dt104 (q : xQt) : (xGm q).dat 104 = d_104 := rfl
theorem co104 (q : xQt) : xCal (xGm q) d_104 0 3 := ⟨xGood_ q, wf1674, trivial, wf429, cpn14, cnm14, (Nat.le_of_ble_eq_true rfl), Nat.le_refl _, cds4⟩
theorem dt105 (q : xQt) : (xGm q).dat 105 = d_105 := rfl
theorem co105 (q : xQt) : xCal (xGm q) d_105 1 3 := ⟨xGood_ q, wf1675, trivial, wf429, cpn14, cnm14, (Nat.le_of_ble_eq_true rfl), Nat.le_refl _, cds23⟩
theorem dt106 (q : xQt) : (xGm q).dat 106 = d_106 := rfl
theorem co106 (q : xQt) : xCal (xGm q) d_106 2 6 := ⟨xGood_ q, wf1676, trivial, wf429, cpn14, cnm14, (Nat.le_of_ble_eq_true rfl), Nat.le_refl _, cds8⟩
theorem dt107 (q : xQt) : (xGm q).dat 107 = d_107 := rfl
theorem cds41 : (parseMethodDescriptor "(I)D").map (fun g => g.parameters.length) = some 1 := by decide +kernel
theorem co107 (q : xQt) : xCal (xGm q) d_107 1 9 := ⟨xGood_ q, wf1677, trivial, wf429, cpn14, cnm14, (Nat.le_of_ble_eq_true rfl), Nat.le_refl _, cds41⟩
theorem dt108 (q : xQt) : (xGm q).dat 108 = d_108 := rfl
theorem cds42 : (parseMethodDescriptor "(DD)D").map (fun g => g.parameters.length) = some 2 := by decide +kernel
theorem co108 (q : xQt) : xCal (xGm q) d_108 2 5 := ⟨xGood_ q, wf1678, trivial, wf429, cpn14, cnm14, (Nat.le_of_ble_eq_true rfl), Nat.le_refl _, cds42⟩
theorem dt109 (q : xQt) : (xGm q).dat 109 = d_109 := rfl
theorem cds43 : (parseMethodDescriptor "(III)D").map (fun g => g.parameters.length) = some 3 := by decide +kernel
theorem co109 (q : xQt) : xCal (xGm q) d_109 3 8 := ⟨xGood_ q, wf1679, trivial, wf429, cpn14, cnm14, (Nat.le_of_ble_eq_true rfl), Nat.le_refl _, cds43⟩
theorem dt110 (q : xQt) : (xGm q).dat 110 = d_110 := rfl
theorem co110 (q : xQt) : xCal (xGm q) d_110 1 5 := ⟨xGood_ q, wf1680, trivial, wf429, cpn14, cnm14, (Nat.le_of_ble_eq_true rfl), Nat.le_refl _, cds41⟩
theorem dt111 (q : xQt) : (xGm q).dat 111 = d_111 := rfl
theorem cds44 : (parseMethodDescriptor "(II)D").map (fun g => g.parameters.length) = some 2 := by decide +kernel
theorem co111 (q : xQt) : xCal (xGm q) d_111 2 8 := ⟨xGood_ q, wf1681, trivial, wf429, cpn14, cnm14, (Nat.le_of_ble_eq_true rfl), Nat.le_refl _, cds44⟩
theorem dt112 (q : xQt) : (xGm q).dat 112 = d_112 := rfl
theorem co112 (q : xQt) : xCal (xGm q) d_112 0 4 := ⟨xGood_ q, wf1682, trivial, wf429, cpn14, cnm14, (Nat.le_of_ble_eq_true rfl), Nat.le_refl _, cds4⟩
theorem dt113 (q : xQt) : (xGm q).dat 113 = d_113 := rfl
theorem co113 (q : xQt) : xCal (xGm q) d_113 1 4 := ⟨xGood_ q, wf1683, trivial, wf429, cpn14, cnm14, (Nat.le_of_ble_eq_true rfl), Nat.le_refl _, cds23⟩
theorem dt114 (q : xQt) : (xGm q).dat 114 = d_114 := rfl
theorem co114 (q : xQt) : xCal (xGm q) d_114 2 6 := ⟨xGood_ q, wf1684, trivial, wf429, cpn14, cnm14, (Nat.le_of_ble_eq_true rfl), Nat.le_refl _, cds29⟩
theorem dt115 (q : xQt) : (xGm q).dat 115 = d_115 := rfl
theorem co115 (q : xQt) : xCal (xGm q) d_115 2 6 := ⟨xGood_ q, wf1685, trivial, wf429, cpn14, cnm14, (Nat.le_of_ble_eq_true rfl), Nat.le_refl _, cds8⟩
theorem dt116 (q : xQt) : (xGm q).dat 116 = d_116 := rfl
theorem cpn15 : plainName "IsingLab" = true := by decide +kernel
theorem cnm15 : "IsingLab" ≠ "java/lang/invoke/MethodHandle" ∧ "IsingLab" ≠ "java/lang/invoke/VarHandle" := ⟨by decide +kernel, by decide +kernel⟩
theorem co116 (q : xQt) : xCal (xGm q) d_116 0 1 := ⟨xGood_ q, wf1686, trivial, wf1066, cpn15, cnm15, (Nat.le_of_ble_eq_true rfl), Nat.le_refl _, cds11⟩
theorem dt117 (q : xQt) : (xGm q).dat 117 = d_117 := rfl
theorem co117 (q : xQt) : xCal (xGm q) d_117 1 2 := ⟨xGood_ q, wf1687, trivial, wf1066, cpn15, cnm15, (Nat.le_of_ble_eq_true rfl), Nat.le_refl _, cds27⟩
theorem dt118 (q : xQt) : (xGm q).dat 118 = d_118 := rfl
theorem cds45 : (parseMethodDescriptor "(IIIII)I").map (fun g => g.parameters.length) = some 5 := by decide +kernel
theorem co118 (q : xQt) : xCal (xGm q) d_118 5 6 := ⟨xGood_ q, wf1688, trivial, wf1066, cpn15, cnm15, (Nat.le_of_ble_eq_true rfl), Nat.le_refl _, cds45⟩
theorem dt119 (q : xQt) : (xGm q).dat 119 = d_119 := rfl
theorem co119 (q : xQt) : xCal (xGm q) d_119 1 3 := ⟨xGood_ q, wf1689, trivial, wf1066, cpn15, cnm15, (Nat.le_of_ble_eq_true rfl), Nat.le_refl _, cds12⟩
theorem dt120 (q : xQt) : (xGm q).dat 120 = d_120 := rfl
theorem co120 (q : xQt) : xCal (xGm q) d_120 1 2 := ⟨xGood_ q, wf1690, trivial, wf1066, cpn15, cnm15, (Nat.le_of_ble_eq_true rfl), Nat.le_refl _, cds23⟩
theorem dt121 (q : xQt) : (xGm q).dat 121 = d_121 := rfl
theorem co121 (q : xQt) : xCal (xGm q) d_121 0 3 := ⟨xGood_ q, wf1691, trivial, wf1066, cpn15, cnm15, (Nat.le_of_ble_eq_true rfl), Nat.le_refl _, cds4⟩
theorem dt122 (q : xQt) : (xGm q).dat 122 = d_122 := rfl
theorem co122 (q : xQt) : xCal (xGm q) d_122 0 1 := ⟨xGood_ q, wf1692, trivial, wf1066, cpn15, cnm15, (Nat.le_of_ble_eq_true rfl), Nat.le_refl _, cds4⟩
theorem dt123 (q : xQt) : (xGm q).dat 123 = d_123 := rfl
theorem co123 (q : xQt) : xCal (xGm q) d_123 0 1 := ⟨xGood_ q, wf1693, trivial, wf1066, cpn15, cnm15, (Nat.le_of_ble_eq_true rfl), Nat.le_refl _, cds4⟩
theorem dt124 (q : xQt) : (xGm q).dat 124 = d_124 := rfl
theorem cds46 : (parseMethodDescriptor "()J").map (fun g => g.parameters.length) = some 0 := by decide +kernel
theorem co124 (q : xQt) : xCal (xGm q) d_124 0 1 := ⟨xGood_ q, wf1694, trivial, wf1066, cpn15, cnm15, (Nat.le_of_ble_eq_true rfl), Nat.le_refl _, cds46⟩
theorem dt125 (q : xQt) : (xGm q).dat 125 = d_125 := rfl
theorem co125 (q : xQt) : xCal (xGm q) d_125 0 1 := ⟨xGood_ q, wf1695, trivial, wf1066, cpn15, cnm15, (Nat.le_of_ble_eq_true rfl), Nat.le_refl _, cds4⟩
theorem dt126 (q : xQt) : (xGm q).dat 126 = d_126 := rfl
theorem co126 (q : xQt) : xCal (xGm q) d_126 0 1 := ⟨xGood_ q, wf1696, trivial, wf1066, cpn15, cnm15, (Nat.le_of_ble_eq_true rfl), Nat.le_refl _, cds4⟩
theorem dt127 (q : xQt) : (xGm q).dat 127 = d_127 := rfl
theorem co127 (q : xQt) : xCal (xGm q) d_127 0 1 := ⟨xGood_ q, wf1697, trivial, wf1066, cpn15, cnm15, (Nat.le_of_ble_eq_true rfl), Nat.le_refl _, cds4⟩
theorem dt128 (q : xQt) : (xGm q).dat 128 = d_128 := rfl
theorem co128 (q : xQt) : xCal (xGm q) d_128 0 3 := ⟨xGood_ q, wf1698, trivial, wf1066, cpn15, cnm15, (Nat.le_of_ble_eq_true rfl), Nat.le_refl _, cds4⟩
theorem dt129 (q : xQt) : (xGm q).dat 129 = d_129 := rfl
theorem co129 (q : xQt) : xCal (xGm q) d_129 0 3 := ⟨xGood_ q, wf1699, trivial, wf1066, cpn15, cnm15, (Nat.le_of_ble_eq_true rfl), Nat.le_refl _, cds4⟩
theorem dt130 (q : xQt) : (xGm q).dat 130 = d_130 := rfl
theorem co130 (q : xQt) : xCal (xGm q) d_130 0 3 := ⟨xGood_ q, wf1700, trivial, wf1066, cpn15, cnm15, (Nat.le_of_ble_eq_true rfl), Nat.le_refl _, cds4⟩
theorem dt131 (q : xQt) : (xGm q).dat 131 = d_131 := rfl
theorem cds47 : (parseMethodDescriptor "()F").map (fun g => g.parameters.length) = some 0 := by decide +kernel
theorem co131 (q : xQt) : xCal (xGm q) d_131 0 3 := ⟨xGood_ q, wf1701, trivial, wf1066, cpn15, cnm15, (Nat.le_of_ble_eq_true rfl), Nat.le_refl _, cds47⟩
theorem dt132 (q : xQt) : (xGm q).dat 132 = d_132 := rfl
theorem cds48 : (parseMethodDescriptor "(II)F").map (fun g => g.parameters.length) = some 2 := by decide +kernel
theorem co132 (q : xQt) : xCal (xGm q) d_132 2 3 := ⟨xGood_ q, wf1702, trivial, wf1066, cpn15, cnm15, (Nat.le_of_ble_eq_true rfl), Nat.le_refl _, cds48⟩
theorem dt133 (q : xQt) : (xGm q).dat 133 = d_133 := rfl
theorem co133 (q : xQt) : xCal (xGm q) d_133 0 5 := ⟨xGood_ q, wf1703, trivial, wf1066, cpn15, cnm15, (Nat.le_of_ble_eq_true rfl), Nat.le_refl _, cds4⟩
theorem dt134 (q : xQt) : (xGm q).dat 134 = d_134 := rfl
theorem co134 (q : xQt) : xCal (xGm q) d_134 0 7 := ⟨xGood_ q, wf1704, trivial, wf1066, cpn15, cnm15, (Nat.le_of_ble_eq_true rfl), Nat.le_refl _, cds4⟩
theorem dt135 (q : xQt) : (xGm q).dat 135 = d_135 := rfl
theorem co135 (q : xQt) : xCal (xGm q) d_135 0 1 := ⟨xGood_ q, wf1705, trivial, wf1066, cpn15, cnm15, (Nat.le_of_ble_eq_true rfl), Nat.le_refl _, cds47⟩
theorem dt136 (q : xQt) : (xGm q).dat 136 = d_136 := rfl
theorem cds49 : (parseMethodDescriptor "()D").map (fun g => g.parameters.length) = some 0 := by decide +kernel
theorem co136 (q : xQt) : xCal (xGm q) d_136 0 6 := ⟨xGood_ q, wf1706, trivial, wf1066, cpn15, cnm15, (Nat.le_of_ble_eq_true rfl), Nat.le_refl _, cds49⟩
theorem dt137 (q : xQt) : (xGm q).dat 137 = d_137 := rfl
theorem co137 (q : xQt) : xCal (xGm q) d_137 1 7 := ⟨xGood_ q, wf1707, trivial, wf1066, cpn15, cnm15, (Nat.le_of_ble_eq_true rfl), Nat.le_refl _, cds41⟩
theorem dt138 (q : xQt) : (xGm q).dat 138 = d_138 := rfl
theorem co138 (q : xQt) : xCal (xGm q) d_138 3 4 := ⟨xGood_ q, wf1708, trivial, wf1066, cpn15, cnm15, (Nat.le_of_ble_eq_true rfl), Nat.le_refl _, cds0⟩
theorem dt139 (q : xQt) : (xGm q).dat 139 = d_139 := rfl
theorem cds50 : (parseMethodDescriptor "(III)J").map (fun g => g.parameters.length) = some 3 := by decide +kernel
theorem co139 (q : xQt) : xCal (xGm q) d_139 3 5 := ⟨xGood_ q, wf1709, trivial, wf1066, cpn15, cnm15, (Nat.le_of_ble_eq_true rfl), Nat.le_refl _, cds50⟩
theorem dt140 (q : xQt) : (xGm q).dat 140 = d_140 := rfl
theorem co140 (q : xQt) : xCal (xGm q) d_140 1 5 := ⟨xGood_ q, wf1710, trivial, wf1066, cpn15, cnm15, (Nat.le_of_ble_eq_true rfl), Nat.le_refl _, cds2⟩
theorem dt141 (q : xQt) : (xGm q).dat 141 = d_141 := rfl
theorem co141 (q : xQt) : xCal (xGm q) d_141 0 1 := ⟨xGood_ q, wf1711, trivial, wf1066, cpn15, cnm15, (Nat.le_of_ble_eq_true rfl), Nat.le_refl _, cds4⟩
theorem dt142 (q : xQt) : (xGm q).dat 142 = d_142 := rfl
theorem co142 (q : xQt) : xCal (xGm q) d_142 0 2 := ⟨xGood_ q, wf1712, trivial, wf1066, cpn15, cnm15, (Nat.le_of_ble_eq_true rfl), Nat.le_refl _, cds4⟩
theorem dt143 (q : xQt) : (xGm q).dat 143 = d_143 := rfl
theorem co143 (q : xQt) : xCal (xGm q) d_143 0 4 := ⟨xGood_ q, wf1713, trivial, wf1066, cpn15, cnm15, (Nat.le_of_ble_eq_true rfl), Nat.le_refl _, cds4⟩
theorem dt144 (q : xQt) : (xGm q).dat 144 = d_144 := rfl
theorem co144 (q : xQt) : xCal (xGm q) d_144 1 2 := ⟨xGood_ q, wf1714, trivial, wf1066, cpn15, cnm15, (Nat.le_of_ble_eq_true rfl), Nat.le_refl _, cds2⟩
theorem dt145 (q : xQt) : (xGm q).dat 145 = d_145 := rfl
theorem co145 (q : xQt) : xCal (xGm q) d_145 0 1 := ⟨xGood_ q, wf1715, trivial, wf1066, cpn15, cnm15, (Nat.le_of_ble_eq_true rfl), Nat.le_refl _, cds4⟩
theorem dt146 (q : xQt) : (xGm q).dat 146 = d_146 := rfl
theorem co146 (q : xQt) : xCal (xGm q) d_146 1 2 := ⟨xGood_ q, wf1716, trivial, wf1066, cpn15, cnm15, (Nat.le_of_ble_eq_true rfl), Nat.le_refl _, cds2⟩
theorem dt147 (q : xQt) : (xGm q).dat 147 = d_147 := rfl
theorem co147 (q : xQt) : xCal (xGm q) d_147 2 3 := ⟨xGood_ q, wf1717, trivial, wf1066, cpn15, cnm15, (Nat.le_of_ble_eq_true rfl), Nat.le_refl _, cds29⟩
theorem dt148 (q : xQt) : (xGm q).dat 148 = d_148 := rfl
theorem co148 (q : xQt) : xCal (xGm q) d_148 1 2 := ⟨xGood_ q, wf1718, trivial, wf1066, cpn15, cnm15, (Nat.le_of_ble_eq_true rfl), Nat.le_refl _, cds12⟩
theorem dt149 (q : xQt) : (xGm q).dat 149 = d_149 := rfl
theorem co149 (q : xQt) : xCal (xGm q) d_149 2 4 := ⟨xGood_ q, wf1719, trivial, wf1066, cpn15, cnm15, (Nat.le_of_ble_eq_true rfl), Nat.le_refl _, cds29⟩
theorem dt150 (q : xQt) : (xGm q).dat 150 = d_150 := rfl
theorem co150 (q : xQt) : xCal (xGm q) d_150 2 4 := ⟨xGood_ q, wf1720, trivial, wf1066, cpn15, cnm15, (Nat.le_of_ble_eq_true rfl), Nat.le_refl _, cds29⟩
theorem dt151 (q : xQt) : (xGm q).dat 151 = d_151 := rfl
theorem co151 (q : xQt) : xCal (xGm q) d_151 2 3 := ⟨xGood_ q, wf1721, trivial, wf1066, cpn15, cnm15, (Nat.le_of_ble_eq_true rfl), Nat.le_refl _, cds8⟩
theorem dt152 (q : xQt) : (xGm q).dat 152 = d_152 := rfl
theorem co152 (q : xQt) : xCal (xGm q) d_152 1 3 := ⟨xGood_ q, wf1722, trivial, wf1066, cpn15, cnm15, (Nat.le_of_ble_eq_true rfl), Nat.le_refl _, cds2⟩
theorem dt153 (q : xQt) : (xGm q).dat 153 = d_153 := rfl
theorem co153 (q : xQt) : xCal (xGm q) d_153 1 3 := ⟨xGood_ q, wf1723, trivial, wf1066, cpn15, cnm15, (Nat.le_of_ble_eq_true rfl), Nat.le_refl _, cds2⟩
theorem dt154 (q : xQt) : (xGm q).dat 154 = d_154 := rfl
theorem co154 (q : xQt) : xCal (xGm q) d_154 1 2 := ⟨xGood_ q, wf1724, trivial, wf1066, cpn15, cnm15, (Nat.le_of_ble_eq_true rfl), Nat.le_refl _, cds2⟩
theorem dt155 (q : xQt) : (xGm q).dat 155 = d_155 := rfl
theorem co155 (q : xQt) : xCal (xGm q) d_155 1 2 := ⟨xGood_ q, wf1725, trivial, wf1066, cpn15, cnm15, (Nat.le_of_ble_eq_true rfl), Nat.le_refl _, cds12⟩
theorem dt156 (q : xQt) : (xGm q).dat 156 = d_156 := rfl
theorem co156 (q : xQt) : xCal (xGm q) d_156 1 3 := ⟨xGood_ q, wf1726, trivial, wf1066, cpn15, cnm15, (Nat.le_of_ble_eq_true rfl), Nat.le_refl _, cds1⟩
theorem dt157 (q : xQt) : (xGm q).dat 157 = d_157 := rfl
theorem cds51 : (parseMethodDescriptor "(J)V").map (fun g => g.parameters.length) = some 1 := by decide +kernel
theorem co157 (q : xQt) : xCal (xGm q) d_157 1 3 := ⟨xGood_ q, wf1727, trivial, wf1066, cpn15, cnm15, (Nat.le_of_ble_eq_true rfl), Nat.le_refl _, cds51⟩
theorem dt158 (q : xQt) : (xGm q).dat 158 = d_158 := rfl
theorem co158 (q : xQt) : xCal (xGm q) d_158 1 2 := ⟨xGood_ q, wf1728, trivial, wf1066, cpn15, cnm15, (Nat.le_of_ble_eq_true rfl), Nat.le_refl _, cds2⟩
theorem dt159 (q : xQt) : (xGm q).dat 159 = d_159 := rfl
theorem co159 (q : xQt) : xCal (xGm q) d_159 1 2 := ⟨xGood_ q, wf1729, trivial, wf1066, cpn15, cnm15, (Nat.le_of_ble_eq_true rfl), Nat.le_refl _, cds2⟩
theorem dt160 (q : xQt) : (xGm q).dat 160 = d_160 := rfl
theorem co160 (q : xQt) : xCal (xGm q) d_160 1 2 := ⟨xGood_ q, wf1730, trivial, wf1066, cpn15, cnm15, (Nat.le_of_ble_eq_true rfl), Nat.le_refl _, cds2⟩
theorem dt161 (q : xQt) : (xGm q).dat 161 = d_161 := rfl
theorem co161 (q : xQt) : xCal (xGm q) d_161 1 2 := ⟨xGood_ q, wf1731, trivial, wf1066, cpn15, cnm15, (Nat.le_of_ble_eq_true rfl), Nat.le_refl _, cds23⟩
theorem dt162 (q : xQt) : (xGm q).dat 162 = d_162 := rfl
theorem co162 (q : xQt) : xCal (xGm q) d_162 1 4 := ⟨xGood_ q, wf1732, trivial, wf1066, cpn15, cnm15, (Nat.le_of_ble_eq_true rfl), Nat.le_refl _, cds2⟩
theorem dt163 (q : xQt) : (xGm q).dat 163 = d_163 := rfl
theorem co163 (q : xQt) : xCal (xGm q) d_163 1 4 := ⟨xGood_ q, wf1733, trivial, wf1066, cpn15, cnm15, (Nat.le_of_ble_eq_true rfl), Nat.le_refl _, cds2⟩
theorem dt164 (q : xQt) : (xGm q).dat 164 = d_164 := rfl
theorem co164 (q : xQt) : xCal (xGm q) d_164 1 2 := ⟨xGood_ q, wf1734, trivial, wf1066, cpn15, cnm15, (Nat.le_of_ble_eq_true rfl), Nat.le_refl _, cds2⟩
theorem dt165 (q : xQt) : (xGm q).dat 165 = d_165 := rfl
theorem co165 (q : xQt) : xCal (xGm q) d_165 0 1 := ⟨xGood_ q, wf1735, trivial, wf1066, cpn15, cnm15, (Nat.le_of_ble_eq_true rfl), Nat.le_refl _, cds11⟩
theorem dt166 (q : xQt) : (xGm q).dat 166 = d_166 := rfl
theorem co166 (q : xQt) : xCal (xGm q) d_166 0 1 := ⟨xGood_ q, wf1736, trivial, wf1066, cpn15, cnm15, (Nat.le_of_ble_eq_true rfl), Nat.le_refl _, cds4⟩
theorem dt167 (q : xQt) : (xGm q).dat 167 = d_167 := rfl
theorem co167 (q : xQt) : xCal (xGm q) d_167 0 1 := ⟨xGood_ q, wf1737, trivial, wf1066, cpn15, cnm15, (Nat.le_of_ble_eq_true rfl), Nat.le_refl _, cds4⟩
theorem dt168 (q : xQt) : (xGm q).dat 168 = d_168 := rfl
theorem co168 (q : xQt) : xCal (xGm q) d_168 1 3 := ⟨xGood_ q, wf1738, trivial, wf1066, cpn15, cnm15, (Nat.le_of_ble_eq_true rfl), Nat.le_refl _, cds2⟩
theorem dt169 (q : xQt) : (xGm q).dat 169 = d_169 := rfl
theorem co169 (q : xQt) : xCal (xGm q) d_169 0 1 := ⟨xGood_ q, wf1739, trivial, wf1066, cpn15, cnm15, (Nat.le_of_ble_eq_true rfl), Nat.le_refl _, cds4⟩
theorem dt170 (q : xQt) : (xGm q).dat 170 = d_170 := rfl
theorem cds52 : (parseMethodDescriptor "()LIsingLab$Exact;").map (fun g => g.parameters.length) = some 0 := by decide +kernel
theorem co170 (q : xQt) : xCal (xGm q) d_170 0 1 := ⟨xGood_ q, wf1740, trivial, wf1066, cpn15, cnm15, (Nat.le_of_ble_eq_true rfl), Nat.le_refl _, cds52⟩
theorem dt171 (q : xQt) : (xGm q).dat 171 = d_171 := rfl
theorem co171 (q : xQt) : xCal (xGm q) d_171 2 4 := ⟨xGood_ q, wf1741, trivial, wf1066, cpn15, cnm15, (Nat.le_of_ble_eq_true rfl), Nat.le_refl _, cds29⟩
theorem dt172 (q : xQt) : (xGm q).dat 172 = d_172 := rfl
theorem co172 (q : xQt) : xCal (xGm q) d_172 2 5 := ⟨xGood_ q, wf1742, trivial, wf1066, cpn15, cnm15, (Nat.le_of_ble_eq_true rfl), Nat.le_refl _, cds29⟩
theorem dt173 (q : xQt) : (xGm q).dat 173 = d_173 := rfl
theorem co173 (q : xQt) : xCal (xGm q) d_173 0 1 := ⟨xGood_ q, wf1743, trivial, wf1066, cpn15, cnm15, (Nat.le_of_ble_eq_true rfl), Nat.le_refl _, cds4⟩
theorem dt174 (q : xQt) : (xGm q).dat 174 = d_174 := rfl
theorem co174 (q : xQt) : xCal (xGm q) d_174 0 2 := ⟨xGood_ q, wf1744, trivial, wf1066, cpn15, cnm15, (Nat.le_of_ble_eq_true rfl), Nat.le_refl _, cds4⟩
theorem dt175 (q : xQt) : (xGm q).dat 175 = d_175 := rfl
theorem co175 (q : xQt) : xCal (xGm q) d_175 0 1 := ⟨xGood_ q, wf1745, trivial, wf1066, cpn15, cnm15, (Nat.le_of_ble_eq_true rfl), Nat.le_refl _, cds4⟩
theorem dt176 (q : xQt) : (xGm q).dat 176 = d_176 := rfl
theorem co176 (q : xQt) : xCal (xGm q) d_176 0 1 := ⟨xGood_ q, wf1746, trivial, wf1066, cpn15, cnm15, (Nat.le_of_ble_eq_true rfl), Nat.le_refl _, cds4⟩
theorem dt177 (q : xQt) : (xGm q).dat 177 = d_177 := rfl
theorem co177 (q : xQt) : xCal (xGm q) d_177 3 5 := ⟨xGood_ q, wf1747, trivial, wf1066, cpn15, cnm15, (Nat.le_of_ble_eq_true rfl), Nat.le_refl _, cds43⟩
theorem dt178 (q : xQt) : (xGm q).dat 178 = d_178 := rfl
theorem co178 (q : xQt) : xCal (xGm q) d_178 3 4 := ⟨xGood_ q, wf1748, trivial, wf1066, cpn15, cnm15, (Nat.le_of_ble_eq_true rfl), Nat.le_refl _, cds43⟩
theorem dt179 (q : xQt) : (xGm q).dat 179 = d_179 := rfl
theorem cds53 : (parseMethodDescriptor "(JII)D").map (fun g => g.parameters.length) = some 3 := by decide +kernel
theorem co179 (q : xQt) : xCal (xGm q) d_179 3 6 := ⟨xGood_ q, wf1749, trivial, wf1066, cpn15, cnm15, (Nat.le_of_ble_eq_true rfl), Nat.le_refl _, cds53⟩
theorem dt180 (q : xQt) : (xGm q).dat 180 = d_180 := rfl
theorem cds54 : (parseMethodDescriptor "(IIII)D").map (fun g => g.parameters.length) = some 4 := by decide +kernel
theorem co180 (q : xQt) : xCal (xGm q) d_180 4 6 := ⟨xGood_ q, wf1750, trivial, wf1066, cpn15, cnm15, (Nat.le_of_ble_eq_true rfl), Nat.le_refl _, cds54⟩
theorem dt181 (q : xQt) : (xGm q).dat 181 = d_181 := rfl
theorem co181 (q : xQt) : xCal (xGm q) d_181 2 10 := ⟨xGood_ q, wf1751, trivial, wf1066, cpn15, cnm15, (Nat.le_of_ble_eq_true rfl), Nat.le_refl _, cds29⟩
theorem dt182 (q : xQt) : (xGm q).dat 182 = d_182 := rfl
theorem co182 (q : xQt) : xCal (xGm q) d_182 0 1 := ⟨xGood_ q, wf1752, trivial, wf1066, cpn15, cnm15, (Nat.le_of_ble_eq_true rfl), Nat.le_refl _, cds4⟩
theorem dt183 (q : xQt) : (xGm q).dat 183 = d_183 := rfl
theorem co183 (q : xQt) : xCal (xGm q) d_183 1 9 := ⟨xGood_ q, wf1753, trivial, wf1066, cpn15, cnm15, (Nat.le_of_ble_eq_true rfl), Nat.le_refl _, cds1⟩
theorem dt184 (q : xQt) : (xGm q).dat 184 = d_184 := rfl
theorem co184 (q : xQt) : xCal (xGm q) d_184 1 3 := ⟨xGood_ q, wf1754, trivial, wf1066, cpn15, cnm15, (Nat.le_of_ble_eq_true rfl), Nat.le_refl _, cds1⟩
theorem dt185 (q : xQt) : (xGm q).dat 185 = d_185 := rfl
theorem co185 (q : xQt) : xCal (xGm q) d_185 1 6 := ⟨xGood_ q, wf1755, trivial, wf1066, cpn15, cnm15, (Nat.le_of_ble_eq_true rfl), Nat.le_refl _, cds41⟩
theorem dt186 (q : xQt) : (xGm q).dat 186 = d_186 := rfl
theorem co186 (q : xQt) : xCal (xGm q) d_186 1 2 := ⟨xGood_ q, wf1756, trivial, wf1066, cpn15, cnm15, (Nat.le_of_ble_eq_true rfl), Nat.le_refl _, cds2⟩
theorem dt187 (q : xQt) : (xGm q).dat 187 = d_187 := rfl
theorem cds55 : (parseMethodDescriptor "(JJ)I").map (fun g => g.parameters.length) = some 2 := by decide +kernel
theorem co187 (q : xQt) : xCal (xGm q) d_187 2 5 := ⟨xGood_ q, wf1757, trivial, wf1066, cpn15, cnm15, (Nat.le_of_ble_eq_true rfl), Nat.le_refl _, cds55⟩
theorem dt188 (q : xQt) : (xGm q).dat 188 = d_188 := rfl
theorem co188 (q : xQt) : xCal (xGm q) d_188 1 8 := ⟨xGood_ q, wf1758, trivial, wf1066, cpn15, cnm15, (Nat.le_of_ble_eq_true rfl), Nat.le_refl _, cds40⟩
theorem dt189 (q : xQt) : (xGm q).dat 189 = d_189 := rfl
theorem co189 (q : xQt) : xCal (xGm q) d_189 2 3 := ⟨xGood_ q, wf1759, trivial, wf1066, cpn15, cnm15, (Nat.le_of_ble_eq_true rfl), Nat.le_refl _, cds29⟩
theorem dt190 (q : xQt) : (xGm q).dat 190 = d_190 := rfl
theorem co190 (q : xQt) : xCal (xGm q) d_190 2 5 := ⟨xGood_ q, wf1760, trivial, wf1066, cpn15, cnm15, (Nat.le_of_ble_eq_true rfl), Nat.le_refl _, cds29⟩
theorem dt191 (q : xQt) : (xGm q).dat 191 = d_191 := rfl
theorem co191 (q : xQt) : xCal (xGm q) d_191 0 1 := ⟨xGood_ q, wf1761, trivial, wf1066, cpn15, cnm15, (Nat.le_of_ble_eq_true rfl), Nat.le_refl _, cds4⟩
theorem dt192 (q : xQt) : (xGm q).dat 192 = d_192 := rfl
theorem cpn16 : plainName "IsingLabModel" = true := by decide +kernel
theorem cnm16 : "IsingLabModel" ≠ "java/lang/invoke/MethodHandle" ∧ "IsingLabModel" ≠ "java/lang/invoke/VarHandle" := ⟨by decide +kernel, by decide +kernel⟩
theorem co192 (q : xQt) : xCal (xGm q) d_192 0 1 := ⟨xGood_ q, wf1762, trivial, wf1071, cpn16, cnm16, (Nat.le_of_ble_eq_true rfl), Nat.le_refl _, cds11⟩
theorem dt193 (q : xQt) : (xGm q).dat 193 = d_193 := rfl
theorem co193 (q : xQt) : xCal (xGm q) d_193 0 2 := ⟨xGood_ q, wf1763, trivial, wf1071, cpn16, cnm16, (Nat.le_of_ble_eq_true rfl), Nat.le_refl _, cds11⟩
theorem dt194 (q : xQt) : (xGm q).dat 194 = d_194 := rfl
theorem co194 (q : xQt) : xCal (xGm q) d_194 0 4 := ⟨xGood_ q, wf1764, trivial, wf1071, cpn16, cnm16, (Nat.le_of_ble_eq_true rfl), Nat.le_refl _, cds11⟩
theorem dt195 (q : xQt) : (xGm q).dat 195 = d_195 := rfl
theorem co195 (q : xQt) : xCal (xGm q) d_195 1 2 := ⟨xGood_ q, wf1765, trivial, wf1071, cpn16, cnm16, (Nat.le_of_ble_eq_true rfl), Nat.le_refl _, cds23⟩
theorem dt196 (q : xQt) : (xGm q).dat 196 = d_196 := rfl
theorem co196 (q : xQt) : xCal (xGm q) d_196 2 4 := ⟨xGood_ q, wf1766, trivial, wf1071, cpn16, cnm16, (Nat.le_of_ble_eq_true rfl), Nat.le_refl _, cds8⟩
theorem dt197 (q : xQt) : (xGm q).dat 197 = d_197 := rfl
theorem co197 (q : xQt) : xCal (xGm q) d_197 1 2 := ⟨xGood_ q, wf1767, trivial, wf1071, cpn16, cnm16, (Nat.le_of_ble_eq_true rfl), Nat.le_refl _, cds23⟩
theorem dt198 (q : xQt) : (xGm q).dat 198 = d_198 := rfl
theorem co198 (q : xQt) : xCal (xGm q) d_198 0 2 := ⟨xGood_ q, wf1768, trivial, wf1071, cpn16, cnm16, (Nat.le_of_ble_eq_true rfl), Nat.le_refl _, cds11⟩
theorem dt199 (q : xQt) : (xGm q).dat 199 = d_199 := rfl
theorem co199 (q : xQt) : xCal (xGm q) d_199 0 2 := ⟨xGood_ q, wf1769, trivial, wf1071, cpn16, cnm16, (Nat.le_of_ble_eq_true rfl), Nat.le_refl _, cds11⟩
theorem dt200 (q : xQt) : (xGm q).dat 200 = d_200 := rfl
theorem co200 (q : xQt) : xCal (xGm q) d_200 0 1 := ⟨xGood_ q, wf1770, trivial, wf1071, cpn16, cnm16, (Nat.le_of_ble_eq_true rfl), Nat.le_refl _, cds46⟩
theorem dt201 (q : xQt) : (xGm q).dat 201 = d_201 := rfl
theorem co201 (q : xQt) : xCal (xGm q) d_201 0 1 := ⟨xGood_ q, wf1771, trivial, wf1071, cpn16, cnm16, (Nat.le_of_ble_eq_true rfl), Nat.le_refl _, cds4⟩
theorem dt202 (q : xQt) : (xGm q).dat 202 = d_202 := rfl
theorem co202 (q : xQt) : xCal (xGm q) d_202 5 6 := ⟨xGood_ q, wf1772, trivial, wf1071, cpn16, cnm16, (Nat.le_of_ble_eq_true rfl), Nat.le_refl _, cds45⟩
theorem dt203 (q : xQt) : (xGm q).dat 203 = d_203 := rfl
theorem co203 (q : xQt) : xCal (xGm q) d_203 1 3 := ⟨xGood_ q, wf1773, trivial, wf1071, cpn16, cnm16, (Nat.le_of_ble_eq_true rfl), Nat.le_refl _, cds12⟩
theorem dt204 (q : xQt) : (xGm q).dat 204 = d_204 := rfl
theorem co204 (q : xQt) : xCal (xGm q) d_204 1 2 := ⟨xGood_ q, wf1774, trivial, wf1071, cpn16, cnm16, (Nat.le_of_ble_eq_true rfl), Nat.le_refl _, cds23⟩
theorem dt205 (q : xQt) : (xGm q).dat 205 = d_205 := rfl
theorem cds56 : (parseMethodDescriptor "(JJJ)Z").map (fun g => g.parameters.length) = some 3 := by decide +kernel
theorem co205 (q : xQt) : xCal (xGm q) d_205 3 6 := ⟨xGood_ q, wf1775, trivial, wf1071, cpn16, cnm16, (Nat.le_of_ble_eq_true rfl), Nat.le_refl _, cds56⟩
theorem dt206 (q : xQt) : (xGm q).dat 206 = d_206 := rfl
theorem co206 (q : xQt) : xCal (xGm q) d_206 0 3 := ⟨xGood_ q, wf1776, trivial, wf1071, cpn16, cnm16, (Nat.le_of_ble_eq_true rfl), Nat.le_refl _, cds4⟩
theorem dt207 (q : xQt) : (xGm q).dat 207 = d_207 := rfl
theorem cds57 : (parseMethodDescriptor "([I[II)V").map (fun g => g.parameters.length) = some 3 := by decide +kernel
theorem co207 (q : xQt) : xCal (xGm q) d_207 3 4 := ⟨xGood_ q, wf1777, trivial, wf1071, cpn16, cnm16, (Nat.le_of_ble_eq_true rfl), Nat.le_refl _, cds57⟩
theorem dt208 (q : xQt) : (xGm q).dat 208 = d_208 := rfl
theorem co208 (q : xQt) : xCal (xGm q) d_208 0 2 := ⟨xGood_ q, wf1778, trivial, wf1071, cpn16, cnm16, (Nat.le_of_ble_eq_true rfl), Nat.le_refl _, cds11⟩
theorem dt209 (q : xQt) : (xGm q).dat 209 = d_209 := rfl
theorem co209 (q : xQt) : xCal (xGm q) d_209 1 2 := ⟨xGood_ q, wf1779, trivial, wf1071, cpn16, cnm16, (Nat.le_of_ble_eq_true rfl), Nat.le_refl _, cds2⟩
theorem dt210 (q : xQt) : (xGm q).dat 210 = d_210 := rfl
theorem co210 (q : xQt) : xCal (xGm q) d_210 0 1 := ⟨xGood_ q, wf1780, trivial, wf1071, cpn16, cnm16, (Nat.le_of_ble_eq_true rfl), Nat.le_refl _, cds7⟩
theorem dt211 (q : xQt) : (xGm q).dat 211 = d_211 := rfl
theorem co211 (q : xQt) : xCal (xGm q) d_211 0 2 := ⟨xGood_ q, wf1781, trivial, wf1071, cpn16, cnm16, (Nat.le_of_ble_eq_true rfl), Nat.le_refl _, cds7⟩
theorem dt212 (q : xQt) : (xGm q).dat 212 = d_212 := rfl
theorem co212 (q : xQt) : xCal (xGm q) d_212 1 3 := ⟨xGood_ q, wf1782, trivial, wf1071, cpn16, cnm16, (Nat.le_of_ble_eq_true rfl), Nat.le_refl _, cds33⟩
theorem dt213 (q : xQt) : (xGm q).dat 213 = d_213 := rfl
theorem co213 (q : xQt) : xCal (xGm q) d_213 0 1 := ⟨xGood_ q, wf1783, trivial, wf1071, cpn16, cnm16, (Nat.le_of_ble_eq_true rfl), Nat.le_refl _, cds7⟩
theorem dt214 (q : xQt) : (xGm q).dat 214 = d_214 := rfl
theorem cds58 : (parseMethodDescriptor "(Z)Z").map (fun g => g.parameters.length) = some 1 := by decide +kernel
theorem co214 (q : xQt) : xCal (xGm q) d_214 1 2 := ⟨xGood_ q, wf1784, trivial, wf1071, cpn16, cnm16, (Nat.le_of_ble_eq_true rfl), Nat.le_refl _, cds58⟩
theorem dt215 (q : xQt) : (xGm q).dat 215 = d_215 := rfl
theorem co215 (q : xQt) : xCal (xGm q) d_215 1 2 := ⟨xGood_ q, wf1785, trivial, wf1071, cpn16, cnm16, (Nat.le_of_ble_eq_true rfl), Nat.le_refl _, cds23⟩
theorem dt216 (q : xQt) : (xGm q).dat 216 = d_216 := rfl
theorem cds59 : (parseMethodDescriptor "(III)Z").map (fun g => g.parameters.length) = some 3 := by decide +kernel
theorem co216 (q : xQt) : xCal (xGm q) d_216 3 4 := ⟨xGood_ q, wf1786, trivial, wf1071, cpn16, cnm16, (Nat.le_of_ble_eq_true rfl), Nat.le_refl _, cds59⟩
theorem dt217 (q : xQt) : (xGm q).dat 217 = d_217 := rfl
theorem co217 (q : xQt) : xCal (xGm q) d_217 2 3 := ⟨xGood_ q, wf1787, trivial, wf1071, cpn16, cnm16, (Nat.le_of_ble_eq_true rfl), Nat.le_refl _, cds34⟩
theorem dt218 (q : xQt) : (xGm q).dat 218 = d_218 := rfl
theorem co218 (q : xQt) : xCal (xGm q) d_218 0 1 := ⟨xGood_ q, wf1788, trivial, wf1071, cpn16, cnm16, (Nat.le_of_ble_eq_true rfl), Nat.le_refl _, cds7⟩
theorem dt219 (q : xQt) : (xGm q).dat 219 = d_219 := rfl
theorem cds60 : (parseMethodDescriptor "(Ljava/lang/String;Ljava/lang/String;Ljava/lang/String;)I").map (fun g => g.parameters.length) = some 3 := by decide +kernel
theorem co219 (q : xQt) : xCal (xGm q) d_219 3 6 := ⟨xGood_ q, wf1789, trivial, wf1071, cpn16, cnm16, (Nat.le_of_ble_eq_true rfl), Nat.le_refl _, cds60⟩
theorem dt220 (q : xQt) : (xGm q).dat 220 = d_220 := rfl
theorem co220 (q : xQt) : xCal (xGm q) d_220 0 1 := ⟨xGood_ q, wf1790, trivial, wf1071, cpn16, cnm16, (Nat.le_of_ble_eq_true rfl), Nat.le_refl _, cds7⟩
theorem dt221 (q : xQt) : (xGm q).dat 221 = d_221 := rfl
theorem co221 (q : xQt) : xCal (xGm q) d_221 1 3 := ⟨xGood_ q, wf1791, trivial, wf1071, cpn16, cnm16, (Nat.le_of_ble_eq_true rfl), Nat.le_refl _, cds23⟩
theorem dt222 (q : xQt) : (xGm q).dat 222 = d_222 := rfl
theorem co222 (q : xQt) : xCal (xGm q) d_222 0 1 := ⟨xGood_ q, wf1792, trivial, wf1071, cpn16, cnm16, (Nat.le_of_ble_eq_true rfl), Nat.le_refl _, cds7⟩
theorem dt223 (q : xQt) : (xGm q).dat 223 = d_223 := rfl
theorem co223 (q : xQt) : xCal (xGm q) d_223 0 2 := ⟨xGood_ q, wf1793, trivial, wf1071, cpn16, cnm16, (Nat.le_of_ble_eq_true rfl), Nat.le_refl _, cds7⟩
theorem dt224 (q : xQt) : (xGm q).dat 224 = d_224 := rfl
theorem co224 (q : xQt) : xCal (xGm q) d_224 1 2 := ⟨xGood_ q, wf1794, trivial, wf1071, cpn16, cnm16, (Nat.le_of_ble_eq_true rfl), Nat.le_refl _, cds23⟩
theorem dt225 (q : xQt) : (xGm q).dat 225 = d_225 := rfl
theorem co225 (q : xQt) : xCal (xGm q) d_225 0 1 := ⟨xGood_ q, wf1795, trivial, wf1071, cpn16, cnm16, (Nat.le_of_ble_eq_true rfl), Nat.le_refl _, cds7⟩
theorem dt226 (q : xQt) : (xGm q).dat 226 = d_226 := rfl
theorem co226 (q : xQt) : xCal (xGm q) d_226 0 1 := ⟨xGood_ q, wf1796, trivial, wf1071, cpn16, cnm16, (Nat.le_of_ble_eq_true rfl), Nat.le_refl _, cds7⟩
theorem dt227 (q : xQt) : (xGm q).dat 227 = d_227 := rfl
theorem co227 (q : xQt) : xCal (xGm q) d_227 0 1 := ⟨xGood_ q, wf1797, trivial, wf1071, cpn16, cnm16, (Nat.le_of_ble_eq_true rfl), Nat.le_refl _, cds7⟩
theorem dt228 (q : xQt) : (xGm q).dat 228 = d_228 := rfl
theorem co228 (q : xQt) : xCal (xGm q) d_228 0 1 := ⟨xGood_ q, wf1798, trivial, wf1071, cpn16, cnm16, (Nat.le_of_ble_eq_true rfl), Nat.le_refl _, cds7⟩
theorem dt229 (q : xQt) : (xGm q).dat 229 = d_229 := rfl
theorem co229 (q : xQt) : xCal (xGm q) d_229 0 3 := ⟨xGood_ q, wf1799, trivial, wf1071, cpn16, cnm16, (Nat.le_of_ble_eq_true rfl), Nat.le_refl _, cds7⟩
theorem dt230 (q : xQt) : (xGm q).dat 230 = d_230 := rfl
theorem cds61 : (parseMethodDescriptor "(IZ)I").map (fun g => g.parameters.length) = some 2 := by decide +kernel
theorem co230 (q : xQt) : xCal (xGm q) d_230 2 5 := ⟨xGood_ q, wf1800, trivial, wf1071, cpn16, cnm16, (Nat.le_of_ble_eq_true rfl), Nat.le_refl _, cds61⟩
theorem dt231 (q : xQt) : (xGm q).dat 231 = d_231 := rfl
theorem co231 (q : xQt) : xCal (xGm q) d_231 0 1 := ⟨xGood_ q, wf1801, trivial, wf1071, cpn16, cnm16, (Nat.le_of_ble_eq_true rfl), Nat.le_refl _, cds4⟩
theorem dt232 (q : xQt) : (xGm q).dat 232 = d_232 := rfl
theorem co232 (q : xQt) : xCal (xGm q) d_232 0 1 := ⟨xGood_ q, wf1802, trivial, wf1071, cpn16, cnm16, (Nat.le_of_ble_eq_true rfl), Nat.le_refl _, cds4⟩
theorem dt233 (q : xQt) : (xGm q).dat 233 = d_233 := rfl
theorem co233 (q : xQt) : xCal (xGm q) d_233 1 2 := ⟨xGood_ q, wf1803, trivial, wf1071, cpn16, cnm16, (Nat.le_of_ble_eq_true rfl), Nat.le_refl _, cds2⟩
theorem dt234 (q : xQt) : (xGm q).dat 234 = d_234 := rfl
theorem cds62 : (parseMethodDescriptor "(ZI)Z").map (fun g => g.parameters.length) = some 2 := by decide +kernel
theorem co234 (q : xQt) : xCal (xGm q) d_234 2 3 := ⟨xGood_ q, wf1804, trivial, wf1071, cpn16, cnm16, (Nat.le_of_ble_eq_true rfl), Nat.le_refl _, cds62⟩
theorem dt235 (q : xQt) : (xGm q).dat 235 = d_235 := rfl
theorem co235 (q : xQt) : xCal (xGm q) d_235 2 3 := ⟨xGood_ q, wf1805, trivial, wf1071, cpn16, cnm16, (Nat.le_of_ble_eq_true rfl), Nat.le_refl _, cds29⟩
theorem dt236 (q : xQt) : (xGm q).dat 236 = d_236 := rfl
theorem co236 (q : xQt) : xCal (xGm q) d_236 1 2 := ⟨xGood_ q, wf1806, trivial, wf1071, cpn16, cnm16, (Nat.le_of_ble_eq_true rfl), Nat.le_refl _, cds23⟩
theorem dt237 (q : xQt) : (xGm q).dat 237 = d_237 := rfl
theorem co237 (q : xQt) : xCal (xGm q) d_237 2 4 := ⟨xGood_ q, wf1807, trivial, wf1071, cpn16, cnm16, (Nat.le_of_ble_eq_true rfl), Nat.le_refl _, cds38⟩
theorem dt238 (q : xQt) : (xGm q).dat 238 = d_238 := rfl
theorem co238 (q : xQt) : xCal (xGm q) d_238 2 3 := ⟨xGood_ q, wf1808, trivial, wf1071, cpn16, cnm16, (Nat.le_of_ble_eq_true rfl), Nat.le_refl _, cds38⟩
theorem dt239 (q : xQt) : (xGm q).dat 239 = d_239 := rfl
theorem co239 (q : xQt) : xCal (xGm q) d_239 2 3 := ⟨xGood_ q, wf1809, trivial, wf1071, cpn16, cnm16, (Nat.le_of_ble_eq_true rfl), Nat.le_refl _, cds29⟩
theorem dt240 (q : xQt) : (xGm q).dat 240 = d_240 := rfl
theorem co240 (q : xQt) : xCal (xGm q) d_240 2 4 := ⟨xGood_ q, wf1810, trivial, wf1071, cpn16, cnm16, (Nat.le_of_ble_eq_true rfl), Nat.le_refl _, cds29⟩
theorem dt241 (q : xQt) : (xGm q).dat 241 = d_241 := rfl
theorem co241 (q : xQt) : xCal (xGm q) d_241 2 4 := ⟨xGood_ q, wf1811, trivial, wf1071, cpn16, cnm16, (Nat.le_of_ble_eq_true rfl), Nat.le_refl _, cds29⟩
theorem dt242 (q : xQt) : (xGm q).dat 242 = d_242 := rfl
theorem co242 (q : xQt) : xCal (xGm q) d_242 2 2 := ⟨xGood_ q, wf1812, trivial, wf1071, cpn16, cnm16, (Nat.le_of_ble_eq_true rfl), Nat.le_refl _, cds34⟩
theorem dt243 (q : xQt) : (xGm q).dat 243 = d_243 := rfl
theorem co243 (q : xQt) : xCal (xGm q) d_243 1 2 := ⟨xGood_ q, wf1813, trivial, wf1071, cpn16, cnm16, (Nat.le_of_ble_eq_true rfl), Nat.le_refl _, cds2⟩
theorem dt244 (q : xQt) : (xGm q).dat 244 = d_244 := rfl
theorem co244 (q : xQt) : xCal (xGm q) d_244 1 3 := ⟨xGood_ q, wf1814, trivial, wf1071, cpn16, cnm16, (Nat.le_of_ble_eq_true rfl), Nat.le_refl _, cds2⟩
theorem dt245 (q : xQt) : (xGm q).dat 245 = d_245 := rfl
theorem co245 (q : xQt) : xCal (xGm q) d_245 1 2 := ⟨xGood_ q, wf1815, trivial, wf1071, cpn16, cnm16, (Nat.le_of_ble_eq_true rfl), Nat.le_refl _, cds2⟩
theorem dt246 (q : xQt) : (xGm q).dat 246 = d_246 := rfl
theorem co246 (q : xQt) : xCal (xGm q) d_246 1 2 := ⟨xGood_ q, wf1816, trivial, wf1071, cpn16, cnm16, (Nat.le_of_ble_eq_true rfl), Nat.le_refl _, cds23⟩
theorem dt247 (q : xQt) : (xGm q).dat 247 = d_247 := rfl
theorem co247 (q : xQt) : xCal (xGm q) d_247 0 1 := ⟨xGood_ q, wf1817, trivial, wf1071, cpn16, cnm16, (Nat.le_of_ble_eq_true rfl), Nat.le_refl _, cds46⟩
theorem dt248 (q : xQt) : (xGm q).dat 248 = d_248 := rfl
theorem co248 (q : xQt) : xCal (xGm q) d_248 1 3 := ⟨xGood_ q, wf1818, trivial, wf1071, cpn16, cnm16, (Nat.le_of_ble_eq_true rfl), Nat.le_refl _, cds1⟩
theorem dt249 (q : xQt) : (xGm q).dat 249 = d_249 := rfl
theorem co249 (q : xQt) : xCal (xGm q) d_249 1 3 := ⟨xGood_ q, wf1819, trivial, wf1071, cpn16, cnm16, (Nat.le_of_ble_eq_true rfl), Nat.le_refl _, cds31⟩
theorem dt250 (q : xQt) : (xGm q).dat 250 = d_250 := rfl
theorem co250 (q : xQt) : xCal (xGm q) d_250 1 5 := ⟨xGood_ q, wf1820, trivial, wf1071, cpn16, cnm16, (Nat.le_of_ble_eq_true rfl), Nat.le_refl _, cds1⟩
theorem dt251 (q : xQt) : (xGm q).dat 251 = d_251 := rfl
theorem co251 (q : xQt) : xCal (xGm q) d_251 1 5 := ⟨xGood_ q, wf1821, trivial, wf1071, cpn16, cnm16, (Nat.le_of_ble_eq_true rfl), Nat.le_refl _, cds1⟩
theorem dt252 (q : xQt) : (xGm q).dat 252 = d_252 := rfl
theorem co252 (q : xQt) : xCal (xGm q) d_252 1 2 := ⟨xGood_ q, wf1822, trivial, wf1071, cpn16, cnm16, (Nat.le_of_ble_eq_true rfl), Nat.le_refl _, cds2⟩
theorem dt253 (q : xQt) : (xGm q).dat 253 = d_253 := rfl
theorem co253 (q : xQt) : xCal (xGm q) d_253 0 1 := ⟨xGood_ q, wf1823, trivial, wf1071, cpn16, cnm16, (Nat.le_of_ble_eq_true rfl), Nat.le_refl _, cds4⟩
theorem dt254 (q : xQt) : (xGm q).dat 254 = d_254 := rfl
theorem co254 (q : xQt) : xCal (xGm q) d_254 0 1 := ⟨xGood_ q, wf1824, trivial, wf1071, cpn16, cnm16, (Nat.le_of_ble_eq_true rfl), Nat.le_refl _, cds4⟩
theorem dt255 (q : xQt) : (xGm q).dat 255 = d_255 := rfl
theorem co255 (q : xQt) : xCal (xGm q) d_255 0 1 := ⟨xGood_ q, wf1825, trivial, wf1071, cpn16, cnm16, (Nat.le_of_ble_eq_true rfl), Nat.le_refl _, cds4⟩
theorem dt256 (q : xQt) : (xGm q).dat 256 = d_256 := rfl
theorem co256 (q : xQt) : xCal (xGm q) d_256 1 2 := ⟨xGood_ q, wf1826, trivial, wf1071, cpn16, cnm16, (Nat.le_of_ble_eq_true rfl), Nat.le_refl _, cds2⟩
theorem dt257 (q : xQt) : (xGm q).dat 257 = d_257 := rfl
theorem co257 (q : xQt) : xCal (xGm q) d_257 2 6 := ⟨xGood_ q, wf1827, trivial, wf1071, cpn16, cnm16, (Nat.le_of_ble_eq_true rfl), Nat.le_refl _, cds38⟩
theorem dt258 (q : xQt) : (xGm q).dat 258 = d_258 := rfl
theorem co258 (q : xQt) : xCal (xGm q) d_258 0 3 := ⟨xGood_ q, wf1828, trivial, wf1071, cpn16, cnm16, (Nat.le_of_ble_eq_true rfl), Nat.le_refl _, cds4⟩
theorem dt259 (q : xQt) : (xGm q).dat 259 = d_259 := rfl
theorem co259 (q : xQt) : xCal (xGm q) d_259 0 3 := ⟨xGood_ q, wf1829, trivial, wf1071, cpn16, cnm16, (Nat.le_of_ble_eq_true rfl), Nat.le_refl _, cds4⟩
theorem dt260 (q : xQt) : (xGm q).dat 260 = d_260 := rfl
theorem co260 (q : xQt) : xCal (xGm q) d_260 0 3 := ⟨xGood_ q, wf1830, trivial, wf1071, cpn16, cnm16, (Nat.le_of_ble_eq_true rfl), Nat.le_refl _, cds4⟩
theorem dt261 (q : xQt) : (xGm q).dat 261 = d_261 := rfl
theorem co261 (q : xQt) : xCal (xGm q) d_261 1 5 := ⟨xGood_ q, wf1831, trivial, wf1071, cpn16, cnm16, (Nat.le_of_ble_eq_true rfl), Nat.le_refl _, cds1⟩
theorem dt262 (q : xQt) : (xGm q).dat 262 = d_262 := rfl
theorem co262 (q : xQt) : xCal (xGm q) d_262 2 5 := ⟨xGood_ q, wf1832, trivial, wf1071, cpn16, cnm16, (Nat.le_of_ble_eq_true rfl), Nat.le_refl _, cds29⟩
theorem dt263 (q : xQt) : (xGm q).dat 263 = d_263 := rfl
theorem co263 (q : xQt) : xCal (xGm q) d_263 0 3 := ⟨xGood_ q, wf1833, trivial, wf1071, cpn16, cnm16, (Nat.le_of_ble_eq_true rfl), Nat.le_refl _, cds47⟩
theorem dt264 (q : xQt) : (xGm q).dat 264 = d_264 := rfl
theorem co264 (q : xQt) : xCal (xGm q) d_264 0 1 := ⟨xGood_ q, wf1834, trivial, wf1071, cpn16, cnm16, (Nat.le_of_ble_eq_true rfl), Nat.le_refl _, cds47⟩
theorem dt265 (q : xQt) : (xGm q).dat 265 = d_265 := rfl
theorem co265 (q : xQt) : xCal (xGm q) d_265 1 3 := ⟨xGood_ q, wf1835, trivial, wf1071, cpn16, cnm16, (Nat.le_of_ble_eq_true rfl), Nat.le_refl _, cds41⟩
theorem dt266 (q : xQt) : (xGm q).dat 266 = d_266 := rfl
theorem co266 (q : xQt) : xCal (xGm q) d_266 3 6 := ⟨xGood_ q, wf1836, trivial, wf1071, cpn16, cnm16, (Nat.le_of_ble_eq_true rfl), Nat.le_refl _, cds43⟩
theorem dt267 (q : xQt) : (xGm q).dat 267 = d_267 := rfl
theorem co267 (q : xQt) : xCal (xGm q) d_267 1 3 := ⟨xGood_ q, wf1837, trivial, wf1071, cpn16, cnm16, (Nat.le_of_ble_eq_true rfl), Nat.le_refl _, cds1⟩
theorem dt268 (q : xQt) : (xGm q).dat 268 = d_268 := rfl
theorem co268 (q : xQt) : xCal (xGm q) d_268 1 7 := ⟨xGood_ q, wf1838, trivial, wf1071, cpn16, cnm16, (Nat.le_of_ble_eq_true rfl), Nat.le_refl _, cds51⟩
theorem dt269 (q : xQt) : (xGm q).dat 269 = d_269 := rfl
theorem co269 (q : xQt) : xCal (xGm q) d_269 1 3 := ⟨xGood_ q, wf1839, trivial, wf1071, cpn16, cnm16, (Nat.le_of_ble_eq_true rfl), Nat.le_refl _, cds40⟩
theorem dt270 (q : xQt) : (xGm q).dat 270 = d_270 := rfl
theorem co270 (q : xQt) : xCal (xGm q) d_270 1 2 := ⟨xGood_ q, wf1840, trivial, wf1071, cpn16, cnm16, (Nat.le_of_ble_eq_true rfl), Nat.le_refl _, cds23⟩
theorem dt271 (q : xQt) : (xGm q).dat 271 = d_271 := rfl
theorem co271 (q : xQt) : xCal (xGm q) d_271 1 4 := ⟨xGood_ q, wf1841, trivial, wf1071, cpn16, cnm16, (Nat.le_of_ble_eq_true rfl), Nat.le_refl _, cds23⟩
theorem dt272 (q : xQt) : (xGm q).dat 272 = d_272 := rfl
theorem co272 (q : xQt) : xCal (xGm q) d_272 1 3 := ⟨xGood_ q, wf1842, trivial, wf1071, cpn16, cnm16, (Nat.le_of_ble_eq_true rfl), Nat.le_refl _, cds23⟩
theorem dt273 (q : xQt) : (xGm q).dat 273 = d_273 := rfl
theorem co273 (q : xQt) : xCal (xGm q) d_273 1 2 := ⟨xGood_ q, wf1843, trivial, wf1071, cpn16, cnm16, (Nat.le_of_ble_eq_true rfl), Nat.le_refl _, cds2⟩
theorem dt274 (q : xQt) : (xGm q).dat 274 = d_274 := rfl
theorem co274 (q : xQt) : xCal (xGm q) d_274 1 4 := ⟨xGood_ q, wf1844, trivial, wf1071, cpn16, cnm16, (Nat.le_of_ble_eq_true rfl), Nat.le_refl _, cds2⟩
theorem dt275 (q : xQt) : (xGm q).dat 275 = d_275 := rfl
theorem co275 (q : xQt) : xCal (xGm q) d_275 1 4 := ⟨xGood_ q, wf1845, trivial, wf1071, cpn16, cnm16, (Nat.le_of_ble_eq_true rfl), Nat.le_refl _, cds2⟩
theorem dt276 (q : xQt) : (xGm q).dat 276 = d_276 := rfl
theorem co276 (q : xQt) : xCal (xGm q) d_276 0 3 := ⟨xGood_ q, wf1846, trivial, wf1071, cpn16, cnm16, (Nat.le_of_ble_eq_true rfl), Nat.le_refl _, cds4⟩
theorem dt277 (q : xQt) : (xGm q).dat 277 = d_277 := rfl
theorem co277 (q : xQt) : xCal (xGm q) d_277 1 9 := ⟨xGood_ q, wf1847, trivial, wf1071, cpn16, cnm16, (Nat.le_of_ble_eq_true rfl), Nat.le_refl _, cds2⟩
theorem dt278 (q : xQt) : (xGm q).dat 278 = d_278 := rfl
theorem co278 (q : xQt) : xCal (xGm q) d_278 0 2 := ⟨xGood_ q, wf1848, trivial, wf1071, cpn16, cnm16, (Nat.le_of_ble_eq_true rfl), Nat.le_refl _, cds7⟩
theorem dt279 (q : xQt) : (xGm q).dat 279 = d_279 := rfl
theorem co279 (q : xQt) : xCal (xGm q) d_279 2 3 := ⟨xGood_ q, wf1849, trivial, wf1071, cpn16, cnm16, (Nat.le_of_ble_eq_true rfl), Nat.le_refl _, cds29⟩
theorem dt280 (q : xQt) : (xGm q).dat 280 = d_280 := rfl
theorem co280 (q : xQt) : xCal (xGm q) d_280 1 2 := ⟨xGood_ q, wf1850, trivial, wf1071, cpn16, cnm16, (Nat.le_of_ble_eq_true rfl), Nat.le_refl _, cds23⟩
theorem dt281 (q : xQt) : (xGm q).dat 281 = d_281 := rfl
theorem co281 (q : xQt) : xCal (xGm q) d_281 0 3 := ⟨xGood_ q, wf1851, trivial, wf1071, cpn16, cnm16, (Nat.le_of_ble_eq_true rfl), Nat.le_refl _, cds4⟩
theorem dt282 (q : xQt) : (xGm q).dat 282 = d_282 := rfl
theorem co282 (q : xQt) : xCal (xGm q) d_282 0 2 := ⟨xGood_ q, wf1852, trivial, wf1071, cpn16, cnm16, (Nat.le_of_ble_eq_true rfl), Nat.le_refl _, cds11⟩
theorem dt283 (q : xQt) : (xGm q).dat 283 = d_283 := rfl
theorem co283 (q : xQt) : xCal (xGm q) d_283 2 6 := ⟨xGood_ q, wf1853, trivial, wf1071, cpn16, cnm16, (Nat.le_of_ble_eq_true rfl), Nat.le_refl _, cds8⟩
theorem dt284 (q : xQt) : (xGm q).dat 284 = d_284 := rfl
theorem co284 (q : xQt) : xCal (xGm q) d_284 0 3 := ⟨xGood_ q, wf1854, trivial, wf1071, cpn16, cnm16, (Nat.le_of_ble_eq_true rfl), Nat.le_refl _, cds4⟩
theorem dt285 (q : xQt) : (xGm q).dat 285 = d_285 := rfl
theorem co285 (q : xQt) : xCal (xGm q) d_285 0 1 := ⟨xGood_ q, wf1855, trivial, wf1071, cpn16, cnm16, (Nat.le_of_ble_eq_true rfl), Nat.le_refl _, cds4⟩
theorem dt286 (q : xQt) : (xGm q).dat 286 = d_286 := rfl
theorem co286 (q : xQt) : xCal (xGm q) d_286 0 2 := ⟨xGood_ q, wf1856, trivial, wf1071, cpn16, cnm16, (Nat.le_of_ble_eq_true rfl), Nat.le_refl _, cds11⟩
theorem dt287 (q : xQt) : (xGm q).dat 287 = d_287 := rfl
theorem co287 (q : xQt) : xCal (xGm q) d_287 1 2 := ⟨xGood_ q, wf1857, trivial, wf1071, cpn16, cnm16, (Nat.le_of_ble_eq_true rfl), Nat.le_refl _, cds2⟩
theorem dt288 (q : xQt) : (xGm q).dat 288 = d_288 := rfl
theorem co288 (q : xQt) : xCal (xGm q) d_288 1 4 := ⟨xGood_ q, wf1858, trivial, wf1071, cpn16, cnm16, (Nat.le_of_ble_eq_true rfl), Nat.le_refl _, cds2⟩
theorem dt289 (q : xQt) : (xGm q).dat 289 = d_289 := rfl
theorem co289 (q : xQt) : xCal (xGm q) d_289 0 3 := ⟨xGood_ q, wf1859, trivial, wf1071, cpn16, cnm16, (Nat.le_of_ble_eq_true rfl), Nat.le_refl _, cds4⟩
theorem dt290 (q : xQt) : (xGm q).dat 290 = d_290 := rfl
theorem co290 (q : xQt) : xCal (xGm q) d_290 0 1 := ⟨xGood_ q, wf1860, trivial, wf1071, cpn16, cnm16, (Nat.le_of_ble_eq_true rfl), Nat.le_refl _, cds4⟩
theorem dt291 (q : xQt) : (xGm q).dat 291 = d_291 := rfl
theorem co291 (q : xQt) : xCal (xGm q) d_291 0 1 := ⟨xGood_ q, wf1861, trivial, wf1071, cpn16, cnm16, (Nat.le_of_ble_eq_true rfl), Nat.le_refl _, cds11⟩
theorem dt292 (q : xQt) : (xGm q).dat 292 = d_292 := rfl
theorem co292 (q : xQt) : xCal (xGm q) d_292 1 4 := ⟨xGood_ q, wf1862, trivial, wf1071, cpn16, cnm16, (Nat.le_of_ble_eq_true rfl), Nat.le_refl _, cds2⟩
theorem dt293 (q : xQt) : (xGm q).dat 293 = d_293 := rfl
theorem co293 (q : xQt) : xCal (xGm q) d_293 1 2 := ⟨xGood_ q, wf1863, trivial, wf1071, cpn16, cnm16, (Nat.le_of_ble_eq_true rfl), Nat.le_refl _, cds41⟩
theorem dt294 (q : xQt) : (xGm q).dat 294 = d_294 := rfl
theorem co294 (q : xQt) : xCal (xGm q) d_294 1 5 := ⟨xGood_ q, wf1864, trivial, wf1071, cpn16, cnm16, (Nat.le_of_ble_eq_true rfl), Nat.le_refl _, cds41⟩
theorem dt295 (q : xQt) : (xGm q).dat 295 = d_295 := rfl
theorem cds63 : (parseMethodDescriptor "(IJJ)J").map (fun g => g.parameters.length) = some 3 := by decide +kernel
theorem co295 (q : xQt) : xCal (xGm q) d_295 3 5 := ⟨xGood_ q, wf1865, trivial, wf1071, cpn16, cnm16, (Nat.le_of_ble_eq_true rfl), Nat.le_refl _, cds63⟩
theorem dt296 (q : xQt) : (xGm q).dat 296 = d_296 := rfl
theorem co296 (q : xQt) : xCal (xGm q) d_296 0 3 := ⟨xGood_ q, wf1866, trivial, wf1071, cpn16, cnm16, (Nat.le_of_ble_eq_true rfl), Nat.le_refl _, cds49⟩
theorem dt297 (q : xQt) : (xGm q).dat 297 = d_297 := rfl
theorem co297 (q : xQt) : xCal (xGm q) d_297 1 4 := ⟨xGood_ q, wf1867, trivial, wf1071, cpn16, cnm16, (Nat.le_of_ble_eq_true rfl), Nat.le_refl _, cds2⟩
theorem dt298 (q : xQt) : (xGm q).dat 298 = d_298 := rfl
theorem co298 (q : xQt) : xCal (xGm q) d_298 0 6 := ⟨xGood_ q, wf1868, trivial, wf1071, cpn16, cnm16, (Nat.le_of_ble_eq_true rfl), Nat.le_refl _, cds4⟩
theorem dt299 (q : xQt) : (xGm q).dat 299 = d_299 := rfl
theorem co299 (q : xQt) : xCal (xGm q) d_299 0 2 := ⟨xGood_ q, wf1869, trivial, wf1071, cpn16, cnm16, (Nat.le_of_ble_eq_true rfl), Nat.le_refl _, cds4⟩
theorem dt300 (q : xQt) : (xGm q).dat 300 = d_300 := rfl
theorem co300 (q : xQt) : xCal (xGm q) d_300 0 1 := ⟨xGood_ q, wf1870, trivial, wf1071, cpn16, cnm16, (Nat.le_of_ble_eq_true rfl), Nat.le_refl _, cds4⟩
theorem dt301 (q : xQt) : (xGm q).dat 301 = d_301 := rfl
theorem co301 (q : xQt) : xCal (xGm q) d_301 1 2 := ⟨xGood_ q, wf1871, trivial, wf1071, cpn16, cnm16, (Nat.le_of_ble_eq_true rfl), Nat.le_refl _, cds23⟩
theorem dt302 (q : xQt) : (xGm q).dat 302 = d_302 := rfl
theorem co302 (q : xQt) : xCal (xGm q) d_302 0 4 := ⟨xGood_ q, wf1872, trivial, wf1071, cpn16, cnm16, (Nat.le_of_ble_eq_true rfl), Nat.le_refl _, cds11⟩
theorem dt303 (q : xQt) : (xGm q).dat 303 = d_303 := rfl
theorem co303 (q : xQt) : xCal (xGm q) d_303 0 1 := ⟨xGood_ q, wf1873, trivial, wf1071, cpn16, cnm16, (Nat.le_of_ble_eq_true rfl), Nat.le_refl _, cds4⟩
theorem dt304 (q : xQt) : (xGm q).dat 304 = d_304 := rfl
theorem co304 (q : xQt) : xCal (xGm q) d_304 1 3 := ⟨xGood_ q, wf1874, trivial, wf1071, cpn16, cnm16, (Nat.le_of_ble_eq_true rfl), Nat.le_refl _, cds2⟩
theorem dt305 (q : xQt) : (xGm q).dat 305 = d_305 := rfl
theorem co305 (q : xQt) : xCal (xGm q) d_305 2 3 := ⟨xGood_ q, wf1875, trivial, wf1071, cpn16, cnm16, (Nat.le_of_ble_eq_true rfl), Nat.le_refl _, cds29⟩
theorem dt306 (q : xQt) : (xGm q).dat 306 = d_306 := rfl
theorem co306 (q : xQt) : xCal (xGm q) d_306 2 4 := ⟨xGood_ q, wf1876, trivial, wf1071, cpn16, cnm16, (Nat.le_of_ble_eq_true rfl), Nat.le_refl _, cds29⟩
theorem dt307 (q : xQt) : (xGm q).dat 307 = d_307 := rfl
theorem co307 (q : xQt) : xCal (xGm q) d_307 1 4 := ⟨xGood_ q, wf1877, trivial, wf1071, cpn16, cnm16, (Nat.le_of_ble_eq_true rfl), Nat.le_refl _, cds2⟩
theorem dt308 (q : xQt) : (xGm q).dat 308 = d_308 := rfl
theorem co308 (q : xQt) : xCal (xGm q) d_308 0 1 := ⟨xGood_ q, wf1878, trivial, wf1071, cpn16, cnm16, (Nat.le_of_ble_eq_true rfl), Nat.le_refl _, cds4⟩
theorem dt309 (q : xQt) : (xGm q).dat 309 = d_309 := rfl
theorem co309 (q : xQt) : xCal (xGm q) d_309 0 3 := ⟨xGood_ q, wf1879, trivial, wf1071, cpn16, cnm16, (Nat.le_of_ble_eq_true rfl), Nat.le_refl _, cds4⟩
theorem dt310 (q : xQt) : (xGm q).dat 310 = d_310 := rfl
theorem co310 (q : xQt) : xCal (xGm q) d_310 0 2 := ⟨xGood_ q, wf1880, trivial, wf1071, cpn16, cnm16, (Nat.le_of_ble_eq_true rfl), Nat.le_refl _, cds4⟩
theorem dt311 (q : xQt) : (xGm q).dat 311 = d_311 := rfl
theorem co311 (q : xQt) : xCal (xGm q) d_311 0 3 := ⟨xGood_ q, wf1881, trivial, wf1071, cpn16, cnm16, (Nat.le_of_ble_eq_true rfl), Nat.le_refl _, cds4⟩
theorem dt312 (q : xQt) : (xGm q).dat 312 = d_312 := rfl
theorem co312 (q : xQt) : xCal (xGm q) d_312 1 3 := ⟨xGood_ q, wf1882, trivial, wf1071, cpn16, cnm16, (Nat.le_of_ble_eq_true rfl), Nat.le_refl _, cds23⟩
theorem dt313 (q : xQt) : (xGm q).dat 313 = d_313 := rfl
theorem co313 (q : xQt) : xCal (xGm q) d_313 0 4 := ⟨xGood_ q, wf1883, trivial, wf1071, cpn16, cnm16, (Nat.le_of_ble_eq_true rfl), Nat.le_refl _, cds4⟩
theorem dt314 (q : xQt) : (xGm q).dat 314 = d_314 := rfl
theorem co314 (q : xQt) : xCal (xGm q) d_314 3 4 := ⟨xGood_ q, wf1884, trivial, wf1071, cpn16, cnm16, (Nat.le_of_ble_eq_true rfl), Nat.le_refl _, cds43⟩
theorem dt315 (q : xQt) : (xGm q).dat 315 = d_315 := rfl
theorem co315 (q : xQt) : xCal (xGm q) d_315 3 7 := ⟨xGood_ q, wf1885, trivial, wf1071, cpn16, cnm16, (Nat.le_of_ble_eq_true rfl), Nat.le_refl _, cds43⟩
theorem dt316 (q : xQt) : (xGm q).dat 316 = d_316 := rfl
theorem co316 (q : xQt) : xCal (xGm q) d_316 2 4 := ⟨xGood_ q, wf1886, trivial, wf1071, cpn16, cnm16, (Nat.le_of_ble_eq_true rfl), Nat.le_refl _, cds8⟩
theorem dt317 (q : xQt) : (xGm q).dat 317 = d_317 := rfl
theorem co317 (q : xQt) : xCal (xGm q) d_317 2 6 := ⟨xGood_ q, wf1887, trivial, wf1071, cpn16, cnm16, (Nat.le_of_ble_eq_true rfl), Nat.le_refl _, cds44⟩
theorem dt318 (q : xQt) : (xGm q).dat 318 = d_318 := rfl
theorem co318 (q : xQt) : xCal (xGm q) d_318 3 4 := ⟨xGood_ q, wf1888, trivial, wf1071, cpn16, cnm16, (Nat.le_of_ble_eq_true rfl), Nat.le_refl _, cds43⟩
theorem dt319 (q : xQt) : (xGm q).dat 319 = d_319 := rfl
theorem co319 (q : xQt) : xCal (xGm q) d_319 3 6 := ⟨xGood_ q, wf1889, trivial, wf1071, cpn16, cnm16, (Nat.le_of_ble_eq_true rfl), Nat.le_refl _, cds43⟩
theorem dt320 (q : xQt) : (xGm q).dat 320 = d_320 := rfl
theorem co320 (q : xQt) : xCal (xGm q) d_320 3 5 := ⟨xGood_ q, wf1890, trivial, wf1071, cpn16, cnm16, (Nat.le_of_ble_eq_true rfl), Nat.le_refl _, cds53⟩
theorem dt321 (q : xQt) : (xGm q).dat 321 = d_321 := rfl
theorem co321 (q : xQt) : xCal (xGm q) d_321 4 12 := ⟨xGood_ q, wf1891, trivial, wf1071, cpn16, cnm16, (Nat.le_of_ble_eq_true rfl), Nat.le_refl _, cds54⟩
theorem dt322 (q : xQt) : (xGm q).dat 322 = d_322 := rfl
theorem co322 (q : xQt) : xCal (xGm q) d_322 2 9 := ⟨xGood_ q, wf1892, trivial, wf1071, cpn16, cnm16, (Nat.le_of_ble_eq_true rfl), Nat.le_refl _, cds29⟩
theorem dt323 (q : xQt) : (xGm q).dat 323 = d_323 := rfl
theorem co323 (q : xQt) : xCal (xGm q) d_323 2 13 := ⟨xGood_ q, wf1893, trivial, wf1071, cpn16, cnm16, (Nat.le_of_ble_eq_true rfl), Nat.le_refl _, cds55⟩
theorem dt324 (q : xQt) : (xGm q).dat 324 = d_324 := rfl
theorem co324 (q : xQt) : xCal (xGm q) d_324 0 2 := ⟨xGood_ q, wf1894, trivial, wf1071, cpn16, cnm16, (Nat.le_of_ble_eq_true rfl), Nat.le_refl _, cds11⟩
theorem dt325 (q : xQt) : (xGm q).dat 325 = d_325 := rfl
theorem co325 (q : xQt) : xCal (xGm q) d_325 1 3 := ⟨xGood_ q, wf1895, trivial, wf1071, cpn16, cnm16, (Nat.le_of_ble_eq_true rfl), Nat.le_refl _, cds2⟩
theorem dt326 (q : xQt) : (xGm q).dat 326 = d_326 := rfl
theorem co326 (q : xQt) : xCal (xGm q) d_326 0 2 := ⟨xGood_ q, wf1896, trivial, wf1071, cpn16, cnm16, (Nat.le_of_ble_eq_true rfl), Nat.le_refl _, cds4⟩
theorem dt327 (q : xQt) : (xGm q).dat 327 = d_327 := rfl
theorem co327 (q : xQt) : xCal (xGm q) d_327 1 2 := ⟨xGood_ q, wf1897, trivial, wf1071, cpn16, cnm16, (Nat.le_of_ble_eq_true rfl), Nat.le_refl _, cds12⟩
theorem dt328 (q : xQt) : (xGm q).dat 328 = d_328 := rfl
theorem co328 (q : xQt) : xCal (xGm q) d_328 2 4 := ⟨xGood_ q, wf1898, trivial, wf1071, cpn16, cnm16, (Nat.le_of_ble_eq_true rfl), Nat.le_refl _, cds29⟩
theorem dt329 (q : xQt) : (xGm q).dat 329 = d_329 := rfl
theorem co329 (q : xQt) : xCal (xGm q) d_329 1 6 := ⟨xGood_ q, wf1899, trivial, wf1071, cpn16, cnm16, (Nat.le_of_ble_eq_true rfl), Nat.le_refl _, cds12⟩
theorem dt330 (q : xQt) : (xGm q).dat 330 = d_330 := rfl
theorem co330 (q : xQt) : xCal (xGm q) d_330 1 2 := ⟨xGood_ q, wf1900, trivial, wf1071, cpn16, cnm16, (Nat.le_of_ble_eq_true rfl), Nat.le_refl _, cds2⟩
theorem dt331 (q : xQt) : (xGm q).dat 331 = d_331 := rfl
theorem co331 (q : xQt) : xCal (xGm q) d_331 0 1 := ⟨xGood_ q, wf1901, trivial, wf1071, cpn16, cnm16, (Nat.le_of_ble_eq_true rfl), Nat.le_refl _, cds4⟩
theorem dt332 (q : xQt) : (xGm q).dat 332 = d_332 := rfl
theorem cds64 : (parseMethodDescriptor "([J[JI)V").map (fun g => g.parameters.length) = some 3 := by decide +kernel
theorem co332 (q : xQt) : xCal (xGm q) d_332 3 4 := ⟨xGood_ q, wf1902, trivial, wf1071, cpn16, cnm16, (Nat.le_of_ble_eq_true rfl), Nat.le_refl _, cds64⟩
theorem dt333 (q : xQt) : (xGm q).dat 333 = d_333 := rfl
theorem co333 (q : xQt) : xCal (xGm q) d_333 0 1 := ⟨xGood_ q, wf1903, trivial, wf1071, cpn16, cnm16, (Nat.le_of_ble_eq_true rfl), Nat.le_refl _, cds4⟩
theorem dt334 (q : xQt) : (xGm q).dat 334 = d_334 := rfl
theorem cpn17 : plainName "IsingLabLaw" = true := by decide +kernel
theorem cnm17 : "IsingLabLaw" ≠ "java/lang/invoke/MethodHandle" ∧ "IsingLabLaw" ≠ "java/lang/invoke/VarHandle" := ⟨by decide +kernel, by decide +kernel⟩
theorem cds65 : (parseMethodDescriptor "(LIsingLab;I[J)I").map (fun g => g.parameters.length) = some 3 := by decide +kernel
theorem co334 (q : xQt) : xCal (xGm q) d_334 3 4 := ⟨xGood_ q, wf1904, trivial, wf1905, cpn17, cnm17, (Nat.le_of_ble_eq_true rfl), Nat.le_refl _, cds65⟩
theorem dt335 (q : xQt) : (xGm q).dat 335 = d_335 := rfl
theorem cds66 : (parseMethodDescriptor "(LIsingLab;II[J)I").map (fun g => g.parameters.length) = some 4 := by decide +kernel
theorem co335 (q : xQt) : xCal (xGm q) d_335 4 5 := ⟨xGood_ q, wf1906, trivial, wf1905, cpn17, cnm17, (Nat.le_of_ble_eq_true rfl), Nat.le_refl _, cds66⟩
theorem dt336 (q : xQt) : (xGm q).dat 336 = d_336 := rfl
theorem co336 (q : xQt) : xCal (xGm q) d_336 4 5 := ⟨xGood_ q, wf1907, trivial, wf1905, cpn17, cnm17, (Nat.le_of_ble_eq_true rfl), Nat.le_refl _, cds66⟩
theorem dt337 (q : xQt) : (xGm q).dat 337 = d_337 := rfl
theorem co337 (q : xQt) : xCal (xGm q) d_337 4 5 := ⟨xGood_ q, wf1908, trivial, wf1905, cpn17, cnm17, (Nat.le_of_ble_eq_true rfl), Nat.le_refl _, cds66⟩
theorem dt338 (q : xQt) : (xGm q).dat 338 = d_338 := rfl
theorem co338 (q : xQt) : xCal (xGm q) d_338 3 4 := ⟨xGood_ q, wf1909, trivial, wf1905, cpn17, cnm17, (Nat.le_of_ble_eq_true rfl), Nat.le_refl _, cds65⟩
theorem dt339 (q : xQt) : (xGm q).dat 339 = d_339 := rfl
theorem co339 (q : xQt) : xCal (xGm q) d_339 3 4 := ⟨xGood_ q, wf1910, trivial, wf1905, cpn17, cnm17, (Nat.le_of_ble_eq_true rfl), Nat.le_refl _, cds65⟩
theorem dt340 (q : xQt) : (xGm q).dat 340 = d_340 := rfl
theorem co340 (q : xQt) : xCal (xGm q) d_340 3 4 := ⟨xGood_ q, wf1911, trivial, wf1905, cpn17, cnm17, (Nat.le_of_ble_eq_true rfl), Nat.le_refl _, cds65⟩
theorem dt341 (q : xQt) : (xGm q).dat 341 = d_341 := rfl
theorem cds67 : (parseMethodDescriptor "(LIsingLab;J[J)I").map (fun g => g.parameters.length) = some 3 := by decide +kernel
theorem co341 (q : xQt) : xCal (xGm q) d_341 3 5 := ⟨xGood_ q, wf1912, trivial, wf1905, cpn17, cnm17, (Nat.le_of_ble_eq_true rfl), Nat.le_refl _, cds67⟩
theorem dt342 (q : xQt) : (xGm q).dat 342 = d_342 := rfl
theorem co342 (q : xQt) : xCal (xGm q) d_342 3 4 := ⟨xGood_ q, wf1913, trivial, wf1905, cpn17, cnm17, (Nat.le_of_ble_eq_true rfl), Nat.le_refl _, cds65⟩
theorem dt343 (q : xQt) : (xGm q).dat 343 = d_343 := rfl
theorem co343 (q : xQt) : xCal (xGm q) d_343 3 4 := ⟨xGood_ q, wf1914, trivial, wf1905, cpn17, cnm17, (Nat.le_of_ble_eq_true rfl), Nat.le_refl _, cds65⟩
theorem dt344 (q : xQt) : (xGm q).dat 344 = d_344 := rfl
theorem co344 (q : xQt) : xCal (xGm q) d_344 3 4 := ⟨xGood_ q, wf1915, trivial, wf1905, cpn17, cnm17, (Nat.le_of_ble_eq_true rfl), Nat.le_refl _, cds65⟩
theorem dt345 (q : xQt) : (xGm q).dat 345 = d_345 := rfl
theorem co345 (q : xQt) : xCal (xGm q) d_345 3 4 := ⟨xGood_ q, wf1916, trivial, wf1905, cpn17, cnm17, (Nat.le_of_ble_eq_true rfl), Nat.le_refl _, cds65⟩
theorem dt346 (q : xQt) : (xGm q).dat 346 = d_346 := rfl
theorem co346 (q : xQt) : xCal (xGm q) d_346 3 4 := ⟨xGood_ q, wf1917, trivial, wf1905, cpn17, cnm17, (Nat.le_of_ble_eq_true rfl), Nat.le_refl _, cds65⟩
theorem dt347 (q : xQt) : (xGm q).dat 347 = d_347 := rfl
theorem co347 (q : xQt) : xCal (xGm q) d_347 3 4 := ⟨xGood_ q, wf1918, trivial, wf1905, cpn17, cnm17, (Nat.le_of_ble_eq_true rfl), Nat.le_refl _, cds65⟩
theorem dt348 (q : xQt) : (xGm q).dat 348 = d_348 := rfl
theorem co348 (q : xQt) : xCal (xGm q) d_348 3 4 := ⟨xGood_ q, wf1919, trivial, wf1905, cpn17, cnm17, (Nat.le_of_ble_eq_true rfl), Nat.le_refl _, cds65⟩
theorem dt349 (q : xQt) : (xGm q).dat 349 = d_349 := rfl
theorem cds68 : (parseMethodDescriptor "(LIsingLab;[J)I").map (fun g => g.parameters.length) = some 2 := by decide +kernel
theorem co349 (q : xQt) : xCal (xGm q) d_349 2 3 := ⟨xGood_ q, wf1920, trivial, wf1905, cpn17, cnm17, (Nat.le_of_ble_eq_true rfl), Nat.le_refl _, cds68⟩
theorem dt350 (q : xQt) : (xGm q).dat 350 = d_350 := rfl
theorem co350 (q : xQt) : xCal (xGm q) d_350 2 3 := ⟨xGood_ q, wf1921, trivial, wf1905, cpn17, cnm17, (Nat.le_of_ble_eq_true rfl), Nat.le_refl _, cds68⟩
theorem dt351 (q : xQt) : (xGm q).dat 351 = d_351 := rfl
theorem co351 (q : xQt) : xCal (xGm q) d_351 3 4 := ⟨xGood_ q, wf1922, trivial, wf1905, cpn17, cnm17, (Nat.le_of_ble_eq_true rfl), Nat.le_refl _, cds65⟩
theorem dt352 (q : xQt) : (xGm q).dat 352 = d_352 := rfl
theorem cds69 : (parseMethodDescriptor "(LIsingLab;I[D)I").map (fun g => g.parameters.length) = some 3 := by decide +kernel
theorem co352 (q : xQt) : xCal (xGm q) d_352 3 4 := ⟨xGood_ q, wf1923, trivial, wf1905, cpn17, cnm17, (Nat.le_of_ble_eq_true rfl), Nat.le_refl _, cds69⟩
theorem dt353 (q : xQt) : (xGm q).dat 353 = d_353 := rfl
theorem co353 (q : xQt) : xCal (xGm q) d_353 2 3 := ⟨xGood_ q, wf1924, trivial, wf1905, cpn17, cnm17, (Nat.le_of_ble_eq_true rfl), Nat.le_refl _, cds68⟩
theorem dt354 (q : xQt) : (xGm q).dat 354 = d_354 := rfl
theorem co354 (q : xQt) : xCal (xGm q) d_354 4 5 := ⟨xGood_ q, wf1925, trivial, wf1905, cpn17, cnm17, (Nat.le_of_ble_eq_true rfl), Nat.le_refl _, cds66⟩
theorem dt355 (q : xQt) : (xGm q).dat 355 = d_355 := rfl
theorem co355 (q : xQt) : xCal (xGm q) d_355 4 5 := ⟨xGood_ q, wf1926, trivial, wf1905, cpn17, cnm17, (Nat.le_of_ble_eq_true rfl), Nat.le_refl _, cds66⟩
theorem dt356 (q : xQt) : (xGm q).dat 356 = d_356 := rfl
theorem co356 (q : xQt) : xCal (xGm q) d_356 2 3 := ⟨xGood_ q, wf1927, trivial, wf1905, cpn17, cnm17, (Nat.le_of_ble_eq_true rfl), Nat.le_refl _, cds68⟩
theorem dt357 (q : xQt) : (xGm q).dat 357 = d_357 := rfl
theorem co357 (q : xQt) : xCal (xGm q) d_357 2 3 := ⟨xGood_ q, wf1928, trivial, wf1905, cpn17, cnm17, (Nat.le_of_ble_eq_true rfl), Nat.le_refl _, cds68⟩
theorem dt358 (q : xQt) : (xGm q).dat 358 = d_358 := rfl
theorem co358 (q : xQt) : xCal (xGm q) d_358 2 3 := ⟨xGood_ q, wf1929, trivial, wf1905, cpn17, cnm17, (Nat.le_of_ble_eq_true rfl), Nat.le_refl _, cds68⟩
theorem dt359 (q : xQt) : (xGm q).dat 359 = d_359 := rfl
theorem co359 (q : xQt) : xCal (xGm q) d_359 2 3 := ⟨xGood_ q, wf1930, trivial, wf1905, cpn17, cnm17, (Nat.le_of_ble_eq_true rfl), Nat.le_refl _, cds68⟩
theorem dt360 (q : xQt) : (xGm q).dat 360 = d_360 := rfl
theorem cds70 : (parseMethodDescriptor "(LIsingLab;III[D)I").map (fun g => g.parameters.length) = some 5 := by decide +kernel
theorem co360 (q : xQt) : xCal (xGm q) d_360 5 6 := ⟨xGood_ q, wf1931, trivial, wf1905, cpn17, cnm17, (Nat.le_of_ble_eq_true rfl), Nat.le_refl _, cds70⟩
theorem dt361 (q : xQt) : (xGm q).dat 361 = d_361 := rfl
theorem co361 (q : xQt) : xCal (xGm q) d_361 5 6 := ⟨xGood_ q, wf1932, trivial, wf1905, cpn17, cnm17, (Nat.le_of_ble_eq_true rfl), Nat.le_refl _, cds70⟩
theorem dt362 (q : xQt) : (xGm q).dat 362 = d_362 := rfl
theorem cds71 : (parseMethodDescriptor "(LIsingLab;JII[D)I").map (fun g => g.parameters.length) = some 5 := by decide +kernel
theorem co362 (q : xQt) : xCal (xGm q) d_362 5 7 := ⟨xGood_ q, wf1933, trivial, wf1905, cpn17, cnm17, (Nat.le_of_ble_eq_true rfl), Nat.le_refl _, cds71⟩
theorem dt363 (q : xQt) : (xGm q).dat 363 = d_363 := rfl
theorem cds72 : (parseMethodDescriptor "(LIsingLab;IIII[D)I").map (fun g => g.parameters.length) = some 6 := by decide +kernel
theorem co363 (q : xQt) : xCal (xGm q) d_363 6 7 := ⟨xGood_ q, wf1934, trivial, wf1905, cpn17, cnm17, (Nat.le_of_ble_eq_true rfl), Nat.le_refl _, cds72⟩
theorem dt364 (q : xQt) : (xGm q).dat 364 = d_364 := rfl
theorem co364 (q : xQt) : xCal (xGm q) d_364 4 5 := ⟨xGood_ q, wf1935, trivial, wf1905, cpn17, cnm17, (Nat.le_of_ble_eq_true rfl), Nat.le_refl _, cds66⟩
theorem dt365 (q : xQt) : (xGm q).dat 365 = d_365 := rfl
theorem co365 (q : xQt) : xCal (xGm q) d_365 2 3 := ⟨xGood_ q, wf1936, trivial, wf1905, cpn17, cnm17, (Nat.le_of_ble_eq_true rfl), Nat.le_refl _, cds68⟩
theorem dt366 (q : xQt) : (xGm q).dat 366 = d_366 := rfl
theorem co366 (q : xQt) : xCal (xGm q) d_366 3 5 := ⟨xGood_ q, wf1937, trivial, wf1905, cpn17, cnm17, (Nat.le_of_ble_eq_true rfl), Nat.le_refl _, cds67⟩
theorem dt367 (q : xQt) : (xGm q).dat 367 = d_367 := rfl
theorem co367 (q : xQt) : xCal (xGm q) d_367 3 5 := ⟨xGood_ q, wf1938, trivial, wf1905, cpn17, cnm17, (Nat.le_of_ble_eq_true rfl), Nat.le_refl _, cds67⟩
theorem dt368 (q : xQt) : (xGm q).dat 368 = d_368 := rfl
theorem co368 (q : xQt) : xCal (xGm q) d_368 3 4 := ⟨xGood_ q, wf1939, trivial, wf1905, cpn17, cnm17, (Nat.le_of_ble_eq_true rfl), Nat.le_refl _, cds69⟩
theorem dt369 (q : xQt) : (xGm q).dat 369 = d_369 := rfl
theorem co369 (q : xQt) : xCal (xGm q) d_369 3 4 := ⟨xGood_ q, wf1940, trivial, wf1905, cpn17, cnm17, (Nat.le_of_ble_eq_true rfl), Nat.le_refl _, cds65⟩
theorem dt370 (q : xQt) : (xGm q).dat 370 = d_370 := rfl
theorem cds73 : (parseMethodDescriptor "(LIsingLab;JJ[J)I").map (fun g => g.parameters.length) = some 4 := by decide +kernel
theorem co370 (q : xQt) : xCal (xGm q) d_370 4 7 := ⟨xGood_ q, wf1941, trivial, wf1905, cpn17, cnm17, (Nat.le_of_ble_eq_true rfl), Nat.le_refl _, cds73⟩
theorem dt371 (q : xQt) : (xGm q).dat 371 = d_371 := rfl
theorem co371 (q : xQt) : xCal (xGm q) d_371 3 5 := ⟨xGood_ q, wf1942, trivial, wf1905, cpn17, cnm17, (Nat.le_of_ble_eq_true rfl), Nat.le_refl _, cds67⟩
theorem dt372 (q : xQt) : (xGm q).dat 372 = d_372 := rfl
theorem co372 (q : xQt) : xCal (xGm q) d_372 4 5 := ⟨xGood_ q, wf1943, trivial, wf1905, cpn17, cnm17, (Nat.le_of_ble_eq_true rfl), Nat.le_refl _, cds66⟩
theorem dt373 (q : xQt) : (xGm q).dat 373 = d_373 := rfl
theorem co373 (q : xQt) : xCal (xGm q) d_373 4 5 := ⟨xGood_ q, wf1944, trivial, wf1905, cpn17, cnm17, (Nat.le_of_ble_eq_true rfl), Nat.le_refl _, cds66⟩
theorem dt374 (q : xQt) : (xGm q).dat 374 = d_374 := rfl
theorem co374 (q : xQt) : xCal (xGm q) d_374 2 3 := ⟨xGood_ q, wf1945, trivial, wf1905, cpn17, cnm17, (Nat.le_of_ble_eq_true rfl), Nat.le_refl _, cds68⟩
theorem dt375 (q : xQt) : (xGm q).dat 375 = d_375 := rfl
