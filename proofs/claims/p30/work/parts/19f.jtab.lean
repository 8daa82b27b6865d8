def t_J5_init_d00df : List (Nat × Instr × Nat) := [(0, .aload_n 0, 1), (1, .invokespecial 3, 3), (4, .getstatic 18, 3), (7, .ifCond .eq 18, 3), (10, .aload_n 0, 1), (11, .iload_n 1, 1), (12, .newarray .byte, 2), (14, .putfield 15, 3), (17, .aload_n 0, 1), (18, .iconst 0, 1), (19, .putfield 22, 3), (22, .goto 16, 3), (25, .aload_n 0, 1), (26, .iload_n 1, 1), (27, .invokestatic 26, 3), (30, .putfield 15, 3), (33, .aload_n 0, 1), (34, .iconst 1, 1), (35, .putfield 22, 3), (38, .return_, 1)]
set_option maxRecDepth 100000 in
theorem T_J5_init_d00df : ∀ e ∈ t_J5_init_d00df, decode cJ5_init_d00df e.1 = .ok e.2 := by decide +kernel
theorem cd_J5_init_d00df : aj_cd yJ5_init_d00df cJ5_init_d00df 2 none 1 := ⟨(aj_i2 4 rfl rfl), (aj_i1 14 rfl rfl), by decide +kernel⟩
theorem iv_J5_init_d00df : Cond.instanceMethod yJ5_init_d00df ∈ aj_TB := (aj_i2 3 rfl rfl)
theorem ml_RJ5_3 : Cond.methodLink RJ5 3 Lib.objectInit ∈ aj_TB := (aj_i2 5 rfl rfl)
theorem fl_RJ5_15 : aj_FL RJ5 15 1 0 := ⟨by decide, by decide, (aj_i2 15 rfl rfl)⟩
theorem fl_RJ5_22 : aj_FL RJ5 22 1 1 := ⟨by decide, by decide, (aj_i2 16 rfl rfl)⟩
theorem ml_RJ5_26 : Cond.methodLink RJ5 26 yJ2_newBytesFor_77867 ∈ aj_TB := (aj_i2 8 rfl rfl)
def t_J5_append_3fe6f : List (Nat × Instr × Nat) := [(0, .aload_n 0, 1), (1, .aload_n 0, 1), (2, .getfield 79, 3), (5, .iconst 1, 1), (6, .iadd, 1), (7, .invokevirtual 100, 3), (10, .aload_n 0, 1), (11, .invokevirtual 83, 3), (14, .ifCond .eq 31, 3), (17, .iload_n 1, 1), (18, .invokestatic 191, 3), (21, .ifCond .eq 24, 3), (24, .aload_n 0, 1), (25, .getfield 15, 3), (28, .aload_n 0, 1), (29, .dup, 1), (30, .getfield 79, 3), (33, .dup_x1, 1), (34, .iconst 1, 1), (35, .iadd, 1), (36, .putfield 79, 3), (39, .iload_n 1, 1), (40, .i2b, 1), (41, .bastore, 1), (42, .goto 33, 3), (45, .aload_n 0, 1), (46, .invokevirtual 83, 3), (49, .ifCond .eq 7, 3), (52, .aload_n 0, 1), (53, .invokevirtual 195, 3), (56, .aload_n 0, 1), (57, .getfield 15, 3), (60, .aload_n 0, 1), (61, .dup, 1), (62, .getfield 79, 3), (65, .dup_x1, 1), (66, .iconst 1, 1), (67, .iadd, 1), (68, .putfield 79, 3), (71, .iload_n 1, 1), (72, .invokestatic 197, 3), (75, .aload_n 0, 1), (76, .areturn, 1)]
set_option maxRecDepth 100000 in
theorem T_J5_append_3fe6f : ∀ e ∈ t_J5_append_3fe6f, decode cJ5_append_3fe6f e.1 = .ok e.2 := by decide +kernel
theorem cd_J5_append_3fe6f : aj_cd yJ5_append_3fe6f cJ5_append_3fe6f 2 (some (.object "java/lang/AbstractStringBuilder")) 1 := ⟨(aj_i2 35 rfl rfl), (aj_i1 14 rfl rfl), by decide +kernel⟩
theorem fl_RJ5_79 : aj_FL RJ5 79 1 3 := ⟨by decide, by decide, (aj_i2 18 rfl rfl)⟩
theorem ml_RJ5_100 : Cond.methodLink RJ5 100 yJ5_ensureCapacityInternal_d00df ∈ aj_TB := (aj_i2 36 rfl rfl)
theorem ml_RJ5_83 : Cond.methodLink RJ5 83 yJ5_isLatin1_aae02 ∈ aj_TB := (aj_i2 71 rfl rfl)
theorem ml_RJ5_191 : Cond.methodLink RJ5 191 yJ1_canEncode_fc78d ∈ aj_TB := (aj_i2 76 rfl rfl)
theorem ml_RJ5_195 : Cond.methodLink RJ5 195 yJ5_inflate_da8c8 ∈ aj_TB := (aj_i2 79 rfl rfl)
theorem ml_RJ5_197 : Cond.methodLink RJ5 197 yJ2_putCharSB_b72d1 ∈ aj_TB := (aj_i2 112 rfl rfl)
def t_J5_append_c97b9 : List (Nat × Instr × Nat) := [(0, .aload_n 0, 1), (1, .getfield 79, 3), (4, .istore_n 2, 1), (5, .iload_n 2, 1), (6, .iload_n 1, 1), (7, .invokestatic 245, 3), (10, .iadd, 1), (11, .istore_n 3, 1), (12, .aload_n 0, 1), (13, .iload_n 3, 1), (14, .invokevirtual 100, 3), (17, .aload_n 0, 1), (18, .invokevirtual 83, 3), (21, .ifCond .eq 16, 3), (24, .iload_n 1, 1), (25, .iload_n 3, 1), (26, .aload_n 0, 1), (27, .getfield 15, 3), (30, .invokestatic 248, 3), (33, .pop, 1), (34, .goto 14, 3), (37, .iload_n 1, 1), (38, .iload_n 2, 1), (39, .iload_n 3, 1), (40, .aload_n 0, 1), (41, .getfield 15, 3), (44, .invokestatic 251, 3), (47, .pop, 1), (48, .aload_n 0, 1), (49, .iload_n 3, 1), (50, .putfield 79, 3), (53, .aload_n 0, 1), (54, .areturn, 1)]
set_option maxRecDepth 100000 in
theorem T_J5_append_c97b9 : ∀ e ∈ t_J5_append_c97b9, decode cJ5_append_c97b9 e.1 = .ok e.2 := by decide +kernel
theorem cd_J5_append_c97b9 : aj_cd yJ5_append_c97b9 cJ5_append_c97b9 4 (some (.object "java/lang/AbstractStringBuilder")) 1 := ⟨(aj_i2 130 rfl rfl), (aj_i1 14 rfl rfl), by decide +kernel⟩
theorem ml_RJ5_245 : Cond.methodLink RJ5 245 yJ6_stringSize_0f7a4 ∈ aj_TB := (aj_i2 131 rfl rfl)
theorem ml_RJ5_248 : Cond.methodLink RJ5 248 yJ6_getChars_ba4f3 ∈ aj_TB := (aj_i2 134 rfl rfl)
theorem ml_RJ5_251 : Cond.methodLink RJ5 251 yJ2_getChars_46870 ∈ aj_TB := (aj_i2 141 rfl rfl)
def t_J5_append_cf1ce : List (Nat × Instr × Nat) := [(0, .aload_n 1, 1), (1, .ifnonnull 8, 3), (4, .aload_n 0, 1), (5, .invokevirtual 204, 3), (8, .areturn, 1), (9, .aload_n 1, 1), (10, .invokevirtual 32, 3), (13, .istore_n 2, 1), (14, .aload_n 0, 1), (15, .aload_n 0, 1), (16, .getfield 79, 3), (19, .iload_n 2, 1), (20, .iadd, 1), (21, .invokevirtual 100, 3), (24, .aload_n 0, 1), (25, .aload_n 0, 1), (26, .getfield 79, 3), (29, .aload_n 1, 1), (30, .invokevirtual 208, 3), (33, .aload_n 0, 1), (34, .dup, 1), (35, .getfield 79, 3), (38, .iload_n 2, 1), (39, .iadd, 1), (40, .putfield 79, 3), (43, .aload_n 0, 1), (44, .areturn, 1)]
set_option maxRecDepth 100000 in
theorem T_J5_append_cf1ce : ∀ e ∈ t_J5_append_cf1ce, decode cJ5_append_cf1ce e.1 = .ok e.2 := by decide +kernel
theorem cd_J5_append_cf1ce : aj_cd yJ5_append_cf1ce cJ5_append_cf1ce 3 (some (.object "java/lang/AbstractStringBuilder")) 1 := ⟨(aj_i3 4 rfl rfl), (aj_i1 14 rfl rfl), by decide +kernel⟩
theorem ml_RJ5_204 : Cond.methodLink RJ5 204 yJ5_appendNull_278bc ∈ aj_TB := (aj_i3 5 rfl rfl)
theorem ml_RJ5_32 : Cond.methodLink RJ5 32 yJ0_length_8abf5 ∈ aj_TB := (aj_i3 12 rfl rfl)
theorem ml_RJ5_208 : Cond.methodLink RJ5 208 yJ5_putStringAt_47b60 ∈ aj_TB := (aj_i3 21 rfl rfl)
def t_J5_ensureCapacityInternal_d00df : List (Nat × Instr × Nat) := [(0, .aload_n 0, 1), (1, .getfield 15, 3), (4, .arraylength, 1), (5, .aload_n 0, 1), (6, .getfield 22, 3), (9, .ishr, 1), (10, .istore_n 2, 1), (11, .iload_n 1, 1), (12, .iload_n 2, 1), (13, .isub, 1), (14, .ifCond .le 24, 3), (17, .aload_n 0, 1), (18, .aload_n 0, 1), (19, .getfield 15, 3), (22, .aload_n 0, 1), (23, .iload_n 1, 1), (24, .invokevirtual 104, 3), (27, .aload_n 0, 1), (28, .getfield 22, 3), (31, .ishl, 1), (32, .invokestatic 108, 3), (35, .putfield 15, 3), (38, .return_, 1)]
set_option maxRecDepth 100000 in
theorem T_J5_ensureCapacityInternal_d00df : ∀ e ∈ t_J5_ensureCapacityInternal_d00df, decode cJ5_ensureCapacityInternal_d00df e.1 = .ok e.2 := by decide +kernel
theorem cd_J5_ensureCapacityInternal_d00df : aj_cd yJ5_ensureCapacityInternal_d00df cJ5_ensureCapacityInternal_d00df 3 none 1 := ⟨(aj_i2 39 rfl rfl), (aj_i1 14 rfl rfl), by decide +kernel⟩
theorem ml_RJ5_104 : Cond.methodLink RJ5 104 yJ5_newCapacity_0f7a4 ∈ aj_TB := (aj_i2 40 rfl rfl)
theorem ml_RJ5_108 : Cond.methodLink RJ5 108 yJ7_copyOf_9075b ∈ aj_TB := (aj_i2 55 rfl rfl)
def t_J5_getValue_6d5f1 : List (Nat × Instr × Nat) := [(0, .aload_n 0, 1), (1, .getfield 15, 3), (4, .areturn, 1)]
set_option maxRecDepth 100000 in
theorem T_J5_getValue_6d5f1 : ∀ e ∈ t_J5_getValue_6d5f1, decode cJ5_getValue_6d5f1 e.1 = .ok e.2 := by decide +kernel
theorem cd_J5_getValue_6d5f1 : aj_cd yJ5_getValue_6d5f1 cJ5_getValue_6d5f1 1 (some (.array .byte)) 0 := ⟨(aj_i2 175 rfl rfl), (aj_i1 14 rfl rfl), by decide +kernel⟩
def t_J5_inflateIfNeededFor_a7421 : List (Nat × Instr × Nat) := [(0, .getstatic 18, 3), (3, .ifCond .eq 18, 3), (6, .aload_n 0, 1), (7, .getfield 22, 3), (10, .aload_n 1, 1), (11, .invokevirtual 40, 3), (14, .if_icmp .eq 7, 3), (17, .aload_n 0, 1), (18, .invokevirtual 195, 3), (21, .return_, 1)]
set_option maxRecDepth 100000 in
theorem T_J5_inflateIfNeededFor_a7421 : ∀ e ∈ t_J5_inflateIfNeededFor_a7421, decode cJ5_inflateIfNeededFor_a7421 e.1 = .ok e.2 := by decide +kernel
theorem cd_J5_inflateIfNeededFor_a7421 : aj_cd yJ5_inflateIfNeededFor_a7421 cJ5_inflateIfNeededFor_a7421 2 none 1 := ⟨(aj_i3 28 rfl rfl), (aj_i1 14 rfl rfl), by decide +kernel⟩
theorem ml_RJ5_40 : Cond.methodLink RJ5 40 yJ0_coder_7d493 ∈ aj_TB := (aj_i3 29 rfl rfl)
def t_J5_isLatin1_aae02 : List (Nat × Instr × Nat) := [(0, .getstatic 18, 3), (3, .ifCond .eq 14, 3), (6, .aload_n 0, 1), (7, .getfield 22, 3), (10, .ifCond .ne 7, 3), (13, .iconst 1, 1), (14, .goto 4, 3), (17, .iconst 0, 1), (18, .ireturn, 1)]
set_option maxRecDepth 100000 in
theorem T_J5_isLatin1_aae02 : ∀ e ∈ t_J5_isLatin1_aae02, decode cJ5_isLatin1_aae02 e.1 = .ok e.2 := by decide +kernel
theorem cd_J5_isLatin1_aae02 : aj_cd yJ5_isLatin1_aae02 cJ5_isLatin1_aae02 1 (some .boolean) 0 := ⟨(aj_i2 75 rfl rfl), (aj_i1 14 rfl rfl), by decide +kernel⟩
def t_J5_length_8abf5 : List (Nat × Instr × Nat) := [(0, .aload_n 0, 1), (1, .getfield 79, 3), (4, .ireturn, 1)]
set_option maxRecDepth 100000 in
theorem T_J5_length_8abf5 : ∀ e ∈ t_J5_length_8abf5, decode cJ5_length_8abf5 e.1 = .ok e.2 := by decide +kernel
theorem cd_J5_length_8abf5 : aj_cd yJ5_length_8abf5 cJ5_length_8abf5 1 (some .int) 0 := ⟨(aj_i2 183 rfl rfl), (aj_i1 14 rfl rfl), by decide +kernel⟩
def t_J5_newCapacity_0f7a4 : List (Nat × Instr × Nat) := [(0, .aload_n 0, 1), (1, .getfield 15, 3), (4, .arraylength, 1), (5, .istore_n 2, 1), (6, .iload_n 1, 1), (7, .aload_n 0, 1), (8, .getfield 22, 3), (11, .ishl, 1), (12, .istore_n 3, 1), (13, .iload_n 3, 1), (14, .iload_n 2, 1), (15, .isub, 1), (16, .istore 4, 2), (18, .iload_n 2, 1), (19, .iload 4, 2), (21, .iload_n 2, 1), (22, .iconst 2, 1), (23, .aload_n 0, 1), (24, .getfield 22, 3), (27, .ishl, 1), (28, .iadd, 1), (29, .invokestatic 114, 3), (32, .istore 5, 2), (34, .iload 5, 2), (36, .ldc 39, 2), (38, .if_icmp .ne 13, 3), (41, .new 120, 3), (44, .dup, 1), (45, .ldc 122, 2), (47, .invokespecial 124, 3), (50, .athrow, 1), (51, .iload 5, 2), (53, .aload_n 0, 1), (54, .getfield 22, 3), (57, .ishr, 1), (58, .ireturn, 1)]
set_option maxRecDepth 100000 in
theorem T_J5_newCapacity_0f7a4 : ∀ e ∈ t_J5_newCapacity_0f7a4, decode cJ5_newCapacity_0f7a4 e.1 = .ok e.2 := by decide +kernel
theorem cd_J5_newCapacity_0f7a4 : aj_cd yJ5_newCapacity_0f7a4 cJ5_newCapacity_0f7a4 6 (some .int) 1 := ⟨(aj_i2 43 rfl rfl), (aj_i1 14 rfl rfl), by decide +kernel⟩
theorem ml_RJ5_114 : Cond.methodLink RJ5 114 yJ8_newLength_cabcc ∈ aj_TB := (aj_i2 44 rfl rfl)
theorem kc_RJ5_39 : Cond.constant RJ5 39 (2147483647) ∈ aj_TB := (aj_i2 54 rfl rfl)
def t_J5_putStringAt_47b60 : List (Nat × Instr × Nat) := [(0, .aload_n 0, 1), (1, .aload_n 2, 1), (2, .invokevirtual 397, 3), (5, .aload_n 2, 1), (6, .aload_n 0, 1), (7, .getfield 15, 3), (10, .iload_n 1, 1), (11, .aload_n 0, 1), (12, .getfield 22, 3), (15, .invokevirtual 399, 3), (18, .return_, 1)]
set_option maxRecDepth 100000 in
theorem T_J5_putStringAt_47b60 : ∀ e ∈ t_J5_putStringAt_47b60, decode cJ5_putStringAt_47b60 e.1 = .ok e.2 := by decide +kernel
theorem cd_J5_putStringAt_47b60 : aj_cd yJ5_putStringAt_47b60 cJ5_putStringAt_47b60 3 none 2 := ⟨(aj_i3 24 rfl rfl), (aj_i1 14 rfl rfl), by decide +kernel⟩
theorem ml_RJ5_397 : Cond.methodLink RJ5 397 yJ5_inflateIfNeededFor_a7421 ∈ aj_TB := (aj_i3 25 rfl rfl)
theorem ml_RJ5_399 : Cond.methodLink RJ5 399 yJ0_getBytes_840e7 ∈ aj_TB := (aj_i3 30 rfl rfl)
def t_J6_bitCount_0f7a4 : List (Nat × Instr × Nat) := [(0, .iload_n 0, 1), (1, .iload_n 0, 1), (2, .iconst 1, 1), (3, .iushr, 1), (4, .ldc_w 265, 3), (7, .iand, 1), (8, .isub, 1), (9, .istore_n 0, 1), (10, .iload_n 0, 1), (11, .ldc_w 266, 3), (14, .iand, 1), (15, .iload_n 0, 1), (16, .iconst 2, 1), (17, .iushr, 1), (18, .ldc_w 266, 3), (21, .iand, 1), (22, .iadd, 1), (23, .istore_n 0, 1), (24, .iload_n 0, 1), (25, .iload_n 0, 1), (26, .iconst 4, 1), (27, .iushr, 1), (28, .iadd, 1), (29, .ldc_w 267, 3), (32, .iand, 1), (33, .istore_n 0, 1), (34, .iload_n 0, 1), (35, .iload_n 0, 1), (36, .bipush 8, 2), (38, .iushr, 1), (39, .iadd, 1), (40, .istore_n 0, 1), (41, .iload_n 0, 1), (42, .iload_n 0, 1), (43, .bipush 16, 2), (45, .iushr, 1), (46, .iadd, 1), (47, .istore_n 0, 1), (48, .iload_n 0, 1), (49, .bipush 63, 2), (51, .iand, 1), (52, .ireturn, 1)]
set_option maxRecDepth 100000 in
theorem T_J6_bitCount_0f7a4 : ∀ e ∈ t_J6_bitCount_0f7a4, decode cJ6_bitCount_0f7a4 e.1 = .ok e.2 := by decide +kernel
theorem cd_J6_bitCount_0f7a4 : aj_cd yJ6_bitCount_0f7a4 cJ6_bitCount_0f7a4 1 (some .int) 1 := ⟨(aj_i6 146 rfl rfl), (aj_i1 13 rfl rfl), by decide +kernel⟩
theorem sv_J6_bitCount_0f7a4 : Cond.static yJ6_bitCount_0f7a4 ∈ aj_TB := (aj_i6 145 rfl rfl)
theorem kc_RJ6_265 : Cond.constant RJ6 265 (1431655765) ∈ aj_TB := (aj_i6 147 rfl rfl)
theorem kc_RJ6_266 : Cond.constant RJ6 266 (858993459) ∈ aj_TB := (aj_i6 148 rfl rfl)
theorem kc_RJ6_267 : Cond.constant RJ6 267 (252645135) ∈ aj_TB := (aj_i6 149 rfl rfl)
def t_J6_getChars_ba4f3 : List (Nat × Instr × Nat) := [(0, .iload_n 1, 1), (1, .istore 5, 2), (3, .iload_n 0, 1), (4, .ifCond .ge 7, 3), (7, .iconst 1, 1), (8, .goto 4, 3), (11, .iconst 0, 1), (12, .istore 6, 2), (14, .iload 6, 2), (16, .ifCond .ne 6, 3), (19, .iload_n 0, 1), (20, .ineg, 1), (21, .istore_n 0, 1), (22, .iload_n 0, 1), (23, .bipush (-100), 2), (25, .if_icmp .gt 47, 3), (28, .iload_n 0, 1), (29, .bipush 100, 2), (31, .idiv, 1), (32, .istore_n 3, 1), (33, .iload_n 3, 1), (34, .bipush 100, 2), (36, .imul, 1), (37, .iload_n 0, 1), (38, .isub, 1), (39, .istore 4, 2), (41, .iload_n 3, 1), (42, .istore_n 0, 1), (43, .aload_n 2, 1), (44, .iinc 5 (-1), 3), (47, .iload 5, 2), (49, .getstatic 83, 3), (52, .iload 4, 2), (54, .baload, 1), (55, .bastore, 1), (56, .aload_n 2, 1), (57, .iinc 5 (-1), 3), (60, .iload 5, 2), (62, .getstatic 87, 3), (65, .iload 4, 2), (67, .baload, 1), (68, .bastore, 1), (69, .goto (-47), 3), (72, .aload_n 2, 1), (73, .iinc 5 (-1), 3), (76, .iload 5, 2), (78, .getstatic 83, 3), (81, .iload_n 0, 1), (82, .ineg, 1), (83, .baload, 1), (84, .bastore, 1), (85, .iload_n 0, 1), (86, .bipush (-9), 2), (88, .if_icmp .ge 16, 3), (91, .aload_n 2, 1), (92, .iinc 5 (-1), 3), (95, .iload 5, 2), (97, .getstatic 87, 3), (100, .iload_n 0, 1), (101, .ineg, 1), (102, .baload, 1), (103, .bastore, 1), (104, .iload 6, 2), (106, .ifCond .eq 12, 3), (109, .aload_n 2, 1), (110, .iinc 5 (-1), 3), (113, .iload 5, 2), (115, .bipush 45, 2), (117, .bastore, 1), (118, .iload 5, 2), (120, .ireturn, 1)]
set_option maxRecDepth 100000 in
theorem T_J6_getChars_ba4f3 : ∀ e ∈ t_J6_getChars_ba4f3, decode cJ6_getChars_ba4f3 e.1 = .ok e.2 := by decide +kernel
theorem cd_J6_getChars_ba4f3 : aj_cd yJ6_getChars_ba4f3 cJ6_getChars_ba4f3 7 (some .int) 3 := ⟨(aj_i2 136 rfl rfl), (aj_i1 13 rfl rfl), by decide +kernel⟩
theorem sv_J6_getChars_ba4f3 : Cond.static yJ6_getChars_ba4f3 ∈ aj_TB := (aj_i2 135 rfl rfl)
def t_J6_signum_0f7a4 : List (Nat × Instr × Nat) := [(0, .iload_n 0, 1), (1, .bipush 31, 2), (3, .ishr, 1), (4, .iload_n 0, 1), (5, .ineg, 1), (6, .bipush 31, 2), (8, .iushr, 1), (9, .ior, 1), (10, .ireturn, 1)]
set_option maxRecDepth 100000 in
theorem T_J6_signum_0f7a4 : ∀ e ∈ t_J6_signum_0f7a4, decode cJ6_signum_0f7a4 e.1 = .ok e.2 := by decide +kernel
theorem cd_J6_signum_0f7a4 : aj_cd yJ6_signum_0f7a4 cJ6_signum_0f7a4 1 (some .int) 1 := ⟨(aj_i6 76 rfl rfl), (aj_i1 13 rfl rfl), by decide +kernel⟩
theorem sv_J6_signum_0f7a4 : Cond.static yJ6_signum_0f7a4 ∈ aj_TB := (aj_i6 75 rfl rfl)
def t_J6_stringSize_0f7a4 : List (Nat × Instr × Nat) := [(0, .iconst 1, 1), (1, .istore_n 1, 1), (2, .iload_n 0, 1), (3, .ifCond .lt 8, 3), (6, .iconst 0, 1), (7, .istore_n 1, 1), (8, .iload_n 0, 1), (9, .ineg, 1), (10, .istore_n 0, 1), (11, .bipush (-10), 2), (13, .istore_n 2, 1), (14, .iconst 1, 1), (15, .istore_n 3, 1), (16, .iload_n 3, 1), (17, .bipush 10, 2), (19, .if_icmp .ge 23, 3), (22, .iload_n 0, 1), (23, .iload_n 2, 1), (24, .if_icmp .le 7, 3), (27, .iload_n 3, 1), (28, .iload_n 1, 1), (29, .iadd, 1), (30, .ireturn, 1), (31, .bipush 10, 2), (33, .iload_n 2, 1), (34, .imul, 1), (35, .istore_n 2, 1), (36, .iinc 3 1, 3), (39, .goto (-23), 3), (42, .bipush 10, 2), (44, .iload_n 1, 1), (45, .iadd, 1), (46, .ireturn, 1)]
set_option maxRecDepth 100000 in
theorem T_J6_stringSize_0f7a4 : ∀ e ∈ t_J6_stringSize_0f7a4, decode cJ6_stringSize_0f7a4 e.1 = .ok e.2 := by decide +kernel
theorem cd_J6_stringSize_0f7a4 : aj_cd yJ6_stringSize_0f7a4 cJ6_stringSize_0f7a4 4 (some .int) 1 := ⟨(aj_i2 133 rfl rfl), (aj_i1 13 rfl rfl), by decide +kernel⟩
theorem sv_J6_stringSize_0f7a4 : Cond.static yJ6_stringSize_0f7a4 ∈ aj_TB := (aj_i2 132 rfl rfl)
def t_J0_init_db425 : List (Nat × Instr × Nat) := [(0, .aload_n 0, 1), (1, .invokespecial 1, 3), (4, .aload_n 1, 1), (5, .invokevirtual 552, 3), (8, .astore_n 3, 1), (9, .aload_n 1, 1), (10, .invokevirtual 549, 3), (13, .istore 4, 2), (15, .aload_n 1, 1), (16, .invokevirtual 1047, 3), (19, .ifCond .eq 22, 3), (22, .aload_n 0, 1), (23, .iconst 0, 1), (24, .putfield 15, 3), (27, .aload_n 0, 1), (28, .aload_n 3, 1), (29, .iconst 0, 1), (30, .iload 4, 2), (32, .invokestatic 54, 3), (35, .putfield 9, 3), (38, .goto 59, 3), (41, .getstatic 38, 3), (44, .ifCond .eq 35, 3), (47, .aload_n 1, 1), (48, .getfield 1048, 3), (51, .ifCond .eq 28, 3), (54, .aload_n 0, 1), (55, .aload_n 3, 1), (56, .iconst 0, 1), (57, .iload 4, 2), (59, .invokestatic 1051, 3), (62, .putfield 9, 3), (65, .aload_n 0, 1), (66, .aload_n 0, 1), (67, .getfield 9, 3), (70, .iload 4, 2), (72, .invokestatic 47, 3), (75, .putfield 15, 3), (78, .return_, 1), (79, .aload_n 0, 1), (80, .iconst 1, 1), (81, .putfield 15, 3), (84, .aload_n 0, 1), (85, .aload_n 3, 1), (86, .iconst 0, 1), (87, .iload 4, 2), (89, .iconst 1, 1), (90, .ishl, 1), (91, .invokestatic 54, 3), (94, .putfield 9, 3), (97, .return_, 1)]
set_option maxRecDepth 100000 in
theorem T_J0_init_db425 : ∀ e ∈ t_J0_init_db425, decode cJ0_init_db425 e.1 = .ok e.2 := by decide +kernel
theorem cd_J0_init_db425 : aj_cd yJ0_init_db425 cJ0_init_db425 5 none 2 := ⟨(aj_i2 169 rfl rfl), (aj_i1 16 rfl rfl), by decide +kernel⟩
theorem iv_J0_init_db425 : Cond.instanceMethod yJ0_init_db425 ∈ aj_TB := (aj_i2 168 rfl rfl)
theorem ml_RJ0_1 : Cond.methodLink RJ0 1 Lib.objectInit ∈ aj_TB := (aj_i2 170 rfl rfl)
theorem ml_RJ0_552 : Cond.methodLink RJ0 552 yJ5_getValue_6d5f1 ∈ aj_TB := (aj_i2 171 rfl rfl)
theorem ml_RJ0_549 : Cond.methodLink RJ0 549 yJ5_length_8abf5 ∈ aj_TB := (aj_i2 176 rfl rfl)
theorem ml_RJ0_1047 : Cond.methodLink RJ0 1047 yJ5_isLatin1_aae02 ∈ aj_TB := (aj_i2 184 rfl rfl)
theorem fl_RJ0_15 : aj_FL RJ0 15 0 1 := ⟨by decide, by decide, (aj_i3 76 rfl rfl)⟩
theorem ml_RJ0_54 : Cond.methodLink RJ0 54 yJ7_copyOfRange_39247 ∈ aj_TB := (aj_i2 185 rfl rfl)
theorem fl_RJ0_9 : aj_FL RJ0 9 0 0 := ⟨by decide, by decide, (aj_i3 75 rfl rfl)⟩
theorem fl_RJ0_1048 : aj_FL RJ0 1048 1 2 := ⟨by decide, by decide, (aj_i2 17 rfl rfl)⟩
theorem ml_RJ0_1051 : Cond.methodLink RJ0 1051 yJ2_compress_39247 ∈ aj_TB := (aj_i3 62 rfl rfl)
theorem ml_RJ0_47 : Cond.methodLink RJ0 47 yJ2_coderFromArrayLen_85cad ∈ aj_TB := (aj_i3 72 rfl rfl)
def t_J0_init_81219 : List (Nat × Instr × Nat) := [(0, .aload_n 0, 1), (1, .aload_n 1, 1), (2, .aconst_null, 1), (3, .invokespecial 489, 3), (6, .return_, 1)]
set_option maxRecDepth 100000 in
theorem T_J0_init_81219 : ∀ e ∈ t_J0_init_81219, decode cJ0_init_81219 e.1 = .ok e.2 := by decide +kernel
theorem cd_J0_init_81219 : aj_cd yJ0_init_81219 cJ0_init_81219 2 none 1 := ⟨(aj_i2 166 rfl rfl), (aj_i1 16 rfl rfl), by decide +kernel⟩
theorem iv_J0_init_81219 : Cond.instanceMethod yJ0_init_81219 ∈ aj_TB := (aj_i2 165 rfl rfl)
theorem ml_RJ0_489 : Cond.methodLink RJ0 489 yJ0_init_db425 ∈ aj_TB := (aj_i2 167 rfl rfl)
def t_J0_coder_7d493 : List (Nat × Instr × Nat) := [(0, .getstatic 38, 3), (3, .ifCond .eq 10, 3), (6, .aload_n 0, 1), (7, .getfield 15, 3), (10, .goto 4, 3), (13, .iconst 1, 1), (14, .ireturn, 1)]
set_option maxRecDepth 100000 in
theorem T_J0_coder_7d493 : ∀ e ∈ t_J0_coder_7d493, decode cJ0_coder_7d493 e.1 = .ok e.2 := by decide +kernel
theorem cd_J0_coder_7d493 : aj_cd yJ0_coder_7d493 cJ0_coder_7d493 1 (some .byte) 0 := ⟨(aj_i3 19 rfl rfl), (aj_i1 16 rfl rfl), by decide +kernel⟩
theorem cv_J0_coder_7d493 : aj_cv yJ0_coder_7d493 := ⟨(aj_i3 17 rfl rfl), (aj_i3 18 rfl rfl)⟩
def t_J0_getBytes_840e7 : List (Nat × Instr × Nat) := [(0, .aload_n 0, 1), (1, .invokevirtual 335, 3), (4, .iload_n 3, 1), (5, .if_icmp .ne 23, 3), (8, .aload_n 0, 1), (9, .getfield 9, 3), (12, .iconst 0, 1), (13, .aload_n 1, 1), (14, .iload_n 2, 1), (15, .iload_n 3, 1), (16, .ishl, 1), (17, .aload_n 0, 1), (18, .getfield 9, 3), (21, .arraylength, 1), (22, .invokestatic 212, 3), (25, .goto 18, 3), (28, .aload_n 0, 1), (29, .getfield 9, 3), (32, .iconst 0, 1), (33, .aload_n 1, 1), (34, .iload_n 2, 1), (35, .aload_n 0, 1), (36, .getfield 9, 3), (39, .arraylength, 1), (40, .invokestatic 106, 3), (43, .return_, 1)]
set_option maxRecDepth 100000 in
theorem T_J0_getBytes_840e7 : ∀ e ∈ t_J0_getBytes_840e7, decode cJ0_getBytes_840e7 e.1 = .ok e.2 := by decide +kernel
theorem cd_J0_getBytes_840e7 : aj_cd yJ0_getBytes_840e7 cJ0_getBytes_840e7 4 none 3 := ⟨(aj_i3 33 rfl rfl), (aj_i1 16 rfl rfl), by decide +kernel⟩
theorem cv_J0_getBytes_840e7 : aj_cv yJ0_getBytes_840e7 := ⟨(aj_i3 31 rfl rfl), (aj_i3 32 rfl rfl)⟩
theorem ml_RJ0_335 : Cond.methodLink RJ0 335 yJ0_coder_7d493 ∈ aj_TB := (aj_i3 16 rfl rfl)
theorem ml_RJ0_106 : Cond.methodLink RJ0 106 yJ1_inflate_0e8fd ∈ aj_TB := (aj_i3 35 rfl rfl)
def t_J0_length_8abf5 : List (Nat × Instr × Nat) := [(0, .aload_n 0, 1), (1, .getfield 9, 3), (4, .arraylength, 1), (5, .aload_n 0, 1), (6, .invokevirtual 335, 3), (9, .ishr, 1), (10, .ireturn, 1)]
set_option maxRecDepth 100000 in
theorem T_J0_length_8abf5 : ∀ e ∈ t_J0_length_8abf5, decode cJ0_length_8abf5 e.1 = .ok e.2 := by decide +kernel
theorem cd_J0_length_8abf5 : aj_cd yJ0_length_8abf5 cJ0_length_8abf5 1 (some .int) 0 := ⟨(aj_i3 15 rfl rfl), (aj_i1 16 rfl rfl), by decide +kernel⟩
theorem cv_J0_length_8abf5 : aj_cv yJ0_length_8abf5 := ⟨(aj_i3 13 rfl rfl), (aj_i3 14 rfl rfl)⟩
def t_J4_init_da8c8 : List (Nat × Instr × Nat) := [(0, .aload_n 0, 1), (1, .bipush 16, 2), (3, .invokespecial 1, 3), (6, .return_, 1)]
set_option maxRecDepth 100000 in
theorem T_J4_init_da8c8 : ∀ e ∈ t_J4_init_da8c8, decode cJ4_init_da8c8 e.1 = .ok e.2 := by decide +kernel
theorem cd_J4_init_da8c8 : aj_cd yJ4_init_da8c8 cJ4_init_da8c8 1 none 0 := ⟨(aj_i2 1 rfl rfl), (aj_i1 15 rfl rfl), by decide +kernel⟩
theorem iv_J4_init_da8c8 : Cond.instanceMethod yJ4_init_da8c8 ∈ aj_TB := (aj_i2 0 rfl rfl)
theorem ml_RJ4_1 : Cond.methodLink RJ4 1 yJ5_init_d00df ∈ aj_TB := (aj_i2 2 rfl rfl)
def t_J4_append_cf468 : List (Nat × Instr × Nat) := [(0, .aload_n 0, 1), (1, .iload_n 1, 1), (2, .invokespecial 50, 3), (5, .pop, 1), (6, .aload_n 0, 1), (7, .areturn, 1)]
set_option maxRecDepth 100000 in
theorem T_J4_append_cf468 : ∀ e ∈ t_J4_append_cf468, decode cJ4_append_cf468 e.1 = .ok e.2 := by decide +kernel
theorem cd_J4_append_cf468 : aj_cd yJ4_append_cf468 cJ4_append_cf468 2 (some (.object "java/lang/StringBuilder")) 1 := ⟨(aj_i2 32 rfl rfl), (aj_i1 15 rfl rfl), by decide +kernel⟩
theorem cv_J4_append_cf468 : aj_cv yJ4_append_cf468 := ⟨(aj_i2 30 rfl rfl), (aj_i2 31 rfl rfl)⟩
theorem ml_RJ4_50 : Cond.methodLink RJ4 50 yJ5_append_3fe6f ∈ aj_TB := (aj_i2 33 rfl rfl)
def t_J4_append_bf812 : List (Nat × Instr × Nat) := [(0, .aload_n 0, 1), (1, .iload_n 1, 1), (2, .invokespecial 53, 3), (5, .pop, 1), (6, .aload_n 0, 1), (7, .areturn, 1)]
set_option maxRecDepth 100000 in
theorem T_J4_append_bf812 : ∀ e ∈ t_J4_append_bf812, decode cJ4_append_bf812 e.1 = .ok e.2 := by decide +kernel
theorem cd_J4_append_bf812 : aj_cd yJ4_append_bf812 cJ4_append_bf812 2 (some (.object "java/lang/StringBuilder")) 1 := ⟨(aj_i2 127 rfl rfl), (aj_i1 15 rfl rfl), by decide +kernel⟩
theorem cv_J4_append_bf812 : aj_cv yJ4_append_bf812 := ⟨(aj_i2 125 rfl rfl), (aj_i2 126 rfl rfl)⟩
theorem ml_RJ4_53 : Cond.methodLink RJ4 53 yJ5_append_c97b9 ∈ aj_TB := (aj_i2 128 rfl rfl)
def t_J4_append_15ec4 : List (Nat × Instr × Nat) := [(0, .aload_n 0, 1), (1, .aload_n 1, 1), (2, .invokespecial 29, 3), (5, .pop, 1), (6, .aload_n 0, 1), (7, .areturn, 1)]
set_option maxRecDepth 100000 in
theorem T_J4_append_15ec4 : ∀ e ∈ t_J4_append_15ec4, decode cJ4_append_15ec4 e.1 = .ok e.2 := by decide +kernel
theorem cd_J4_append_15ec4 : aj_cd yJ4_append_15ec4 cJ4_append_15ec4 2 (some (.object "java/lang/StringBuilder")) 1 := ⟨(aj_i3 1 rfl rfl), (aj_i1 15 rfl rfl), by decide +kernel⟩
theorem cv_J4_append_15ec4 : aj_cv yJ4_append_15ec4 := ⟨(aj_i2 239 rfl rfl), (aj_i3 0 rfl rfl)⟩
theorem ml_RJ4_29 : Cond.methodLink RJ4 29 yJ5_append_cf1ce ∈ aj_TB := (aj_i3 2 rfl rfl)
def t_J4_toString_0e30d : List (Nat × Instr × Nat) := [(0, .new 18, 3), (3, .dup, 1), (4, .aload_n 0, 1), (5, .invokespecial 137, 3), (8, .areturn, 1)]
set_option maxRecDepth 100000 in
theorem T_J4_toString_0e30d : ∀ e ∈ t_J4_toString_0e30d, decode cJ4_toString_0e30d e.1 = .ok e.2 := by decide +kernel
theorem cd_J4_toString_0e30d : aj_cd yJ4_toString_0e30d cJ4_toString_0e30d 1 (some (.object "java/lang/String")) 0 := ⟨(aj_i2 161 rfl rfl), (aj_i1 15 rfl rfl), by decide +kernel⟩
theorem cv_J4_toString_0e30d : aj_cv yJ4_toString_0e30d := ⟨(aj_i2 159 rfl rfl), (aj_i2 160 rfl rfl)⟩
theorem nw_RJ4_18 : aj_NW RJ4 18 0 := ⟨by decide, (aj_i2 162 rfl rfl), (aj_i2 163 rfl rfl), (aj_i1 16 rfl rfl)⟩
theorem ml_RJ4_137 : Cond.methodLink RJ4 137 yJ0_init_81219 ∈ aj_TB := (aj_i2 164 rfl rfl)
def t_J1_canEncode_fc78d : List (Nat × Instr × Nat) := [(0, .iload_n 0, 1), (1, .sipush 255, 3), (4, .if_icmp .gt 7, 3), (7, .iconst 1, 1), (8, .goto 4, 3), (11, .iconst 0, 1), (12, .ireturn, 1)]
set_option maxRecDepth 100000 in
theorem T_J1_canEncode_fc78d : ∀ e ∈ t_J1_canEncode_fc78d, decode cJ1_canEncode_fc78d e.1 = .ok e.2 := by decide +kernel
theorem cd_J1_canEncode_fc78d : aj_cd yJ1_canEncode_fc78d cJ1_canEncode_fc78d 1 (some .boolean) 1 := ⟨(aj_i2 78 rfl rfl), (aj_i1 21 rfl rfl), by decide +kernel⟩
theorem sv_J1_canEncode_fc78d : Cond.static yJ1_canEncode_fc78d ∈ aj_TB := (aj_i2 77 rfl rfl)
def t_J7_checkLength_df160 : List (Nat × Instr × Nat) := [(0, .iload_n 1, 1), (1, .iload_n 0, 1), (2, .if_icmp .ge 35, 3), (5, .new 43, 3), (8, .dup, 1), (9, .new 45, 3), (12, .dup, 1), (13, .invokespecial 47, 3), (16, .iload_n 0, 1), (17, .invokevirtual 54, 3), (20, .ldc_w 337, 3), (23, .invokevirtual 50, 3), (26, .iload_n 1, 1), (27, .invokevirtual 54, 3), (30, .invokevirtual 61, 3), (33, .invokespecial 65, 3), (36, .athrow, 1), (37, .return_, 1)]
set_option maxRecDepth 100000 in
theorem T_J7_checkLength_df160 : ∀ e ∈ t_J7_checkLength_df160, decode cJ7_checkLength_df160 e.1 = .ok e.2 := by decide +kernel
theorem cd_J7_checkLength_df160 : aj_cd yJ7_checkLength_df160 cJ7_checkLength_df160 2 none 2 := ⟨(aj_i2 193 rfl rfl), (aj_i1 19 rfl rfl), by decide +kernel⟩
theorem sv_J7_checkLength_df160 : Cond.static yJ7_checkLength_df160 ∈ aj_TB := (aj_i2 192 rfl rfl)
theorem nw_RJ7_45 : aj_NW RJ7 45 1 := ⟨by decide, (aj_i2 234 rfl rfl), (aj_i1 238 rfl rfl), (aj_i1 15 rfl rfl)⟩
theorem ml_RJ7_47 : Cond.methodLink RJ7 47 yJ4_init_da8c8 ∈ aj_TB := (aj_i2 235 rfl rfl)
theorem ml_RJ7_54 : Cond.methodLink RJ7 54 yJ4_append_bf812 ∈ aj_TB := (aj_i2 236 rfl rfl)
theorem ml_RJ7_50 : Cond.methodLink RJ7 50 yJ4_append_15ec4 ∈ aj_TB := (aj_i2 238 rfl rfl)
theorem ml_RJ7_61 : Cond.methodLink RJ7 61 yJ4_toString_0e30d ∈ aj_TB := (aj_i3 36 rfl rfl)
def t_J7_copyOf_9075b : List (Nat × Instr × Nat) := [(0, .iload_n 1, 1), (1, .aload_n 0, 1), (2, .arraylength, 1), (3, .if_icmp .ne 11, 3), (6, .aload_n 0, 1), (7, .invokevirtual 310, 3), (10, .checkcast 311, 3), (13, .areturn, 1), (14, .iload_n 1, 1), (15, .newarray .byte, 2), (17, .astore_n 2, 1), (18, .aload_n 0, 1), (19, .iconst 0, 1), (20, .aload_n 2, 1), (21, .iconst 0, 1), (22, .aload_n 0, 1), (23, .arraylength, 1), (24, .iload_n 1, 1), (25, .invokestatic 304, 3), (28, .invokestatic 150, 3), (31, .aload_n 2, 1), (32, .areturn, 1)]
set_option maxRecDepth 100000 in
theorem T_J7_copyOf_9075b : ∀ e ∈ t_J7_copyOf_9075b, decode cJ7_copyOf_9075b e.1 = .ok e.2 := by decide +kernel
theorem cd_J7_copyOf_9075b : aj_cd yJ7_copyOf_9075b cJ7_copyOf_9075b 3 (some (.array .byte)) 2 := ⟨(aj_i2 57 rfl rfl), (aj_i1 19 rfl rfl), by decide +kernel⟩
theorem sv_J7_copyOf_9075b : Cond.static yJ7_copyOf_9075b ∈ aj_TB := (aj_i2 56 rfl rfl)
theorem ml_RJ7_304 : Cond.methodLink RJ7 304 yJ9_min_7cf53 ∈ aj_TB := (aj_i2 65 rfl rfl)
def t_J7_copyOfRange_39247 : List (Nat × Instr × Nat) := [(0, .iload_n 1, 1), (1, .ifCond .ne 9, 3), (4, .iload_n 2, 1), (5, .aload_n 0, 1), (6, .arraylength, 1), (7, .if_icmp .eq 10, 3), (10, .aload_n 0, 1), (11, .iload_n 1, 1), (12, .iload_n 2, 1), (13, .invokestatic 339, 3), (16, .areturn, 1), (17, .aload_n 0, 1), (18, .invokevirtual 310, 3), (21, .checkcast 311, 3), (24, .areturn, 1)]
set_option maxRecDepth 100000 in
theorem T_J7_copyOfRange_39247 : ∀ e ∈ t_J7_copyOfRange_39247, decode cJ7_copyOfRange_39247 e.1 = .ok e.2 := by decide +kernel
theorem cd_J7_copyOfRange_39247 : aj_cd yJ7_copyOfRange_39247 cJ7_copyOfRange_39247 3 (some (.array .byte)) 3 := ⟨(aj_i2 187 rfl rfl), (aj_i1 19 rfl rfl), by decide +kernel⟩
theorem sv_J7_copyOfRange_39247 : Cond.static yJ7_copyOfRange_39247 ∈ aj_TB := (aj_i2 186 rfl rfl)
theorem ml_RJ7_339 : Cond.methodLink RJ7 339 yJ7_copyOfRangeByte_39247 ∈ aj_TB := (aj_i2 188 rfl rfl)
def t_J7_copyOfRangeByte_39247 : List (Nat × Instr × Nat) := [(0, .iload_n 1, 1), (1, .iload_n 2, 1), (2, .invokestatic 343, 3), (5, .iload_n 2, 1), (6, .iload_n 1, 1), (7, .isub, 1), (8, .istore_n 3, 1), (9, .iload_n 3, 1), (10, .newarray .byte, 2), (12, .astore 4, 2), (14, .aload_n 0, 1), (15, .iload_n 1, 1), (16, .aload 4, 2), (18, .iconst 0, 1), (19, .aload_n 0, 1), (20, .arraylength, 1), (21, .iload_n 1, 1), (22, .isub, 1), (23, .iload_n 3, 1), (24, .invokestatic 304, 3), (27, .invokestatic 150, 3), (30, .aload 4, 2), (32, .areturn, 1)]
set_option maxRecDepth 100000 in
theorem T_J7_copyOfRangeByte_39247 : ∀ e ∈ t_J7_copyOfRangeByte_39247, decode cJ7_copyOfRangeByte_39247 e.1 = .ok e.2 := by decide +kernel
theorem cd_J7_copyOfRangeByte_39247 : aj_cd yJ7_copyOfRangeByte_39247 cJ7_copyOfRangeByte_39247 5 (some (.array .byte)) 3 := ⟨(aj_i2 190 rfl rfl), (aj_i1 19 rfl rfl), by decide +kernel⟩
theorem sv_J7_copyOfRangeByte_39247 : Cond.static yJ7_copyOfRangeByte_39247 ∈ aj_TB := (aj_i2 189 rfl rfl)
theorem ml_RJ7_343 : Cond.methodLink RJ7 343 yJ7_checkLength_df160 ∈ aj_TB := (aj_i2 191 rfl rfl)
def t_J8_newLength_cabcc : List (Nat × Instr × Nat) := [(0, .iload_n 0, 1), (1, .iload_n 1, 1), (2, .iload_n 2, 1), (3, .invokestatic 194, 3), (6, .iadd, 1), (7, .istore_n 3, 1), (8, .iconst 0, 1), (9, .iload_n 3, 1), (10, .if_icmp .ge 11, 3), (13, .iload_n 3, 1), (14, .ldc 200, 2), (16, .if_icmp .gt 5, 3), (19, .iload_n 3, 1), (20, .ireturn, 1), (21, .iload_n 0, 1), (22, .iload_n 1, 1), (23, .invokestatic 201, 3), (26, .ireturn, 1)]
set_option maxRecDepth 100000 in
theorem T_J8_newLength_cabcc : ∀ e ∈ t_J8_newLength_cabcc, decode cJ8_newLength_cabcc e.1 = .ok e.2 := by decide +kernel
theorem cd_J8_newLength_cabcc : aj_cd yJ8_newLength_cabcc cJ8_newLength_cabcc 4 (some .int) 3 := ⟨(aj_i2 46 rfl rfl), (aj_i1 18 rfl rfl), by decide +kernel⟩
theorem sv_J8_newLength_cabcc : Cond.static yJ8_newLength_cabcc ∈ aj_TB := (aj_i2 45 rfl rfl)
theorem ml_RJ8_194 : Cond.methodLink RJ8 194 yJ9_max_7cf53 ∈ aj_TB := (aj_i2 47 rfl rfl)
theorem kc_RJ8_200 : Cond.constant RJ8 200 (2147483639) ∈ aj_TB := (aj_i2 50 rfl rfl)
theorem ml_RJ8_201 : Cond.methodLink RJ8 201 yJ8_hugeLength_7cf53 ∈ aj_TB := (aj_i2 51 rfl rfl)
theorem kf_RJ0_9 : Cond.fieldLink RJ0 9 "java/lang/String" "value" "[B" ∈ aj_TB := (aj_i3 75 rfl rfl)
theorem kf_RJ0_15 : Cond.fieldLink RJ0 15 "java/lang/String" "coder" "B" ∈ aj_TB := (aj_i3 76 rfl rfl)
theorem gs_RJ5_18 : Cond.fieldLink RJ5 18 "java/lang/String" "COMPACT_STRINGS" "Z" ∈ aj_TB := (aj_i2 6 rfl rfl)
theorem gs_RJ0_38 : Cond.fieldLink RJ0 38 "java/lang/String" "COMPACT_STRINGS" "Z" ∈ aj_TB := (aj_i3 20 rfl rfl)
theorem gs_RJ6_83 : Cond.fieldLink RJ6 83 "java/lang/Integer" "DigitOnes" "[B" ∈ aj_TB := (aj_i2 137 rfl rfl)
theorem gs_RJ6_87 : Cond.fieldLink RJ6 87 "java/lang/Integer" "DigitTens" "[B" ∈ aj_TB := (aj_i2 139 rfl rfl)
theorem acp_RJ7_150 : aj_ac RJ7 150 := ⟨(aj_i2 68 rfl rfl), (aj_i2 70 rfl rfl), (aj_i2 69 rfl rfl), (aj_i1 20 rfl rfl)⟩
theorem acp_RJ0_212 : aj_ac RJ0 212 := ⟨(aj_i3 34 rfl rfl), (aj_i2 70 rfl rfl), (aj_i2 69 rfl rfl), (aj_i1 20 rfl rfl)⟩
theorem clo_RJ7_310 : aj_clo RJ7 310 := ⟨(aj_i2 58 rfl rfl), (aj_i2 59 rfl rfl), (aj_i2 60 rfl rfl), (aj_i2 61 rfl rfl), (aj_i2 62 rfl rfl)⟩
theorem cl_RJ7_311 : Cond.classLink RJ7 311 "[B" ∈ aj_TB := (aj_i2 64 rfl rfl)
theorem mw_RJ7_304 : aj_mw RJ7 304 Lib.Math.min.name Lib.Math.min.code := ⟨(aj_i2 65 rfl rfl), (aj_i2 66 rfl rfl), (aj_i1 11 rfl rfl), (aj_i2 67 rfl rfl)⟩
theorem mw_RJ8_194 : aj_mw RJ8 194 Lib.Math.max.name Lib.Math.max.code := ⟨(aj_i2 47 rfl rfl), (aj_i2 48 rfl rfl), (aj_i1 11 rfl rfl), (aj_i2 49 rfl rfl)⟩
theorem ac_byte : Cond.arrayClass .byte ∈ aj_TB := (aj_i2 28 rfl rfl)
theorem cu_RJ5_83 : aj_cu RJ5 83 RJ4 RJ5 ⟨RJ5, "isLatin1", "()Z"⟩ yJ5_isLatin1_aae02 := ⟨⟨(aj_i2 71 rfl rfl), (aj_i2 73 rfl rfl), (aj_i2 74 rfl rfl), (aj_i2 72 rfl rfl), (aj_i1 14 rfl rfl)⟩, rfl, by decide, by decide⟩
theorem cu_RJ0_552 : aj_cu RJ0 552 RJ4 RJ5 ⟨RJ5, "getValue", "()[B"⟩ yJ5_getValue_6d5f1 := ⟨⟨(aj_i2 171 rfl rfl), (aj_i2 173 rfl rfl), (aj_i2 174 rfl rfl), (aj_i2 172 rfl rfl), (aj_i1 14 rfl rfl)⟩, rfl, by decide, by decide⟩
theorem cu_RJ0_1047 : aj_cu RJ0 1047 RJ4 RJ5 ⟨RJ5, "isLatin1", "()Z"⟩ yJ5_isLatin1_aae02 := ⟨⟨(aj_i2 184 rfl rfl), (aj_i2 73 rfl rfl), (aj_i2 74 rfl rfl), (aj_i2 72 rfl rfl), (aj_i1 14 rfl rfl)⟩, rfl, by decide, by decide⟩
theorem cu_RJ5_100 : aj_cu RJ5 100 RJ4 RJ5 ⟨RJ5, "ensureCapacityInternal", "(I)V"⟩ yJ5_ensureCapacityInternal_d00df := ⟨⟨(aj_i2 36 rfl rfl), (aj_i7 49 rfl rfl), aj_inx 0 rfl rfl, (aj_i2 38 rfl rfl), (aj_i1 14 rfl rfl)⟩, rfl, by decide, by decide⟩
theorem cu_RJ5_104 : aj_cu RJ5 104 RJ4 RJ5 ⟨RJ5, "newCapacity", "(I)I"⟩ yJ5_newCapacity_0f7a4 := ⟨⟨(aj_i2 40 rfl rfl), (aj_i7 50 rfl rfl), aj_inx 1 rfl rfl, (aj_i2 42 rfl rfl), (aj_i1 14 rfl rfl)⟩, rfl, by decide, by decide⟩
theorem cu_RJ5_208 : aj_cu RJ5 208 RJ4 RJ5 ⟨RJ5, "putStringAt", "(ILjava/lang/String;)V"⟩ yJ5_putStringAt_47b60 := ⟨⟨(aj_i3 21 rfl rfl), (aj_i7 56 rfl rfl), aj_inx 2 rfl rfl, (aj_i3 23 rfl rfl), (aj_i1 14 rfl rfl)⟩, rfl, by decide, by decide⟩
theorem cu_RJ5_397 : aj_cu RJ5 397 RJ4 RJ5 ⟨RJ5, "inflateIfNeededFor", "(Ljava/lang/String;)V"⟩ yJ5_inflateIfNeededFor_a7421 := ⟨⟨(aj_i3 25 rfl rfl), (aj_i7 57 rfl rfl), aj_inx 3 rfl rfl, (aj_i3 27 rfl rfl), (aj_i1 14 rfl rfl)⟩, rfl, by decide, by decide⟩
theorem co_RJ0_549 : aj_co RJ0 549 RJ4 RJ5 ⟨RJ5, "length", "()I"⟩ yJ4_length_8abf5 cJ5_length_8abf5 1 (some .int) := ⟨⟨(aj_i2 176 rfl rfl), (aj_i2 178 rfl rfl), (aj_i2 177 rfl rfl), (aj_i2 179 rfl rfl), (aj_i2 180 rfl rfl), (aj_i1 15 rfl rfl)⟩, (aj_i2 183 rfl rfl), by decide, by decide⟩
def t_J4_length_8abf5 : List (Nat × Instr × Nat) := [(0, .aload_n 0, 1), (1, .invokespecial 343, 3), (4, .ireturn, 1)]
theorem T_J4_length_8abf5 : ∀ e ∈ t_J4_length_8abf5, decode cJ4_length_8abf5 e.1 = .ok e.2 := by decide +kernel
theorem cd_J4_length_8abf5 : aj_cd yJ4_length_8abf5 cJ4_length_8abf5 1 (some .int) 0 := ⟨(aj_i2 181 rfl rfl), (aj_i1 15 rfl rfl), by decide +kernel⟩
theorem su_RJ4_50 : aj_su RJ4 50 yJ5_append_3fe6f := ⟨⟨(aj_i2 33 rfl rfl), (aj_i7 48 rfl rfl), (aj_i2 27 rfl rfl), (aj_i2 34 rfl rfl), (aj_i1 14 rfl rfl)⟩, by decide⟩
theorem su_RJ4_53 : aj_su RJ4 53 yJ5_append_c97b9 := ⟨⟨(aj_i2 128 rfl rfl), (aj_i7 52 rfl rfl), (aj_i2 27 rfl rfl), (aj_i2 129 rfl rfl), (aj_i1 14 rfl rfl)⟩, by decide⟩
theorem su_RJ4_29 : aj_su RJ4 29 yJ5_append_cf1ce := ⟨⟨(aj_i3 2 rfl rfl), (aj_i7 54 rfl rfl), (aj_i2 27 rfl rfl), (aj_i3 3 rfl rfl), (aj_i1 14 rfl rfl)⟩, by decide⟩
theorem su_RJ4_343 : aj_su RJ4 343 yJ5_length_8abf5 := ⟨⟨(aj_i2 182 rfl rfl), (aj_i2 178 rfl rfl), (aj_i2 27 rfl rfl), (aj_i2 177 rfl rfl), (aj_i1 14 rfl rfl)⟩, by decide⟩
