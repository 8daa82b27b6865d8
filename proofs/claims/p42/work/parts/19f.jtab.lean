def t_J6_bitCount_0f7a4 : List (Nat × Instr × Nat) := [(0, .iload_n 0, 1), (1, .iload_n 0, 1), (2, .iconst 1, 1), (3, .iushr, 1), (4, .ldc_w 265, 3), (7, .iand, 1), (8, .isub, 1), (9, .istore_n 0, 1), (10, .iload_n 0, 1), (11, .ldc_w 266, 3), (14, .iand, 1), (15, .iload_n 0, 1), (16, .iconst 2, 1), (17, .iushr, 1), (18, .ldc_w 266, 3), (21, .iand, 1), (22, .iadd, 1), (23, .istore_n 0, 1), (24, .iload_n 0, 1), (25, .iload_n 0, 1), (26, .iconst 4, 1), (27, .iushr, 1), (28, .iadd, 1), (29, .ldc_w 267, 3), (32, .iand, 1), (33, .istore_n 0, 1), (34, .iload_n 0, 1), (35, .iload_n 0, 1), (36, .bipush 8, 2), (38, .iushr, 1), (39, .iadd, 1), (40, .istore_n 0, 1), (41, .iload_n 0, 1), (42, .iload_n 0, 1), (43, .bipush 16, 2), (45, .iushr, 1), (46, .iadd, 1), (47, .istore_n 0, 1), (48, .iload_n 0, 1), (49, .bipush 63, 2), (51, .iand, 1), (52, .ireturn, 1)]
set_option maxRecDepth 100000 in
theorem T_J6_bitCount_0f7a4 : ∀ e ∈ t_J6_bitCount_0f7a4, decode cJ6_bitCount_0f7a4 e.1 = .ok e.2 := by decide +kernel
theorem cd_J6_bitCount_0f7a4 : aj_cd yJ6_bitCount_0f7a4 cJ6_bitCount_0f7a4 1 (some .int) 1 := ⟨(aj_in 1399 (by decide +kernel) rfl), (aj_in 70 (by decide +kernel) rfl), by decide +kernel⟩
theorem sv_J6_bitCount_0f7a4 : Cond.static yJ6_bitCount_0f7a4 ∈ aj_TB := (aj_in 1398 (by decide +kernel) rfl)
theorem kc_RJ6_265 : Cond.constant RJ6 265 (1431655765) ∈ aj_TB := (aj_in 1400 (by decide +kernel) rfl)
theorem kc_RJ6_266 : Cond.constant RJ6 266 (858993459) ∈ aj_TB := (aj_in 1401 (by decide +kernel) rfl)
theorem kc_RJ6_267 : Cond.constant RJ6 267 (252645135) ∈ aj_TB := (aj_in 1402 (by decide +kernel) rfl)
def t_J6_signum_0f7a4 : List (Nat × Instr × Nat) := [(0, .iload_n 0, 1), (1, .bipush 31, 2), (3, .ishr, 1), (4, .iload_n 0, 1), (5, .ineg, 1), (6, .bipush 31, 2), (8, .iushr, 1), (9, .ior, 1), (10, .ireturn, 1)]
set_option maxRecDepth 100000 in
theorem T_J6_signum_0f7a4 : ∀ e ∈ t_J6_signum_0f7a4, decode cJ6_signum_0f7a4 e.1 = .ok e.2 := by decide +kernel
theorem cd_J6_signum_0f7a4 : aj_cd yJ6_signum_0f7a4 cJ6_signum_0f7a4 1 (some .int) 1 := ⟨(aj_in 1329 (by decide +kernel) rfl), (aj_in 70 (by decide +kernel) rfl), by decide +kernel⟩
theorem sv_J6_signum_0f7a4 : Cond.static yJ6_signum_0f7a4 ∈ aj_TB := (aj_in 1328 (by decide +kernel) rfl)
