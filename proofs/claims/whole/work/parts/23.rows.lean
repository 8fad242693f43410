/-! printed by wip/whole/gen.py: each operation is what its instruction does -/
section JT
variable {D : va_G} {c0 c1 c2 c3 c4 : ClassId} {H0 : Heap} {ga : Nat → Nat} {L : Nat} {xs : Nat → Int32}
def dl_21 : List (Nat × Instr × Nat) := [(0, .aload_n 1, 1), (1, .getfield 18, 3), (4, .aload_n 2, 1), (5, .getfield 18, 3), (8, .if_icmp .gt 33, 3), (11, .aload_n 0, 1), (12, .aload_n 1, 1), (13, .aload_n 2, 1), (14, .sipush 1792, 3), (17, .invokevirtual 27, 3), (20, .ifCond .eq 21, 3), (23, .aload_n 0, 1), (24, .aload_n 1, 1), (25, .aload_n 2, 1), (26, .iconst 0, 1), (27, .aload_n 2, 1), (28, .invokestatic 31, 3), (31, .invokevirtual 35, 3), (34, .ifCond .eq 7, 3), (37, .iconst 1, 1), (38, .goto 4, 3), (41, .iconst 0, 1), (42, .ireturn, 1)]
theorem dd_21 : ∀ q ∈ dl_21, decode prog_5_method_3_code q.1 = .ok q.2 := by decide +kernel
theorem A_21_0 : jx_All (jx_mk D c0 c1 c2 c3 c4 H0 ga L xs) jx_mt md_21 K_21_0 := by
  refine jx_ac (s_aload_n (jx_dc dd_21 0 rfl) rfl) ?_
  refine jx_ac (s_getfN kk_0 (k := 3) (Nat.le_of_ble_eq_true rfl) (jx_dc dd_21 1 rfl) w_134) ?_
  refine jx_ac (s_aload_n (jx_dc dd_21 2 rfl) rfl) ?_
  refine jx_ac (s_getfN kk_0 (k := 3) (Nat.le_of_ble_eq_true rfl) (jx_dc dd_21 3 rfl) w_134) ?_
  refine jx_ac (s_igt (jx_dc dd_21 4 rfl) rfl) ?_
  refine jx_ac (s_aload_n (jx_dc dd_21 5 rfl) rfl) ?_
  refine jx_ac (s_aload_n (jx_dc dd_21 6 rfl) rfl) ?_
  refine jx_ac (s_aload_n (jx_dc dd_21 7 rfl) rfl) ?_
  refine jx_ac (s_sipush (jx_dc dd_21 8 rfl) rfl) ?_
  refine jx_ac (s_callv (ce := 16) kk_2 mc_16 (jx_dc dd_21 9 rfl) w_136 w_137 w_138 ⟨by decide, by decide⟩ np_16) ?_
  refine jx_ac (s_ifeq (jx_dc dd_21 10 rfl) rfl) ?_
  refine jx_ac (s_aload_n (jx_dc dd_21 11 rfl) rfl) ?_
  refine jx_ac (s_aload_n (jx_dc dd_21 12 rfl) rfl) ?_
  refine jx_ac (s_aload_n (jx_dc dd_21 13 rfl) rfl) ?_
  refine jx_ac (s_iconst (jx_dc dd_21 14 rfl) rfl) ?_
  refine jx_ac (s_aload_n (jx_dc dd_21 15 rfl) rfl) ?_
  refine jx_ac (s_calls (ce := 19) mc_19 (jx_dc dd_21 16 rfl) w_139 w_140 w_141 ⟨by decide, by decide⟩ np_19) ?_
  refine jx_ac (s_callv (ce := 20) kk_2 mc_20 (jx_dc dd_21 17 rfl) w_142 w_143 w_144 ⟨by decide, by decide⟩ np_20) ?_
  refine jx_ac (s_ifeq (jx_dc dd_21 18 rfl) rfl) ?_
  refine jx_ac (s_iconst (jx_dc dd_21 19 rfl) rfl) ?_
  refine jx_ac (s_goto (jx_dc dd_21 20 rfl) rfl) ?_
  refine jx_ac (s_iconst (jx_dc dd_21 21 rfl) rfl) ?_
  refine jx_ac (s_zret rfl (jx_dc dd_21 22 rfl)) ?_
  exact jx_an
theorem A_21 : jx_All (jx_mk D c0 c1 c2 c3 c4 H0 ga L xs) jx_mt md_21 K_21 :=  A_21_0
def dl_22 : List (Nat × Instr × Nat) := [(0, .aload_n 0, 1), (1, .invokespecial 3, 3), (4, .aload_n 0, 1), (5, .bipush 40, 2), (7, .newarray .char, 2), (9, .putfield 9, 3), (12, .aload_n 0, 1), (13, .bipush 40, 2), (15, .newarray .int, 2), (17, .putfield 15, 3), (20, .aload_n 0, 1), (21, .bipush 40, 2), (23, .newarray .int, 2), (25, .putfield 19, 3), (28, .aload_n 0, 1), (29, .bipush 40, 2), (31, .newarray .int, 2), (33, .putfield 22, 3), (36, .aload_n 0, 1), (37, .bipush 40, 2), (39, .newarray .int, 2), (41, .putfield 25, 3), (44, .aload_n 0, 1), (45, .bipush 40, 2), (47, .newarray .int, 2), (49, .putfield 28, 3), (52, .aload_n 0, 1), (53, .bipush 10, 2), (55, .newarray .int, 2), (57, .putfield 31, 3), (60, .aload_n 0, 1), (61, .bipush 10, 2), (63, .newarray .int, 2), (65, .putfield 34, 3), (68, .aload_n 0, 1), (69, .bipush 40, 2), (71, .newarray .int, 2), (73, .putfield 37, 3), (76, .return_, 1)]
theorem dd_22 : ∀ q ∈ dl_22, decode prog_6_method_1_code q.1 = .ok q.2 := by decide +kernel
theorem A_22_0 : jx_All (jx_mk D c0 c1 c2 c3 c4 H0 ga L xs) jx_mt md_22 K_22_0 := by
  refine jx_ac (s_aload_n (jx_dc dd_22 0 rfl) rfl) ?_
  refine jx_ac (s_oinit (jx_dc dd_22 1 rfl) w_162 w_93 w_94) ?_
  refine jx_ac (s_aload_n (jx_dc dd_22 2 rfl) rfl) ?_
  refine jx_ac (s_bipush (jx_dc dd_22 3 rfl) rfl) ?_
  refine jx_ac (s_newa (t := 1) (z := jx_zi) rfl rfl (Nat.le_of_ble_eq_true rfl) (jx_dc dd_22 4 rfl) w_163 (fun _ _ => rfl) (fun _ => rfl) (by decide) (fun _ _ h => h)) ?_
  refine jx_ac (s_putfF kk_3 (k := 0) (Nat.le_of_ble_eq_true rfl) (jx_dc dd_22 5 rfl) (fun _ h => jx_okA_n _ _ h) rfl rfl rfl w_164) ?_
  refine jx_ac (s_aload_n (jx_dc dd_22 6 rfl) rfl) ?_
  refine jx_ac (s_bipush (jx_dc dd_22 7 rfl) rfl) ?_
  refine jx_ac (s_newa (t := 0) (z := jx_zi) rfl rfl (Nat.le_of_ble_eq_true rfl) (jx_dc dd_22 8 rfl) w_95 (fun _ _ => rfl) (fun _ => rfl) (by decide) (fun _ _ h => h)) ?_
  refine jx_ac (s_putfF kk_3 (k := 4) (Nat.le_of_ble_eq_true rfl) (jx_dc dd_22 9 rfl) (fun _ h => jx_okA_n _ _ h) rfl rfl rfl w_165) ?_
  refine jx_ac (s_aload_n (jx_dc dd_22 10 rfl) rfl) ?_
  refine jx_ac (s_bipush (jx_dc dd_22 11 rfl) rfl) ?_
  refine jx_ac (s_newa (t := 0) (z := jx_zi) rfl rfl (Nat.le_of_ble_eq_true rfl) (jx_dc dd_22 12 rfl) w_95 (fun _ _ => rfl) (fun _ => rfl) (by decide) (fun _ _ h => h)) ?_
  refine jx_ac (s_putfF kk_3 (k := 5) (Nat.le_of_ble_eq_true rfl) (jx_dc dd_22 13 rfl) (fun _ h => jx_okA_n _ _ h) rfl rfl rfl w_166) ?_
  refine jx_ac (s_aload_n (jx_dc dd_22 14 rfl) rfl) ?_
  refine jx_ac (s_bipush (jx_dc dd_22 15 rfl) rfl) ?_
  refine jx_ac (s_newa (t := 0) (z := jx_zi) rfl rfl (Nat.le_of_ble_eq_true rfl) (jx_dc dd_22 16 rfl) w_95 (fun _ _ => rfl) (fun _ => rfl) (by decide) (fun _ _ h => h)) ?_
  refine jx_ac (s_putfF kk_3 (k := 7) (Nat.le_of_ble_eq_true rfl) (jx_dc dd_22 17 rfl) (fun _ h => jx_okA_n _ _ h) rfl rfl rfl w_167) ?_
  refine jx_ac (s_aload_n (jx_dc dd_22 18 rfl) rfl) ?_
  refine jx_ac (s_bipush (jx_dc dd_22 19 rfl) rfl) ?_
  refine jx_ac (s_newa (t := 0) (z := jx_zi) rfl rfl (Nat.le_of_ble_eq_true rfl) (jx_dc dd_22 20 rfl) w_95 (fun _ _ => rfl) (fun _ => rfl) (by decide) (fun _ _ h => h)) ?_
  refine jx_ac (s_putfF kk_3 (k := 8) (Nat.le_of_ble_eq_true rfl) (jx_dc dd_22 21 rfl) (fun _ h => jx_okA_n _ _ h) rfl rfl rfl w_168) ?_
  refine jx_ac (s_aload_n (jx_dc dd_22 22 rfl) rfl) ?_
  refine jx_ac (s_bipush (jx_dc dd_22 23 rfl) rfl) ?_
  refine jx_ac (s_newa (t := 0) (z := jx_zi) rfl rfl (Nat.le_of_ble_eq_true rfl) (jx_dc dd_22 24 rfl) w_95 (fun _ _ => rfl) (fun _ => rfl) (by decide) (fun _ _ h => h)) ?_
  refine jx_ac (s_putfF kk_3 (k := 9) (Nat.le_of_ble_eq_true rfl) (jx_dc dd_22 25 rfl) (fun _ h => jx_okA_n _ _ h) rfl rfl rfl w_169) ?_
  refine jx_ac (s_aload_n (jx_dc dd_22 26 rfl) rfl) ?_
  refine jx_ac (s_bipush (jx_dc dd_22 27 rfl) rfl) ?_
  refine jx_ac (s_newa (t := 0) (z := jx_zi) rfl rfl (Nat.le_of_ble_eq_true rfl) (jx_dc dd_22 28 rfl) w_95 (fun _ _ => rfl) (fun _ => rfl) (by decide) (fun _ _ h => h)) ?_
  refine jx_ac (s_putfF kk_3 (k := 11) (Nat.le_of_ble_eq_true rfl) (jx_dc dd_22 29 rfl) (fun _ h => jx_okA_n _ _ h) rfl rfl rfl w_170) ?_
  refine jx_ac (s_aload_n (jx_dc dd_22 30 rfl) rfl) ?_
  refine jx_ac (s_bipush (jx_dc dd_22 31 rfl) rfl) ?_
  refine jx_ac (s_newa (t := 0) (z := jx_zi) rfl rfl (Nat.le_of_ble_eq_true rfl) (jx_dc dd_22 32 rfl) w_95 (fun _ _ => rfl) (fun _ => rfl) (by decide) (fun _ _ h => h)) ?_
  refine jx_ac (s_putfF kk_3 (k := 12) (Nat.le_of_ble_eq_true rfl) (jx_dc dd_22 33 rfl) (fun _ h => jx_okA_n _ _ h) rfl rfl rfl w_171) ?_
  refine jx_ac (s_aload_n (jx_dc dd_22 34 rfl) rfl) ?_
  refine jx_ac (s_bipush (jx_dc dd_22 35 rfl) rfl) ?_
  refine jx_ac (s_newa (t := 0) (z := jx_zi) rfl rfl (Nat.le_of_ble_eq_true rfl) (jx_dc dd_22 36 rfl) w_95 (fun _ _ => rfl) (fun _ => rfl) (by decide) (fun _ _ h => h)) ?_
  refine jx_ac (s_putfF kk_3 (k := 13) (Nat.le_of_ble_eq_true rfl) (jx_dc dd_22 37 rfl) (fun _ h => jx_okA_n _ _ h) rfl rfl rfl w_172) ?_
  refine jx_ac (s_ret rfl (jx_dc dd_22 38 rfl)) ?_
  exact jx_an
theorem A_22 : jx_All (jx_mk D c0 c1 c2 c3 c4 H0 ga L xs) jx_mt md_22 K_22 :=  A_22_0
def dl_23 : List (Nat × Instr × Nat) := [(0, .aload_n 0, 1), (1, .iload_n 2, 1), (2, .bipush 40, 2), (4, .invokestatic 40, 3), (7, .putfield 46, 3), (10, .aload_n 1, 1), (11, .iconst 0, 1), (12, .aload_n 0, 1), (13, .getfield 9, 3), (16, .iconst 0, 1), (17, .aload_n 0, 1), (18, .getfield 46, 3), (21, .invokestatic 50, 3), (24, .aload_n 0, 1), (25, .iload_n 3, 1), (26, .putfield 56, 3), (29, .aload_n 0, 1), (30, .iconst 0, 1), (31, .putfield 60, 3), (34, .aload_n 0, 1), (35, .iconst 0, 1), (36, .putfield 63, 3), (39, .aload_n 0, 1), (40, .iconst 0, 1), (41, .putfield 66, 3), (44, .aload_n 0, 1), (45, .iconst 0, 1), (46, .putfield 69, 3), (49, .aload_n 0, 1), (50, .getfield 31, 3), (53, .iconst (-1), 1), (54, .invokestatic 72, 3), (57, .return_, 1)]
theorem dd_23 : ∀ q ∈ dl_23, decode prog_6_method_2_code q.1 = .ok q.2 := by decide +kernel
theorem A_23_0 : jx_All (jx_mk D c0 c1 c2 c3 c4 H0 ga L xs) jx_mt md_23 K_23_0 := by
  refine jx_ac (s_aload_n (jx_dc dd_23 0 rfl) rfl) ?_
  refine jx_ac (s_iload_n (jx_dc dd_23 1 rfl) rfl) ?_
  refine jx_ac (s_bipush (jx_dc dd_23 2 rfl) rfl) ?_
  refine jx_ac (s_calls (ce := 121) mc_121 (jx_dc dd_23 3 rfl) w_173 w_174 w_175 ⟨by decide, by decide⟩ np_121) ?_
  refine jx_ac (s_putf kk_3 (k := 1) (Nat.le_of_ble_eq_true rfl) (jx_dc dd_23 4 rfl) (fun _ h => jx_okI_n _ h) rfl w_176) ?_
  refine jx_ac (s_aload_n (jx_dc dd_23 5 rfl) rfl) ?_
  refine jx_ac (s_iconst (jx_dc dd_23 6 rfl) rfl) ?_
  refine jx_ac (s_aload_n (jx_dc dd_23 7 rfl) rfl) ?_
  refine jx_ac (s_getf kk_3 (k := 0) (Nat.le_of_ble_eq_true rfl) (jx_dc dd_23 8 rfl) w_164) ?_
  refine jx_ac (s_iconst (jx_dc dd_23 9 rfl) rfl) ?_
  refine jx_ac (s_aload_n (jx_dc dd_23 10 rfl) rfl) ?_
  refine jx_ac (s_getf kk_3 (k := 1) (Nat.le_of_ble_eq_true rfl) (jx_dc dd_23 11 rfl) w_176) ?_
  refine jx_ac (s_copy rfl rfl (jx_dc dd_23 12 rfl) w_177 w_100 w_101 w_102) ?_
  refine jx_ac (s_aload_n (jx_dc dd_23 13 rfl) rfl) ?_
  refine jx_ac (s_iload_n (jx_dc dd_23 14 rfl) rfl) ?_
  refine jx_ac (s_putf kk_3 (k := 3) (Nat.le_of_ble_eq_true rfl) (jx_dc dd_23 15 rfl) (fun _ h => jx_okZ_n _ h) rfl w_178) ?_
  refine jx_ac (s_aload_n (jx_dc dd_23 16 rfl) rfl) ?_
  refine jx_ac (s_iconst (jx_dc dd_23 17 rfl) rfl) ?_
  refine jx_ac (s_putf kk_3 (k := 2) (Nat.le_of_ble_eq_true rfl) (jx_dc dd_23 18 rfl) (fun _ h => jx_okI_n _ h) rfl w_179) ?_
  refine jx_ac (s_aload_n (jx_dc dd_23 19 rfl) rfl) ?_
  refine jx_ac (s_iconst (jx_dc dd_23 20 rfl) rfl) ?_
  refine jx_ac (s_putf kk_3 (k := 6) (Nat.le_of_ble_eq_true rfl) (jx_dc dd_23 21 rfl) (fun _ h => jx_okI_n _ h) rfl w_180) ?_
  refine jx_ac (s_aload_n (jx_dc dd_23 22 rfl) rfl) ?_
  refine jx_ac (s_iconst (jx_dc dd_23 23 rfl) rfl) ?_
  refine jx_ac (s_putf kk_3 (k := 10) (Nat.le_of_ble_eq_true rfl) (jx_dc dd_23 24 rfl) (fun _ h => jx_okI_n _ h) rfl w_181) ?_
  refine jx_ac (s_aload_n (jx_dc dd_23 25 rfl) rfl) ?_
  refine jx_ac (s_iconst (jx_dc dd_23 26 rfl) rfl) ?_
  refine jx_ac (s_putf kk_3 (k := 14) (Nat.le_of_ble_eq_true rfl) (jx_dc dd_23 27 rfl) (fun _ h => jx_okI_n _ h) rfl w_182) ?_
  refine jx_ac (s_aload_n (jx_dc dd_23 28 rfl) rfl) ?_
  refine jx_ac (s_getf kk_3 (k := 11) (Nat.le_of_ble_eq_true rfl) (jx_dc dd_23 29 rfl) w_170) ?_
  refine jx_ac (s_iconst (jx_dc dd_23 30 rfl) rfl) ?_
  refine jx_ac (s_calls (ce := 123) mc_123 (jx_dc dd_23 31 rfl) w_183 w_106 w_107 ⟨by decide, by decide⟩ np_123) ?_
  refine jx_ac (s_ret rfl (jx_dc dd_23 32 rfl)) ?_
  exact jx_an
theorem A_23 : jx_All (jx_mk D c0 c1 c2 c3 c4 H0 ga L xs) jx_mt md_23 K_23 :=  A_23_0
def dl_24 : List (Nat × Instr × Nat) := [(0, .iconst (-1), 1), (1, .istore_n 1, 1), (2, .iconst 0, 1), (3, .istore_n 2, 1), (4, .iload_n 2, 1), (5, .bipush 40, 2), (7, .if_icmp .ge 118, 3), (10, .iload_n 1, 1), (11, .iconst (-1), 1), (12, .if_icmp .ne 7, 3), (15, .iconst 0, 1), (16, .goto 7, 3), (19, .aload_n 0, 1), (20, .invokevirtual 91, 3), (23, .istore_n 3, 1), (24, .aload_n 0, 1), (25, .invokevirtual 95, 3), (28, .ifCond .eq 12, 3), (31, .aload_n 0, 1), (32, .getfield 63, 3), (35, .iconst 1, 1), (36, .isub, 1), (37, .goto 4, 3), (40, .iconst (-1), 1), (41, .istore 4, 2), (43, .iload 4, 2), (45, .iconst (-1), 1), (46, .if_icmp .eq 28, 3), (49, .iload_n 1, 1), (50, .iconst (-1), 1), (51, .if_icmp .eq 14, 3), (54, .aload_n 0, 1), (55, .iload_n 1, 1), (56, .iload 4, 2), (58, .iload_n 3, 1), (59, .invokevirtual 99, 3), (62, .ifCond .eq 12, 3), (65, .aload_n 0, 1), (66, .iload 4, 2), (68, .invokevirtual 103, 3), (71, .ifCond .ne 5, 3), (74, .iconst 0, 1), (75, .ireturn, 1), (76, .aload_n 0, 1), (77, .iload 4, 2), (79, .invokevirtual 107, 3), (82, .istore_n 1, 1), (83, .iload_n 1, 1), (84, .iconst (-1), 1), (85, .if_icmp .ne 5, 3), (88, .iconst 0, 1), (89, .ireturn, 1), (90, .aload_n 0, 1), (91, .getfield 60, 3), (94, .aload_n 0, 1), (95, .getfield 46, 3), (98, .if_icmp .lt 16, 3), (101, .aload_n 0, 1), (102, .getfield 69, 3), (105, .ifCond .ne 7, 3), (108, .iconst 1, 1), (109, .goto 4, 3), (112, .iconst 0, 1), (113, .ireturn, 1), (114, .aload_n 0, 1), (115, .iload_n 1, 1), (116, .invokevirtual 111, 3), (119, .iinc 2 1, 3), (122, .goto (-118), 3), (125, .iconst 0, 1), (126, .ireturn, 1)]
theorem dd_24 : ∀ q ∈ dl_24, decode prog_6_method_4_code q.1 = .ok q.2 := by decide +kernel
theorem A_24_0 : jx_All (jx_mk D c0 c1 c2 c3 c4 H0 ga L xs) jx_mt md_24 K_24_0 := by
  refine jx_ac (s_iconst (jx_dc dd_24 0 rfl) rfl) ?_
  refine jx_ac (s_istore_n (jx_dc dd_24 1 rfl) rfl) ?_
  refine jx_ac (s_iconst (jx_dc dd_24 2 rfl) rfl) ?_
  refine jx_ac (s_istore_n (jx_dc dd_24 3 rfl) rfl) ?_
  refine jx_ac (s_iload_n (jx_dc dd_24 4 rfl) rfl) ?_
  refine jx_ac (s_bipush (jx_dc dd_24 5 rfl) rfl) ?_
  refine jx_ac (s_ige (jx_dc dd_24 6 rfl) rfl) ?_
  refine jx_ac (s_iload_n (jx_dc dd_24 7 rfl) rfl) ?_
  refine jx_ac (s_iconst (jx_dc dd_24 8 rfl) rfl) ?_
  refine jx_ac (s_ine (jx_dc dd_24 9 rfl) rfl) ?_
  refine jx_ac (s_iconst (jx_dc dd_24 10 rfl) rfl) ?_
  refine jx_ac (s_goto (jx_dc dd_24 11 rfl) rfl) ?_
  refine jx_ac (s_aload_n (jx_dc dd_24 12 rfl) rfl) ?_
  refine jx_ac (s_callv (ce := 25) kk_3 mc_25 (jx_dc dd_24 13 rfl) w_184 w_185 w_186 ⟨by decide, by decide⟩ np_25) ?_
  refine jx_ac (s_istore_n (jx_dc dd_24 14 rfl) rfl) ?_
  refine jx_ac (s_aload_n (jx_dc dd_24 15 rfl) rfl) ?_
  refine jx_ac (s_callv (ce := 27) kk_3 mc_27 (jx_dc dd_24 16 rfl) w_187 w_188 w_189 ⟨by decide, by decide⟩ np_27) ?_
  refine jx_ac (s_ifeq (jx_dc dd_24 17 rfl) rfl) ?_
  refine jx_ac (s_aload_n (jx_dc dd_24 18 rfl) rfl) ?_
  refine jx_ac (s_getf kk_3 (k := 6) (Nat.le_of_ble_eq_true rfl) (jx_dc dd_24 19 rfl) w_180) ?_
  refine jx_ac (s_iconst (jx_dc dd_24 20 rfl) rfl) ?_
  refine jx_ac (s_isub (jx_dc dd_24 21 rfl)) ?_
  refine jx_ac (s_goto (jx_dc dd_24 22 rfl) rfl) ?_
  refine jx_ac (s_iconst (jx_dc dd_24 23 rfl) rfl) ?_
  refine jx_ac (s_istore (jx_dc dd_24 24 rfl)) ?_
  refine jx_ac (s_iload (jx_dc dd_24 25 rfl)) ?_
  refine jx_ac (s_iconst (jx_dc dd_24 26 rfl) rfl) ?_
  refine jx_ac (s_ieq (jx_dc dd_24 27 rfl) rfl) ?_
  refine jx_ac (s_iload_n (jx_dc dd_24 28 rfl) rfl) ?_
  refine jx_ac (s_iconst (jx_dc dd_24 29 rfl) rfl) ?_
  refine jx_ac (s_ieq (jx_dc dd_24 30 rfl) rfl) ?_
  refine jx_ac (s_aload_n (jx_dc dd_24 31 rfl) rfl) ?_
  refine jx_ac (s_iload_n (jx_dc dd_24 32 rfl) rfl) ?_
  refine jx_ac (s_iload (jx_dc dd_24 33 rfl)) ?_
  refine jx_ac (s_iload_n (jx_dc dd_24 34 rfl) rfl) ?_
  refine jx_ac (s_callv (ce := 34) kk_3 mc_34 (jx_dc dd_24 35 rfl) w_190 w_191 w_192 ⟨by decide, by decide⟩ np_34) ?_
  refine jx_ac (s_ifeq (jx_dc dd_24 36 rfl) rfl) ?_
  refine jx_ac (s_aload_n (jx_dc dd_24 37 rfl) rfl) ?_
  refine jx_ac (s_iload (jx_dc dd_24 38 rfl)) ?_
  refine jx_ac (s_callv (ce := 37) kk_3 mc_37 (jx_dc dd_24 39 rfl) w_193 w_194 w_195 ⟨by decide, by decide⟩ np_37) ?_
  exact jx_an
theorem A_24_1 : jx_All (jx_mk D c0 c1 c2 c3 c4 H0 ga L xs) jx_mt md_24 K_24_1 := by
  refine jx_ac (s_ifne (jx_dc dd_24 40 rfl) rfl) ?_
  refine jx_ac (s_iconst (jx_dc dd_24 41 rfl) rfl) ?_
  refine jx_ac (s_zret rfl (jx_dc dd_24 42 rfl)) ?_
  refine jx_ac (s_aload_n (jx_dc dd_24 43 rfl) rfl) ?_
  refine jx_ac (s_iload (jx_dc dd_24 44 rfl)) ?_
  refine jx_ac (s_callv (ce := 39) kk_3 mc_39 (jx_dc dd_24 45 rfl) w_196 w_197 w_198 ⟨by decide, by decide⟩ np_39) ?_
  refine jx_ac (s_istore_n (jx_dc dd_24 46 rfl) rfl) ?_
  refine jx_ac (s_iload_n (jx_dc dd_24 47 rfl) rfl) ?_
  refine jx_ac (s_iconst (jx_dc dd_24 48 rfl) rfl) ?_
  refine jx_ac (s_ine (jx_dc dd_24 49 rfl) rfl) ?_
  refine jx_ac (s_iconst (jx_dc dd_24 50 rfl) rfl) ?_
  refine jx_ac (s_zret rfl (jx_dc dd_24 51 rfl)) ?_
  refine jx_ac (s_aload_n (jx_dc dd_24 52 rfl) rfl) ?_
  refine jx_ac (s_getf kk_3 (k := 2) (Nat.le_of_ble_eq_true rfl) (jx_dc dd_24 53 rfl) w_179) ?_
  refine jx_ac (s_aload_n (jx_dc dd_24 54 rfl) rfl) ?_
  refine jx_ac (s_getf kk_3 (k := 1) (Nat.le_of_ble_eq_true rfl) (jx_dc dd_24 55 rfl) w_176) ?_
  refine jx_ac (s_ilt (jx_dc dd_24 56 rfl) rfl) ?_
  refine jx_ac (s_aload_n (jx_dc dd_24 57 rfl) rfl) ?_
  refine jx_ac (s_getf kk_3 (k := 14) (Nat.le_of_ble_eq_true rfl) (jx_dc dd_24 58 rfl) w_182) ?_
  refine jx_ac (s_ifne (jx_dc dd_24 59 rfl) rfl) ?_
  refine jx_ac (s_iconst (jx_dc dd_24 60 rfl) rfl) ?_
  refine jx_ac (s_goto (jx_dc dd_24 61 rfl) rfl) ?_
  refine jx_ac (s_iconst (jx_dc dd_24 62 rfl) rfl) ?_
  refine jx_ac (s_zret rfl (jx_dc dd_24 63 rfl)) ?_
  refine jx_ac (s_aload_n (jx_dc dd_24 64 rfl) rfl) ?_
  refine jx_ac (s_iload_n (jx_dc dd_24 65 rfl) rfl) ?_
  refine jx_ac (s_callv (ce := 40) kk_3 mc_40 (jx_dc dd_24 66 rfl) w_199 w_200 w_201 ⟨by decide, by decide⟩ np_40) ?_
  refine jx_ac (s_iinc (jx_dc dd_24 67 rfl) rfl) ?_
  refine jx_ac (s_goto (jx_dc dd_24 68 rfl) rfl) ?_
  refine jx_ac (s_iconst (jx_dc dd_24 69 rfl) rfl) ?_
  refine jx_ac (s_zret rfl (jx_dc dd_24 70 rfl)) ?_
  exact jx_an
theorem A_24 : jx_All (jx_mk D c0 c1 c2 c3 c4 H0 ga L xs) jx_mt md_24 K_24 := (jx_aa A_24_0 A_24_1)
def dl_25 : List (Nat × Instr × Nat) := [(0, .aload_n 0, 1), (1, .bipush 45, 2), (3, .invokevirtual 118, 3), (6, .ifCond .eq 5, 3), (9, .iconst 1, 1), (10, .ireturn, 1), (11, .aload_n 0, 1), (12, .bipush 61, 2), (14, .invokevirtual 118, 3), (17, .ifCond .eq 5, 3), (20, .iconst 2, 1), (21, .ireturn, 1), (22, .aload_n 0, 1), (23, .bipush 35, 2), (25, .invokevirtual 118, 3), (28, .ifCond .eq 5, 3), (31, .iconst 3, 1), (32, .ireturn, 1), (33, .aload_n 0, 1), (34, .getfield 56, 3), (37, .ifCond .eq 16, 3), (40, .aload_n 0, 1), (41, .bipush 126, 2), (43, .invokevirtual 118, 3), (46, .ifCond .eq 7, 3), (49, .iconst 5, 1), (50, .goto 4, 3), (53, .iconst 0, 1), (54, .ireturn, 1)]
theorem dd_25 : ∀ q ∈ dl_25, decode prog_6_method_9_code q.1 = .ok q.2 := by decide +kernel
theorem A_25_0 : jx_All (jx_mk D c0 c1 c2 c3 c4 H0 ga L xs) jx_mt md_25 K_25_0 := by
  refine jx_ac (s_aload_n (jx_dc dd_25 0 rfl) rfl) ?_
  refine jx_ac (s_bipush (jx_dc dd_25 1 rfl) rfl) ?_
  refine jx_ac (s_callv (ce := 26) kk_3 mc_26 (jx_dc dd_25 2 rfl) w_202 w_203 w_204 ⟨by decide, by decide⟩ np_26) ?_
  refine jx_ac (s_ifeq (jx_dc dd_25 3 rfl) rfl) ?_
  refine jx_ac (s_iconst (jx_dc dd_25 4 rfl) rfl) ?_
  refine jx_ac (s_iret rfl (jx_dc dd_25 5 rfl)) ?_
  refine jx_ac (s_aload_n (jx_dc dd_25 6 rfl) rfl) ?_
  refine jx_ac (s_bipush (jx_dc dd_25 7 rfl) rfl) ?_
  refine jx_ac (s_callv (ce := 26) kk_3 mc_26 (jx_dc dd_25 8 rfl) w_202 w_203 w_204 ⟨by decide, by decide⟩ np_26) ?_
  refine jx_ac (s_ifeq (jx_dc dd_25 9 rfl) rfl) ?_
  refine jx_ac (s_iconst (jx_dc dd_25 10 rfl) rfl) ?_
  refine jx_ac (s_iret rfl (jx_dc dd_25 11 rfl)) ?_
  refine jx_ac (s_aload_n (jx_dc dd_25 12 rfl) rfl) ?_
  refine jx_ac (s_bipush (jx_dc dd_25 13 rfl) rfl) ?_
  refine jx_ac (s_callv (ce := 26) kk_3 mc_26 (jx_dc dd_25 14 rfl) w_202 w_203 w_204 ⟨by decide, by decide⟩ np_26) ?_
  refine jx_ac (s_ifeq (jx_dc dd_25 15 rfl) rfl) ?_
  refine jx_ac (s_iconst (jx_dc dd_25 16 rfl) rfl) ?_
  refine jx_ac (s_iret rfl (jx_dc dd_25 17 rfl)) ?_
  refine jx_ac (s_aload_n (jx_dc dd_25 18 rfl) rfl) ?_
  refine jx_ac (s_getf kk_3 (k := 3) (Nat.le_of_ble_eq_true rfl) (jx_dc dd_25 19 rfl) w_178) ?_
  refine jx_ac (s_ifeq (jx_dc dd_25 20 rfl) rfl) ?_
  refine jx_ac (s_aload_n (jx_dc dd_25 21 rfl) rfl) ?_
  refine jx_ac (s_bipush (jx_dc dd_25 22 rfl) rfl) ?_
  refine jx_ac (s_callv (ce := 26) kk_3 mc_26 (jx_dc dd_25 23 rfl) w_202 w_203 w_204 ⟨by decide, by decide⟩ np_26) ?_
  refine jx_ac (s_ifeq (jx_dc dd_25 24 rfl) rfl) ?_
  refine jx_ac (s_iconst (jx_dc dd_25 25 rfl) rfl) ?_
  refine jx_ac (s_goto (jx_dc dd_25 26 rfl) rfl) ?_
  refine jx_ac (s_iconst (jx_dc dd_25 27 rfl) rfl) ?_
  refine jx_ac (s_iret rfl (jx_dc dd_25 28 rfl)) ?_
  exact jx_an
theorem A_25 : jx_All (jx_mk D c0 c1 c2 c3 c4 H0 ga L xs) jx_mt md_25 K_25 :=  A_25_0
def dl_26 : List (Nat × Instr × Nat) := [(0, .aload_n 0, 1), (1, .getfield 60, 3), (4, .aload_n 0, 1), (5, .getfield 46, 3), (8, .if_icmp .ge 20, 3), (11, .aload_n 0, 1), (12, .getfield 9, 3), (15, .aload_n 0, 1), (16, .getfield 60, 3), (19, .caload, 1), (20, .iload_n 1, 1), (21, .if_icmp .ne 7, 3), (24, .iconst 1, 1), (25, .goto 4, 3), (28, .iconst 0, 1), (29, .istore_n 2, 1), (30, .iload_n 2, 1), (31, .ifCond .eq 13, 3), (34, .aload_n 0, 1), (35, .dup, 1), (36, .getfield 60, 3), (39, .iconst 1, 1), (40, .iadd, 1), (41, .putfield 60, 3), (44, .iload_n 2, 1), (45, .ireturn, 1)]
theorem dd_26 : ∀ q ∈ dl_26, decode prog_6_method_8_code q.1 = .ok q.2 := by decide +kernel
theorem A_26_0 : jx_All (jx_mk D c0 c1 c2 c3 c4 H0 ga L xs) jx_mt md_26 K_26_0 := by
  refine jx_ac (s_aload_n (jx_dc dd_26 0 rfl) rfl) ?_
  refine jx_ac (s_getf kk_3 (k := 2) (Nat.le_of_ble_eq_true rfl) (jx_dc dd_26 1 rfl) w_179) ?_
  refine jx_ac (s_aload_n (jx_dc dd_26 2 rfl) rfl) ?_
  refine jx_ac (s_getf kk_3 (k := 1) (Nat.le_of_ble_eq_true rfl) (jx_dc dd_26 3 rfl) w_176) ?_
  refine jx_ac (s_ige (jx_dc dd_26 4 rfl) rfl) ?_
  refine jx_ac (s_aload_n (jx_dc dd_26 5 rfl) rfl) ?_
  refine jx_ac (s_getf kk_3 (k := 0) (Nat.le_of_ble_eq_true rfl) (jx_dc dd_26 6 rfl) w_164) ?_
  refine jx_ac (s_aload_n (jx_dc dd_26 7 rfl) rfl) ?_
  refine jx_ac (s_getf kk_3 (k := 2) (Nat.le_of_ble_eq_true rfl) (jx_dc dd_26 8 rfl) w_179) ?_
  refine jx_ac (s_cald rfl (jx_dc dd_26 9 rfl)) ?_
  refine jx_ac (s_iload_n (jx_dc dd_26 10 rfl) rfl) ?_
  refine jx_ac (s_ine (jx_dc dd_26 11 rfl) rfl) ?_
  refine jx_ac (s_iconst (jx_dc dd_26 12 rfl) rfl) ?_
  refine jx_ac (s_goto (jx_dc dd_26 13 rfl) rfl) ?_
  refine jx_ac (s_iconst (jx_dc dd_26 14 rfl) rfl) ?_
  refine jx_ac (s_istore_n (jx_dc dd_26 15 rfl) rfl) ?_
  refine jx_ac (s_iload_n (jx_dc dd_26 16 rfl) rfl) ?_
  refine jx_ac (s_ifeq (jx_dc dd_26 17 rfl) rfl) ?_
  refine jx_ac (s_aload_n (jx_dc dd_26 18 rfl) rfl) ?_
  refine jx_ac (s_dup (jx_dc dd_26 19 rfl)) ?_
  refine jx_ac (s_getf kk_3 (k := 2) (Nat.le_of_ble_eq_true rfl) (jx_dc dd_26 20 rfl) w_179) ?_
  refine jx_ac (s_iconst (jx_dc dd_26 21 rfl) rfl) ?_
  refine jx_ac (s_iadd (jx_dc dd_26 22 rfl)) ?_
  refine jx_ac (s_putf kk_3 (k := 2) (Nat.le_of_ble_eq_true rfl) (jx_dc dd_26 23 rfl) (fun _ h => jx_okI_n _ h) rfl w_179) ?_
  refine jx_ac (s_iload_n (jx_dc dd_26 24 rfl) rfl) ?_
  refine jx_ac (s_zret rfl (jx_dc dd_26 25 rfl)) ?_
  exact jx_an
theorem A_26 : jx_All (jx_mk D c0 c1 c2 c3 c4 H0 ga L xs) jx_mt md_26 K_26 :=  A_26_0
def dl_27 : List (Nat × Instr × Nat) := [(0, .aload_n 0, 1), (1, .invokevirtual 114, 3), (4, .istore_n 1, 1), (5, .aload_n 0, 1), (6, .bipush 91, 2), (8, .invokevirtual 118, 3), (11, .ifCond .eq 8, 3), (14, .aload_n 0, 1), (15, .invokevirtual 133, 3), (18, .ireturn, 1), (19, .aload_n 0, 1), (20, .getfield 56, 3), (23, .ifCond .eq 21, 3), (26, .aload_n 0, 1), (27, .bipush 42, 2), (29, .invokevirtual 118, 3), (32, .ifCond .eq 12, 3), (35, .aload_n 0, 1), (36, .sipush 16415, 3), (39, .iconst (-1), 1), (40, .invokevirtual 136, 3), (43, .ireturn, 1), (44, .aload_n 0, 1), (45, .dup, 1), (46, .getfield 60, 3), (49, .iconst 1, 1), (50, .iadd, 1), (51, .putfield 60, 3), (54, .ldc 139, 2), (56, .iload_n 1, 1), (57, .invokevirtual 141, 3), (60, .ifCond .lt 24, 3), (63, .aload_n 0, 1), (64, .iload_n 1, 1), (65, .bipush 97, 2), (67, .isub, 1), (68, .bipush 65, 2), (70, .iadd, 1), (71, .sipush 128, 3), (74, .iadd, 1), (75, .sipush 4096, 3), (78, .iadd, 1), (79, .iconst (-1), 1), (80, .invokevirtual 136, 3), (83, .ireturn, 1), (84, .ldc 146, 2), (86, .iload_n 1, 1), (87, .invokevirtual 141, 3), (90, .ifCond .lt 20, 3), (93, .aload_n 0, 1), (94, .iload_n 1, 1), (95, .sipush 4096, 3), (98, .iadd, 1), (99, .iconst (-1), 1), (100, .invokevirtual 136, 3), (103, .ifCond .eq 7, 3), (106, .iconst 1, 1), (107, .goto 4, 3), (110, .iconst 0, 1), (111, .ireturn, 1)]
theorem dd_27 : ∀ q ∈ dl_27, decode prog_6_method_16_code q.1 = .ok q.2 := by decide +kernel
theorem A_27_0 : jx_All (jx_mk D c0 c1 c2 c3 c4 H0 ga L xs) jx_mt md_27 K_27_0 := by
  refine jx_ac (s_aload_n (jx_dc dd_27 0 rfl) rfl) ?_
  refine jx_ac (s_callv (ce := 28) kk_3 mc_28 (jx_dc dd_27 1 rfl) w_205 w_206 w_207 ⟨by decide, by decide⟩ np_28) ?_
  refine jx_ac (s_istore_n (jx_dc dd_27 2 rfl) rfl) ?_
  refine jx_ac (s_aload_n (jx_dc dd_27 3 rfl) rfl) ?_
  refine jx_ac (s_bipush (jx_dc dd_27 4 rfl) rfl) ?_
  refine jx_ac (s_callv (ce := 26) kk_3 mc_26 (jx_dc dd_27 5 rfl) w_202 w_203 w_204 ⟨by decide, by decide⟩ np_26) ?_
  refine jx_ac (s_ifeq (jx_dc dd_27 6 rfl) rfl) ?_
  refine jx_ac (s_aload_n (jx_dc dd_27 7 rfl) rfl) ?_
  refine jx_ac (s_callv (ce := 29) kk_3 mc_29 (jx_dc dd_27 8 rfl) w_208 w_209 w_210 ⟨by decide, by decide⟩ np_29) ?_
  refine jx_ac (s_zret rfl (jx_dc dd_27 9 rfl)) ?_
  refine jx_ac (s_aload_n (jx_dc dd_27 10 rfl) rfl) ?_
  refine jx_ac (s_getf kk_3 (k := 3) (Nat.le_of_ble_eq_true rfl) (jx_dc dd_27 11 rfl) w_178) ?_
  refine jx_ac (s_ifeq (jx_dc dd_27 12 rfl) rfl) ?_
  refine jx_ac (s_aload_n (jx_dc dd_27 13 rfl) rfl) ?_
  refine jx_ac (s_bipush (jx_dc dd_27 14 rfl) rfl) ?_
  refine jx_ac (s_callv (ce := 26) kk_3 mc_26 (jx_dc dd_27 15 rfl) w_202 w_203 w_204 ⟨by decide, by decide⟩ np_26) ?_
  refine jx_ac (s_ifeq (jx_dc dd_27 16 rfl) rfl) ?_
  refine jx_ac (s_aload_n (jx_dc dd_27 17 rfl) rfl) ?_
  refine jx_ac (s_sipush (jx_dc dd_27 18 rfl) rfl) ?_
  refine jx_ac (s_iconst (jx_dc dd_27 19 rfl) rfl) ?_
  refine jx_ac (s_callv (ce := 31) kk_3 mc_31 (jx_dc dd_27 20 rfl) w_211 w_212 w_213 ⟨by decide, by decide⟩ np_31) ?_
  refine jx_ac (s_zret rfl (jx_dc dd_27 21 rfl)) ?_
  refine jx_ac (s_aload_n (jx_dc dd_27 22 rfl) rfl) ?_
  refine jx_ac (s_dup (jx_dc dd_27 23 rfl)) ?_
  refine jx_ac (s_getf kk_3 (k := 2) (Nat.le_of_ble_eq_true rfl) (jx_dc dd_27 24 rfl) w_179) ?_
  refine jx_ac (s_iconst (jx_dc dd_27 25 rfl) rfl) ?_
  refine jx_ac (s_iadd (jx_dc dd_27 26 rfl)) ?_
  refine jx_ac (s_putf kk_3 (k := 2) (Nat.le_of_ble_eq_true rfl) (jx_dc dd_27 27 rfl) (fun _ h => jx_okI_n _ h) rfl w_179) ?_
  refine jx_ac (s_ldcS (jx_dc dd_27 28 rfl) (by decide) (fun s h => h.2.1 ("MoleculeRegistry$Reader", 139, "cnos", 3) (by decide))) ?_
  refine jx_ac (s_iload_n (jx_dc dd_27 29 rfl) rfl) ?_
  refine jx_ac (s_callvS (ce := 125) (Nat.le_of_ble_eq_true rfl) (by decide) gS_obj mc_125 (jx_dc dd_27 30 rfl) w_214 w_151 w_152 ⟨by decide, by decide⟩ np_125) ?_
  refine jx_ac (s_iflt (jx_dc dd_27 31 rfl) rfl) ?_
  refine jx_ac (s_aload_n (jx_dc dd_27 32 rfl) rfl) ?_
  refine jx_ac (s_iload_n (jx_dc dd_27 33 rfl) rfl) ?_
  refine jx_ac (s_bipush (jx_dc dd_27 34 rfl) rfl) ?_
  refine jx_ac (s_isub (jx_dc dd_27 35 rfl)) ?_
  refine jx_ac (s_bipush (jx_dc dd_27 36 rfl) rfl) ?_
  refine jx_ac (s_iadd (jx_dc dd_27 37 rfl)) ?_
  refine jx_ac (s_sipush (jx_dc dd_27 38 rfl) rfl) ?_
  refine jx_ac (s_iadd (jx_dc dd_27 39 rfl)) ?_
  exact jx_an
theorem A_27_1 : jx_All (jx_mk D c0 c1 c2 c3 c4 H0 ga L xs) jx_mt md_27 K_27_1 := by
  refine jx_ac (s_sipush (jx_dc dd_27 40 rfl) rfl) ?_
  refine jx_ac (s_iadd (jx_dc dd_27 41 rfl)) ?_
  refine jx_ac (s_iconst (jx_dc dd_27 42 rfl) rfl) ?_
  refine jx_ac (s_callv (ce := 31) kk_3 mc_31 (jx_dc dd_27 43 rfl) w_211 w_212 w_213 ⟨by decide, by decide⟩ np_31) ?_
  refine jx_ac (s_zret rfl (jx_dc dd_27 44 rfl)) ?_
  refine jx_ac (s_ldcS (jx_dc dd_27 45 rfl) (by decide) (fun s h => h.2.1 ("MoleculeRegistry$Reader", 146, "CNOSF", 2) (by decide))) ?_
  refine jx_ac (s_iload_n (jx_dc dd_27 46 rfl) rfl) ?_
  refine jx_ac (s_callvS (ce := 125) (Nat.le_of_ble_eq_true rfl) (by decide) gS_obj mc_125 (jx_dc dd_27 47 rfl) w_214 w_151 w_152 ⟨by decide, by decide⟩ np_125) ?_
  refine jx_ac (s_iflt (jx_dc dd_27 48 rfl) rfl) ?_
  refine jx_ac (s_aload_n (jx_dc dd_27 49 rfl) rfl) ?_
  refine jx_ac (s_iload_n (jx_dc dd_27 50 rfl) rfl) ?_
  refine jx_ac (s_sipush (jx_dc dd_27 51 rfl) rfl) ?_
  refine jx_ac (s_iadd (jx_dc dd_27 52 rfl)) ?_
  refine jx_ac (s_iconst (jx_dc dd_27 53 rfl) rfl) ?_
  refine jx_ac (s_callv (ce := 31) kk_3 mc_31 (jx_dc dd_27 54 rfl) w_211 w_212 w_213 ⟨by decide, by decide⟩ np_31) ?_
  refine jx_ac (s_ifeq (jx_dc dd_27 55 rfl) rfl) ?_
  refine jx_ac (s_iconst (jx_dc dd_27 56 rfl) rfl) ?_
  refine jx_ac (s_goto (jx_dc dd_27 57 rfl) rfl) ?_
  refine jx_ac (s_iconst (jx_dc dd_27 58 rfl) rfl) ?_
  refine jx_ac (s_zret rfl (jx_dc dd_27 59 rfl)) ?_
  exact jx_an
theorem A_27 : jx_All (jx_mk D c0 c1 c2 c3 c4 H0 ga L xs) jx_mt md_27 K_27 := (jx_aa A_27_0 A_27_1)
def dl_28 : List (Nat × Instr × Nat) := [(0, .aload_n 0, 1), (1, .getfield 60, 3), (4, .aload_n 0, 1), (5, .getfield 46, 3), (8, .if_icmp .ge 15, 3), (11, .aload_n 0, 1), (12, .getfield 9, 3), (15, .aload_n 0, 1), (16, .getfield 60, 3), (19, .caload, 1), (20, .goto 4, 3), (23, .iconst 0, 1), (24, .ireturn, 1)]
theorem dd_28 : ∀ q ∈ dl_28, decode prog_6_method_7_code q.1 = .ok q.2 := by decide +kernel
theorem A_28_0 : jx_All (jx_mk D c0 c1 c2 c3 c4 H0 ga L xs) jx_mt md_28 K_28_0 := by
  refine jx_ac (s_aload_n (jx_dc dd_28 0 rfl) rfl) ?_
  refine jx_ac (s_getf kk_3 (k := 2) (Nat.le_of_ble_eq_true rfl) (jx_dc dd_28 1 rfl) w_179) ?_
  refine jx_ac (s_aload_n (jx_dc dd_28 2 rfl) rfl) ?_
  refine jx_ac (s_getf kk_3 (k := 1) (Nat.le_of_ble_eq_true rfl) (jx_dc dd_28 3 rfl) w_176) ?_
  refine jx_ac (s_ige (jx_dc dd_28 4 rfl) rfl) ?_
  refine jx_ac (s_aload_n (jx_dc dd_28 5 rfl) rfl) ?_
  refine jx_ac (s_getf kk_3 (k := 0) (Nat.le_of_ble_eq_true rfl) (jx_dc dd_28 6 rfl) w_164) ?_
  refine jx_ac (s_aload_n (jx_dc dd_28 7 rfl) rfl) ?_
  refine jx_ac (s_getf kk_3 (k := 2) (Nat.le_of_ble_eq_true rfl) (jx_dc dd_28 8 rfl) w_179) ?_
  refine jx_ac (s_cald rfl (jx_dc dd_28 9 rfl)) ?_
  refine jx_ac (s_goto (jx_dc dd_28 10 rfl) rfl) ?_
  refine jx_ac (s_iconst (jx_dc dd_28 11 rfl) rfl) ?_
  refine jx_ac (s_cret rfl (jx_dc dd_28 12 rfl)) ?_
  exact jx_an
theorem A_28 : jx_All (jx_mk D c0 c1 c2 c3 c4 H0 ga L xs) jx_mt md_28 K_28 :=  A_28_0
def dl_29 : List (Nat × Instr × Nat) := [(0, .aload_n 0, 1), (1, .invokevirtual 114, 3), (4, .istore_n 1, 1), (5, .ldc 146, 2), (7, .iload_n 1, 1), (8, .invokevirtual 141, 3), (11, .ifCond .ge 5, 3), (14, .iconst 0, 1), (15, .ireturn, 1), (16, .aload_n 0, 1), (17, .dup, 1), (18, .getfield 60, 3), (21, .iconst 1, 1), (22, .iadd, 1), (23, .putfield 60, 3), (26, .aload_n 0, 1), (27, .getfield 56, 3), (30, .ifCond .eq 18, 3), (33, .aload_n 0, 1), (34, .invokevirtual 114, 3), (37, .bipush 44, 2), (39, .if_icmp .ne 9, 3), (42, .aload_n 0, 1), (43, .iload_n 1, 1), (44, .invokevirtual 148, 3), (47, .ireturn, 1), (48, .aload_n 0, 1), (49, .invokevirtual 151, 3), (52, .istore_n 2, 1), (53, .aload_n 0, 1), (54, .invokevirtual 154, 3), (57, .istore_n 3, 1), (58, .aload_n 0, 1), (59, .bipush 93, 2), (61, .invokevirtual 118, 3), (64, .ifCond .eq 18, 3), (67, .aload_n 0, 1), (68, .iload_n 1, 1), (69, .iload_n 3, 1), (70, .iadd, 1), (71, .iload_n 2, 1), (72, .invokevirtual 136, 3), (75, .ifCond .eq 7, 3), (78, .iconst 1, 1), (79, .goto 4, 3), (82, .iconst 0, 1), (83, .ireturn, 1)]
theorem dd_29 : ∀ q ∈ dl_29, decode prog_6_method_18_code q.1 = .ok q.2 := by decide +kernel
theorem A_29_0 : jx_All (jx_mk D c0 c1 c2 c3 c4 H0 ga L xs) jx_mt md_29 K_29_0 := by
  refine jx_ac (s_aload_n (jx_dc dd_29 0 rfl) rfl) ?_
  refine jx_ac (s_callv (ce := 28) kk_3 mc_28 (jx_dc dd_29 1 rfl) w_205 w_206 w_207 ⟨by decide, by decide⟩ np_28) ?_
  refine jx_ac (s_istore_n (jx_dc dd_29 2 rfl) rfl) ?_
  refine jx_ac (s_ldcS (jx_dc dd_29 3 rfl) (by decide) (fun s h => h.2.1 ("MoleculeRegistry$Reader", 146, "CNOSF", 2) (by decide))) ?_
  refine jx_ac (s_iload_n (jx_dc dd_29 4 rfl) rfl) ?_
  refine jx_ac (s_callvS (ce := 125) (Nat.le_of_ble_eq_true rfl) (by decide) gS_obj mc_125 (jx_dc dd_29 5 rfl) w_214 w_151 w_152 ⟨by decide, by decide⟩ np_125) ?_
  refine jx_ac (s_ifge (jx_dc dd_29 6 rfl) rfl) ?_
  refine jx_ac (s_iconst (jx_dc dd_29 7 rfl) rfl) ?_
  refine jx_ac (s_zret rfl (jx_dc dd_29 8 rfl)) ?_
  refine jx_ac (s_aload_n (jx_dc dd_29 9 rfl) rfl) ?_
  refine jx_ac (s_dup (jx_dc dd_29 10 rfl)) ?_
  refine jx_ac (s_getf kk_3 (k := 2) (Nat.le_of_ble_eq_true rfl) (jx_dc dd_29 11 rfl) w_179) ?_
  refine jx_ac (s_iconst (jx_dc dd_29 12 rfl) rfl) ?_
  refine jx_ac (s_iadd (jx_dc dd_29 13 rfl)) ?_
  refine jx_ac (s_putf kk_3 (k := 2) (Nat.le_of_ble_eq_true rfl) (jx_dc dd_29 14 rfl) (fun _ h => jx_okI_n _ h) rfl w_179) ?_
  refine jx_ac (s_aload_n (jx_dc dd_29 15 rfl) rfl) ?_
  refine jx_ac (s_getf kk_3 (k := 3) (Nat.le_of_ble_eq_true rfl) (jx_dc dd_29 16 rfl) w_178) ?_
  refine jx_ac (s_ifeq (jx_dc dd_29 17 rfl) rfl) ?_
  refine jx_ac (s_aload_n (jx_dc dd_29 18 rfl) rfl) ?_
  refine jx_ac (s_callv (ce := 28) kk_3 mc_28 (jx_dc dd_29 19 rfl) w_205 w_206 w_207 ⟨by decide, by decide⟩ np_28) ?_
  refine jx_ac (s_bipush (jx_dc dd_29 20 rfl) rfl) ?_
  refine jx_ac (s_ine (jx_dc dd_29 21 rfl) rfl) ?_
  refine jx_ac (s_aload_n (jx_dc dd_29 22 rfl) rfl) ?_
  refine jx_ac (s_iload_n (jx_dc dd_29 23 rfl) rfl) ?_
  refine jx_ac (s_callv (ce := 30) kk_3 mc_30 (jx_dc dd_29 24 rfl) w_215 w_216 w_217 ⟨by decide, by decide⟩ np_30) ?_
  refine jx_ac (s_zret rfl (jx_dc dd_29 25 rfl)) ?_
  refine jx_ac (s_aload_n (jx_dc dd_29 26 rfl) rfl) ?_
  refine jx_ac (s_callv (ce := 32) kk_3 mc_32 (jx_dc dd_29 27 rfl) w_218 w_219 w_220 ⟨by decide, by decide⟩ np_32) ?_
  refine jx_ac (s_istore_n (jx_dc dd_29 28 rfl) rfl) ?_
  refine jx_ac (s_aload_n (jx_dc dd_29 29 rfl) rfl) ?_
  refine jx_ac (s_callv (ce := 33) kk_3 mc_33 (jx_dc dd_29 30 rfl) w_221 w_222 w_223 ⟨by decide, by decide⟩ np_33) ?_
  refine jx_ac (s_istore_n (jx_dc dd_29 31 rfl) rfl) ?_
  refine jx_ac (s_aload_n (jx_dc dd_29 32 rfl) rfl) ?_
  refine jx_ac (s_bipush (jx_dc dd_29 33 rfl) rfl) ?_
  refine jx_ac (s_callv (ce := 26) kk_3 mc_26 (jx_dc dd_29 34 rfl) w_202 w_203 w_204 ⟨by decide, by decide⟩ np_26) ?_
  refine jx_ac (s_ifeq (jx_dc dd_29 35 rfl) rfl) ?_
  refine jx_ac (s_aload_n (jx_dc dd_29 36 rfl) rfl) ?_
  refine jx_ac (s_iload_n (jx_dc dd_29 37 rfl) rfl) ?_
  refine jx_ac (s_iload_n (jx_dc dd_29 38 rfl) rfl) ?_
  refine jx_ac (s_iadd (jx_dc dd_29 39 rfl)) ?_
  exact jx_an
theorem A_29_1 : jx_All (jx_mk D c0 c1 c2 c3 c4 H0 ga L xs) jx_mt md_29 K_29_1 := by
  refine jx_ac (s_iload_n (jx_dc dd_29 40 rfl) rfl) ?_
  refine jx_ac (s_callv (ce := 31) kk_3 mc_31 (jx_dc dd_29 41 rfl) w_211 w_212 w_213 ⟨by decide, by decide⟩ np_31) ?_
  refine jx_ac (s_ifeq (jx_dc dd_29 42 rfl) rfl) ?_
  refine jx_ac (s_iconst (jx_dc dd_29 43 rfl) rfl) ?_
  refine jx_ac (s_goto (jx_dc dd_29 44 rfl) rfl) ?_
  refine jx_ac (s_iconst (jx_dc dd_29 45 rfl) rfl) ?_
  refine jx_ac (s_zret rfl (jx_dc dd_29 46 rfl)) ?_
  exact jx_an
theorem A_29 : jx_All (jx_mk D c0 c1 c2 c3 c4 H0 ga L xs) jx_mt md_29 K_29 := (jx_aa A_29_0 A_29_1)
def dl_30 : List (Nat × Instr × Nat) := [(0, .iconst 1, 1), (1, .ldc 146, 2), (3, .iload_n 1, 1), (4, .invokevirtual 141, 3), (7, .ishl, 1), (8, .istore_n 2, 1), (9, .iconst 0, 1), (10, .istore_n 3, 1), (11, .iload_n 3, 1), (12, .iconst 3, 1), (13, .if_icmp .ge 53, 3), (16, .aload_n 0, 1), (17, .bipush 44, 2), (19, .invokevirtual 118, 3), (22, .ifCond .eq 44, 3), (25, .ldc 146, 2), (27, .aload_n 0, 1), (28, .invokevirtual 114, 3), (31, .invokevirtual 141, 3), (34, .istore 4, 2), (36, .iload 4, 2), (38, .ifCond .ge 5, 3), (41, .iconst 0, 1), (42, .ireturn, 1), (43, .iload_n 2, 1), (44, .iconst 1, 1), (45, .iload 4, 2), (47, .ishl, 1), (48, .ior, 1), (49, .istore_n 2, 1), (50, .aload_n 0, 1), (51, .dup, 1), (52, .getfield 60, 3), (55, .iconst 1, 1), (56, .iadd, 1), (57, .putfield 60, 3), (60, .iinc 3 1, 3), (63, .goto (-52), 3), (66, .aload_n 0, 1), (67, .bipush 93, 2), (69, .invokevirtual 118, 3), (72, .ifCond .eq 20, 3), (75, .aload_n 0, 1), (76, .sipush 16384, 3), (79, .iload_n 2, 1), (80, .iadd, 1), (81, .iconst (-1), 1), (82, .invokevirtual 136, 3), (85, .ifCond .eq 7, 3), (88, .iconst 1, 1), (89, .goto 4, 3), (92, .iconst 0, 1), (93, .ireturn, 1)]
theorem dd_30 : ∀ q ∈ dl_30, decode prog_6_method_19_code q.1 = .ok q.2 := by decide +kernel
theorem A_30_0 : jx_All (jx_mk D c0 c1 c2 c3 c4 H0 ga L xs) jx_mt md_30 K_30_0 := by
  refine jx_ac (s_iconst (jx_dc dd_30 0 rfl) rfl) ?_
  refine jx_ac (s_ldcS (jx_dc dd_30 1 rfl) (by decide) (fun s h => h.2.1 ("MoleculeRegistry$Reader", 146, "CNOSF", 2) (by decide))) ?_
  refine jx_ac (s_iload_n (jx_dc dd_30 2 rfl) rfl) ?_
  refine jx_ac (s_callvS (ce := 125) (Nat.le_of_ble_eq_true rfl) (by decide) gS_obj mc_125 (jx_dc dd_30 3 rfl) w_214 w_151 w_152 ⟨by decide, by decide⟩ np_125) ?_
  refine jx_ac (s_ishl (jx_dc dd_30 4 rfl)) ?_
  refine jx_ac (s_istore_n (jx_dc dd_30 5 rfl) rfl) ?_
  refine jx_ac (s_iconst (jx_dc dd_30 6 rfl) rfl) ?_
  refine jx_ac (s_istore_n (jx_dc dd_30 7 rfl) rfl) ?_
  refine jx_ac (s_iload_n (jx_dc dd_30 8 rfl) rfl) ?_
  refine jx_ac (s_iconst (jx_dc dd_30 9 rfl) rfl) ?_
  refine jx_ac (s_ige (jx_dc dd_30 10 rfl) rfl) ?_
  refine jx_ac (s_aload_n (jx_dc dd_30 11 rfl) rfl) ?_
  refine jx_ac (s_bipush (jx_dc dd_30 12 rfl) rfl) ?_
  refine jx_ac (s_callv (ce := 26) kk_3 mc_26 (jx_dc dd_30 13 rfl) w_202 w_203 w_204 ⟨by decide, by decide⟩ np_26) ?_
  refine jx_ac (s_ifeq (jx_dc dd_30 14 rfl) rfl) ?_
  refine jx_ac (s_ldcS (jx_dc dd_30 15 rfl) (by decide) (fun s h => h.2.1 ("MoleculeRegistry$Reader", 146, "CNOSF", 2) (by decide))) ?_
  refine jx_ac (s_aload_n (jx_dc dd_30 16 rfl) rfl) ?_
  refine jx_ac (s_callv (ce := 28) kk_3 mc_28 (jx_dc dd_30 17 rfl) w_205 w_206 w_207 ⟨by decide, by decide⟩ np_28) ?_
  refine jx_ac (s_callvS (ce := 125) (Nat.le_of_ble_eq_true rfl) (by decide) gS_obj mc_125 (jx_dc dd_30 18 rfl) w_214 w_151 w_152 ⟨by decide, by decide⟩ np_125) ?_
  refine jx_ac (s_istore (jx_dc dd_30 19 rfl)) ?_
  refine jx_ac (s_iload (jx_dc dd_30 20 rfl)) ?_
  refine jx_ac (s_ifge (jx_dc dd_30 21 rfl) rfl) ?_
  refine jx_ac (s_iconst (jx_dc dd_30 22 rfl) rfl) ?_
  refine jx_ac (s_zret rfl (jx_dc dd_30 23 rfl)) ?_
  refine jx_ac (s_iload_n (jx_dc dd_30 24 rfl) rfl) ?_
  refine jx_ac (s_iconst (jx_dc dd_30 25 rfl) rfl) ?_
  refine jx_ac (s_iload (jx_dc dd_30 26 rfl)) ?_
  refine jx_ac (s_ishl (jx_dc dd_30 27 rfl)) ?_
  refine jx_ac (s_ior (jx_dc dd_30 28 rfl)) ?_
  refine jx_ac (s_istore_n (jx_dc dd_30 29 rfl) rfl) ?_
  refine jx_ac (s_aload_n (jx_dc dd_30 30 rfl) rfl) ?_
  refine jx_ac (s_dup (jx_dc dd_30 31 rfl)) ?_
  refine jx_ac (s_getf kk_3 (k := 2) (Nat.le_of_ble_eq_true rfl) (jx_dc dd_30 32 rfl) w_179) ?_
  refine jx_ac (s_iconst (jx_dc dd_30 33 rfl) rfl) ?_
  refine jx_ac (s_iadd (jx_dc dd_30 34 rfl)) ?_
  refine jx_ac (s_putf kk_3 (k := 2) (Nat.le_of_ble_eq_true rfl) (jx_dc dd_30 35 rfl) (fun _ h => jx_okI_n _ h) rfl w_179) ?_
  refine jx_ac (s_iinc (jx_dc dd_30 36 rfl) rfl) ?_
  refine jx_ac (s_goto (jx_dc dd_30 37 rfl) rfl) ?_
  refine jx_ac (s_aload_n (jx_dc dd_30 38 rfl) rfl) ?_
  refine jx_ac (s_bipush (jx_dc dd_30 39 rfl) rfl) ?_
  exact jx_an
theorem A_30_1 : jx_All (jx_mk D c0 c1 c2 c3 c4 H0 ga L xs) jx_mt md_30 K_30_1 := by
  refine jx_ac (s_callv (ce := 26) kk_3 mc_26 (jx_dc dd_30 40 rfl) w_202 w_203 w_204 ⟨by decide, by decide⟩ np_26) ?_
  refine jx_ac (s_ifeq (jx_dc dd_30 41 rfl) rfl) ?_
  refine jx_ac (s_aload_n (jx_dc dd_30 42 rfl) rfl) ?_
  refine jx_ac (s_sipush (jx_dc dd_30 43 rfl) rfl) ?_
  refine jx_ac (s_iload_n (jx_dc dd_30 44 rfl) rfl) ?_
  refine jx_ac (s_iadd (jx_dc dd_30 45 rfl)) ?_
  refine jx_ac (s_iconst (jx_dc dd_30 46 rfl) rfl) ?_
  refine jx_ac (s_callv (ce := 31) kk_3 mc_31 (jx_dc dd_30 47 rfl) w_211 w_212 w_213 ⟨by decide, by decide⟩ np_31) ?_
  refine jx_ac (s_ifeq (jx_dc dd_30 48 rfl) rfl) ?_
  refine jx_ac (s_iconst (jx_dc dd_30 49 rfl) rfl) ?_
  refine jx_ac (s_goto (jx_dc dd_30 50 rfl) rfl) ?_
  refine jx_ac (s_iconst (jx_dc dd_30 51 rfl) rfl) ?_
  refine jx_ac (s_zret rfl (jx_dc dd_30 52 rfl)) ?_
  exact jx_an
theorem A_30 : jx_All (jx_mk D c0 c1 c2 c3 c4 H0 ga L xs) jx_mt md_30 K_30 := (jx_aa A_30_0 A_30_1)
def dl_31 : List (Nat × Instr × Nat) := [(0, .aload_n 0, 1), (1, .getfield 63, 3), (4, .bipush 40, 2), (6, .if_icmp .lt 5, 3), (9, .iconst 0, 1), (10, .ireturn, 1), (11, .aload_n 0, 1), (12, .getfield 15, 3), (15, .aload_n 0, 1), (16, .getfield 63, 3), (19, .iload_n 1, 1), (20, .iastore, 1), (21, .aload_n 0, 1), (22, .getfield 19, 3), (25, .aload_n 0, 1), (26, .getfield 63, 3), (29, .iload_n 2, 1), (30, .iastore, 1), (31, .aload_n 0, 1), (32, .dup, 1), (33, .getfield 63, 3), (36, .iconst 1, 1), (37, .iadd, 1), (38, .putfield 63, 3), (41, .iconst 1, 1), (42, .ireturn, 1)]
theorem dd_31 : ∀ q ∈ dl_31, decode prog_6_method_17_code q.1 = .ok q.2 := by decide +kernel
theorem A_31_0 : jx_All (jx_mk D c0 c1 c2 c3 c4 H0 ga L xs) jx_mt md_31 K_31_0 := by
  refine jx_ac (s_aload_n (jx_dc dd_31 0 rfl) rfl) ?_
  refine jx_ac (s_getf kk_3 (k := 6) (Nat.le_of_ble_eq_true rfl) (jx_dc dd_31 1 rfl) w_180) ?_
  refine jx_ac (s_bipush (jx_dc dd_31 2 rfl) rfl) ?_
  refine jx_ac (s_ilt (jx_dc dd_31 3 rfl) rfl) ?_
  refine jx_ac (s_iconst (jx_dc dd_31 4 rfl) rfl) ?_
  refine jx_ac (s_zret rfl (jx_dc dd_31 5 rfl)) ?_
  refine jx_ac (s_aload_n (jx_dc dd_31 6 rfl) rfl) ?_
  refine jx_ac (s_getf kk_3 (k := 4) (Nat.le_of_ble_eq_true rfl) (jx_dc dd_31 7 rfl) w_165) ?_
  refine jx_ac (s_aload_n (jx_dc dd_31 8 rfl) rfl) ?_
  refine jx_ac (s_getf kk_3 (k := 6) (Nat.le_of_ble_eq_true rfl) (jx_dc dd_31 9 rfl) w_180) ?_
  refine jx_ac (s_iload_n (jx_dc dd_31 10 rfl) rfl) ?_
  refine jx_ac (s_iast rfl (jx_dc dd_31 11 rfl)) ?_
  refine jx_ac (s_aload_n (jx_dc dd_31 12 rfl) rfl) ?_
  refine jx_ac (s_getf kk_3 (k := 5) (Nat.le_of_ble_eq_true rfl) (jx_dc dd_31 13 rfl) w_166) ?_
  refine jx_ac (s_aload_n (jx_dc dd_31 14 rfl) rfl) ?_
  refine jx_ac (s_getf kk_3 (k := 6) (Nat.le_of_ble_eq_true rfl) (jx_dc dd_31 15 rfl) w_180) ?_
  refine jx_ac (s_iload_n (jx_dc dd_31 16 rfl) rfl) ?_
  refine jx_ac (s_iast rfl (jx_dc dd_31 17 rfl)) ?_
  refine jx_ac (s_aload_n (jx_dc dd_31 18 rfl) rfl) ?_
  refine jx_ac (s_dup (jx_dc dd_31 19 rfl)) ?_
  refine jx_ac (s_getf kk_3 (k := 6) (Nat.le_of_ble_eq_true rfl) (jx_dc dd_31 20 rfl) w_180) ?_
  refine jx_ac (s_iconst (jx_dc dd_31 21 rfl) rfl) ?_
  refine jx_ac (s_iadd (jx_dc dd_31 22 rfl)) ?_
  refine jx_ac (s_putf kk_3 (k := 6) (Nat.le_of_ble_eq_true rfl) (jx_dc dd_31 23 rfl) (fun _ h => jx_okI_n _ h) rfl w_180) ?_
  refine jx_ac (s_iconst (jx_dc dd_31 24 rfl) rfl) ?_
  refine jx_ac (s_zret rfl (jx_dc dd_31 25 rfl)) ?_
  exact jx_an
theorem A_31 : jx_All (jx_mk D c0 c1 c2 c3 c4 H0 ga L xs) jx_mt md_31 K_31 :=  A_31_0
def dl_32 : List (Nat × Instr × Nat) := [(0, .aload_n 0, 1), (1, .bipush 72, 2), (3, .invokevirtual 118, 3), (6, .ifCond .ne 5, 3), (9, .iconst 0, 1), (10, .ireturn, 1), (11, .aload_n 0, 1), (12, .invokevirtual 114, 3), (15, .istore_n 1, 1), (16, .iload_n 1, 1), (17, .bipush 50, 2), (19, .if_icmp .lt 9, 3), (22, .iload_n 1, 1), (23, .bipush 52, 2), (25, .if_icmp .le 5, 3), (28, .iconst 1, 1), (29, .ireturn, 1), (30, .aload_n 0, 1), (31, .dup, 1), (32, .getfield 60, 3), (35, .iconst 1, 1), (36, .iadd, 1), (37, .putfield 60, 3), (40, .iload_n 1, 1), (41, .bipush 48, 2), (43, .isub, 1), (44, .ireturn, 1)]
theorem dd_32 : ∀ q ∈ dl_32, decode prog_6_method_20_code q.1 = .ok q.2 := by decide +kernel
theorem A_32_0 : jx_All (jx_mk D c0 c1 c2 c3 c4 H0 ga L xs) jx_mt md_32 K_32_0 := by
  refine jx_ac (s_aload_n (jx_dc dd_32 0 rfl) rfl) ?_
  refine jx_ac (s_bipush (jx_dc dd_32 1 rfl) rfl) ?_
  refine jx_ac (s_callv (ce := 26) kk_3 mc_26 (jx_dc dd_32 2 rfl) w_202 w_203 w_204 ⟨by decide, by decide⟩ np_26) ?_
  refine jx_ac (s_ifne (jx_dc dd_32 3 rfl) rfl) ?_
  refine jx_ac (s_iconst (jx_dc dd_32 4 rfl) rfl) ?_
  refine jx_ac (s_iret rfl (jx_dc dd_32 5 rfl)) ?_
  refine jx_ac (s_aload_n (jx_dc dd_32 6 rfl) rfl) ?_
  refine jx_ac (s_callv (ce := 28) kk_3 mc_28 (jx_dc dd_32 7 rfl) w_205 w_206 w_207 ⟨by decide, by decide⟩ np_28) ?_
  refine jx_ac (s_istore_n (jx_dc dd_32 8 rfl) rfl) ?_
  refine jx_ac (s_iload_n (jx_dc dd_32 9 rfl) rfl) ?_
  refine jx_ac (s_bipush (jx_dc dd_32 10 rfl) rfl) ?_
  refine jx_ac (s_ilt (jx_dc dd_32 11 rfl) rfl) ?_
  refine jx_ac (s_iload_n (jx_dc dd_32 12 rfl) rfl) ?_
  refine jx_ac (s_bipush (jx_dc dd_32 13 rfl) rfl) ?_
  refine jx_ac (s_ile (jx_dc dd_32 14 rfl) rfl) ?_
  refine jx_ac (s_iconst (jx_dc dd_32 15 rfl) rfl) ?_
  refine jx_ac (s_iret rfl (jx_dc dd_32 16 rfl)) ?_
  refine jx_ac (s_aload_n (jx_dc dd_32 17 rfl) rfl) ?_
  refine jx_ac (s_dup (jx_dc dd_32 18 rfl)) ?_
  refine jx_ac (s_getf kk_3 (k := 2) (Nat.le_of_ble_eq_true rfl) (jx_dc dd_32 19 rfl) w_179) ?_
  refine jx_ac (s_iconst (jx_dc dd_32 20 rfl) rfl) ?_
  refine jx_ac (s_iadd (jx_dc dd_32 21 rfl)) ?_
  refine jx_ac (s_putf kk_3 (k := 2) (Nat.le_of_ble_eq_true rfl) (jx_dc dd_32 22 rfl) (fun _ h => jx_okI_n _ h) rfl w_179) ?_
  refine jx_ac (s_iload_n (jx_dc dd_32 23 rfl) rfl) ?_
  refine jx_ac (s_bipush (jx_dc dd_32 24 rfl) rfl) ?_
  refine jx_ac (s_isub (jx_dc dd_32 25 rfl)) ?_
  refine jx_ac (s_iret rfl (jx_dc dd_32 26 rfl)) ?_
  exact jx_an
theorem A_32 : jx_All (jx_mk D c0 c1 c2 c3 c4 H0 ga L xs) jx_mt md_32 K_32 :=  A_32_0
def dl_33 : List (Nat × Instr × Nat) := [(0, .aload_n 0, 1), (1, .bipush 43, 2), (3, .invokevirtual 118, 3), (6, .ifCond .eq 7, 3), (9, .sipush 8192, 3), (12, .ireturn, 1), (13, .aload_n 0, 1), (14, .bipush 45, 2), (16, .invokevirtual 118, 3), (19, .ifCond .eq 7, 3), (22, .iconst 0, 1), (23, .goto 6, 3), (26, .sipush 4096, 3), (29, .ireturn, 1)]
theorem dd_33 : ∀ q ∈ dl_33, decode prog_6_method_21_code q.1 = .ok q.2 := by decide +kernel
theorem A_33_0 : jx_All (jx_mk D c0 c1 c2 c3 c4 H0 ga L xs) jx_mt md_33 K_33_0 := by
  refine jx_ac (s_aload_n (jx_dc dd_33 0 rfl) rfl) ?_
  refine jx_ac (s_bipush (jx_dc dd_33 1 rfl) rfl) ?_
  refine jx_ac (s_callv (ce := 26) kk_3 mc_26 (jx_dc dd_33 2 rfl) w_202 w_203 w_204 ⟨by decide, by decide⟩ np_26) ?_
  refine jx_ac (s_ifeq (jx_dc dd_33 3 rfl) rfl) ?_
  refine jx_ac (s_sipush (jx_dc dd_33 4 rfl) rfl) ?_
  refine jx_ac (s_iret rfl (jx_dc dd_33 5 rfl)) ?_
  refine jx_ac (s_aload_n (jx_dc dd_33 6 rfl) rfl) ?_
  refine jx_ac (s_bipush (jx_dc dd_33 7 rfl) rfl) ?_
  refine jx_ac (s_callv (ce := 26) kk_3 mc_26 (jx_dc dd_33 8 rfl) w_202 w_203 w_204 ⟨by decide, by decide⟩ np_26) ?_
  refine jx_ac (s_ifeq (jx_dc dd_33 9 rfl) rfl) ?_
  refine jx_ac (s_iconst (jx_dc dd_33 10 rfl) rfl) ?_
  refine jx_ac (s_goto (jx_dc dd_33 11 rfl) rfl) ?_
  refine jx_ac (s_sipush (jx_dc dd_33 12 rfl) rfl) ?_
  refine jx_ac (s_iret rfl (jx_dc dd_33 13 rfl)) ?_
  exact jx_an
theorem A_33 : jx_All (jx_mk D c0 c1 c2 c3 c4 H0 ga L xs) jx_mt md_33 K_33 :=  A_33_0
def dl_34 : List (Nat × Instr × Nat) := [(0, .aload_n 0, 1), (1, .iload_n 1, 1), (2, .iload_n 2, 1), (3, .iload_n 3, 1), (4, .invokevirtual 125, 3), (7, .istore 4, 2), (9, .iload_n 1, 1), (10, .iload_n 2, 1), (11, .if_icmp .eq 26, 3), (14, .iload 4, 2), (16, .ifCond .eq 21, 3), (19, .aload_n 0, 1), (20, .iload_n 1, 1), (21, .iload_n 2, 1), (22, .invokevirtual 129, 3), (25, .ifCond .ne 12, 3), (28, .aload_n 0, 1), (29, .getfield 66, 3), (32, .bipush 40, 2), (34, .if_icmp .lt 5, 3), (37, .iconst 0, 1), (38, .ireturn, 1), (39, .aload_n 0, 1), (40, .getfield 22, 3), (43, .aload_n 0, 1), (44, .getfield 66, 3), (47, .iload_n 1, 1), (48, .iastore, 1), (49, .aload_n 0, 1), (50, .getfield 25, 3), (53, .aload_n 0, 1), (54, .getfield 66, 3), (57, .iload_n 2, 1), (58, .iastore, 1), (59, .aload_n 0, 1), (60, .getfield 28, 3), (63, .aload_n 0, 1), (64, .getfield 66, 3), (67, .iload 4, 2), (69, .iastore, 1), (70, .aload_n 0, 1), (71, .dup, 1), (72, .getfield 66, 3), (75, .iconst 1, 1), (76, .iadd, 1), (77, .putfield 66, 3), (80, .iconst 1, 1), (81, .ireturn, 1)]
theorem dd_34 : ∀ q ∈ dl_34, decode prog_6_method_13_code q.1 = .ok q.2 := by decide +kernel
theorem A_34_0 : jx_All (jx_mk D c0 c1 c2 c3 c4 H0 ga L xs) jx_mt md_34 K_34_0 := by
  refine jx_ac (s_aload_n (jx_dc dd_34 0 rfl) rfl) ?_
  refine jx_ac (s_iload_n (jx_dc dd_34 1 rfl) rfl) ?_
  refine jx_ac (s_iload_n (jx_dc dd_34 2 rfl) rfl) ?_
  refine jx_ac (s_iload_n (jx_dc dd_34 3 rfl) rfl) ?_
  refine jx_ac (s_callv (ce := 35) kk_3 mc_35 (jx_dc dd_34 4 rfl) w_224 w_225 w_226 ⟨by decide, by decide⟩ np_35) ?_
  refine jx_ac (s_istore (jx_dc dd_34 5 rfl)) ?_
  refine jx_ac (s_iload_n (jx_dc dd_34 6 rfl) rfl) ?_
  refine jx_ac (s_iload_n (jx_dc dd_34 7 rfl) rfl) ?_
  refine jx_ac (s_ieq (jx_dc dd_34 8 rfl) rfl) ?_
  refine jx_ac (s_iload (jx_dc dd_34 9 rfl)) ?_
  refine jx_ac (s_ifeq (jx_dc dd_34 10 rfl) rfl) ?_
  refine jx_ac (s_aload_n (jx_dc dd_34 11 rfl) rfl) ?_
  refine jx_ac (s_iload_n (jx_dc dd_34 12 rfl) rfl) ?_
  refine jx_ac (s_iload_n (jx_dc dd_34 13 rfl) rfl) ?_
  refine jx_ac (s_callv (ce := 36) kk_3 mc_36 (jx_dc dd_34 14 rfl) w_227 w_228 w_229 ⟨by decide, by decide⟩ np_36) ?_
  refine jx_ac (s_ifne (jx_dc dd_34 15 rfl) rfl) ?_
  refine jx_ac (s_aload_n (jx_dc dd_34 16 rfl) rfl) ?_
  refine jx_ac (s_getf kk_3 (k := 10) (Nat.le_of_ble_eq_true rfl) (jx_dc dd_34 17 rfl) w_181) ?_
  refine jx_ac (s_bipush (jx_dc dd_34 18 rfl) rfl) ?_
  refine jx_ac (s_ilt (jx_dc dd_34 19 rfl) rfl) ?_
  refine jx_ac (s_iconst (jx_dc dd_34 20 rfl) rfl) ?_
  refine jx_ac (s_zret rfl (jx_dc dd_34 21 rfl)) ?_
  refine jx_ac (s_aload_n (jx_dc dd_34 22 rfl) rfl) ?_
  refine jx_ac (s_getf kk_3 (k := 7) (Nat.le_of_ble_eq_true rfl) (jx_dc dd_34 23 rfl) w_167) ?_
  refine jx_ac (s_aload_n (jx_dc dd_34 24 rfl) rfl) ?_
  refine jx_ac (s_getf kk_3 (k := 10) (Nat.le_of_ble_eq_true rfl) (jx_dc dd_34 25 rfl) w_181) ?_
  refine jx_ac (s_iload_n (jx_dc dd_34 26 rfl) rfl) ?_
  refine jx_ac (s_iast rfl (jx_dc dd_34 27 rfl)) ?_
  refine jx_ac (s_aload_n (jx_dc dd_34 28 rfl) rfl) ?_
  refine jx_ac (s_getf kk_3 (k := 8) (Nat.le_of_ble_eq_true rfl) (jx_dc dd_34 29 rfl) w_168) ?_
  refine jx_ac (s_aload_n (jx_dc dd_34 30 rfl) rfl) ?_
  refine jx_ac (s_getf kk_3 (k := 10) (Nat.le_of_ble_eq_true rfl) (jx_dc dd_34 31 rfl) w_181) ?_
  refine jx_ac (s_iload_n (jx_dc dd_34 32 rfl) rfl) ?_
  refine jx_ac (s_iast rfl (jx_dc dd_34 33 rfl)) ?_
  refine jx_ac (s_aload_n (jx_dc dd_34 34 rfl) rfl) ?_
  refine jx_ac (s_getf kk_3 (k := 9) (Nat.le_of_ble_eq_true rfl) (jx_dc dd_34 35 rfl) w_169) ?_
  refine jx_ac (s_aload_n (jx_dc dd_34 36 rfl) rfl) ?_
  refine jx_ac (s_getf kk_3 (k := 10) (Nat.le_of_ble_eq_true rfl) (jx_dc dd_34 37 rfl) w_181) ?_
  refine jx_ac (s_iload (jx_dc dd_34 38 rfl)) ?_
  refine jx_ac (s_iast rfl (jx_dc dd_34 39 rfl)) ?_
  exact jx_an
theorem A_34_1 : jx_All (jx_mk D c0 c1 c2 c3 c4 H0 ga L xs) jx_mt md_34 K_34_1 := by
  refine jx_ac (s_aload_n (jx_dc dd_34 40 rfl) rfl) ?_
  refine jx_ac (s_dup (jx_dc dd_34 41 rfl)) ?_
  refine jx_ac (s_getf kk_3 (k := 10) (Nat.le_of_ble_eq_true rfl) (jx_dc dd_34 42 rfl) w_181) ?_
  refine jx_ac (s_iconst (jx_dc dd_34 43 rfl) rfl) ?_
  refine jx_ac (s_iadd (jx_dc dd_34 44 rfl)) ?_
  refine jx_ac (s_putf kk_3 (k := 10) (Nat.le_of_ble_eq_true rfl) (jx_dc dd_34 45 rfl) (fun _ h => jx_okI_n _ h) rfl w_181) ?_
  refine jx_ac (s_iconst (jx_dc dd_34 46 rfl) rfl) ?_
  refine jx_ac (s_zret rfl (jx_dc dd_34 47 rfl)) ?_
  exact jx_an
theorem A_34 : jx_All (jx_mk D c0 c1 c2 c3 c4 H0 ga L xs) jx_mt md_34 K_34 := (jx_aa A_34_0 A_34_1)
def dl_35 : List (Nat × Instr × Nat) := [(0, .aload_n 0, 1), (1, .getfield 15, 3), (4, .iload_n 1, 1), (5, .iaload, 1), (6, .aload_n 0, 1), (7, .getfield 15, 3), (10, .iload_n 2, 1), (11, .iaload, 1), (12, .ior, 1), (13, .istore 4, 2), (15, .iload_n 3, 1), (16, .ifCond .ne 29, 3), (19, .aload_n 0, 1), (20, .getfield 15, 3), (23, .iload_n 1, 1), (24, .iaload, 1), (25, .aload_n 0, 1), (26, .getfield 15, 3), (29, .iload_n 2, 1), (30, .iaload, 1), (31, .iand, 1), (32, .sipush 128, 3), (35, .iand, 1), (36, .ifCond .eq 7, 3), (39, .iconst 4, 1), (40, .goto 4, 3), (43, .iconst 1, 1), (44, .ireturn, 1), (45, .iload_n 3, 1), (46, .iconst 2, 1), (47, .if_icmp .eq 8, 3), (50, .iload_n 3, 1), (51, .iconst 3, 1), (52, .if_icmp .ne 27, 3), (55, .iload 4, 2), (57, .sipush 128, 3), (60, .iand, 1), (61, .ifCond .eq 16, 3), (64, .iload 4, 2), (66, .sipush 16384, 3), (69, .iand, 1), (70, .ifCond .ne 7, 3), (73, .iconst 0, 1), (74, .goto 4, 3), (77, .iload_n 3, 1), (78, .ireturn, 1), (79, .iload_n 3, 1), (80, .ireturn, 1)]
theorem dd_35 : ∀ q ∈ dl_35, decode prog_6_method_15_code q.1 = .ok q.2 := by decide +kernel
theorem A_35_0 : jx_All (jx_mk D c0 c1 c2 c3 c4 H0 ga L xs) jx_mt md_35 K_35_0 := by
  refine jx_ac (s_aload_n (jx_dc dd_35 0 rfl) rfl) ?_
  refine jx_ac (s_getf kk_3 (k := 4) (Nat.le_of_ble_eq_true rfl) (jx_dc dd_35 1 rfl) w_165) ?_
  refine jx_ac (s_iload_n (jx_dc dd_35 2 rfl) rfl) ?_
  refine jx_ac (s_iald rfl (jx_dc dd_35 3 rfl)) ?_
  refine jx_ac (s_aload_n (jx_dc dd_35 4 rfl) rfl) ?_
  refine jx_ac (s_getf kk_3 (k := 4) (Nat.le_of_ble_eq_true rfl) (jx_dc dd_35 5 rfl) w_165) ?_
  refine jx_ac (s_iload_n (jx_dc dd_35 6 rfl) rfl) ?_
  refine jx_ac (s_iald rfl (jx_dc dd_35 7 rfl)) ?_
  refine jx_ac (s_ior (jx_dc dd_35 8 rfl)) ?_
  refine jx_ac (s_istore (jx_dc dd_35 9 rfl)) ?_
  refine jx_ac (s_iload_n (jx_dc dd_35 10 rfl) rfl) ?_
  refine jx_ac (s_ifne (jx_dc dd_35 11 rfl) rfl) ?_
  refine jx_ac (s_aload_n (jx_dc dd_35 12 rfl) rfl) ?_
  refine jx_ac (s_getf kk_3 (k := 4) (Nat.le_of_ble_eq_true rfl) (jx_dc dd_35 13 rfl) w_165) ?_
  refine jx_ac (s_iload_n (jx_dc dd_35 14 rfl) rfl) ?_
  refine jx_ac (s_iald rfl (jx_dc dd_35 15 rfl)) ?_
  refine jx_ac (s_aload_n (jx_dc dd_35 16 rfl) rfl) ?_
  refine jx_ac (s_getf kk_3 (k := 4) (Nat.le_of_ble_eq_true rfl) (jx_dc dd_35 17 rfl) w_165) ?_
  refine jx_ac (s_iload_n (jx_dc dd_35 18 rfl) rfl) ?_
  refine jx_ac (s_iald rfl (jx_dc dd_35 19 rfl)) ?_
  refine jx_ac (s_iand (jx_dc dd_35 20 rfl)) ?_
  refine jx_ac (s_sipush (jx_dc dd_35 21 rfl) rfl) ?_
  refine jx_ac (s_iand (jx_dc dd_35 22 rfl)) ?_
  refine jx_ac (s_ifeq (jx_dc dd_35 23 rfl) rfl) ?_
  refine jx_ac (s_iconst (jx_dc dd_35 24 rfl) rfl) ?_
  refine jx_ac (s_goto (jx_dc dd_35 25 rfl) rfl) ?_
  refine jx_ac (s_iconst (jx_dc dd_35 26 rfl) rfl) ?_
  refine jx_ac (s_iret rfl (jx_dc dd_35 27 rfl)) ?_
  refine jx_ac (s_iload_n (jx_dc dd_35 28 rfl) rfl) ?_
  refine jx_ac (s_iconst (jx_dc dd_35 29 rfl) rfl) ?_
  refine jx_ac (s_ieq (jx_dc dd_35 30 rfl) rfl) ?_
  refine jx_ac (s_iload_n (jx_dc dd_35 31 rfl) rfl) ?_
  refine jx_ac (s_iconst (jx_dc dd_35 32 rfl) rfl) ?_
  refine jx_ac (s_ine (jx_dc dd_35 33 rfl) rfl) ?_
  refine jx_ac (s_iload (jx_dc dd_35 34 rfl)) ?_
  refine jx_ac (s_sipush (jx_dc dd_35 35 rfl) rfl) ?_
  refine jx_ac (s_iand (jx_dc dd_35 36 rfl)) ?_
  refine jx_ac (s_ifeq (jx_dc dd_35 37 rfl) rfl) ?_
  refine jx_ac (s_iload (jx_dc dd_35 38 rfl)) ?_
  refine jx_ac (s_sipush (jx_dc dd_35 39 rfl) rfl) ?_
  exact jx_an
theorem A_35_1 : jx_All (jx_mk D c0 c1 c2 c3 c4 H0 ga L xs) jx_mt md_35 K_35_1 := by
  refine jx_ac (s_iand (jx_dc dd_35 40 rfl)) ?_
  refine jx_ac (s_ifne (jx_dc dd_35 41 rfl) rfl) ?_
  refine jx_ac (s_iconst (jx_dc dd_35 42 rfl) rfl) ?_
  refine jx_ac (s_goto (jx_dc dd_35 43 rfl) rfl) ?_
  refine jx_ac (s_iload_n (jx_dc dd_35 44 rfl) rfl) ?_
  refine jx_ac (s_iret rfl (jx_dc dd_35 45 rfl)) ?_
  refine jx_ac (s_iload_n (jx_dc dd_35 46 rfl) rfl) ?_
  refine jx_ac (s_iret rfl (jx_dc dd_35 47 rfl)) ?_
  exact jx_an
theorem A_35 : jx_All (jx_mk D c0 c1 c2 c3 c4 H0 ga L xs) jx_mt md_35 K_35 := (jx_aa A_35_0 A_35_1)
def dl_36 : List (Nat × Instr × Nat) := [(0, .iconst 0, 1), (1, .istore_n 3, 1), (2, .iload_n 3, 1), (3, .aload_n 0, 1), (4, .getfield 66, 3), (7, .if_icmp .ge 63, 3), (10, .aload_n 0, 1), (11, .getfield 22, 3), (14, .iload_n 3, 1), (15, .iaload, 1), (16, .iload_n 1, 1), (17, .if_icmp .ne 17, 3), (20, .aload_n 0, 1), (21, .getfield 25, 3), (24, .iload_n 3, 1), (25, .iaload, 1), (26, .iload_n 2, 1), (27, .if_icmp .ne 7, 3), (30, .iconst 1, 1), (31, .goto 4, 3), (34, .iconst 0, 1), (35, .istore 4, 2), (37, .iload 4, 2), (39, .ifCond .ne 23, 3), (42, .aload_n 0, 1), (43, .getfield 22, 3), (46, .iload_n 3, 1), (47, .iaload, 1), (48, .iload_n 2, 1), (49, .if_icmp .ne 15, 3), (52, .aload_n 0, 1), (53, .getfield 25, 3), (56, .iload_n 3, 1), (57, .iaload, 1), (58, .iload_n 1, 1), (59, .if_icmp .ne 5, 3), (62, .iconst 1, 1), (63, .ireturn, 1), (64, .iinc 3 1, 3), (67, .goto (-65), 3), (70, .iconst 0, 1), (71, .ireturn, 1)]
theorem dd_36 : ∀ q ∈ dl_36, decode prog_6_method_14_code q.1 = .ok q.2 := by decide +kernel
theorem A_36_0 : jx_All (jx_mk D c0 c1 c2 c3 c4 H0 ga L xs) jx_mt md_36 K_36_0 := by
  refine jx_ac (s_iconst (jx_dc dd_36 0 rfl) rfl) ?_
  refine jx_ac (s_istore_n (jx_dc dd_36 1 rfl) rfl) ?_
  refine jx_ac (s_iload_n (jx_dc dd_36 2 rfl) rfl) ?_
  refine jx_ac (s_aload_n (jx_dc dd_36 3 rfl) rfl) ?_
  refine jx_ac (s_getf kk_3 (k := 10) (Nat.le_of_ble_eq_true rfl) (jx_dc dd_36 4 rfl) w_181) ?_
  refine jx_ac (s_ige (jx_dc dd_36 5 rfl) rfl) ?_
  refine jx_ac (s_aload_n (jx_dc dd_36 6 rfl) rfl) ?_
  refine jx_ac (s_getf kk_3 (k := 7) (Nat.le_of_ble_eq_true rfl) (jx_dc dd_36 7 rfl) w_167) ?_
  refine jx_ac (s_iload_n (jx_dc dd_36 8 rfl) rfl) ?_
  refine jx_ac (s_iald rfl (jx_dc dd_36 9 rfl)) ?_
  refine jx_ac (s_iload_n (jx_dc dd_36 10 rfl) rfl) ?_
  refine jx_ac (s_ine (jx_dc dd_36 11 rfl) rfl) ?_
  refine jx_ac (s_aload_n (jx_dc dd_36 12 rfl) rfl) ?_
  refine jx_ac (s_getf kk_3 (k := 8) (Nat.le_of_ble_eq_true rfl) (jx_dc dd_36 13 rfl) w_168) ?_
  refine jx_ac (s_iload_n (jx_dc dd_36 14 rfl) rfl) ?_
  refine jx_ac (s_iald rfl (jx_dc dd_36 15 rfl)) ?_
  refine jx_ac (s_iload_n (jx_dc dd_36 16 rfl) rfl) ?_
  refine jx_ac (s_ine (jx_dc dd_36 17 rfl) rfl) ?_
  refine jx_ac (s_iconst (jx_dc dd_36 18 rfl) rfl) ?_
  refine jx_ac (s_goto (jx_dc dd_36 19 rfl) rfl) ?_
  refine jx_ac (s_iconst (jx_dc dd_36 20 rfl) rfl) ?_
  refine jx_ac (s_istore (jx_dc dd_36 21 rfl)) ?_
  refine jx_ac (s_iload (jx_dc dd_36 22 rfl)) ?_
  refine jx_ac (s_ifne (jx_dc dd_36 23 rfl) rfl) ?_
  refine jx_ac (s_aload_n (jx_dc dd_36 24 rfl) rfl) ?_
  refine jx_ac (s_getf kk_3 (k := 7) (Nat.le_of_ble_eq_true rfl) (jx_dc dd_36 25 rfl) w_167) ?_
  refine jx_ac (s_iload_n (jx_dc dd_36 26 rfl) rfl) ?_
  refine jx_ac (s_iald rfl (jx_dc dd_36 27 rfl)) ?_
  refine jx_ac (s_iload_n (jx_dc dd_36 28 rfl) rfl) ?_
  refine jx_ac (s_ine (jx_dc dd_36 29 rfl) rfl) ?_
  refine jx_ac (s_aload_n (jx_dc dd_36 30 rfl) rfl) ?_
  refine jx_ac (s_getf kk_3 (k := 8) (Nat.le_of_ble_eq_true rfl) (jx_dc dd_36 31 rfl) w_168) ?_
  refine jx_ac (s_iload_n (jx_dc dd_36 32 rfl) rfl) ?_
  refine jx_ac (s_iald rfl (jx_dc dd_36 33 rfl)) ?_
  refine jx_ac (s_iload_n (jx_dc dd_36 34 rfl) rfl) ?_
  refine jx_ac (s_ine (jx_dc dd_36 35 rfl) rfl) ?_
  refine jx_ac (s_iconst (jx_dc dd_36 36 rfl) rfl) ?_
  refine jx_ac (s_zret rfl (jx_dc dd_36 37 rfl)) ?_
  refine jx_ac (s_iinc (jx_dc dd_36 38 rfl) rfl) ?_
  refine jx_ac (s_goto (jx_dc dd_36 39 rfl) rfl) ?_
  exact jx_an
theorem A_36_1 : jx_All (jx_mk D c0 c1 c2 c3 c4 H0 ga L xs) jx_mt md_36 K_36_1 := by
  refine jx_ac (s_iconst (jx_dc dd_36 40 rfl) rfl) ?_
  refine jx_ac (s_zret rfl (jx_dc dd_36 41 rfl)) ?_
  exact jx_an
theorem A_36 : jx_All (jx_mk D c0 c1 c2 c3 c4 H0 ga L xs) jx_mt md_36 K_36 := (jx_aa A_36_0 A_36_1)
def dl_37 : List (Nat × Instr × Nat) := [(0, .iconst 0, 1), (1, .istore_n 2, 1), (2, .iload_n 2, 1), (3, .bipush 40, 2), (5, .if_icmp .ge 74, 3), (8, .aload_n 0, 1), (9, .getfield 60, 3), (12, .istore_n 3, 1), (13, .aload_n 0, 1), (14, .invokevirtual 91, 3), (17, .istore 4, 2), (19, .aload_n 0, 1), (20, .invokevirtual 114, 3), (23, .istore 5, 2), (25, .iload 5, 2), (27, .bipush 49, 2), (29, .if_icmp .lt 10, 3), (32, .iload 5, 2), (34, .bipush 57, 2), (36, .if_icmp .le 10, 3), (39, .aload_n 0, 1), (40, .iload_n 3, 1), (41, .putfield 60, 3), (44, .iconst 1, 1), (45, .ireturn, 1), (46, .aload_n 0, 1), (47, .dup, 1), (48, .getfield 60, 3), (51, .iconst 1, 1), (52, .iadd, 1), (53, .putfield 60, 3), (56, .aload_n 0, 1), (57, .iload 5, 2), (59, .bipush 48, 2), (61, .isub, 1), (62, .iload_n 1, 1), (63, .iload 4, 2), (65, .invokevirtual 122, 3), (68, .ifCond .ne 5, 3), (71, .iconst 0, 1), (72, .ireturn, 1), (73, .iinc 2 1, 3), (76, .goto (-74), 3), (79, .iconst 1, 1), (80, .ireturn, 1)]
theorem dd_37 : ∀ q ∈ dl_37, decode prog_6_method_10_code q.1 = .ok q.2 := by decide +kernel
theorem A_37_0 : jx_All (jx_mk D c0 c1 c2 c3 c4 H0 ga L xs) jx_mt md_37 K_37_0 := by
  refine jx_ac (s_iconst (jx_dc dd_37 0 rfl) rfl) ?_
  refine jx_ac (s_istore_n (jx_dc dd_37 1 rfl) rfl) ?_
  refine jx_ac (s_iload_n (jx_dc dd_37 2 rfl) rfl) ?_
  refine jx_ac (s_bipush (jx_dc dd_37 3 rfl) rfl) ?_
  refine jx_ac (s_ige (jx_dc dd_37 4 rfl) rfl) ?_
  refine jx_ac (s_aload_n (jx_dc dd_37 5 rfl) rfl) ?_
  refine jx_ac (s_getf kk_3 (k := 2) (Nat.le_of_ble_eq_true rfl) (jx_dc dd_37 6 rfl) w_179) ?_
  refine jx_ac (s_istore_n (jx_dc dd_37 7 rfl) rfl) ?_
  refine jx_ac (s_aload_n (jx_dc dd_37 8 rfl) rfl) ?_
  refine jx_ac (s_callv (ce := 25) kk_3 mc_25 (jx_dc dd_37 9 rfl) w_184 w_185 w_186 ⟨by decide, by decide⟩ np_25) ?_
  refine jx_ac (s_istore (jx_dc dd_37 10 rfl)) ?_
  refine jx_ac (s_aload_n (jx_dc dd_37 11 rfl) rfl) ?_
  refine jx_ac (s_callv (ce := 28) kk_3 mc_28 (jx_dc dd_37 12 rfl) w_205 w_206 w_207 ⟨by decide, by decide⟩ np_28) ?_
  refine jx_ac (s_istore (jx_dc dd_37 13 rfl)) ?_
  refine jx_ac (s_iload (jx_dc dd_37 14 rfl)) ?_
  refine jx_ac (s_bipush (jx_dc dd_37 15 rfl) rfl) ?_
  refine jx_ac (s_ilt (jx_dc dd_37 16 rfl) rfl) ?_
  refine jx_ac (s_iload (jx_dc dd_37 17 rfl)) ?_
  refine jx_ac (s_bipush (jx_dc dd_37 18 rfl) rfl) ?_
  refine jx_ac (s_ile (jx_dc dd_37 19 rfl) rfl) ?_
  refine jx_ac (s_aload_n (jx_dc dd_37 20 rfl) rfl) ?_
  refine jx_ac (s_iload_n (jx_dc dd_37 21 rfl) rfl) ?_
  refine jx_ac (s_putf kk_3 (k := 2) (Nat.le_of_ble_eq_true rfl) (jx_dc dd_37 22 rfl) (fun _ h => jx_okI_n _ h) rfl w_179) ?_
  refine jx_ac (s_iconst (jx_dc dd_37 23 rfl) rfl) ?_
  refine jx_ac (s_zret rfl (jx_dc dd_37 24 rfl)) ?_
  refine jx_ac (s_aload_n (jx_dc dd_37 25 rfl) rfl) ?_
  refine jx_ac (s_dup (jx_dc dd_37 26 rfl)) ?_
  refine jx_ac (s_getf kk_3 (k := 2) (Nat.le_of_ble_eq_true rfl) (jx_dc dd_37 27 rfl) w_179) ?_
  refine jx_ac (s_iconst (jx_dc dd_37 28 rfl) rfl) ?_
  refine jx_ac (s_iadd (jx_dc dd_37 29 rfl)) ?_
  refine jx_ac (s_putf kk_3 (k := 2) (Nat.le_of_ble_eq_true rfl) (jx_dc dd_37 30 rfl) (fun _ h => jx_okI_n _ h) rfl w_179) ?_
  refine jx_ac (s_aload_n (jx_dc dd_37 31 rfl) rfl) ?_
  refine jx_ac (s_iload (jx_dc dd_37 32 rfl)) ?_
  refine jx_ac (s_bipush (jx_dc dd_37 33 rfl) rfl) ?_
  refine jx_ac (s_isub (jx_dc dd_37 34 rfl)) ?_
  refine jx_ac (s_iload_n (jx_dc dd_37 35 rfl) rfl) ?_
  refine jx_ac (s_iload (jx_dc dd_37 36 rfl)) ?_
  refine jx_ac (s_callv (ce := 38) kk_3 mc_38 (jx_dc dd_37 37 rfl) w_230 w_231 w_232 ⟨by decide, by decide⟩ np_38) ?_
  refine jx_ac (s_ifne (jx_dc dd_37 38 rfl) rfl) ?_
  refine jx_ac (s_iconst (jx_dc dd_37 39 rfl) rfl) ?_
  exact jx_an
theorem A_37_1 : jx_All (jx_mk D c0 c1 c2 c3 c4 H0 ga L xs) jx_mt md_37 K_37_1 := by
  refine jx_ac (s_zret rfl (jx_dc dd_37 40 rfl)) ?_
  refine jx_ac (s_iinc (jx_dc dd_37 41 rfl) rfl) ?_
  refine jx_ac (s_goto (jx_dc dd_37 42 rfl) rfl) ?_
  refine jx_ac (s_iconst (jx_dc dd_37 43 rfl) rfl) ?_
  refine jx_ac (s_zret rfl (jx_dc dd_37 44 rfl)) ?_
  exact jx_an
theorem A_37 : jx_All (jx_mk D c0 c1 c2 c3 c4 H0 ga L xs) jx_mt md_37 K_37 := (jx_aa A_37_0 A_37_1)
def dl_38 : List (Nat × Instr × Nat) := [(0, .aload_n 0, 1), (1, .getfield 31, 3), (4, .iload_n 1, 1), (5, .iaload, 1), (6, .istore 4, 2), (8, .iload 4, 2), (10, .iconst (-1), 1), (11, .if_icmp .ne 19, 3), (14, .aload_n 0, 1), (15, .getfield 31, 3), (18, .iload_n 1, 1), (19, .iload_n 2, 1), (20, .iastore, 1), (21, .aload_n 0, 1), (22, .getfield 34, 3), (25, .iload_n 1, 1), (26, .iload_n 3, 1), (27, .iastore, 1), (28, .iconst 1, 1), (29, .ireturn, 1), (30, .aload_n 0, 1), (31, .getfield 31, 3), (34, .iload_n 1, 1), (35, .iconst (-1), 1), (36, .iastore, 1), (37, .aload_n 0, 1), (38, .getfield 34, 3), (41, .iload_n 1, 1), (42, .iaload, 1), (43, .istore 5, 2), (45, .iload 5, 2), (47, .ifCond .eq 15, 3), (50, .iload_n 3, 1), (51, .ifCond .eq 11, 3), (54, .iload 5, 2), (56, .iload_n 3, 1), (57, .if_icmp .eq 5, 3), (60, .iconst 0, 1), (61, .ireturn, 1), (62, .aload_n 0, 1), (63, .iload 4, 2), (65, .iload_n 2, 1), (66, .iload 5, 2), (68, .ifCond .ne 7, 3), (71, .iload_n 3, 1), (72, .goto 5, 3), (75, .iload 5, 2), (77, .invokevirtual 99, 3), (80, .ireturn, 1)]
theorem dd_38 : ∀ q ∈ dl_38, decode prog_6_method_11_code q.1 = .ok q.2 := by decide +kernel
theorem A_38_0 : jx_All (jx_mk D c0 c1 c2 c3 c4 H0 ga L xs) jx_mt md_38 K_38_0 := by
  refine jx_ac (s_aload_n (jx_dc dd_38 0 rfl) rfl) ?_
  refine jx_ac (s_getf kk_3 (k := 11) (Nat.le_of_ble_eq_true rfl) (jx_dc dd_38 1 rfl) w_170) ?_
  refine jx_ac (s_iload_n (jx_dc dd_38 2 rfl) rfl) ?_
  refine jx_ac (s_iald rfl (jx_dc dd_38 3 rfl)) ?_
  refine jx_ac (s_istore (jx_dc dd_38 4 rfl)) ?_
  refine jx_ac (s_iload (jx_dc dd_38 5 rfl)) ?_
  refine jx_ac (s_iconst (jx_dc dd_38 6 rfl) rfl) ?_
  refine jx_ac (s_ine (jx_dc dd_38 7 rfl) rfl) ?_
  refine jx_ac (s_aload_n (jx_dc dd_38 8 rfl) rfl) ?_
  refine jx_ac (s_getf kk_3 (k := 11) (Nat.le_of_ble_eq_true rfl) (jx_dc dd_38 9 rfl) w_170) ?_
  refine jx_ac (s_iload_n (jx_dc dd_38 10 rfl) rfl) ?_
  refine jx_ac (s_iload_n (jx_dc dd_38 11 rfl) rfl) ?_
  refine jx_ac (s_iast rfl (jx_dc dd_38 12 rfl)) ?_
  refine jx_ac (s_aload_n (jx_dc dd_38 13 rfl) rfl) ?_
  refine jx_ac (s_getf kk_3 (k := 12) (Nat.le_of_ble_eq_true rfl) (jx_dc dd_38 14 rfl) w_171) ?_
  refine jx_ac (s_iload_n (jx_dc dd_38 15 rfl) rfl) ?_
  refine jx_ac (s_iload_n (jx_dc dd_38 16 rfl) rfl) ?_
  refine jx_ac (s_iast rfl (jx_dc dd_38 17 rfl)) ?_
  refine jx_ac (s_iconst (jx_dc dd_38 18 rfl) rfl) ?_
  refine jx_ac (s_zret rfl (jx_dc dd_38 19 rfl)) ?_
  refine jx_ac (s_aload_n (jx_dc dd_38 20 rfl) rfl) ?_
  refine jx_ac (s_getf kk_3 (k := 11) (Nat.le_of_ble_eq_true rfl) (jx_dc dd_38 21 rfl) w_170) ?_
  refine jx_ac (s_iload_n (jx_dc dd_38 22 rfl) rfl) ?_
  refine jx_ac (s_iconst (jx_dc dd_38 23 rfl) rfl) ?_
  refine jx_ac (s_iast rfl (jx_dc dd_38 24 rfl)) ?_
  refine jx_ac (s_aload_n (jx_dc dd_38 25 rfl) rfl) ?_
  refine jx_ac (s_getf kk_3 (k := 12) (Nat.le_of_ble_eq_true rfl) (jx_dc dd_38 26 rfl) w_171) ?_
  refine jx_ac (s_iload_n (jx_dc dd_38 27 rfl) rfl) ?_
  refine jx_ac (s_iald rfl (jx_dc dd_38 28 rfl)) ?_
  refine jx_ac (s_istore (jx_dc dd_38 29 rfl)) ?_
  refine jx_ac (s_iload (jx_dc dd_38 30 rfl)) ?_
  refine jx_ac (s_ifeq (jx_dc dd_38 31 rfl) rfl) ?_
  refine jx_ac (s_iload_n (jx_dc dd_38 32 rfl) rfl) ?_
  refine jx_ac (s_ifeq (jx_dc dd_38 33 rfl) rfl) ?_
  refine jx_ac (s_iload (jx_dc dd_38 34 rfl)) ?_
  refine jx_ac (s_iload_n (jx_dc dd_38 35 rfl) rfl) ?_
  refine jx_ac (s_ieq (jx_dc dd_38 36 rfl) rfl) ?_
  refine jx_ac (s_iconst (jx_dc dd_38 37 rfl) rfl) ?_
  refine jx_ac (s_zret rfl (jx_dc dd_38 38 rfl)) ?_
  refine jx_ac (s_aload_n (jx_dc dd_38 39 rfl) rfl) ?_
  exact jx_an
theorem A_38_1 : jx_All (jx_mk D c0 c1 c2 c3 c4 H0 ga L xs) jx_mt md_38 K_38_1 := by
  refine jx_ac (s_iload (jx_dc dd_38 40 rfl)) ?_
  refine jx_ac (s_iload_n (jx_dc dd_38 41 rfl) rfl) ?_
  refine jx_ac (s_iload (jx_dc dd_38 42 rfl)) ?_
  refine jx_ac (s_ifne (jx_dc dd_38 43 rfl) rfl) ?_
  refine jx_ac (s_iload_n (jx_dc dd_38 44 rfl) rfl) ?_
  refine jx_ac (s_goto (jx_dc dd_38 45 rfl) rfl) ?_
  refine jx_ac (s_iload (jx_dc dd_38 46 rfl)) ?_
  refine jx_ac (s_callv (ce := 34) kk_3 mc_34 (jx_dc dd_38 47 rfl) w_190 w_191 w_192 ⟨by decide, by decide⟩ np_34) ?_
  refine jx_ac (s_zret rfl (jx_dc dd_38 48 rfl)) ?_
  exact jx_an
theorem A_38 : jx_All (jx_mk D c0 c1 c2 c3 c4 H0 ga L xs) jx_mt md_38 K_38 := (jx_aa A_38_0 A_38_1)
def dl_39 : List (Nat × Instr × Nat) := [(0, .iload_n 1, 1), (1, .istore_n 2, 1), (2, .iconst 0, 1), (3, .istore_n 3, 1), (4, .iload_n 3, 1), (5, .bipush 40, 2), (7, .if_icmp .ge 57, 3), (10, .aload_n 0, 1), (11, .invokevirtual 114, 3), (14, .bipush 41, 2), (16, .if_icmp .ne 48, 3), (19, .aload_n 0, 1), (20, .getfield 69, 3), (23, .ifCond .ne 5, 3), (26, .iconst (-1), 1), (27, .ireturn, 1), (28, .aload_n 0, 1), (29, .dup, 1), (30, .getfield 69, 3), (33, .iconst 1, 1), (34, .isub, 1), (35, .putfield 69, 3), (38, .aload_n 0, 1), (39, .getfield 37, 3), (42, .aload_n 0, 1), (43, .getfield 69, 3), (46, .iaload, 1), (47, .istore_n 2, 1), (48, .aload_n 0, 1), (49, .dup, 1), (50, .getfield 60, 3), (53, .iconst 1, 1), (54, .iadd, 1), (55, .putfield 60, 3), (58, .iinc 3 1, 3), (61, .goto (-57), 3), (64, .iload_n 2, 1), (65, .ireturn, 1)]
theorem dd_39 : ∀ q ∈ dl_39, decode prog_6_method_5_code q.1 = .ok q.2 := by decide +kernel
theorem A_39_0 : jx_All (jx_mk D c0 c1 c2 c3 c4 H0 ga L xs) jx_mt md_39 K_39_0 := by
  refine jx_ac (s_iload_n (jx_dc dd_39 0 rfl) rfl) ?_
  refine jx_ac (s_istore_n (jx_dc dd_39 1 rfl) rfl) ?_
  refine jx_ac (s_iconst (jx_dc dd_39 2 rfl) rfl) ?_
  refine jx_ac (s_istore_n (jx_dc dd_39 3 rfl) rfl) ?_
  refine jx_ac (s_iload_n (jx_dc dd_39 4 rfl) rfl) ?_
  refine jx_ac (s_bipush (jx_dc dd_39 5 rfl) rfl) ?_
  refine jx_ac (s_ige (jx_dc dd_39 6 rfl) rfl) ?_
  refine jx_ac (s_aload_n (jx_dc dd_39 7 rfl) rfl) ?_
  refine jx_ac (s_callv (ce := 28) kk_3 mc_28 (jx_dc dd_39 8 rfl) w_205 w_206 w_207 ⟨by decide, by decide⟩ np_28) ?_
  refine jx_ac (s_bipush (jx_dc dd_39 9 rfl) rfl) ?_
  refine jx_ac (s_ine (jx_dc dd_39 10 rfl) rfl) ?_
  refine jx_ac (s_aload_n (jx_dc dd_39 11 rfl) rfl) ?_
  refine jx_ac (s_getf kk_3 (k := 14) (Nat.le_of_ble_eq_true rfl) (jx_dc dd_39 12 rfl) w_182) ?_
  refine jx_ac (s_ifne (jx_dc dd_39 13 rfl) rfl) ?_
  refine jx_ac (s_iconst (jx_dc dd_39 14 rfl) rfl) ?_
  refine jx_ac (s_iret rfl (jx_dc dd_39 15 rfl)) ?_
  refine jx_ac (s_aload_n (jx_dc dd_39 16 rfl) rfl) ?_
  refine jx_ac (s_dup (jx_dc dd_39 17 rfl)) ?_
  refine jx_ac (s_getf kk_3 (k := 14) (Nat.le_of_ble_eq_true rfl) (jx_dc dd_39 18 rfl) w_182) ?_
  refine jx_ac (s_iconst (jx_dc dd_39 19 rfl) rfl) ?_
  refine jx_ac (s_isub (jx_dc dd_39 20 rfl)) ?_
  refine jx_ac (s_putf kk_3 (k := 14) (Nat.le_of_ble_eq_true rfl) (jx_dc dd_39 21 rfl) (fun _ h => jx_okI_n _ h) rfl w_182) ?_
  refine jx_ac (s_aload_n (jx_dc dd_39 22 rfl) rfl) ?_
  refine jx_ac (s_getf kk_3 (k := 13) (Nat.le_of_ble_eq_true rfl) (jx_dc dd_39 23 rfl) w_172) ?_
  refine jx_ac (s_aload_n (jx_dc dd_39 24 rfl) rfl) ?_
  refine jx_ac (s_getf kk_3 (k := 14) (Nat.le_of_ble_eq_true rfl) (jx_dc dd_39 25 rfl) w_182) ?_
  refine jx_ac (s_iald rfl (jx_dc dd_39 26 rfl)) ?_
  refine jx_ac (s_istore_n (jx_dc dd_39 27 rfl) rfl) ?_
  refine jx_ac (s_aload_n (jx_dc dd_39 28 rfl) rfl) ?_
  refine jx_ac (s_dup (jx_dc dd_39 29 rfl)) ?_
  refine jx_ac (s_getf kk_3 (k := 2) (Nat.le_of_ble_eq_true rfl) (jx_dc dd_39 30 rfl) w_179) ?_
  refine jx_ac (s_iconst (jx_dc dd_39 31 rfl) rfl) ?_
  refine jx_ac (s_iadd (jx_dc dd_39 32 rfl)) ?_
  refine jx_ac (s_putf kk_3 (k := 2) (Nat.le_of_ble_eq_true rfl) (jx_dc dd_39 33 rfl) (fun _ h => jx_okI_n _ h) rfl w_179) ?_
  refine jx_ac (s_iinc (jx_dc dd_39 34 rfl) rfl) ?_
  refine jx_ac (s_goto (jx_dc dd_39 35 rfl) rfl) ?_
  refine jx_ac (s_iload_n (jx_dc dd_39 36 rfl) rfl) ?_
  refine jx_ac (s_iret rfl (jx_dc dd_39 37 rfl)) ?_
  exact jx_an
theorem A_39 : jx_All (jx_mk D c0 c1 c2 c3 c4 H0 ga L xs) jx_mt md_39 K_39 :=  A_39_0
end JT
