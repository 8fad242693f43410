/-! printed by wip/whole/gen.py: each operation is what its instruction does -/
section JT
variable {D : va_G} {c0 c1 c2 c3 c4 : ClassId} {H0 : Heap} {ga : Nat → Nat} {L : Nat} {xs : Nat → Int32}
def dl_40 : List (Nat × Instr × Nat) := [(0, .aload_n 0, 1), (1, .invokevirtual 114, 3), (4, .bipush 40, 2), (6, .if_icmp .ne 42, 3), (9, .aload_n 0, 1), (10, .getfield 69, 3), (13, .bipush 40, 2), (15, .if_icmp .ge 33, 3), (18, .aload_n 0, 1), (19, .getfield 37, 3), (22, .aload_n 0, 1), (23, .getfield 69, 3), (26, .iload_n 1, 1), (27, .iastore, 1), (28, .aload_n 0, 1), (29, .dup, 1), (30, .getfield 69, 3), (33, .iconst 1, 1), (34, .iadd, 1), (35, .putfield 69, 3), (38, .aload_n 0, 1), (39, .dup, 1), (40, .getfield 60, 3), (43, .iconst 1, 1), (44, .iadd, 1), (45, .putfield 60, 3), (48, .return_, 1)]
theorem dd_40 : ∀ q ∈ dl_40, decode prog_6_method_6_code q.1 = .ok q.2 := by decide +kernel
theorem A_40_0 : jx_All (jx_mk D c0 c1 c2 c3 c4 H0 ga L xs) jx_mt md_40 K_40_0 := by
  refine jx_ac (s_aload_n (jx_dc dd_40 0 rfl) rfl) ?_
  refine jx_ac (s_callv (ce := 28) kk_3 mc_28 (jx_dc dd_40 1 rfl) w_205 w_206 w_207 ⟨by decide, by decide⟩ np_28) ?_
  refine jx_ac (s_bipush (jx_dc dd_40 2 rfl) rfl) ?_
  refine jx_ac (s_ine (jx_dc dd_40 3 rfl) rfl) ?_
  refine jx_ac (s_aload_n (jx_dc dd_40 4 rfl) rfl) ?_
  refine jx_ac (s_getf kk_3 (k := 14) (Nat.le_of_ble_eq_true rfl) (jx_dc dd_40 5 rfl) w_182) ?_
  refine jx_ac (s_bipush (jx_dc dd_40 6 rfl) rfl) ?_
  refine jx_ac (s_ige (jx_dc dd_40 7 rfl) rfl) ?_
  refine jx_ac (s_aload_n (jx_dc dd_40 8 rfl) rfl) ?_
  refine jx_ac (s_getf kk_3 (k := 13) (Nat.le_of_ble_eq_true rfl) (jx_dc dd_40 9 rfl) w_172) ?_
  refine jx_ac (s_aload_n (jx_dc dd_40 10 rfl) rfl) ?_
  refine jx_ac (s_getf kk_3 (k := 14) (Nat.le_of_ble_eq_true rfl) (jx_dc dd_40 11 rfl) w_182) ?_
  refine jx_ac (s_iload_n (jx_dc dd_40 12 rfl) rfl) ?_
  refine jx_ac (s_iast rfl (jx_dc dd_40 13 rfl)) ?_
  refine jx_ac (s_aload_n (jx_dc dd_40 14 rfl) rfl) ?_
  refine jx_ac (s_dup (jx_dc dd_40 15 rfl)) ?_
  refine jx_ac (s_getf kk_3 (k := 14) (Nat.le_of_ble_eq_true rfl) (jx_dc dd_40 16 rfl) w_182) ?_
  refine jx_ac (s_iconst (jx_dc dd_40 17 rfl) rfl) ?_
  refine jx_ac (s_iadd (jx_dc dd_40 18 rfl)) ?_
  refine jx_ac (s_putf kk_3 (k := 14) (Nat.le_of_ble_eq_true rfl) (jx_dc dd_40 19 rfl) (fun _ h => jx_okI_n _ h) rfl w_182) ?_
  refine jx_ac (s_aload_n (jx_dc dd_40 20 rfl) rfl) ?_
  refine jx_ac (s_dup (jx_dc dd_40 21 rfl)) ?_
  refine jx_ac (s_getf kk_3 (k := 2) (Nat.le_of_ble_eq_true rfl) (jx_dc dd_40 22 rfl) w_179) ?_
  refine jx_ac (s_iconst (jx_dc dd_40 23 rfl) rfl) ?_
  refine jx_ac (s_iadd (jx_dc dd_40 24 rfl)) ?_
  refine jx_ac (s_putf kk_3 (k := 2) (Nat.le_of_ble_eq_true rfl) (jx_dc dd_40 25 rfl) (fun _ h => jx_okI_n _ h) rfl w_179) ?_
  refine jx_ac (s_ret rfl (jx_dc dd_40 26 rfl)) ?_
  exact jx_an
theorem A_40 : jx_All (jx_mk D c0 c1 c2 c3 c4 H0 ga L xs) jx_mt md_40 K_40 :=  A_40_0
def dl_41 : List (Nat × Instr × Nat) := [(0, .iconst 1, 1), (1, .istore_n 1, 1), (2, .iload_n 1, 1), (3, .bipush 9, 2), (5, .if_icmp .gt 21, 3), (8, .aload_n 0, 1), (9, .getfield 31, 3), (12, .iload_n 1, 1), (13, .iaload, 1), (14, .iconst (-1), 1), (15, .if_icmp .eq 5, 3), (18, .iconst 1, 1), (19, .ireturn, 1), (20, .iinc 1 1, 3), (23, .goto (-21), 3), (26, .iconst 0, 1), (27, .ireturn, 1)]
theorem dd_41 : ∀ q ∈ dl_41, decode prog_6_method_12_code q.1 = .ok q.2 := by decide +kernel
theorem A_41_0 : jx_All (jx_mk D c0 c1 c2 c3 c4 H0 ga L xs) jx_mt md_41 K_41_0 := by
  refine jx_ac (s_iconst (jx_dc dd_41 0 rfl) rfl) ?_
  refine jx_ac (s_istore_n (jx_dc dd_41 1 rfl) rfl) ?_
  refine jx_ac (s_iload_n (jx_dc dd_41 2 rfl) rfl) ?_
  refine jx_ac (s_bipush (jx_dc dd_41 3 rfl) rfl) ?_
  refine jx_ac (s_igt (jx_dc dd_41 4 rfl) rfl) ?_
  refine jx_ac (s_aload_n (jx_dc dd_41 5 rfl) rfl) ?_
  refine jx_ac (s_getf kk_3 (k := 11) (Nat.le_of_ble_eq_true rfl) (jx_dc dd_41 6 rfl) w_170) ?_
  refine jx_ac (s_iload_n (jx_dc dd_41 7 rfl) rfl) ?_
  refine jx_ac (s_iald rfl (jx_dc dd_41 8 rfl)) ?_
  refine jx_ac (s_iconst (jx_dc dd_41 9 rfl) rfl) ?_
  refine jx_ac (s_ieq (jx_dc dd_41 10 rfl) rfl) ?_
  refine jx_ac (s_iconst (jx_dc dd_41 11 rfl) rfl) ?_
  refine jx_ac (s_zret rfl (jx_dc dd_41 12 rfl)) ?_
  refine jx_ac (s_iinc (jx_dc dd_41 13 rfl) rfl) ?_
  refine jx_ac (s_goto (jx_dc dd_41 14 rfl) rfl) ?_
  refine jx_ac (s_iconst (jx_dc dd_41 15 rfl) rfl) ?_
  refine jx_ac (s_zret rfl (jx_dc dd_41 16 rfl)) ?_
  exact jx_an
theorem A_41 : jx_All (jx_mk D c0 c1 c2 c3 c4 H0 ga L xs) jx_mt md_41 K_41 :=  A_41_0
def dl_42 : List (Nat × Instr × Nat) := [(0, .aload_n 1, 1), (1, .invokevirtual 78, 3), (4, .iconst 0, 1), (5, .istore_n 2, 1), (6, .iload_n 2, 1), (7, .aload_n 0, 1), (8, .getfield 63, 3), (11, .if_icmp .ge 19, 3), (14, .aload_n 1, 1), (15, .aload_n 0, 1), (16, .getfield 15, 3), (19, .iload_n 2, 1), (20, .iaload, 1), (21, .invokevirtual 83, 3), (24, .iinc 2 1, 3), (27, .goto (-21), 3), (30, .iconst 0, 1), (31, .istore_n 2, 1), (32, .iload_n 2, 1), (33, .aload_n 0, 1), (34, .getfield 66, 3), (37, .if_icmp .ge 31, 3), (40, .aload_n 1, 1), (41, .aload_n 0, 1), (42, .getfield 22, 3), (45, .iload_n 2, 1), (46, .iaload, 1), (47, .aload_n 0, 1), (48, .getfield 25, 3), (51, .iload_n 2, 1), (52, .iaload, 1), (53, .aload_n 0, 1), (54, .getfield 28, 3), (57, .iload_n 2, 1), (58, .iaload, 1), (59, .invokevirtual 87, 3), (62, .iinc 2 1, 3), (65, .goto (-33), 3), (68, .return_, 1)]
theorem dd_42 : ∀ q ∈ dl_42, decode prog_6_method_3_code q.1 = .ok q.2 := by decide +kernel
theorem A_42_0 : jx_All (jx_mk D c0 c1 c2 c3 c4 H0 ga L xs) jx_mt md_42 K_42_0 := by
  refine jx_ac (s_aload_n (jx_dc dd_42 0 rfl) rfl) ?_
  refine jx_ac (s_callv (ce := 5) kk_0 mc_5 (jx_dc dd_42 1 rfl) w_233 w_234 w_235 ⟨by decide, by decide⟩ np_5) ?_
  refine jx_ac (s_iconst (jx_dc dd_42 2 rfl) rfl) ?_
  refine jx_ac (s_istore_n (jx_dc dd_42 3 rfl) rfl) ?_
  refine jx_ac (s_iload_n (jx_dc dd_42 4 rfl) rfl) ?_
  refine jx_ac (s_aload_n (jx_dc dd_42 5 rfl) rfl) ?_
  refine jx_ac (s_getf kk_3 (k := 6) (Nat.le_of_ble_eq_true rfl) (jx_dc dd_42 6 rfl) w_180) ?_
  refine jx_ac (s_ige (jx_dc dd_42 7 rfl) rfl) ?_
  refine jx_ac (s_aload_n (jx_dc dd_42 8 rfl) rfl) ?_
  refine jx_ac (s_aload_n (jx_dc dd_42 9 rfl) rfl) ?_
  refine jx_ac (s_getf kk_3 (k := 4) (Nat.le_of_ble_eq_true rfl) (jx_dc dd_42 10 rfl) w_165) ?_
  refine jx_ac (s_iload_n (jx_dc dd_42 11 rfl) rfl) ?_
  refine jx_ac (s_iald rfl (jx_dc dd_42 12 rfl)) ?_
  refine jx_ac (s_callv (ce := 6) kk_0 mc_6 (jx_dc dd_42 13 rfl) w_236 w_237 w_238 ⟨by decide, by decide⟩ np_6) ?_
  refine jx_ac (s_iinc (jx_dc dd_42 14 rfl) rfl) ?_
  refine jx_ac (s_goto (jx_dc dd_42 15 rfl) rfl) ?_
  refine jx_ac (s_iconst (jx_dc dd_42 16 rfl) rfl) ?_
  refine jx_ac (s_istore_n (jx_dc dd_42 17 rfl) rfl) ?_
  refine jx_ac (s_iload_n (jx_dc dd_42 18 rfl) rfl) ?_
  refine jx_ac (s_aload_n (jx_dc dd_42 19 rfl) rfl) ?_
  refine jx_ac (s_getf kk_3 (k := 10) (Nat.le_of_ble_eq_true rfl) (jx_dc dd_42 20 rfl) w_181) ?_
  refine jx_ac (s_ige (jx_dc dd_42 21 rfl) rfl) ?_
  refine jx_ac (s_aload_n (jx_dc dd_42 22 rfl) rfl) ?_
  refine jx_ac (s_aload_n (jx_dc dd_42 23 rfl) rfl) ?_
  refine jx_ac (s_getf kk_3 (k := 7) (Nat.le_of_ble_eq_true rfl) (jx_dc dd_42 24 rfl) w_167) ?_
  refine jx_ac (s_iload_n (jx_dc dd_42 25 rfl) rfl) ?_
  refine jx_ac (s_iald rfl (jx_dc dd_42 26 rfl)) ?_
  refine jx_ac (s_aload_n (jx_dc dd_42 27 rfl) rfl) ?_
  refine jx_ac (s_getf kk_3 (k := 8) (Nat.le_of_ble_eq_true rfl) (jx_dc dd_42 28 rfl) w_168) ?_
  refine jx_ac (s_iload_n (jx_dc dd_42 29 rfl) rfl) ?_
  refine jx_ac (s_iald rfl (jx_dc dd_42 30 rfl)) ?_
  refine jx_ac (s_aload_n (jx_dc dd_42 31 rfl) rfl) ?_
  refine jx_ac (s_getf kk_3 (k := 9) (Nat.le_of_ble_eq_true rfl) (jx_dc dd_42 32 rfl) w_169) ?_
  refine jx_ac (s_iload_n (jx_dc dd_42 33 rfl) rfl) ?_
  refine jx_ac (s_iald rfl (jx_dc dd_42 34 rfl)) ?_
  refine jx_ac (s_callv (ce := 7) kk_0 mc_7 (jx_dc dd_42 35 rfl) w_239 w_240 w_241 ⟨by decide, by decide⟩ np_7) ?_
  refine jx_ac (s_iinc (jx_dc dd_42 36 rfl) rfl) ?_
  refine jx_ac (s_goto (jx_dc dd_42 37 rfl) rfl) ?_
  refine jx_ac (s_ret rfl (jx_dc dd_42 38 rfl)) ?_
  exact jx_an
theorem A_42 : jx_All (jx_mk D c0 c1 c2 c3 c4 H0 ga L xs) jx_mt md_42 K_42 :=  A_42_0
def dl_43 : List (Nat × Instr × Nat) := [(0, .aload_n 0, 1), (1, .invokespecial 3, 3), (4, .aload_n 0, 1), (5, .bipush 12, 2), (7, .anewarray 9, 3), (10, .putfield 11, 3), (13, .aload_n 0, 1), (14, .bipush 12, 2), (16, .newarray .int, 2), (18, .putfield 17, 3), (21, .iconst 0, 1), (22, .istore_n 1, 1), (23, .iload_n 1, 1), (24, .bipush 12, 2), (26, .if_icmp .ge 22, 3), (29, .aload_n 0, 1), (30, .getfield 11, 3), (33, .iload_n 1, 1), (34, .new 9, 3), (37, .dup, 1), (38, .invokespecial 21, 3), (41, .aastore, 1), (42, .iinc 1 1, 3), (45, .goto (-22), 3), (48, .return_, 1)]
theorem dd_43 : ∀ q ∈ dl_43, decode prog_7_method_1_code q.1 = .ok q.2 := by decide +kernel
theorem A_43_0 : jx_All (jx_mk D c0 c1 c2 c3 c4 H0 ga L xs) jx_mt md_43 K_43_0 := by
  refine jx_ac (s_aload_n (jx_dc dd_43 0 rfl) rfl) ?_
  refine jx_ac (s_oinit (jx_dc dd_43 1 rfl) w_242 w_93 w_94) ?_
  refine jx_ac (s_aload_n (jx_dc dd_43 2 rfl) rfl) ?_
  refine jx_ac (s_bipush (jx_dc dd_43 3 rfl) rfl) ?_
  refine jx_ac (s_newq rfl (jx_dc dd_43 4 rfl) w_243) ?_
  refine jx_ac (s_putfF kk_4 (k := 0) (Nat.le_of_ble_eq_true rfl) (jx_dc dd_43 5 rfl) (fun _ h => jx_okA_n _ _ h) rfl rfl rfl w_244) ?_
  refine jx_ac (s_aload_n (jx_dc dd_43 6 rfl) rfl) ?_
  refine jx_ac (s_bipush (jx_dc dd_43 7 rfl) rfl) ?_
  refine jx_ac (s_newa (t := 0) (z := jx_zi) rfl rfl (Nat.le_of_ble_eq_true rfl) (jx_dc dd_43 8 rfl) w_95 (fun _ _ => rfl) (fun _ => rfl) (by decide) (fun _ _ h => h)) ?_
  refine jx_ac (s_putfF kk_4 (k := 1) (Nat.le_of_ble_eq_true rfl) (jx_dc dd_43 9 rfl) (fun _ h => jx_okA_n _ _ h) rfl rfl rfl w_245) ?_
  refine jx_ac (s_iconst (jx_dc dd_43 10 rfl) rfl) ?_
  refine jx_ac (s_istore_n (jx_dc dd_43 11 rfl) rfl) ?_
  refine jx_ac (s_iload_n (jx_dc dd_43 12 rfl) rfl) ?_
  refine jx_ac (s_bipush (jx_dc dd_43 13 rfl) rfl) ?_
  refine jx_ac (s_ige (jx_dc dd_43 14 rfl) rfl) ?_
  refine jx_ac (s_aload_n (jx_dc dd_43 15 rfl) rfl) ?_
  refine jx_ac (s_getf kk_4 (k := 0) (Nat.le_of_ble_eq_true rfl) (jx_dc dd_43 16 rfl) w_244) ?_
  refine jx_ac (s_iload_n (jx_dc dd_43 17 rfl) rfl) ?_
  refine jx_ac (s_new kk_0 (jx_dc dd_43 18 rfl) w_243 w_119 w_120 rfl) ?_
  refine jx_ac (s_dup (jx_dc dd_43 19 rfl)) ?_
  refine jx_ac (s_calliN (ce := 1) mc_1 w_122 (jx_dc dd_43 20 rfl) w_246 w_123 rfl ⟨by decide, by decide⟩ np_1) ?_
  refine jx_ac (s_aast kk_0 rfl (jx_dc dd_43 21 rfl)) ?_
  refine jx_ac (s_iinc (jx_dc dd_43 22 rfl) rfl) ?_
  refine jx_ac (s_goto (jx_dc dd_43 23 rfl) rfl) ?_
  refine jx_ac (s_ret rfl (jx_dc dd_43 24 rfl)) ?_
  exact jx_an
theorem A_43 : jx_All (jx_mk D c0 c1 c2 c3 c4 H0 ga L xs) jx_mt md_43 K_43 :=  A_43_0
def dl_44 : List (Nat × Instr × Nat) := [(0, .iconst 0, 1), (1, .istore_n 2, 1), (2, .iload_n 2, 1), (3, .aload_n 0, 1), (4, .getfield 22, 3), (7, .if_icmp .ge 21, 3), (10, .aload_n 0, 1), (11, .getfield 17, 3), (14, .iload_n 2, 1), (15, .iaload, 1), (16, .iload_n 1, 1), (17, .if_icmp .ne 5, 3), (20, .iload_n 2, 1), (21, .ireturn, 1), (22, .iinc 2 1, 3), (25, .goto (-23), 3), (28, .iconst (-1), 1), (29, .ireturn, 1)]
theorem dd_44 : ∀ q ∈ dl_44, decode prog_7_method_2_code q.1 = .ok q.2 := by decide +kernel
theorem A_44_0 : jx_All (jx_mk D c0 c1 c2 c3 c4 H0 ga L xs) jx_mt md_44 K_44_0 := by
  refine jx_ac (s_iconst (jx_dc dd_44 0 rfl) rfl) ?_
  refine jx_ac (s_istore_n (jx_dc dd_44 1 rfl) rfl) ?_
  refine jx_ac (s_iload_n (jx_dc dd_44 2 rfl) rfl) ?_
  refine jx_ac (s_aload_n (jx_dc dd_44 3 rfl) rfl) ?_
  refine jx_ac (s_getf kk_4 (k := 2) (Nat.le_of_ble_eq_true rfl) (jx_dc dd_44 4 rfl) w_247) ?_
  refine jx_ac (s_ige (jx_dc dd_44 5 rfl) rfl) ?_
  refine jx_ac (s_aload_n (jx_dc dd_44 6 rfl) rfl) ?_
  refine jx_ac (s_getf kk_4 (k := 1) (Nat.le_of_ble_eq_true rfl) (jx_dc dd_44 7 rfl) w_245) ?_
  refine jx_ac (s_iload_n (jx_dc dd_44 8 rfl) rfl) ?_
  refine jx_ac (s_iald rfl (jx_dc dd_44 9 rfl)) ?_
  refine jx_ac (s_iload_n (jx_dc dd_44 10 rfl) rfl) ?_
  refine jx_ac (s_ine (jx_dc dd_44 11 rfl) rfl) ?_
  refine jx_ac (s_iload_n (jx_dc dd_44 12 rfl) rfl) ?_
  refine jx_ac (s_iret rfl (jx_dc dd_44 13 rfl)) ?_
  refine jx_ac (s_iinc (jx_dc dd_44 14 rfl) rfl) ?_
  refine jx_ac (s_goto (jx_dc dd_44 15 rfl) rfl) ?_
  refine jx_ac (s_iconst (jx_dc dd_44 16 rfl) rfl) ?_
  refine jx_ac (s_iret rfl (jx_dc dd_44 17 rfl)) ?_
  exact jx_an
theorem A_44 : jx_All (jx_mk D c0 c1 c2 c3 c4 H0 ga L xs) jx_mt md_44 K_44 :=  A_44_0
def dl_45 : List (Nat × Instr × Nat) := [(0, .aload_n 0, 1), (1, .iload_n 1, 1), (2, .invokevirtual 33, 3), (5, .istore_n 2, 1), (6, .iload_n 2, 1), (7, .iconst (-1), 1), (8, .if_icmp .ne 4, 3), (11, .return_, 1), (12, .aload_n 0, 1), (13, .getfield 11, 3), (16, .iload_n 2, 1), (17, .aaload, 1), (18, .astore_n 3, 1), (19, .iload_n 2, 1), (20, .istore 4, 2), (22, .iload 4, 2), (24, .aload_n 0, 1), (25, .getfield 22, 3), (28, .iconst 1, 1), (29, .isub, 1), (30, .if_icmp .ge 41, 3), (33, .aload_n 0, 1), (34, .getfield 11, 3), (37, .iload 4, 2), (39, .aload_n 0, 1), (40, .getfield 11, 3), (43, .iload 4, 2), (45, .iconst 1, 1), (46, .iadd, 1), (47, .aaload, 1), (48, .aastore, 1), (49, .aload_n 0, 1), (50, .getfield 17, 3), (53, .iload 4, 2), (55, .aload_n 0, 1), (56, .getfield 17, 3), (59, .iload 4, 2), (61, .iconst 1, 1), (62, .iadd, 1), (63, .iaload, 1), (64, .iastore, 1), (65, .iinc 4 1, 3), (68, .goto (-46), 3), (71, .aload_n 0, 1), (72, .dup, 1), (73, .getfield 22, 3), (76, .iconst 1, 1), (77, .isub, 1), (78, .putfield 22, 3), (81, .aload_n 0, 1), (82, .getfield 11, 3), (85, .aload_n 0, 1), (86, .getfield 22, 3), (89, .aload_n 3, 1), (90, .aastore, 1), (91, .return_, 1)]
theorem dd_45 : ∀ q ∈ dl_45, decode prog_7_method_4_code q.1 = .ok q.2 := by decide +kernel
theorem A_45_0 : jx_All (jx_mk D c0 c1 c2 c3 c4 H0 ga L xs) jx_mt md_45 K_45_0 := by
  refine jx_ac (s_aload_n (jx_dc dd_45 0 rfl) rfl) ?_
  refine jx_ac (s_iload_n (jx_dc dd_45 1 rfl) rfl) ?_
  refine jx_ac (s_callv (ce := 44) kk_4 mc_44 (jx_dc dd_45 2 rfl) w_248 w_249 w_250 ⟨by decide, by decide⟩ np_44) ?_
  refine jx_ac (s_istore_n (jx_dc dd_45 3 rfl) rfl) ?_
  refine jx_ac (s_iload_n (jx_dc dd_45 4 rfl) rfl) ?_
  refine jx_ac (s_iconst (jx_dc dd_45 5 rfl) rfl) ?_
  refine jx_ac (s_ine (jx_dc dd_45 6 rfl) rfl) ?_
  refine jx_ac (s_ret rfl (jx_dc dd_45 7 rfl)) ?_
  refine jx_ac (s_aload_n (jx_dc dd_45 8 rfl) rfl) ?_
  refine jx_ac (s_getf kk_4 (k := 0) (Nat.le_of_ble_eq_true rfl) (jx_dc dd_45 9 rfl) w_244) ?_
  refine jx_ac (s_iload_n (jx_dc dd_45 10 rfl) rfl) ?_
  refine jx_ac (s_aald rfl (jx_dc dd_45 11 rfl)) ?_
  refine jx_ac (s_astore_n (jx_dc dd_45 12 rfl) rfl) ?_
  refine jx_ac (s_iload_n (jx_dc dd_45 13 rfl) rfl) ?_
  refine jx_ac (s_istore (jx_dc dd_45 14 rfl)) ?_
  refine jx_ac (s_iload (jx_dc dd_45 15 rfl)) ?_
  refine jx_ac (s_aload_n (jx_dc dd_45 16 rfl) rfl) ?_
  refine jx_ac (s_getf kk_4 (k := 2) (Nat.le_of_ble_eq_true rfl) (jx_dc dd_45 17 rfl) w_247) ?_
  refine jx_ac (s_iconst (jx_dc dd_45 18 rfl) rfl) ?_
  refine jx_ac (s_isub (jx_dc dd_45 19 rfl)) ?_
  refine jx_ac (s_ige (jx_dc dd_45 20 rfl) rfl) ?_
  refine jx_ac (s_aload_n (jx_dc dd_45 21 rfl) rfl) ?_
  refine jx_ac (s_getf kk_4 (k := 0) (Nat.le_of_ble_eq_true rfl) (jx_dc dd_45 22 rfl) w_244) ?_
  refine jx_ac (s_iload (jx_dc dd_45 23 rfl)) ?_
  refine jx_ac (s_aload_n (jx_dc dd_45 24 rfl) rfl) ?_
  refine jx_ac (s_getf kk_4 (k := 0) (Nat.le_of_ble_eq_true rfl) (jx_dc dd_45 25 rfl) w_244) ?_
  refine jx_ac (s_iload (jx_dc dd_45 26 rfl)) ?_
  refine jx_ac (s_iconst (jx_dc dd_45 27 rfl) rfl) ?_
  refine jx_ac (s_iadd (jx_dc dd_45 28 rfl)) ?_
  refine jx_ac (s_aald rfl (jx_dc dd_45 29 rfl)) ?_
  refine jx_ac (s_aast kk_0 rfl (jx_dc dd_45 30 rfl)) ?_
  refine jx_ac (s_aload_n (jx_dc dd_45 31 rfl) rfl) ?_
  refine jx_ac (s_getf kk_4 (k := 1) (Nat.le_of_ble_eq_true rfl) (jx_dc dd_45 32 rfl) w_245) ?_
  refine jx_ac (s_iload (jx_dc dd_45 33 rfl)) ?_
  refine jx_ac (s_aload_n (jx_dc dd_45 34 rfl) rfl) ?_
  refine jx_ac (s_getf kk_4 (k := 1) (Nat.le_of_ble_eq_true rfl) (jx_dc dd_45 35 rfl) w_245) ?_
  refine jx_ac (s_iload (jx_dc dd_45 36 rfl)) ?_
  refine jx_ac (s_iconst (jx_dc dd_45 37 rfl) rfl) ?_
  refine jx_ac (s_iadd (jx_dc dd_45 38 rfl)) ?_
  refine jx_ac (s_iald rfl (jx_dc dd_45 39 rfl)) ?_
  exact jx_an
theorem A_45_1 : jx_All (jx_mk D c0 c1 c2 c3 c4 H0 ga L xs) jx_mt md_45 K_45_1 := by
  refine jx_ac (s_iast rfl (jx_dc dd_45 40 rfl)) ?_
  refine jx_ac (s_iinc (jx_dc dd_45 41 rfl) rfl) ?_
  refine jx_ac (s_goto (jx_dc dd_45 42 rfl) rfl) ?_
  refine jx_ac (s_aload_n (jx_dc dd_45 43 rfl) rfl) ?_
  refine jx_ac (s_dup (jx_dc dd_45 44 rfl)) ?_
  refine jx_ac (s_getf kk_4 (k := 2) (Nat.le_of_ble_eq_true rfl) (jx_dc dd_45 45 rfl) w_247) ?_
  refine jx_ac (s_iconst (jx_dc dd_45 46 rfl) rfl) ?_
  refine jx_ac (s_isub (jx_dc dd_45 47 rfl)) ?_
  refine jx_ac (s_putf kk_4 (k := 2) (Nat.le_of_ble_eq_true rfl) (jx_dc dd_45 48 rfl) (fun _ h => jx_okI_n _ h) rfl w_247) ?_
  refine jx_ac (s_aload_n (jx_dc dd_45 49 rfl) rfl) ?_
  refine jx_ac (s_getf kk_4 (k := 0) (Nat.le_of_ble_eq_true rfl) (jx_dc dd_45 50 rfl) w_244) ?_
  refine jx_ac (s_aload_n (jx_dc dd_45 51 rfl) rfl) ?_
  refine jx_ac (s_getf kk_4 (k := 2) (Nat.le_of_ble_eq_true rfl) (jx_dc dd_45 52 rfl) w_247) ?_
  refine jx_ac (s_aload_n (jx_dc dd_45 53 rfl) rfl) ?_
  refine jx_ac (s_aast kk_0 rfl (jx_dc dd_45 54 rfl)) ?_
  refine jx_ac (s_ret rfl (jx_dc dd_45 55 rfl)) ?_
  exact jx_an
theorem A_45 : jx_All (jx_mk D c0 c1 c2 c3 c4 H0 ga L xs) jx_mt md_45 K_45 := (jx_aa A_45_0 A_45_1)
def dl_46 : List (Nat × Instr × Nat) := [(0, .aload_n 0, 1), (1, .getfield 22, 3), (4, .bipush 12, 2), (6, .if_icmp .ge 41, 3), (9, .aload_n 0, 1), (10, .getfield 11, 3), (13, .aload_n 0, 1), (14, .getfield 22, 3), (17, .aaload, 1), (18, .aload_n 2, 1), (19, .invokevirtual 26, 3), (22, .aload_n 0, 1), (23, .getfield 17, 3), (26, .aload_n 0, 1), (27, .getfield 22, 3), (30, .iload_n 1, 1), (31, .iastore, 1), (32, .aload_n 0, 1), (33, .dup, 1), (34, .getfield 22, 3), (37, .iconst 1, 1), (38, .iadd, 1), (39, .putfield 22, 3), (42, .aload_n 0, 1), (43, .iload_n 1, 1), (44, .putfield 30, 3), (47, .return_, 1)]
theorem dd_46 : ∀ q ∈ dl_46, decode prog_7_method_3_code q.1 = .ok q.2 := by decide +kernel
theorem A_46_0 : jx_All (jx_mk D c0 c1 c2 c3 c4 H0 ga L xs) jx_mt md_46 K_46_0 := by
  refine jx_ac (s_aload_n (jx_dc dd_46 0 rfl) rfl) ?_
  refine jx_ac (s_getf kk_4 (k := 2) (Nat.le_of_ble_eq_true rfl) (jx_dc dd_46 1 rfl) w_247) ?_
  refine jx_ac (s_bipush (jx_dc dd_46 2 rfl) rfl) ?_
  refine jx_ac (s_ige (jx_dc dd_46 3 rfl) rfl) ?_
  refine jx_ac (s_aload_n (jx_dc dd_46 4 rfl) rfl) ?_
  refine jx_ac (s_getf kk_4 (k := 0) (Nat.le_of_ble_eq_true rfl) (jx_dc dd_46 5 rfl) w_244) ?_
  refine jx_ac (s_aload_n (jx_dc dd_46 6 rfl) rfl) ?_
  refine jx_ac (s_getf kk_4 (k := 2) (Nat.le_of_ble_eq_true rfl) (jx_dc dd_46 7 rfl) w_247) ?_
  refine jx_ac (s_aald rfl (jx_dc dd_46 8 rfl)) ?_
  refine jx_ac (s_aload_n (jx_dc dd_46 9 rfl) rfl) ?_
  refine jx_ac (s_callv (ce := 2) kk_0 mc_2 (jx_dc dd_46 10 rfl) w_251 w_129 w_130 ⟨by decide, by decide⟩ np_2) ?_
  refine jx_ac (s_aload_n (jx_dc dd_46 11 rfl) rfl) ?_
  refine jx_ac (s_getf kk_4 (k := 1) (Nat.le_of_ble_eq_true rfl) (jx_dc dd_46 12 rfl) w_245) ?_
  refine jx_ac (s_aload_n (jx_dc dd_46 13 rfl) rfl) ?_
  refine jx_ac (s_getf kk_4 (k := 2) (Nat.le_of_ble_eq_true rfl) (jx_dc dd_46 14 rfl) w_247) ?_
  refine jx_ac (s_iload_n (jx_dc dd_46 15 rfl) rfl) ?_
  refine jx_ac (s_iast rfl (jx_dc dd_46 16 rfl)) ?_
  refine jx_ac (s_aload_n (jx_dc dd_46 17 rfl) rfl) ?_
  refine jx_ac (s_dup (jx_dc dd_46 18 rfl)) ?_
  refine jx_ac (s_getf kk_4 (k := 2) (Nat.le_of_ble_eq_true rfl) (jx_dc dd_46 19 rfl) w_247) ?_
  refine jx_ac (s_iconst (jx_dc dd_46 20 rfl) rfl) ?_
  refine jx_ac (s_iadd (jx_dc dd_46 21 rfl)) ?_
  refine jx_ac (s_putf kk_4 (k := 2) (Nat.le_of_ble_eq_true rfl) (jx_dc dd_46 22 rfl) (fun _ h => jx_okI_n _ h) rfl w_247) ?_
  refine jx_ac (s_aload_n (jx_dc dd_46 23 rfl) rfl) ?_
  refine jx_ac (s_iload_n (jx_dc dd_46 24 rfl) rfl) ?_
  refine jx_ac (s_putf kk_4 (k := 3) (Nat.le_of_ble_eq_true rfl) (jx_dc dd_46 25 rfl) (fun _ h => jx_okI_n _ h) rfl w_252) ?_
  refine jx_ac (s_ret rfl (jx_dc dd_46 26 rfl)) ?_
  exact jx_an
theorem A_46 : jx_All (jx_mk D c0 c1 c2 c3 c4 H0 ga L xs) jx_mt md_46 K_46 :=  A_46_0
def dl_47 : List (Nat × Instr × Nat) := [(0, .aload_n 0, 1), (1, .invokespecial 3, 3), (4, .aload_n 0, 1), (5, .bipush 40, 2), (7, .newarray .char, 2), (9, .putfield 9, 3), (12, .aload_n 0, 1), (13, .new 13, 3), (16, .dup, 1), (17, .invokespecial 15, 3), (20, .putfield 16, 3), (23, .aload_n 0, 1), (24, .new 20, 3), (27, .dup, 1), (28, .invokespecial 22, 3), (31, .putfield 23, 3), (34, .aload_n 0, 1), (35, .new 27, 3), (38, .dup, 1), (39, .invokespecial 29, 3), (42, .putfield 30, 3), (45, .aload_n 0, 1), (46, .new 34, 3), (49, .dup, 1), (50, .invokespecial 36, 3), (53, .putfield 37, 3), (56, .aload_n 0, 1), (57, .new 41, 3), (60, .dup, 1), (61, .invokespecial 43, 3), (64, .putfield 44, 3), (67, .aload_n 0, 1), (68, .bipush 12, 2), (70, .newarray .int, 2), (72, .putfield 48, 3), (75, .aload_n 0, 1), (76, .iconst 0, 1), (77, .putfield 52, 3), (80, .return_, 1)]
theorem dd_47 : ∀ q ∈ dl_47, decode prog_1_method_1_code q.1 = .ok q.2 := by decide +kernel
theorem A_47_0 : jx_All (jx_mk D c0 c1 c2 c3 c4 H0 ga L xs) jx_mt md_47 K_47_0 := by
  refine jx_ac (s_aload_n (jx_dc dd_47 0 rfl) rfl) ?_
  refine jx_ac (s_oinit (jx_dc dd_47 1 rfl) w_253 w_93 w_94) ?_
  refine jx_ac (s_aload_n (jx_dc dd_47 2 rfl) rfl) ?_
  refine jx_ac (s_bipush (jx_dc dd_47 3 rfl) rfl) ?_
  refine jx_ac (s_newa (t := 1) (z := jx_zi) rfl rfl (Nat.le_of_ble_eq_true rfl) (jx_dc dd_47 4 rfl) w_163 (fun _ _ => rfl) (fun _ => rfl) (by decide) (fun _ _ h => h)) ?_
  refine jx_ac (s_putfF kk_5 (k := 0) (Nat.le_of_ble_eq_true rfl) (jx_dc dd_47 5 rfl) (fun _ h => jx_okA_n _ _ h) rfl rfl rfl w_254) ?_
  refine jx_ac (s_aload_n (jx_dc dd_47 6 rfl) rfl) ?_
  refine jx_ac (s_new kk_3 (jx_dc dd_47 7 rfl) w_255 w_256 w_257 rfl) ?_
  refine jx_ac (s_dup (jx_dc dd_47 8 rfl)) ?_
  refine jx_ac (s_calliN (ce := 22) mc_22 w_259 (jx_dc dd_47 9 rfl) w_258 w_260 rfl ⟨by decide, by decide⟩ np_22) ?_
  refine jx_ac (s_putfF kk_5 (k := 2) (Nat.le_of_ble_eq_true rfl) (jx_dc dd_47 10 rfl) (fun _ h => jx_okR_n _ _ h) rfl rfl rfl w_261) ?_
  refine jx_ac (s_aload_n (jx_dc dd_47 11 rfl) rfl) ?_
  refine jx_ac (s_new kk_0 (jx_dc dd_47 12 rfl) w_262 w_119 w_120 rfl) ?_
  refine jx_ac (s_dup (jx_dc dd_47 13 rfl)) ?_
  refine jx_ac (s_calliN (ce := 1) mc_1 w_122 (jx_dc dd_47 14 rfl) w_263 w_123 rfl ⟨by decide, by decide⟩ np_1) ?_
  refine jx_ac (s_putfF kk_5 (k := 3) (Nat.le_of_ble_eq_true rfl) (jx_dc dd_47 15 rfl) (fun _ h => jx_okR_n _ _ h) rfl rfl rfl w_264) ?_
  refine jx_ac (s_aload_n (jx_dc dd_47 16 rfl) rfl) ?_
  refine jx_ac (s_new kk_2 (jx_dc dd_47 17 rfl) w_265 w_266 w_141 rfl) ?_
  refine jx_ac (s_dup (jx_dc dd_47 18 rfl)) ?_
  refine jx_ac (s_calliN (ce := 14) mc_14 w_268 (jx_dc dd_47 19 rfl) w_267 w_269 rfl ⟨by decide, by decide⟩ np_14) ?_
  refine jx_ac (s_putfF kk_5 (k := 4) (Nat.le_of_ble_eq_true rfl) (jx_dc dd_47 20 rfl) (fun _ h => jx_okR_n _ _ h) rfl rfl rfl w_270) ?_
  refine jx_ac (s_aload_n (jx_dc dd_47 21 rfl) rfl) ?_
  refine jx_ac (s_new kk_4 (jx_dc dd_47 22 rfl) w_271 w_272 w_273 rfl) ?_
  refine jx_ac (s_dup (jx_dc dd_47 23 rfl)) ?_
  refine jx_ac (s_calli (ce := 43) mc_43 w_275 (jx_dc dd_47 24 rfl) w_274 w_276 rfl ⟨by decide, by decide⟩ np_43) ?_
  refine jx_ac (s_putfF kk_5 (k := 5) (Nat.le_of_ble_eq_true rfl) (jx_dc dd_47 25 rfl) (fun _ h => jx_okR_n _ _ h) rfl rfl rfl w_277) ?_
  refine jx_ac (s_aload_n (jx_dc dd_47 26 rfl) rfl) ?_
  refine jx_ac (s_new kk_1 (jx_dc dd_47 27 rfl) w_278 w_279 w_280 rfl) ?_
  refine jx_ac (s_dup (jx_dc dd_47 28 rfl)) ?_
  refine jx_ac (s_calliN (ce := 11) mc_11 w_282 (jx_dc dd_47 29 rfl) w_281 w_283 rfl ⟨by decide, by decide⟩ np_11) ?_
  refine jx_ac (s_putfF kk_5 (k := 6) (Nat.le_of_ble_eq_true rfl) (jx_dc dd_47 30 rfl) (fun _ h => jx_okR_n _ _ h) rfl rfl rfl w_284) ?_
  refine jx_ac (s_aload_n (jx_dc dd_47 31 rfl) rfl) ?_
  refine jx_ac (s_bipush (jx_dc dd_47 32 rfl) rfl) ?_
  refine jx_ac (s_newa (t := 0) (z := jx_zi) rfl rfl (Nat.le_of_ble_eq_true rfl) (jx_dc dd_47 33 rfl) w_95 (fun _ _ => rfl) (fun _ => rfl) (by decide) (fun _ _ h => h)) ?_
  refine jx_ac (s_putfF kk_5 (k := 7) (Nat.le_of_ble_eq_true rfl) (jx_dc dd_47 34 rfl) (fun _ h => jx_okA_n _ _ h) rfl rfl rfl w_285) ?_
  refine jx_ac (s_aload_n (jx_dc dd_47 35 rfl) rfl) ?_
  refine jx_ac (s_iconst (jx_dc dd_47 36 rfl) rfl) ?_
  refine jx_ac (s_putf kk_5 (k := 9) (Nat.le_of_ble_eq_true rfl) (jx_dc dd_47 37 rfl) (fun _ h => jx_okI_n _ h) rfl w_286) ?_
  refine jx_ac (s_ret rfl (jx_dc dd_47 38 rfl)) ?_
  exact jx_an
theorem A_47 : jx_All (jx_mk D c0 c1 c2 c3 c4 H0 ga L xs) jx_mt md_47 K_47 :=  A_47_0
def dl_48 : List (Nat × Instr × Nat) := [(0, .iconst 0, 1), (1, .istore_n 3, 1), (2, .bipush 56, 2), (4, .istore 4, 2), (6, .iload 4, 2), (8, .ifCond .lt 46, 3), (11, .lload_n 1, 1), (12, .iload 4, 2), (14, .invokestatic 56, 3), (17, .istore 5, 2), (19, .iload 5, 2), (21, .ifCond .eq 19, 3), (24, .iload 5, 2), (26, .bipush 33, 2), (28, .if_icmp .lt 10, 3), (31, .iload 5, 2), (33, .bipush 126, 2), (35, .if_icmp .le 5, 3), (38, .iconst 0, 1), (39, .ireturn, 1), (40, .iload 5, 2), (42, .ifCond .eq 6, 3), (45, .iinc 3 1, 3), (48, .iinc 4 (-8), 3), (51, .goto (-45), 3), (54, .aload_n 0, 1), (55, .getfield 60, 3), (58, .iload_n 3, 1), (59, .iadd, 1), (60, .bipush 40, 2), (62, .if_icmp .le 5, 3), (65, .iconst 0, 1), (66, .ireturn, 1), (67, .aload_n 0, 1), (68, .lload_n 1, 1), (69, .invokevirtual 63, 3), (72, .iconst 1, 1), (73, .ireturn, 1)]
theorem dd_48 : ∀ q ∈ dl_48, decode prog_1_method_2_code q.1 = .ok q.2 := by decide +kernel
theorem A_48_0 : jx_All (jx_mk D c0 c1 c2 c3 c4 H0 ga L xs) jx_mt md_48 K_48_0 := by
  refine jx_ac (s_iconst (jx_dc dd_48 0 rfl) rfl) ?_
  refine jx_ac (s_istore_n (jx_dc dd_48 1 rfl) rfl) ?_
  refine jx_ac (s_bipush (jx_dc dd_48 2 rfl) rfl) ?_
  refine jx_ac (s_istore (jx_dc dd_48 3 rfl)) ?_
  refine jx_ac (s_iload (jx_dc dd_48 4 rfl)) ?_
  refine jx_ac (s_iflt (jx_dc dd_48 5 rfl) rfl) ?_
  refine jx_ac (s_lload_n (jx_dc dd_48 6 rfl) rfl) ?_
  refine jx_ac (s_iload (jx_dc dd_48 7 rfl)) ?_
  refine jx_ac (s_calls (ce := 49) mc_49 (jx_dc dd_48 8 rfl) w_287 w_288 w_2 ⟨by decide, by decide⟩ np_49) ?_
  refine jx_ac (s_istore (jx_dc dd_48 9 rfl)) ?_
  refine jx_ac (s_iload (jx_dc dd_48 10 rfl)) ?_
  refine jx_ac (s_ifeq (jx_dc dd_48 11 rfl) rfl) ?_
  refine jx_ac (s_iload (jx_dc dd_48 12 rfl)) ?_
  refine jx_ac (s_bipush (jx_dc dd_48 13 rfl) rfl) ?_
  refine jx_ac (s_ilt (jx_dc dd_48 14 rfl) rfl) ?_
  refine jx_ac (s_iload (jx_dc dd_48 15 rfl)) ?_
  refine jx_ac (s_bipush (jx_dc dd_48 16 rfl) rfl) ?_
  refine jx_ac (s_ile (jx_dc dd_48 17 rfl) rfl) ?_
  refine jx_ac (s_iconst (jx_dc dd_48 18 rfl) rfl) ?_
  refine jx_ac (s_zret rfl (jx_dc dd_48 19 rfl)) ?_
  refine jx_ac (s_iload (jx_dc dd_48 20 rfl)) ?_
  refine jx_ac (s_ifeq (jx_dc dd_48 21 rfl) rfl) ?_
  refine jx_ac (s_iinc (jx_dc dd_48 22 rfl) rfl) ?_
  refine jx_ac (s_iinc (jx_dc dd_48 23 rfl) rfl) ?_
  refine jx_ac (s_goto (jx_dc dd_48 24 rfl) rfl) ?_
  refine jx_ac (s_aload_n (jx_dc dd_48 25 rfl) rfl) ?_
  refine jx_ac (s_getf kk_5 (k := 1) (Nat.le_of_ble_eq_true rfl) (jx_dc dd_48 26 rfl) w_289) ?_
  refine jx_ac (s_iload_n (jx_dc dd_48 27 rfl) rfl) ?_
  refine jx_ac (s_iadd (jx_dc dd_48 28 rfl)) ?_
  refine jx_ac (s_bipush (jx_dc dd_48 29 rfl) rfl) ?_
  refine jx_ac (s_ile (jx_dc dd_48 30 rfl) rfl) ?_
  refine jx_ac (s_iconst (jx_dc dd_48 31 rfl) rfl) ?_
  refine jx_ac (s_zret rfl (jx_dc dd_48 32 rfl)) ?_
  refine jx_ac (s_aload_n (jx_dc dd_48 33 rfl) rfl) ?_
  refine jx_ac (s_lload_n (jx_dc dd_48 34 rfl) rfl) ?_
  refine jx_ac (s_callv (ce := 50) kk_5 mc_50 (jx_dc dd_48 35 rfl) w_290 w_291 w_292 ⟨by decide, by decide⟩ np_50) ?_
  refine jx_ac (s_iconst (jx_dc dd_48 36 rfl) rfl) ?_
  refine jx_ac (s_zret rfl (jx_dc dd_48 37 rfl)) ?_
  exact jx_an
theorem A_48 : jx_All (jx_mk D c0 c1 c2 c3 c4 H0 ga L xs) jx_mt md_48 K_48 :=  A_48_0
def dl_49 : List (Nat × Instr × Nat) := [(0, .lload_n 0, 1), (1, .iload_n 2, 1), (2, .lushr, 1), (3, .l2i, 1), (4, .sipush 255, 3), (7, .iand, 1), (8, .ireturn, 1)]
theorem dd_49 : ∀ q ∈ dl_49, decode prog_1_method_3_code q.1 = .ok q.2 := by decide +kernel
theorem A_49_0 : jx_All (jx_mk D c0 c1 c2 c3 c4 H0 ga L xs) jx_mt md_49 K_49_0 := by
  refine jx_ac (s_lload_n (jx_dc dd_49 0 rfl) rfl) ?_
  refine jx_ac (s_iload_n (jx_dc dd_49 1 rfl) rfl) ?_
  refine jx_ac (s_lushr (jx_dc dd_49 2 rfl)) ?_
  refine jx_ac (s_l2i (jx_dc dd_49 3 rfl)) ?_
  refine jx_ac (s_sipush (jx_dc dd_49 4 rfl) rfl) ?_
  refine jx_ac (s_iand (jx_dc dd_49 5 rfl)) ?_
  refine jx_ac (s_iret rfl (jx_dc dd_49 6 rfl)) ?_
  exact jx_an
theorem A_49 : jx_All (jx_mk D c0 c1 c2 c3 c4 H0 ga L xs) jx_mt md_49 K_49 :=  A_49_0
def dl_50 : List (Nat × Instr × Nat) := [(0, .bipush 56, 2), (2, .istore_n 3, 1), (3, .iload_n 3, 1), (4, .ifCond .lt 52, 3), (7, .lload_n 1, 1), (8, .iload_n 3, 1), (9, .invokestatic 56, 3), (12, .istore 4, 2), (14, .iload 4, 2), (16, .ifCond .eq 34, 3), (19, .aload_n 0, 1), (20, .getfield 60, 3), (23, .bipush 40, 2), (25, .if_icmp .ge 25, 3), (28, .aload_n 0, 1), (29, .getfield 9, 3), (32, .aload_n 0, 1), (33, .getfield 60, 3), (36, .iload 4, 2), (38, .i2c, 1), (39, .castore, 1), (40, .aload_n 0, 1), (41, .dup, 1), (42, .getfield 60, 3), (45, .iconst 1, 1), (46, .iadd, 1), (47, .putfield 60, 3), (50, .iinc 3 (-8), 3), (53, .goto (-50), 3), (56, .return_, 1)]
theorem dd_50 : ∀ q ∈ dl_50, decode prog_1_method_4_code q.1 = .ok q.2 := by decide +kernel
theorem A_50_0 : jx_All (jx_mk D c0 c1 c2 c3 c4 H0 ga L xs) jx_mt md_50 K_50_0 := by
  refine jx_ac (s_bipush (jx_dc dd_50 0 rfl) rfl) ?_
  refine jx_ac (s_istore_n (jx_dc dd_50 1 rfl) rfl) ?_
  refine jx_ac (s_iload_n (jx_dc dd_50 2 rfl) rfl) ?_
  refine jx_ac (s_iflt (jx_dc dd_50 3 rfl) rfl) ?_
  refine jx_ac (s_lload_n (jx_dc dd_50 4 rfl) rfl) ?_
  refine jx_ac (s_iload_n (jx_dc dd_50 5 rfl) rfl) ?_
  refine jx_ac (s_calls (ce := 49) mc_49 (jx_dc dd_50 6 rfl) w_287 w_288 w_2 ⟨by decide, by decide⟩ np_49) ?_
  refine jx_ac (s_istore (jx_dc dd_50 7 rfl)) ?_
  refine jx_ac (s_iload (jx_dc dd_50 8 rfl)) ?_
  refine jx_ac (s_ifeq (jx_dc dd_50 9 rfl) rfl) ?_
  refine jx_ac (s_aload_n (jx_dc dd_50 10 rfl) rfl) ?_
  refine jx_ac (s_getf kk_5 (k := 1) (Nat.le_of_ble_eq_true rfl) (jx_dc dd_50 11 rfl) w_289) ?_
  refine jx_ac (s_bipush (jx_dc dd_50 12 rfl) rfl) ?_
  refine jx_ac (s_ige (jx_dc dd_50 13 rfl) rfl) ?_
  refine jx_ac (s_aload_n (jx_dc dd_50 14 rfl) rfl) ?_
  refine jx_ac (s_getf kk_5 (k := 0) (Nat.le_of_ble_eq_true rfl) (jx_dc dd_50 15 rfl) w_254) ?_
  refine jx_ac (s_aload_n (jx_dc dd_50 16 rfl) rfl) ?_
  refine jx_ac (s_getf kk_5 (k := 1) (Nat.le_of_ble_eq_true rfl) (jx_dc dd_50 17 rfl) w_289) ?_
  refine jx_ac (s_iload (jx_dc dd_50 18 rfl)) ?_
  refine jx_ac (s_i2c (jx_dc dd_50 19 rfl)) ?_
  refine jx_ac (s_cast rfl (jx_dc dd_50 20 rfl)) ?_
  refine jx_ac (s_aload_n (jx_dc dd_50 21 rfl) rfl) ?_
  refine jx_ac (s_dup (jx_dc dd_50 22 rfl)) ?_
  refine jx_ac (s_getf kk_5 (k := 1) (Nat.le_of_ble_eq_true rfl) (jx_dc dd_50 23 rfl) w_289) ?_
  refine jx_ac (s_iconst (jx_dc dd_50 24 rfl) rfl) ?_
  refine jx_ac (s_iadd (jx_dc dd_50 25 rfl)) ?_
  refine jx_ac (s_putf kk_5 (k := 1) (Nat.le_of_ble_eq_true rfl) (jx_dc dd_50 26 rfl) (fun _ h => jx_okI_n _ h) rfl w_289) ?_
  refine jx_ac (s_iinc (jx_dc dd_50 27 rfl) rfl) ?_
  refine jx_ac (s_goto (jx_dc dd_50 28 rfl) rfl) ?_
  refine jx_ac (s_ret rfl (jx_dc dd_50 29 rfl)) ?_
  exact jx_an
theorem A_50 : jx_All (jx_mk D c0 c1 c2 c3 c4 H0 ga L xs) jx_mt md_50 K_50 :=  A_50_0
def dl_51 : List (Nat × Instr × Nat) := [(0, .aload_n 0, 1), (1, .iconst 0, 1), (2, .putfield 60, 3), (5, .return_, 1)]
theorem dd_51 : ∀ q ∈ dl_51, decode prog_1_method_5_code q.1 = .ok q.2 := by decide +kernel
theorem A_51_0 : jx_All (jx_mk D c0 c1 c2 c3 c4 H0 ga L xs) jx_mt md_51 K_51_0 := by
  refine jx_ac (s_aload_n (jx_dc dd_51 0 rfl) rfl) ?_
  refine jx_ac (s_iconst (jx_dc dd_51 1 rfl) rfl) ?_
  refine jx_ac (s_putf kk_5 (k := 1) (Nat.le_of_ble_eq_true rfl) (jx_dc dd_51 2 rfl) (fun _ h => jx_okI_n _ h) rfl w_289) ?_
  refine jx_ac (s_ret rfl (jx_dc dd_51 3 rfl)) ?_
  exact jx_an
theorem A_51 : jx_All (jx_mk D c0 c1 c2 c3 c4 H0 ga L xs) jx_mt md_51 K_51 :=  A_51_0
def dl_52 : List (Nat × Instr × Nat) := [(0, .iload_n 1, 1), (1, .ifCond .lt 20, 3), (4, .iload_n 1, 1), (5, .aload_n 0, 1), (6, .getfield 92, 3), (9, .if_icmp .ge 12, 3), (12, .aload_n 0, 1), (13, .getfield 48, 3), (16, .iload_n 1, 1), (17, .iaload, 1), (18, .goto 4, 3), (21, .iconst 0, 1), (22, .ireturn, 1)]
theorem dd_52 : ∀ q ∈ dl_52, decode prog_1_method_9_code q.1 = .ok q.2 := by decide +kernel
theorem A_52_0 : jx_All (jx_mk D c0 c1 c2 c3 c4 H0 ga L xs) jx_mt md_52 K_52_0 := by
  refine jx_ac (s_iload_n (jx_dc dd_52 0 rfl) rfl) ?_
  refine jx_ac (s_iflt (jx_dc dd_52 1 rfl) rfl) ?_
  refine jx_ac (s_iload_n (jx_dc dd_52 2 rfl) rfl) ?_
  refine jx_ac (s_aload_n (jx_dc dd_52 3 rfl) rfl) ?_
  refine jx_ac (s_getf kk_5 (k := 8) (Nat.le_of_ble_eq_true rfl) (jx_dc dd_52 4 rfl) w_293) ?_
  refine jx_ac (s_ige (jx_dc dd_52 5 rfl) rfl) ?_
  refine jx_ac (s_aload_n (jx_dc dd_52 6 rfl) rfl) ?_
  refine jx_ac (s_getf kk_5 (k := 7) (Nat.le_of_ble_eq_true rfl) (jx_dc dd_52 7 rfl) w_285) ?_
  refine jx_ac (s_iload_n (jx_dc dd_52 8 rfl) rfl) ?_
  refine jx_ac (s_iald rfl (jx_dc dd_52 9 rfl)) ?_
  refine jx_ac (s_goto (jx_dc dd_52 10 rfl) rfl) ?_
  refine jx_ac (s_iconst (jx_dc dd_52 11 rfl) rfl) ?_
  refine jx_ac (s_iret rfl (jx_dc dd_52 12 rfl)) ?_
  exact jx_an
theorem A_52 : jx_All (jx_mk D c0 c1 c2 c3 c4 H0 ga L xs) jx_mt md_52 K_52 :=  A_52_0
def dl_53 : List (Nat × Instr × Nat) := [(0, .aload_n 0, 1), (1, .getfield 113, 3), (4, .ifCond .ne 12, 3), (7, .iload_n 1, 1), (8, .ifCond .lt 8, 3), (11, .iload_n 1, 1), (12, .iconst 4, 1), (13, .if_icmp .le 5, 3), (16, .iconst 0, 1), (17, .ireturn, 1), (18, .aload_n 0, 1), (19, .iload_n 1, 1), (20, .putfield 52, 3), (23, .iconst 1, 1), (24, .ireturn, 1)]
theorem dd_53 : ∀ q ∈ dl_53, decode prog_1_method_11_code q.1 = .ok q.2 := by decide +kernel
theorem A_53_0 : jx_All (jx_mk D c0 c1 c2 c3 c4 H0 ga L xs) jx_mt md_53 K_53_0 := by
  refine jx_ac (s_aload_n (jx_dc dd_53 0 rfl) rfl) ?_
  refine jx_ac (s_getf kk_5 (k := 10) (Nat.le_of_ble_eq_true rfl) (jx_dc dd_53 1 rfl) w_294) ?_
  refine jx_ac (s_ifne (jx_dc dd_53 2 rfl) rfl) ?_
  refine jx_ac (s_iload_n (jx_dc dd_53 3 rfl) rfl) ?_
  refine jx_ac (s_iflt (jx_dc dd_53 4 rfl) rfl) ?_
  refine jx_ac (s_iload_n (jx_dc dd_53 5 rfl) rfl) ?_
  refine jx_ac (s_iconst (jx_dc dd_53 6 rfl) rfl) ?_
  refine jx_ac (s_ile (jx_dc dd_53 7 rfl) rfl) ?_
  refine jx_ac (s_iconst (jx_dc dd_53 8 rfl) rfl) ?_
  refine jx_ac (s_zret rfl (jx_dc dd_53 9 rfl)) ?_
  refine jx_ac (s_aload_n (jx_dc dd_53 10 rfl) rfl) ?_
  refine jx_ac (s_iload_n (jx_dc dd_53 11 rfl) rfl) ?_
  refine jx_ac (s_putf kk_5 (k := 9) (Nat.le_of_ble_eq_true rfl) (jx_dc dd_53 12 rfl) (fun _ h => jx_okI_n _ h) rfl w_286) ?_
  refine jx_ac (s_iconst (jx_dc dd_53 13 rfl) rfl) ?_
  refine jx_ac (s_zret rfl (jx_dc dd_53 14 rfl)) ?_
  exact jx_an
theorem A_53 : jx_All (jx_mk D c0 c1 c2 c3 c4 H0 ga L xs) jx_mt md_53 K_53 :=  A_53_0
def dl_54 : List (Nat × Instr × Nat) := [(0, .aload_n 0, 1), (1, .getfield 113, 3), (4, .ifCond .ne 5, 3), (7, .iconst (-1), 1), (8, .ireturn, 1), (9, .aload_n 0, 1), (10, .getfield 44, 3), (13, .getfield 117, 3), (16, .istore_n 1, 1), (17, .iload_n 1, 1), (18, .ifCond .eq 7, 3), (21, .aload_n 0, 1), (22, .invokevirtual 120, 3), (25, .aload_n 0, 1), (26, .getfield 44, 3), (29, .invokevirtual 123, 3), (32, .aload_n 0, 1), (33, .iconst 0, 1), (34, .putfield 113, 3), (37, .iload_n 1, 1), (38, .ifCond .eq 7, 3), (41, .iconst 1, 1), (42, .goto 4, 3), (45, .iconst 0, 1), (46, .ireturn, 1)]
theorem dd_54 : ∀ q ∈ dl_54, decode prog_1_method_12_code q.1 = .ok q.2 := by decide +kernel
theorem A_54_0 : jx_All (jx_mk D c0 c1 c2 c3 c4 H0 ga L xs) jx_mt md_54 K_54_0 := by
  refine jx_ac (s_aload_n (jx_dc dd_54 0 rfl) rfl) ?_
  refine jx_ac (s_getf kk_5 (k := 10) (Nat.le_of_ble_eq_true rfl) (jx_dc dd_54 1 rfl) w_294) ?_
  refine jx_ac (s_ifne (jx_dc dd_54 2 rfl) rfl) ?_
  refine jx_ac (s_iconst (jx_dc dd_54 3 rfl) rfl) ?_
  refine jx_ac (s_iret rfl (jx_dc dd_54 4 rfl)) ?_
  refine jx_ac (s_aload_n (jx_dc dd_54 5 rfl) rfl) ?_
  refine jx_ac (s_getf kk_5 (k := 6) (Nat.le_of_ble_eq_true rfl) (jx_dc dd_54 6 rfl) w_284) ?_
  refine jx_ac (s_getfN kk_1 (k := 0) (Nat.le_of_ble_eq_true rfl) (jx_dc dd_54 7 rfl) w_295) ?_
  refine jx_ac (s_istore_n (jx_dc dd_54 8 rfl) rfl) ?_
  refine jx_ac (s_iload_n (jx_dc dd_54 9 rfl) rfl) ?_
  refine jx_ac (s_ifeq (jx_dc dd_54 10 rfl) rfl) ?_
  refine jx_ac (s_aload_n (jx_dc dd_54 11 rfl) rfl) ?_
  refine jx_ac (s_callv (ce := 55) kk_5 mc_55 (jx_dc dd_54 12 rfl) w_296 w_297 w_298 ⟨by decide, by decide⟩ np_55) ?_
  refine jx_ac (s_aload_n (jx_dc dd_54 13 rfl) rfl) ?_
  refine jx_ac (s_getf kk_5 (k := 6) (Nat.le_of_ble_eq_true rfl) (jx_dc dd_54 14 rfl) w_284) ?_
  refine jx_ac (s_callv (ce := 12) kk_1 mc_12 (jx_dc dd_54 15 rfl) w_299 w_300 w_301 ⟨by decide, by decide⟩ np_12) ?_
  refine jx_ac (s_aload_n (jx_dc dd_54 16 rfl) rfl) ?_
  refine jx_ac (s_iconst (jx_dc dd_54 17 rfl) rfl) ?_
  refine jx_ac (s_putf kk_5 (k := 10) (Nat.le_of_ble_eq_true rfl) (jx_dc dd_54 18 rfl) (fun _ h => jx_okZ_n _ h) rfl w_294) ?_
  refine jx_ac (s_iload_n (jx_dc dd_54 19 rfl) rfl) ?_
  refine jx_ac (s_ifeq (jx_dc dd_54 20 rfl) rfl) ?_
  refine jx_ac (s_iconst (jx_dc dd_54 21 rfl) rfl) ?_
  refine jx_ac (s_goto (jx_dc dd_54 22 rfl) rfl) ?_
  refine jx_ac (s_iconst (jx_dc dd_54 23 rfl) rfl) ?_
  refine jx_ac (s_iret rfl (jx_dc dd_54 24 rfl)) ?_
  exact jx_an
theorem A_54 : jx_All (jx_mk D c0 c1 c2 c3 c4 H0 ga L xs) jx_mt md_54 K_54 :=  A_54_0
def dl_55 : List (Nat × Instr × Nat) := [(0, .aload_n 0, 1), (1, .getfield 37, 3), (4, .aload_n 0, 1), (5, .getfield 44, 3), (8, .getfield 194, 3), (11, .invokevirtual 109, 3), (14, .iconst (-1), 1), (15, .if_icmp .eq 7, 3), (18, .iconst 1, 1), (19, .goto 4, 3), (22, .iconst 0, 1), (23, .istore_n 1, 1), (24, .aload_n 0, 1), (25, .getfield 44, 3), (28, .getfield 197, 3), (31, .ifCond .eq 21, 3), (34, .iload_n 1, 1), (35, .ifCond .eq 17, 3), (38, .aload_n 0, 1), (39, .getfield 37, 3), (42, .aload_n 0, 1), (43, .getfield 44, 3), (46, .getfield 194, 3), (49, .invokevirtual 200, 3), (52, .aload_n 0, 1), (53, .getfield 44, 3), (56, .getfield 197, 3), (59, .ifCond .ne 28, 3), (62, .iload_n 1, 1), (63, .ifCond .ne 24, 3), (66, .aload_n 0, 1), (67, .getfield 37, 3), (70, .aload_n 0, 1), (71, .getfield 44, 3), (74, .getfield 194, 3), (77, .aload_n 0, 1), (78, .getfield 44, 3), (81, .getfield 204, 3), (84, .invokevirtual 207, 3), (87, .return_, 1)]
theorem dd_55 : ∀ q ∈ dl_55, decode prog_1_method_22_code q.1 = .ok q.2 := by decide +kernel
theorem A_55_0 : jx_All (jx_mk D c0 c1 c2 c3 c4 H0 ga L xs) jx_mt md_55 K_55_0 := by
  refine jx_ac (s_aload_n (jx_dc dd_55 0 rfl) rfl) ?_
  refine jx_ac (s_getf kk_5 (k := 5) (Nat.le_of_ble_eq_true rfl) (jx_dc dd_55 1 rfl) w_277) ?_
  refine jx_ac (s_aload_n (jx_dc dd_55 2 rfl) rfl) ?_
  refine jx_ac (s_getf kk_5 (k := 6) (Nat.le_of_ble_eq_true rfl) (jx_dc dd_55 3 rfl) w_284) ?_
  refine jx_ac (s_getfN kk_1 (k := 2) (Nat.le_of_ble_eq_true rfl) (jx_dc dd_55 4 rfl) w_302) ?_
  refine jx_ac (s_callv (ce := 44) kk_4 mc_44 (jx_dc dd_55 5 rfl) w_303 w_249 w_250 ⟨by decide, by decide⟩ np_44) ?_
  refine jx_ac (s_iconst (jx_dc dd_55 6 rfl) rfl) ?_
  refine jx_ac (s_ieq (jx_dc dd_55 7 rfl) rfl) ?_
  refine jx_ac (s_iconst (jx_dc dd_55 8 rfl) rfl) ?_
  refine jx_ac (s_goto (jx_dc dd_55 9 rfl) rfl) ?_
  refine jx_ac (s_iconst (jx_dc dd_55 10 rfl) rfl) ?_
  refine jx_ac (s_istore_n (jx_dc dd_55 11 rfl) rfl) ?_
  refine jx_ac (s_aload_n (jx_dc dd_55 12 rfl) rfl) ?_
  refine jx_ac (s_getf kk_5 (k := 6) (Nat.le_of_ble_eq_true rfl) (jx_dc dd_55 13 rfl) w_284) ?_
  refine jx_ac (s_getfN kk_1 (k := 1) (Nat.le_of_ble_eq_true rfl) (jx_dc dd_55 14 rfl) w_304) ?_
  refine jx_ac (s_ifeq (jx_dc dd_55 15 rfl) rfl) ?_
  refine jx_ac (s_iload_n (jx_dc dd_55 16 rfl) rfl) ?_
  refine jx_ac (s_ifeq (jx_dc dd_55 17 rfl) rfl) ?_
  refine jx_ac (s_aload_n (jx_dc dd_55 18 rfl) rfl) ?_
  refine jx_ac (s_getf kk_5 (k := 5) (Nat.le_of_ble_eq_true rfl) (jx_dc dd_55 19 rfl) w_277) ?_
  refine jx_ac (s_aload_n (jx_dc dd_55 20 rfl) rfl) ?_
  refine jx_ac (s_getf kk_5 (k := 6) (Nat.le_of_ble_eq_true rfl) (jx_dc dd_55 21 rfl) w_284) ?_
  refine jx_ac (s_getfN kk_1 (k := 2) (Nat.le_of_ble_eq_true rfl) (jx_dc dd_55 22 rfl) w_302) ?_
  refine jx_ac (s_callv (ce := 45) kk_4 mc_45 (jx_dc dd_55 23 rfl) w_305 w_306 w_307 ⟨by decide, by decide⟩ np_45) ?_
  refine jx_ac (s_aload_n (jx_dc dd_55 24 rfl) rfl) ?_
  refine jx_ac (s_getf kk_5 (k := 6) (Nat.le_of_ble_eq_true rfl) (jx_dc dd_55 25 rfl) w_284) ?_
  refine jx_ac (s_getfN kk_1 (k := 1) (Nat.le_of_ble_eq_true rfl) (jx_dc dd_55 26 rfl) w_304) ?_
  refine jx_ac (s_ifne (jx_dc dd_55 27 rfl) rfl) ?_
  refine jx_ac (s_iload_n (jx_dc dd_55 28 rfl) rfl) ?_
  refine jx_ac (s_ifne (jx_dc dd_55 29 rfl) rfl) ?_
  refine jx_ac (s_aload_n (jx_dc dd_55 30 rfl) rfl) ?_
  refine jx_ac (s_getf kk_5 (k := 5) (Nat.le_of_ble_eq_true rfl) (jx_dc dd_55 31 rfl) w_277) ?_
  refine jx_ac (s_aload_n (jx_dc dd_55 32 rfl) rfl) ?_
  refine jx_ac (s_getf kk_5 (k := 6) (Nat.le_of_ble_eq_true rfl) (jx_dc dd_55 33 rfl) w_284) ?_
  refine jx_ac (s_getfN kk_1 (k := 2) (Nat.le_of_ble_eq_true rfl) (jx_dc dd_55 34 rfl) w_302) ?_
  refine jx_ac (s_aload_n (jx_dc dd_55 35 rfl) rfl) ?_
  refine jx_ac (s_getf kk_5 (k := 6) (Nat.le_of_ble_eq_true rfl) (jx_dc dd_55 36 rfl) w_284) ?_
  refine jx_ac (s_getfN kk_1 (k := 3) (Nat.le_of_ble_eq_true rfl) (jx_dc dd_55 37 rfl) w_308) ?_
  refine jx_ac (s_callv (ce := 46) kk_4 mc_46 (jx_dc dd_55 38 rfl) w_309 w_310 w_311 ⟨by decide, by decide⟩ np_46) ?_
  refine jx_ac (s_ret rfl (jx_dc dd_55 39 rfl)) ?_
  exact jx_an
theorem A_55 : jx_All (jx_mk D c0 c1 c2 c3 c4 H0 ga L xs) jx_mt md_55 K_55 :=  A_55_0
def dl_56 : List (Nat × Instr × Nat) := [(0, .aload_n 0, 1), (1, .getfield 113, 3), (4, .ifCond .eq 7, 3), (7, .iconst (-1), 1), (8, .goto 10, 3), (11, .aload_n 0, 1), (12, .getfield 37, 3), (15, .getfield 75, 3), (18, .ireturn, 1)]
theorem dd_56 : ∀ q ∈ dl_56, decode prog_1_method_13_code q.1 = .ok q.2 := by decide +kernel
theorem A_56_0 : jx_All (jx_mk D c0 c1 c2 c3 c4 H0 ga L xs) jx_mt md_56 K_56_0 := by
  refine jx_ac (s_aload_n (jx_dc dd_56 0 rfl) rfl) ?_
  refine jx_ac (s_getf kk_5 (k := 10) (Nat.le_of_ble_eq_true rfl) (jx_dc dd_56 1 rfl) w_294) ?_
  refine jx_ac (s_ifeq (jx_dc dd_56 2 rfl) rfl) ?_
  refine jx_ac (s_iconst (jx_dc dd_56 3 rfl) rfl) ?_
  refine jx_ac (s_goto (jx_dc dd_56 4 rfl) rfl) ?_
  refine jx_ac (s_aload_n (jx_dc dd_56 5 rfl) rfl) ?_
  refine jx_ac (s_getf kk_5 (k := 5) (Nat.le_of_ble_eq_true rfl) (jx_dc dd_56 6 rfl) w_277) ?_
  refine jx_ac (s_getfN kk_4 (k := 2) (Nat.le_of_ble_eq_true rfl) (jx_dc dd_56 7 rfl) w_312) ?_
  refine jx_ac (s_iret rfl (jx_dc dd_56 8 rfl)) ?_
  exact jx_an
theorem A_56 : jx_All (jx_mk D c0 c1 c2 c3 c4 H0 ga L xs) jx_mt md_56 K_56 :=  A_56_0
def dl_57 : List (Nat × Instr × Nat) := [(0, .aload_n 0, 1), (1, .iload_n 1, 1), (2, .invokevirtual 126, 3), (5, .astore_n 2, 1), (6, .aload_n 2, 1), (7, .ifnonnull 7, 3), (10, .iconst 0, 1), (11, .goto 7, 3), (14, .aload_n 2, 1), (15, .getfield 130, 3), (18, .ireturn, 1)]
theorem dd_57 : ∀ q ∈ dl_57, decode prog_1_method_14_code q.1 = .ok q.2 := by decide +kernel
theorem A_57_0 : jx_All (jx_mk D c0 c1 c2 c3 c4 H0 ga L xs) jx_mt md_57 K_57_0 := by
  refine jx_ac (s_aload_n (jx_dc dd_57 0 rfl) rfl) ?_
  refine jx_ac (s_iload_n (jx_dc dd_57 1 rfl) rfl) ?_
  refine jx_ac (s_callv (ce := 58) kk_5 mc_58 (jx_dc dd_57 2 rfl) w_313 w_314 w_315 ⟨by decide, by decide⟩ np_58) ?_
  refine jx_ac (s_astore_n (jx_dc dd_57 3 rfl) rfl) ?_
  refine jx_ac (s_aload_n (jx_dc dd_57 4 rfl) rfl) ?_
  refine jx_ac (s_ifnonnull (jx_dc dd_57 5 rfl) rfl) ?_
  refine jx_ac (s_iconst (jx_dc dd_57 6 rfl) rfl) ?_
  refine jx_ac (s_goto (jx_dc dd_57 7 rfl) rfl) ?_
  refine jx_ac (s_aload_n (jx_dc dd_57 8 rfl) rfl) ?_
  refine jx_ac (s_getfN kk_0 (k := 3) (Nat.le_of_ble_eq_true rfl) (jx_dc dd_57 9 rfl) w_316) ?_
  refine jx_ac (s_iret rfl (jx_dc dd_57 10 rfl)) ?_
  exact jx_an
theorem A_57 : jx_All (jx_mk D c0 c1 c2 c3 c4 H0 ga L xs) jx_mt md_57 K_57 :=  A_57_0
def dl_58 : List (Nat × Instr × Nat) := [(0, .aload_n 0, 1), (1, .getfield 113, 3), (4, .ifCond .eq 7, 3), (7, .iconst (-1), 1), (8, .goto 11, 3), (11, .aload_n 0, 1), (12, .getfield 37, 3), (15, .iload_n 1, 1), (16, .invokevirtual 109, 3), (19, .istore_n 2, 1), (20, .iload_n 2, 1), (21, .iconst (-1), 1), (22, .if_icmp .ne 7, 3), (25, .aconst_null, 1), (26, .goto 12, 3), (29, .aload_n 0, 1), (30, .getfield 37, 3), (33, .getfield 95, 3), (36, .iload_n 2, 1), (37, .aaload, 1), (38, .areturn, 1)]
theorem dd_58 : ∀ q ∈ dl_58, decode prog_1_method_17_code q.1 = .ok q.2 := by decide +kernel
theorem A_58_0 : jx_All (jx_mk D c0 c1 c2 c3 c4 H0 ga L xs) jx_mt md_58 K_58_0 := by
  refine jx_ac (s_aload_n (jx_dc dd_58 0 rfl) rfl) ?_
  refine jx_ac (s_getf kk_5 (k := 10) (Nat.le_of_ble_eq_true rfl) (jx_dc dd_58 1 rfl) w_294) ?_
  refine jx_ac (s_ifeq (jx_dc dd_58 2 rfl) rfl) ?_
  refine jx_ac (s_iconst (jx_dc dd_58 3 rfl) rfl) ?_
  refine jx_ac (s_goto (jx_dc dd_58 4 rfl) rfl) ?_
  refine jx_ac (s_aload_n (jx_dc dd_58 5 rfl) rfl) ?_
  refine jx_ac (s_getf kk_5 (k := 5) (Nat.le_of_ble_eq_true rfl) (jx_dc dd_58 6 rfl) w_277) ?_
  refine jx_ac (s_iload_n (jx_dc dd_58 7 rfl) rfl) ?_
  refine jx_ac (s_callv (ce := 44) kk_4 mc_44 (jx_dc dd_58 8 rfl) w_303 w_249 w_250 ⟨by decide, by decide⟩ np_44) ?_
  refine jx_ac (s_istore_n (jx_dc dd_58 9 rfl) rfl) ?_
  refine jx_ac (s_iload_n (jx_dc dd_58 10 rfl) rfl) ?_
  refine jx_ac (s_iconst (jx_dc dd_58 11 rfl) rfl) ?_
  refine jx_ac (s_ine (jx_dc dd_58 12 rfl) rfl) ?_
  refine jx_ac (s_null (jx_dc dd_58 13 rfl)) ?_
  refine jx_ac (s_goto (jx_dc dd_58 14 rfl) rfl) ?_
  refine jx_ac (s_aload_n (jx_dc dd_58 15 rfl) rfl) ?_
  refine jx_ac (s_getf kk_5 (k := 5) (Nat.le_of_ble_eq_true rfl) (jx_dc dd_58 16 rfl) w_277) ?_
  refine jx_ac (s_getfN kk_4 (k := 0) (Nat.le_of_ble_eq_true rfl) (jx_dc dd_58 17 rfl) w_317) ?_
  refine jx_ac (s_iload_n (jx_dc dd_58 18 rfl) rfl) ?_
  refine jx_ac (s_aald rfl (jx_dc dd_58 19 rfl)) ?_
  refine jx_ac (s_aret rfl (Or.inl ⟨_, rfl⟩) (jx_dc dd_58 20 rfl)) ?_
  exact jx_an
theorem A_58 : jx_All (jx_mk D c0 c1 c2 c3 c4 H0 ga L xs) jx_mt md_58 K_58 :=  A_58_0
def dl_59 : List (Nat × Instr × Nat) := [(0, .aload_n 0, 1), (1, .iload_n 1, 1), (2, .invokevirtual 126, 3), (5, .astore_n 3, 1), (6, .aload_n 3, 1), (7, .ifnull 11, 3), (10, .aload_n 3, 1), (11, .iload_n 2, 1), (12, .invokevirtual 131, 3), (15, .ifCond .ne 7, 3), (18, .iconst 0, 1), (19, .goto 9, 3), (22, .aload_n 3, 1), (23, .getfield 135, 3), (26, .iload_n 2, 1), (27, .iaload, 1), (28, .ireturn, 1)]
theorem dd_59 : ∀ q ∈ dl_59, decode prog_1_method_15_code q.1 = .ok q.2 := by decide +kernel
theorem A_59_0 : jx_All (jx_mk D c0 c1 c2 c3 c4 H0 ga L xs) jx_mt md_59 K_59_0 := by
  refine jx_ac (s_aload_n (jx_dc dd_59 0 rfl) rfl) ?_
  refine jx_ac (s_iload_n (jx_dc dd_59 1 rfl) rfl) ?_
  refine jx_ac (s_callv (ce := 58) kk_5 mc_58 (jx_dc dd_59 2 rfl) w_313 w_314 w_315 ⟨by decide, by decide⟩ np_58) ?_
  refine jx_ac (s_astore_n (jx_dc dd_59 3 rfl) rfl) ?_
  refine jx_ac (s_aload_n (jx_dc dd_59 4 rfl) rfl) ?_
  refine jx_ac (s_ifnull (jx_dc dd_59 5 rfl) rfl) ?_
  refine jx_ac (s_aload_n (jx_dc dd_59 6 rfl) rfl) ?_
  refine jx_ac (s_iload_n (jx_dc dd_59 7 rfl) rfl) ?_
  refine jx_ac (s_callv (ce := 3) kk_0 mc_3 (jx_dc dd_59 8 rfl) w_318 w_109 w_110 ⟨by decide, by decide⟩ np_3) ?_
  refine jx_ac (s_ifne (jx_dc dd_59 9 rfl) rfl) ?_
  refine jx_ac (s_iconst (jx_dc dd_59 10 rfl) rfl) ?_
  refine jx_ac (s_goto (jx_dc dd_59 11 rfl) rfl) ?_
  refine jx_ac (s_aload_n (jx_dc dd_59 12 rfl) rfl) ?_
  refine jx_ac (s_getfN kk_0 (k := 0) (Nat.le_of_ble_eq_true rfl) (jx_dc dd_59 13 rfl) w_319) ?_
  refine jx_ac (s_iload_n (jx_dc dd_59 14 rfl) rfl) ?_
  refine jx_ac (s_iald rfl (jx_dc dd_59 15 rfl)) ?_
  refine jx_ac (s_iret rfl (jx_dc dd_59 16 rfl)) ?_
  exact jx_an
theorem A_59 : jx_All (jx_mk D c0 c1 c2 c3 c4 H0 ga L xs) jx_mt md_59 K_59 :=  A_59_0
def dl_60 : List (Nat × Instr × Nat) := [(0, .aload_n 0, 1), (1, .iload_n 1, 1), (2, .invokevirtual 126, 3), (5, .astore 4, 2), (7, .aload 4, 2), (9, .ifnull 21, 3), (12, .aload 4, 2), (14, .iload_n 2, 1), (15, .invokevirtual 131, 3), (18, .ifCond .eq 12, 3), (21, .aload 4, 2), (23, .iload_n 3, 1), (24, .invokevirtual 131, 3), (27, .ifCond .ne 7, 3), (30, .iconst 0, 1), (31, .goto 10, 3), (34, .aload 4, 2), (36, .iload_n 2, 1), (37, .iload_n 3, 1), (38, .invokevirtual 138, 3), (41, .ireturn, 1)]
theorem dd_60 : ∀ q ∈ dl_60, decode prog_1_method_16_code q.1 = .ok q.2 := by decide +kernel
theorem A_60_0 : jx_All (jx_mk D c0 c1 c2 c3 c4 H0 ga L xs) jx_mt md_60 K_60_0 := by
  refine jx_ac (s_aload_n (jx_dc dd_60 0 rfl) rfl) ?_
  refine jx_ac (s_iload_n (jx_dc dd_60 1 rfl) rfl) ?_
  refine jx_ac (s_callv (ce := 58) kk_5 mc_58 (jx_dc dd_60 2 rfl) w_313 w_314 w_315 ⟨by decide, by decide⟩ np_58) ?_
  refine jx_ac (s_astore (jx_dc dd_60 3 rfl)) ?_
  refine jx_ac (s_aload (jx_dc dd_60 4 rfl)) ?_
  refine jx_ac (s_ifnull (jx_dc dd_60 5 rfl) rfl) ?_
  refine jx_ac (s_aload (jx_dc dd_60 6 rfl)) ?_
  refine jx_ac (s_iload_n (jx_dc dd_60 7 rfl) rfl) ?_
  refine jx_ac (s_callv (ce := 3) kk_0 mc_3 (jx_dc dd_60 8 rfl) w_318 w_109 w_110 ⟨by decide, by decide⟩ np_3) ?_
  refine jx_ac (s_ifeq (jx_dc dd_60 9 rfl) rfl) ?_
  refine jx_ac (s_aload (jx_dc dd_60 10 rfl)) ?_
  refine jx_ac (s_iload_n (jx_dc dd_60 11 rfl) rfl) ?_
  refine jx_ac (s_callv (ce := 3) kk_0 mc_3 (jx_dc dd_60 12 rfl) w_318 w_109 w_110 ⟨by decide, by decide⟩ np_3) ?_
  refine jx_ac (s_ifne (jx_dc dd_60 13 rfl) rfl) ?_
  refine jx_ac (s_iconst (jx_dc dd_60 14 rfl) rfl) ?_
  refine jx_ac (s_goto (jx_dc dd_60 15 rfl) rfl) ?_
  refine jx_ac (s_aload (jx_dc dd_60 16 rfl)) ?_
  refine jx_ac (s_iload_n (jx_dc dd_60 17 rfl) rfl) ?_
  refine jx_ac (s_iload_n (jx_dc dd_60 18 rfl) rfl) ?_
  refine jx_ac (s_callv (ce := 4) kk_0 mc_4 (jx_dc dd_60 19 rfl) w_320 w_157 w_158 ⟨by decide, by decide⟩ np_4) ?_
  refine jx_ac (s_iret rfl (jx_dc dd_60 20 rfl)) ?_
  exact jx_an
theorem A_60 : jx_All (jx_mk D c0 c1 c2 c3 c4 H0 ga L xs) jx_mt md_60 K_60 :=  A_60_0
def dl_61 : List (Nat × Instr × Nat) := [(0, .aload_n 0, 1), (1, .iconst 0, 1), (2, .invokevirtual 67, 3), (5, .aload_n 0, 1), (6, .invokevirtual 71, 3), (9, .istore_n 1, 1), (10, .iload_n 1, 1), (11, .ifCond .ne 51, 3), (14, .aload_n 0, 1), (15, .getfield 37, 3), (18, .getfield 75, 3), (21, .bipush 12, 2), (23, .if_icmp .lt 13, 3), (26, .new 78, 3), (29, .dup, 1), (30, .ldc 80, 2), (32, .invokespecial 82, 3), (35, .athrow, 1), (36, .aload_n 0, 1), (37, .getfield 37, 3), (40, .getfield 85, 3), (43, .iconst 1, 1), (44, .iadd, 1), (45, .istore_n 2, 1), (46, .aload_n 0, 1), (47, .iconst 0, 1), (48, .iload_n 2, 1), (49, .invokevirtual 88, 3), (52, .ifCond .eq 7, 3), (55, .iload_n 2, 1), (56, .goto 5, 3), (59, .bipush (-2), 2), (61, .istore_n 1, 1), (62, .aload_n 0, 1), (63, .iconst 0, 1), (64, .putfield 60, 3), (67, .iload_n 1, 1), (68, .ireturn, 1)]
theorem dd_61 : ∀ q ∈ dl_61, decode prog_1_method_6_code q.1 = .ok q.2 := by decide +kernel
theorem A_61_0 : jx_All (jx_mk D c0 c1 c2 c3 c4 H0 ga L xs) jx_mt md_61 K_61_0 := by
  refine jx_ac (s_aload_n (jx_dc dd_61 0 rfl) rfl) ?_
  refine jx_ac (s_iconst (jx_dc dd_61 1 rfl) rfl) ?_
  refine jx_ac (s_callv (ce := 62) kk_5 mc_62 (jx_dc dd_61 2 rfl) w_321 w_322 w_323 ⟨by decide, by decide⟩ np_62) ?_
  refine jx_ac (s_aload_n (jx_dc dd_61 3 rfl) rfl) ?_
  refine jx_ac (s_callv (ce := 64) kk_5 mc_64 (jx_dc dd_61 4 rfl) w_324 w_325 w_326 ⟨by decide, by decide⟩ np_64) ?_
  refine jx_ac (s_istore_n (jx_dc dd_61 5 rfl) rfl) ?_
  refine jx_ac (s_iload_n (jx_dc dd_61 6 rfl) rfl) ?_
  refine jx_ac (s_ifne (jx_dc dd_61 7 rfl) rfl) ?_
  refine jx_ac (s_aload_n (jx_dc dd_61 8 rfl) rfl) ?_
  refine jx_ac (s_getf kk_5 (k := 5) (Nat.le_of_ble_eq_true rfl) (jx_dc dd_61 9 rfl) w_277) ?_
  refine jx_ac (s_getfN kk_4 (k := 2) (Nat.le_of_ble_eq_true rfl) (jx_dc dd_61 10 rfl) w_312) ?_
  refine jx_ac (s_bipush (jx_dc dd_61 11 rfl) rfl) ?_
  refine jx_ac (s_ilt (jx_dc dd_61 12 rfl) rfl) ?_
  refine jx_ac (s_thr (names := ["java/lang/RuntimeException", "java/lang/Exception"]) rfl jx_W0_mv (fun _ _ a b d => jx_G0.moved a b d) (jx_dc dd_61 13 rfl) (jx_dc dd_61 14 rfl) (jx_dc dd_61 15 rfl) (jx_dc dd_61 16 rfl) (jx_dc dd_61 17 rfl) w_327 w_328 w_329 (fun s h => h.2.2.1 (80, "the registry is full") (by decide)) (hA_82 ga) (by decide +kernel) (by decide +kernel) (by decide) rfl) ?_
  refine jx_ac (s_aload_n (jx_dc dd_61 18 rfl) rfl) ?_
  refine jx_ac (s_getf kk_5 (k := 5) (Nat.le_of_ble_eq_true rfl) (jx_dc dd_61 19 rfl) w_277) ?_
  refine jx_ac (s_getfN kk_4 (k := 3) (Nat.le_of_ble_eq_true rfl) (jx_dc dd_61 20 rfl) w_330) ?_
  refine jx_ac (s_iconst (jx_dc dd_61 21 rfl) rfl) ?_
  refine jx_ac (s_iadd (jx_dc dd_61 22 rfl)) ?_
  refine jx_ac (s_istore_n (jx_dc dd_61 23 rfl) rfl) ?_
  refine jx_ac (s_aload_n (jx_dc dd_61 24 rfl) rfl) ?_
  refine jx_ac (s_iconst (jx_dc dd_61 25 rfl) rfl) ?_
  refine jx_ac (s_iload_n (jx_dc dd_61 26 rfl) rfl) ?_
  refine jx_ac (s_callv (ce := 65) kk_5 mc_65 (jx_dc dd_61 27 rfl) w_331 w_332 w_333 ⟨by decide, by decide⟩ np_65) ?_
  refine jx_ac (s_ifeq (jx_dc dd_61 28 rfl) rfl) ?_
  refine jx_ac (s_iload_n (jx_dc dd_61 29 rfl) rfl) ?_
  refine jx_ac (s_goto (jx_dc dd_61 30 rfl) rfl) ?_
  refine jx_ac (s_bipush (jx_dc dd_61 31 rfl) rfl) ?_
  refine jx_ac (s_istore_n (jx_dc dd_61 32 rfl) rfl) ?_
  refine jx_ac (s_aload_n (jx_dc dd_61 33 rfl) rfl) ?_
  refine jx_ac (s_iconst (jx_dc dd_61 34 rfl) rfl) ?_
  refine jx_ac (s_putf kk_5 (k := 1) (Nat.le_of_ble_eq_true rfl) (jx_dc dd_61 35 rfl) (fun _ h => jx_okI_n _ h) rfl w_289) ?_
  refine jx_ac (s_iload_n (jx_dc dd_61 36 rfl) rfl) ?_
  refine jx_ac (s_iret rfl (jx_dc dd_61 37 rfl)) ?_
  exact jx_an
theorem A_61 : jx_All (jx_mk D c0 c1 c2 c3 c4 H0 ga L xs) jx_mt md_61 K_61 :=  A_61_0
def dl_62 : List (Nat × Instr × Nat) := [(0, .aload_n 0, 1), (1, .invokevirtual 106, 3), (4, .aload_n 0, 1), (5, .getfield 16, 3), (8, .aload_n 0, 1), (9, .getfield 9, 3), (12, .aload_n 0, 1), (13, .getfield 60, 3), (16, .iload_n 1, 1), (17, .invokevirtual 147, 3), (20, .aload_n 0, 1), (21, .getfield 16, 3), (24, .invokevirtual 151, 3), (27, .ifCond .eq 13, 3), (30, .aload_n 0, 1), (31, .getfield 16, 3), (34, .invokevirtual 155, 3), (37, .ifCond .eq 13, 3), (40, .new 158, 3), (43, .dup, 1), (44, .ldc 160, 2), (46, .invokespecial 162, 3), (49, .athrow, 1), (50, .aload_n 0, 1), (51, .getfield 16, 3), (54, .getfield 163, 3), (57, .bipush 10, 2), (59, .if_icmp .le 13, 3), (62, .new 164, 3), (65, .dup, 1), (66, .ldc 166, 2), (68, .invokespecial 168, 3), (71, .athrow, 1), (72, .aload_n 0, 1), (73, .getfield 16, 3), (76, .aload_n 0, 1), (77, .getfield 23, 3), (80, .invokevirtual 169, 3), (83, .iload_n 1, 1), (84, .ifCond .ne 30, 3), (87, .aload_n 0, 1), (88, .getfield 23, 3), (91, .aload_n 0, 1), (92, .getfield 16, 3), (95, .getfield 173, 3), (98, .invokestatic 176, 3), (101, .ifCond .ne 13, 3), (104, .new 182, 3), (107, .dup, 1), (108, .ldc 184, 2), (110, .invokespecial 186, 3), (113, .athrow, 1), (114, .return_, 1)]
theorem dd_62 : ∀ q ∈ dl_62, decode prog_1_method_19_code q.1 = .ok q.2 := by decide +kernel
theorem A_62_0 : jx_All (jx_mk D c0 c1 c2 c3 c4 H0 ga L xs) jx_mt md_62 K_62_0 := by
  refine jx_ac (s_aload_n (jx_dc dd_62 0 rfl) rfl) ?_
  refine jx_ac (s_callv (ce := 63) kk_5 mc_63 (jx_dc dd_62 1 rfl) w_334 w_335 w_336 ⟨by decide, by decide⟩ np_63) ?_
  refine jx_ac (s_aload_n (jx_dc dd_62 2 rfl) rfl) ?_
  refine jx_ac (s_getf kk_5 (k := 2) (Nat.le_of_ble_eq_true rfl) (jx_dc dd_62 3 rfl) w_261) ?_
  refine jx_ac (s_aload_n (jx_dc dd_62 4 rfl) rfl) ?_
  refine jx_ac (s_getf kk_5 (k := 0) (Nat.le_of_ble_eq_true rfl) (jx_dc dd_62 5 rfl) w_254) ?_
  refine jx_ac (s_aload_n (jx_dc dd_62 6 rfl) rfl) ?_
  refine jx_ac (s_getf kk_5 (k := 1) (Nat.le_of_ble_eq_true rfl) (jx_dc dd_62 7 rfl) w_289) ?_
  refine jx_ac (s_iload_n (jx_dc dd_62 8 rfl) rfl) ?_
  refine jx_ac (s_callv (ce := 23) kk_3 mc_23 (jx_dc dd_62 9 rfl) w_337 w_338 w_339 ⟨by decide, by decide⟩ np_23) ?_
  refine jx_ac (s_aload_n (jx_dc dd_62 10 rfl) rfl) ?_
  refine jx_ac (s_getf kk_5 (k := 2) (Nat.le_of_ble_eq_true rfl) (jx_dc dd_62 11 rfl) w_261) ?_
  refine jx_ac (s_callv (ce := 24) kk_3 mc_24 (jx_dc dd_62 12 rfl) w_340 w_341 w_342 ⟨by decide, by decide⟩ np_24) ?_
  refine jx_ac (s_ifeq (jx_dc dd_62 13 rfl) rfl) ?_
  refine jx_ac (s_aload_n (jx_dc dd_62 14 rfl) rfl) ?_
  refine jx_ac (s_getf kk_5 (k := 2) (Nat.le_of_ble_eq_true rfl) (jx_dc dd_62 15 rfl) w_261) ?_
  refine jx_ac (s_callv (ce := 41) kk_3 mc_41 (jx_dc dd_62 16 rfl) w_343 w_344 w_345 ⟨by decide, by decide⟩ np_41) ?_
  refine jx_ac (s_ifeq (jx_dc dd_62 17 rfl) rfl) ?_
  refine jx_ac (s_thr (names := ["java/lang/RuntimeException", "java/lang/Exception"]) rfl jx_W0_mv (fun _ _ a b d => jx_G0.moved a b d) (jx_dc dd_62 18 rfl) (jx_dc dd_62 19 rfl) (jx_dc dd_62 20 rfl) (jx_dc dd_62 21 rfl) (jx_dc dd_62 22 rfl) w_346 w_347 w_348 (fun s h => h.2.2.1 (160, "the text is not of the form, or has a bond that can't be") (by decide)) (hA_162 ga) (by decide +kernel) (by decide +kernel) (by decide) rfl) ?_
  refine jx_ac (s_aload_n (jx_dc dd_62 23 rfl) rfl) ?_
  refine jx_ac (s_getf kk_5 (k := 2) (Nat.le_of_ble_eq_true rfl) (jx_dc dd_62 24 rfl) w_261) ?_
  refine jx_ac (s_getfN kk_3 (k := 6) (Nat.le_of_ble_eq_true rfl) (jx_dc dd_62 25 rfl) w_349) ?_
  refine jx_ac (s_bipush (jx_dc dd_62 26 rfl) rfl) ?_
  refine jx_ac (s_ile (jx_dc dd_62 27 rfl) rfl) ?_
  refine jx_ac (s_thr (names := ["java/lang/RuntimeException", "java/lang/Exception"]) rfl jx_W0_mv (fun _ _ a b d => jx_G0.moved a b d) (jx_dc dd_62 28 rfl) (jx_dc dd_62 29 rfl) (jx_dc dd_62 30 rfl) (jx_dc dd_62 31 rfl) (jx_dc dd_62 32 rfl) w_350 w_351 w_352 (fun s h => h.2.2.1 (166, "the text has too many atoms") (by decide)) (hA_168 ga) (by decide +kernel) (by decide +kernel) (by decide) rfl) ?_
  refine jx_ac (s_aload_n (jx_dc dd_62 33 rfl) rfl) ?_
  refine jx_ac (s_getf kk_5 (k := 2) (Nat.le_of_ble_eq_true rfl) (jx_dc dd_62 34 rfl) w_261) ?_
  refine jx_ac (s_aload_n (jx_dc dd_62 35 rfl) rfl) ?_
  refine jx_ac (s_getf kk_5 (k := 3) (Nat.le_of_ble_eq_true rfl) (jx_dc dd_62 36 rfl) w_264) ?_
  refine jx_ac (s_callv (ce := 42) kk_3 mc_42 (jx_dc dd_62 37 rfl) w_353 w_354 w_355 ⟨by decide, by decide⟩ np_42) ?_
  refine jx_ac (s_iload_n (jx_dc dd_62 38 rfl) rfl) ?_
  refine jx_ac (s_ifne (jx_dc dd_62 39 rfl) rfl) ?_
  refine jx_ac (s_aload_n (jx_dc dd_62 40 rfl) rfl) ?_
  refine jx_ac (s_getf kk_5 (k := 3) (Nat.le_of_ble_eq_true rfl) (jx_dc dd_62 41 rfl) w_264) ?_
  refine jx_ac (s_aload_n (jx_dc dd_62 42 rfl) rfl) ?_
  refine jx_ac (s_getf kk_5 (k := 2) (Nat.le_of_ble_eq_true rfl) (jx_dc dd_62 43 rfl) w_261) ?_
  refine jx_ac (s_getfN kk_3 (k := 5) (Nat.le_of_ble_eq_true rfl) (jx_dc dd_62 44 rfl) w_356) ?_
  refine jx_ac (s_calls (ce := 111) mc_111 (jx_dc dd_62 45 rfl) w_357 w_358 w_359 ⟨by decide, by decide⟩ np_111) ?_
  refine jx_ac (s_ifne (jx_dc dd_62 46 rfl) rfl) ?_
  refine jx_ac (s_thr (names := ["java/lang/RuntimeException", "java/lang/Exception"]) rfl jx_W0_mv (fun _ _ a b d => jx_G0.moved a b d) (jx_dc dd_62 47 rfl) (jx_dc dd_62 48 rfl) (jx_dc dd_62 49 rfl) (jx_dc dd_62 50 rfl) (jx_dc dd_62 51 rfl) w_360 w_361 w_362 (fun s h => h.2.2.1 (184, "an atom can't have these bonds") (by decide)) (hA_186 ga) (by decide +kernel) (by decide +kernel) (by decide) rfl) ?_
  exact jx_an
theorem A_62_1 : jx_All (jx_mk D c0 c1 c2 c3 c4 H0 ga L xs) jx_mt md_62 K_62_1 := by
  refine jx_ac (s_ret rfl (jx_dc dd_62 52 rfl)) ?_
  exact jx_an
theorem A_62 : jx_All (jx_mk D c0 c1 c2 c3 c4 H0 ga L xs) jx_mt md_62 K_62 := (jx_aa A_62_0 A_62_1)
def dl_63 : List (Nat × Instr × Nat) := [(0, .aload_n 0, 1), (1, .getfield 113, 3), (4, .ifCond .eq 13, 3), (7, .new 142, 3), (10, .dup, 1), (11, .ldc 144, 2), (13, .invokespecial 146, 3), (16, .athrow, 1), (17, .return_, 1)]
theorem dd_63 : ∀ q ∈ dl_63, decode prog_1_method_18_code q.1 = .ok q.2 := by decide +kernel
theorem A_63_0 : jx_All (jx_mk D c0 c1 c2 c3 c4 H0 ga L xs) jx_mt md_63 K_63_0 := by
  refine jx_ac (s_aload_n (jx_dc dd_63 0 rfl) rfl) ?_
  refine jx_ac (s_getf kk_5 (k := 10) (Nat.le_of_ble_eq_true rfl) (jx_dc dd_63 1 rfl) w_294) ?_
  refine jx_ac (s_ifeq (jx_dc dd_63 2 rfl) rfl) ?_
  refine jx_ac (s_thr (names := ["java/lang/RuntimeException", "java/lang/Exception"]) rfl jx_W0_mv (fun _ _ a b d => jx_G0.moved a b d) (jx_dc dd_63 3 rfl) (jx_dc dd_63 4 rfl) (jx_dc dd_63 5 rfl) (jx_dc dd_63 6 rfl) (jx_dc dd_63 7 rfl) w_363 w_364 w_365 (fun s h => h.2.2.1 (144, "the registry is down") (by decide)) (hA_146 ga) (by decide +kernel) (by decide +kernel) (by decide) rfl) ?_
  refine jx_ac (s_ret rfl (jx_dc dd_63 8 rfl)) ?_
  exact jx_an
theorem A_63 : jx_All (jx_mk D c0 c1 c2 c3 c4 H0 ga L xs) jx_mt md_63 K_63 :=  A_63_0
def dl_64 : List (Nat × Instr × Nat) := [(0, .iconst 0, 1), (1, .istore_n 1, 1), (2, .iload_n 1, 1), (3, .aload_n 0, 1), (4, .getfield 37, 3), (7, .getfield 75, 3), (10, .if_icmp .ge 42, 3), (13, .aload_n 0, 1), (14, .getfield 30, 3), (17, .aload_n 0, 1), (18, .getfield 23, 3), (21, .aload_n 0, 1), (22, .getfield 37, 3), (25, .getfield 95, 3), (28, .iload_n 1, 1), (29, .aaload, 1), (30, .invokevirtual 187, 3), (33, .ifCond .eq 13, 3), (36, .aload_n 0, 1), (37, .getfield 37, 3), (40, .getfield 103, 3), (43, .iload_n 1, 1), (44, .iaload, 1), (45, .ireturn, 1), (46, .iinc 1 1, 3), (49, .goto (-47), 3), (52, .iconst 0, 1), (53, .ireturn, 1)]
theorem dd_64 : ∀ q ∈ dl_64, decode prog_1_method_20_code q.1 = .ok q.2 := by decide +kernel
theorem A_64_0 : jx_All (jx_mk D c0 c1 c2 c3 c4 H0 ga L xs) jx_mt md_64 K_64_0 := by
  refine jx_ac (s_iconst (jx_dc dd_64 0 rfl) rfl) ?_
  refine jx_ac (s_istore_n (jx_dc dd_64 1 rfl) rfl) ?_
  refine jx_ac (s_iload_n (jx_dc dd_64 2 rfl) rfl) ?_
  refine jx_ac (s_aload_n (jx_dc dd_64 3 rfl) rfl) ?_
  refine jx_ac (s_getf kk_5 (k := 5) (Nat.le_of_ble_eq_true rfl) (jx_dc dd_64 4 rfl) w_277) ?_
  refine jx_ac (s_getfN kk_4 (k := 2) (Nat.le_of_ble_eq_true rfl) (jx_dc dd_64 5 rfl) w_312) ?_
  refine jx_ac (s_ige (jx_dc dd_64 6 rfl) rfl) ?_
  refine jx_ac (s_aload_n (jx_dc dd_64 7 rfl) rfl) ?_
  refine jx_ac (s_getf kk_5 (k := 4) (Nat.le_of_ble_eq_true rfl) (jx_dc dd_64 8 rfl) w_270) ?_
  refine jx_ac (s_aload_n (jx_dc dd_64 9 rfl) rfl) ?_
  refine jx_ac (s_getf kk_5 (k := 3) (Nat.le_of_ble_eq_true rfl) (jx_dc dd_64 10 rfl) w_264) ?_
  refine jx_ac (s_aload_n (jx_dc dd_64 11 rfl) rfl) ?_
  refine jx_ac (s_getf kk_5 (k := 5) (Nat.le_of_ble_eq_true rfl) (jx_dc dd_64 12 rfl) w_277) ?_
  refine jx_ac (s_getfN kk_4 (k := 0) (Nat.le_of_ble_eq_true rfl) (jx_dc dd_64 13 rfl) w_317) ?_
  refine jx_ac (s_iload_n (jx_dc dd_64 14 rfl) rfl) ?_
  refine jx_ac (s_aald rfl (jx_dc dd_64 15 rfl)) ?_
  refine jx_ac (s_callv (ce := 15) kk_2 mc_15 (jx_dc dd_64 16 rfl) w_366 w_367 w_368 ⟨by decide, by decide⟩ np_15) ?_
  refine jx_ac (s_ifeq (jx_dc dd_64 17 rfl) rfl) ?_
  refine jx_ac (s_aload_n (jx_dc dd_64 18 rfl) rfl) ?_
  refine jx_ac (s_getf kk_5 (k := 5) (Nat.le_of_ble_eq_true rfl) (jx_dc dd_64 19 rfl) w_277) ?_
  refine jx_ac (s_getfN kk_4 (k := 1) (Nat.le_of_ble_eq_true rfl) (jx_dc dd_64 20 rfl) w_369) ?_
  refine jx_ac (s_iload_n (jx_dc dd_64 21 rfl) rfl) ?_
  refine jx_ac (s_iald rfl (jx_dc dd_64 22 rfl)) ?_
  refine jx_ac (s_iret rfl (jx_dc dd_64 23 rfl)) ?_
  refine jx_ac (s_iinc (jx_dc dd_64 24 rfl) rfl) ?_
  refine jx_ac (s_goto (jx_dc dd_64 25 rfl) rfl) ?_
  refine jx_ac (s_iconst (jx_dc dd_64 26 rfl) rfl) ?_
  refine jx_ac (s_iret rfl (jx_dc dd_64 27 rfl)) ?_
  exact jx_an
theorem A_64 : jx_All (jx_mk D c0 c1 c2 c3 c4 H0 ga L xs) jx_mt md_64 K_64 :=  A_64_0
def dl_65 : List (Nat × Instr × Nat) := [(0, .aload_n 0, 1), (1, .getfield 52, 3), (4, .ifCond .ne 7, 3), (7, .iconst 5, 1), (8, .goto 7, 3), (11, .aload_n 0, 1), (12, .getfield 52, 3), (15, .istore_n 3, 1), (16, .aload_n 0, 1), (17, .iconst 0, 1), (18, .putfield 52, 3), (21, .aload_n 0, 1), (22, .iconst 0, 1), (23, .putfield 92, 3), (26, .iload_n 3, 1), (27, .iconst 1, 1), (28, .if_icmp .le 16, 3), (31, .aload_n 0, 1), (32, .getfield 44, 3), (35, .iload_n 1, 1), (36, .iload_n 2, 1), (37, .aload_n 0, 1), (38, .getfield 23, 3), (41, .invokevirtual 190, 3), (44, .iload_n 3, 1), (45, .iconst 2, 1), (46, .if_icmp .le 11, 3), (49, .aload_n 0, 1), (50, .getfield 44, 3), (53, .iconst 1, 1), (54, .putfield 117, 3), (57, .iload_n 3, 1), (58, .iconst 3, 1), (59, .if_icmp .le 7, 3), (62, .aload_n 0, 1), (63, .invokevirtual 120, 3), (66, .iload_n 3, 1), (67, .iconst 4, 1), (68, .if_icmp .le 10, 3), (71, .aload_n 0, 1), (72, .getfield 44, 3), (75, .invokevirtual 123, 3), (78, .aload_n 0, 1), (79, .iload_n 3, 1), (80, .iconst 4, 1), (81, .if_icmp .gt 7, 3), (84, .iconst 1, 1), (85, .goto 4, 3), (88, .iconst 0, 1), (89, .putfield 113, 3), (92, .aload_n 0, 1), (93, .getfield 113, 3), (96, .ifCond .ne 7, 3), (99, .iconst 1, 1), (100, .goto 4, 3), (103, .iconst 0, 1), (104, .ireturn, 1)]
theorem dd_65 : ∀ q ∈ dl_65, decode prog_1_method_21_code q.1 = .ok q.2 := by decide +kernel
theorem A_65_0 : jx_All (jx_mk D c0 c1 c2 c3 c4 H0 ga L xs) jx_mt md_65 K_65_0 := by
  refine jx_ac (s_aload_n (jx_dc dd_65 0 rfl) rfl) ?_
  refine jx_ac (s_getf kk_5 (k := 9) (Nat.le_of_ble_eq_true rfl) (jx_dc dd_65 1 rfl) w_286) ?_
  refine jx_ac (s_ifne (jx_dc dd_65 2 rfl) rfl) ?_
  refine jx_ac (s_iconst (jx_dc dd_65 3 rfl) rfl) ?_
  refine jx_ac (s_goto (jx_dc dd_65 4 rfl) rfl) ?_
  refine jx_ac (s_aload_n (jx_dc dd_65 5 rfl) rfl) ?_
  refine jx_ac (s_getf kk_5 (k := 9) (Nat.le_of_ble_eq_true rfl) (jx_dc dd_65 6 rfl) w_286) ?_
  refine jx_ac (s_istore_n (jx_dc dd_65 7 rfl) rfl) ?_
  refine jx_ac (s_aload_n (jx_dc dd_65 8 rfl) rfl) ?_
  refine jx_ac (s_iconst (jx_dc dd_65 9 rfl) rfl) ?_
  refine jx_ac (s_putf kk_5 (k := 9) (Nat.le_of_ble_eq_true rfl) (jx_dc dd_65 10 rfl) (fun _ h => jx_okI_n _ h) rfl w_286) ?_
  refine jx_ac (s_aload_n (jx_dc dd_65 11 rfl) rfl) ?_
  refine jx_ac (s_iconst (jx_dc dd_65 12 rfl) rfl) ?_
  refine jx_ac (s_putf kk_5 (k := 8) (Nat.le_of_ble_eq_true rfl) (jx_dc dd_65 13 rfl) (fun _ h => jx_okI_n _ h) rfl w_293) ?_
  refine jx_ac (s_iload_n (jx_dc dd_65 14 rfl) rfl) ?_
  refine jx_ac (s_iconst (jx_dc dd_65 15 rfl) rfl) ?_
  refine jx_ac (s_ile (jx_dc dd_65 16 rfl) rfl) ?_
  refine jx_ac (s_aload_n (jx_dc dd_65 17 rfl) rfl) ?_
  refine jx_ac (s_getf kk_5 (k := 6) (Nat.le_of_ble_eq_true rfl) (jx_dc dd_65 18 rfl) w_284) ?_
  refine jx_ac (s_iload_n (jx_dc dd_65 19 rfl) rfl) ?_
  refine jx_ac (s_iload_n (jx_dc dd_65 20 rfl) rfl) ?_
  refine jx_ac (s_aload_n (jx_dc dd_65 21 rfl) rfl) ?_
  refine jx_ac (s_getf kk_5 (k := 3) (Nat.le_of_ble_eq_true rfl) (jx_dc dd_65 22 rfl) w_264) ?_
  refine jx_ac (s_callv (ce := 13) kk_1 mc_13 (jx_dc dd_65 23 rfl) w_370 w_371 w_372 ⟨by decide, by decide⟩ np_13) ?_
  refine jx_ac (s_iload_n (jx_dc dd_65 24 rfl) rfl) ?_
  refine jx_ac (s_iconst (jx_dc dd_65 25 rfl) rfl) ?_
  refine jx_ac (s_ile (jx_dc dd_65 26 rfl) rfl) ?_
  refine jx_ac (s_aload_n (jx_dc dd_65 27 rfl) rfl) ?_
  refine jx_ac (s_getf kk_5 (k := 6) (Nat.le_of_ble_eq_true rfl) (jx_dc dd_65 28 rfl) w_284) ?_
  refine jx_ac (s_iconst (jx_dc dd_65 29 rfl) rfl) ?_
  refine jx_ac (s_putfN kk_1 (k := 0) (Nat.le_of_ble_eq_true rfl) (jx_dc dd_65 30 rfl) (fun _ h => jx_okZ_n _ h) rfl w_295) ?_
  refine jx_ac (s_iload_n (jx_dc dd_65 31 rfl) rfl) ?_
  refine jx_ac (s_iconst (jx_dc dd_65 32 rfl) rfl) ?_
  refine jx_ac (s_ile (jx_dc dd_65 33 rfl) rfl) ?_
  refine jx_ac (s_aload_n (jx_dc dd_65 34 rfl) rfl) ?_
  refine jx_ac (s_callv (ce := 55) kk_5 mc_55 (jx_dc dd_65 35 rfl) w_296 w_297 w_298 ⟨by decide, by decide⟩ np_55) ?_
  refine jx_ac (s_iload_n (jx_dc dd_65 36 rfl) rfl) ?_
  refine jx_ac (s_iconst (jx_dc dd_65 37 rfl) rfl) ?_
  refine jx_ac (s_ile (jx_dc dd_65 38 rfl) rfl) ?_
  refine jx_ac (s_aload_n (jx_dc dd_65 39 rfl) rfl) ?_
  exact jx_an
theorem A_65_1 : jx_All (jx_mk D c0 c1 c2 c3 c4 H0 ga L xs) jx_mt md_65 K_65_1 := by
  refine jx_ac (s_getf kk_5 (k := 6) (Nat.le_of_ble_eq_true rfl) (jx_dc dd_65 40 rfl) w_284) ?_
  refine jx_ac (s_callv (ce := 12) kk_1 mc_12 (jx_dc dd_65 41 rfl) w_299 w_300 w_301 ⟨by decide, by decide⟩ np_12) ?_
  refine jx_ac (s_aload_n (jx_dc dd_65 42 rfl) rfl) ?_
  refine jx_ac (s_iload_n (jx_dc dd_65 43 rfl) rfl) ?_
  refine jx_ac (s_iconst (jx_dc dd_65 44 rfl) rfl) ?_
  refine jx_ac (s_igt (jx_dc dd_65 45 rfl) rfl) ?_
  refine jx_ac (s_iconst (jx_dc dd_65 46 rfl) rfl) ?_
  refine jx_ac (s_goto (jx_dc dd_65 47 rfl) rfl) ?_
  refine jx_ac (s_iconst (jx_dc dd_65 48 rfl) rfl) ?_
  refine jx_ac (s_putf kk_5 (k := 10) (Nat.le_of_ble_eq_true rfl) (jx_dc dd_65 49 rfl) (fun _ h => jx_okZ_n _ h) rfl w_294) ?_
  refine jx_ac (s_aload_n (jx_dc dd_65 50 rfl) rfl) ?_
  refine jx_ac (s_getf kk_5 (k := 10) (Nat.le_of_ble_eq_true rfl) (jx_dc dd_65 51 rfl) w_294) ?_
  refine jx_ac (s_ifne (jx_dc dd_65 52 rfl) rfl) ?_
  refine jx_ac (s_iconst (jx_dc dd_65 53 rfl) rfl) ?_
  refine jx_ac (s_goto (jx_dc dd_65 54 rfl) rfl) ?_
  refine jx_ac (s_iconst (jx_dc dd_65 55 rfl) rfl) ?_
  refine jx_ac (s_zret rfl (jx_dc dd_65 56 rfl)) ?_
  exact jx_an
theorem A_65 : jx_All (jx_mk D c0 c1 c2 c3 c4 H0 ga L xs) jx_mt md_65 K_65 := (jx_aa A_65_0 A_65_1)
def dl_66 : List (Nat × Instr × Nat) := [(0, .aload_n 0, 1), (1, .iconst 0, 1), (2, .invokevirtual 67, 3), (5, .aload_n 0, 1), (6, .iconst 0, 1), (7, .putfield 60, 3), (10, .aload_n 0, 1), (11, .invokevirtual 71, 3), (14, .ireturn, 1)]
theorem dd_66 : ∀ q ∈ dl_66, decode prog_1_method_7_code q.1 = .ok q.2 := by decide +kernel
theorem A_66_0 : jx_All (jx_mk D c0 c1 c2 c3 c4 H0 ga L xs) jx_mt md_66 K_66_0 := by
  refine jx_ac (s_aload_n (jx_dc dd_66 0 rfl) rfl) ?_
  refine jx_ac (s_iconst (jx_dc dd_66 1 rfl) rfl) ?_
  refine jx_ac (s_callv (ce := 62) kk_5 mc_62 (jx_dc dd_66 2 rfl) w_321 w_322 w_323 ⟨by decide, by decide⟩ np_62) ?_
  refine jx_ac (s_aload_n (jx_dc dd_66 3 rfl) rfl) ?_
  refine jx_ac (s_iconst (jx_dc dd_66 4 rfl) rfl) ?_
  refine jx_ac (s_putf kk_5 (k := 1) (Nat.le_of_ble_eq_true rfl) (jx_dc dd_66 5 rfl) (fun _ h => jx_okI_n _ h) rfl w_289) ?_
  refine jx_ac (s_aload_n (jx_dc dd_66 6 rfl) rfl) ?_
  refine jx_ac (s_callv (ce := 64) kk_5 mc_64 (jx_dc dd_66 7 rfl) w_324 w_325 w_326 ⟨by decide, by decide⟩ np_64) ?_
  refine jx_ac (s_iret rfl (jx_dc dd_66 8 rfl)) ?_
  exact jx_an
theorem A_66 : jx_All (jx_mk D c0 c1 c2 c3 c4 H0 ga L xs) jx_mt md_66 K_66 :=  A_66_0
def dl_67 : List (Nat × Instr × Nat) := [(0, .aload_n 0, 1), (1, .iconst 1, 1), (2, .invokevirtual 67, 3), (5, .aload_n 0, 1), (6, .iconst 0, 1), (7, .putfield 60, 3), (10, .aload_n 0, 1), (11, .iconst 0, 1), (12, .putfield 92, 3), (15, .iconst 0, 1), (16, .istore_n 1, 1), (17, .iload_n 1, 1), (18, .aload_n 0, 1), (19, .getfield 37, 3), (22, .getfield 75, 3), (25, .if_icmp .ge 60, 3), (28, .aload_n 0, 1), (29, .getfield 30, 3), (32, .aload_n 0, 1), (33, .getfield 23, 3), (36, .aload_n 0, 1), (37, .getfield 37, 3), (40, .getfield 95, 3), (43, .iload_n 1, 1), (44, .aaload, 1), (45, .invokevirtual 99, 3), (48, .ifCond .eq 31, 3), (51, .aload_n 0, 1), (52, .getfield 48, 3), (55, .aload_n 0, 1), (56, .getfield 92, 3), (59, .aload_n 0, 1), (60, .getfield 37, 3), (63, .getfield 103, 3), (66, .iload_n 1, 1), (67, .iaload, 1), (68, .iastore, 1), (69, .aload_n 0, 1), (70, .dup, 1), (71, .getfield 92, 3), (74, .iconst 1, 1), (75, .iadd, 1), (76, .putfield 92, 3), (79, .iinc 1 1, 3), (82, .goto (-65), 3), (85, .aload_n 0, 1), (86, .getfield 92, 3), (89, .ireturn, 1)]
theorem dd_67 : ∀ q ∈ dl_67, decode prog_1_method_8_code q.1 = .ok q.2 := by decide +kernel
theorem A_67_0 : jx_All (jx_mk D c0 c1 c2 c3 c4 H0 ga L xs) jx_mt md_67 K_67_0 := by
  refine jx_ac (s_aload_n (jx_dc dd_67 0 rfl) rfl) ?_
  refine jx_ac (s_iconst (jx_dc dd_67 1 rfl) rfl) ?_
  refine jx_ac (s_callv (ce := 62) kk_5 mc_62 (jx_dc dd_67 2 rfl) w_321 w_322 w_323 ⟨by decide, by decide⟩ np_62) ?_
  refine jx_ac (s_aload_n (jx_dc dd_67 3 rfl) rfl) ?_
  refine jx_ac (s_iconst (jx_dc dd_67 4 rfl) rfl) ?_
  refine jx_ac (s_putf kk_5 (k := 1) (Nat.le_of_ble_eq_true rfl) (jx_dc dd_67 5 rfl) (fun _ h => jx_okI_n _ h) rfl w_289) ?_
  refine jx_ac (s_aload_n (jx_dc dd_67 6 rfl) rfl) ?_
  refine jx_ac (s_iconst (jx_dc dd_67 7 rfl) rfl) ?_
  refine jx_ac (s_putf kk_5 (k := 8) (Nat.le_of_ble_eq_true rfl) (jx_dc dd_67 8 rfl) (fun _ h => jx_okI_n _ h) rfl w_293) ?_
  refine jx_ac (s_iconst (jx_dc dd_67 9 rfl) rfl) ?_
  refine jx_ac (s_istore_n (jx_dc dd_67 10 rfl) rfl) ?_
  refine jx_ac (s_iload_n (jx_dc dd_67 11 rfl) rfl) ?_
  refine jx_ac (s_aload_n (jx_dc dd_67 12 rfl) rfl) ?_
  refine jx_ac (s_getf kk_5 (k := 5) (Nat.le_of_ble_eq_true rfl) (jx_dc dd_67 13 rfl) w_277) ?_
  refine jx_ac (s_getfN kk_4 (k := 2) (Nat.le_of_ble_eq_true rfl) (jx_dc dd_67 14 rfl) w_312) ?_
  refine jx_ac (s_ige (jx_dc dd_67 15 rfl) rfl) ?_
  refine jx_ac (s_aload_n (jx_dc dd_67 16 rfl) rfl) ?_
  refine jx_ac (s_getf kk_5 (k := 4) (Nat.le_of_ble_eq_true rfl) (jx_dc dd_67 17 rfl) w_270) ?_
  refine jx_ac (s_aload_n (jx_dc dd_67 18 rfl) rfl) ?_
  refine jx_ac (s_getf kk_5 (k := 3) (Nat.le_of_ble_eq_true rfl) (jx_dc dd_67 19 rfl) w_264) ?_
  refine jx_ac (s_aload_n (jx_dc dd_67 20 rfl) rfl) ?_
  refine jx_ac (s_getf kk_5 (k := 5) (Nat.le_of_ble_eq_true rfl) (jx_dc dd_67 21 rfl) w_277) ?_
  refine jx_ac (s_getfN kk_4 (k := 0) (Nat.le_of_ble_eq_true rfl) (jx_dc dd_67 22 rfl) w_317) ?_
  refine jx_ac (s_iload_n (jx_dc dd_67 23 rfl) rfl) ?_
  refine jx_ac (s_aald rfl (jx_dc dd_67 24 rfl)) ?_
  refine jx_ac (s_callv (ce := 21) kk_2 mc_21 (jx_dc dd_67 25 rfl) w_373 w_374 w_375 ⟨by decide, by decide⟩ np_21) ?_
  refine jx_ac (s_ifeq (jx_dc dd_67 26 rfl) rfl) ?_
  refine jx_ac (s_aload_n (jx_dc dd_67 27 rfl) rfl) ?_
  refine jx_ac (s_getf kk_5 (k := 7) (Nat.le_of_ble_eq_true rfl) (jx_dc dd_67 28 rfl) w_285) ?_
  refine jx_ac (s_aload_n (jx_dc dd_67 29 rfl) rfl) ?_
  refine jx_ac (s_getf kk_5 (k := 8) (Nat.le_of_ble_eq_true rfl) (jx_dc dd_67 30 rfl) w_293) ?_
  refine jx_ac (s_aload_n (jx_dc dd_67 31 rfl) rfl) ?_
  refine jx_ac (s_getf kk_5 (k := 5) (Nat.le_of_ble_eq_true rfl) (jx_dc dd_67 32 rfl) w_277) ?_
  refine jx_ac (s_getfN kk_4 (k := 1) (Nat.le_of_ble_eq_true rfl) (jx_dc dd_67 33 rfl) w_369) ?_
  refine jx_ac (s_iload_n (jx_dc dd_67 34 rfl) rfl) ?_
  refine jx_ac (s_iald rfl (jx_dc dd_67 35 rfl)) ?_
  refine jx_ac (s_iast rfl (jx_dc dd_67 36 rfl)) ?_
  refine jx_ac (s_aload_n (jx_dc dd_67 37 rfl) rfl) ?_
  refine jx_ac (s_dup (jx_dc dd_67 38 rfl)) ?_
  refine jx_ac (s_getf kk_5 (k := 8) (Nat.le_of_ble_eq_true rfl) (jx_dc dd_67 39 rfl) w_293) ?_
  exact jx_an
theorem A_67_1 : jx_All (jx_mk D c0 c1 c2 c3 c4 H0 ga L xs) jx_mt md_67 K_67_1 := by
  refine jx_ac (s_iconst (jx_dc dd_67 40 rfl) rfl) ?_
  refine jx_ac (s_iadd (jx_dc dd_67 41 rfl)) ?_
  refine jx_ac (s_putf kk_5 (k := 8) (Nat.le_of_ble_eq_true rfl) (jx_dc dd_67 42 rfl) (fun _ h => jx_okI_n _ h) rfl w_293) ?_
  refine jx_ac (s_iinc (jx_dc dd_67 43 rfl) rfl) ?_
  refine jx_ac (s_goto (jx_dc dd_67 44 rfl) rfl) ?_
  refine jx_ac (s_aload_n (jx_dc dd_67 45 rfl) rfl) ?_
  refine jx_ac (s_getf kk_5 (k := 8) (Nat.le_of_ble_eq_true rfl) (jx_dc dd_67 46 rfl) w_293) ?_
  refine jx_ac (s_iret rfl (jx_dc dd_67 47 rfl)) ?_
  exact jx_an
theorem A_67 : jx_All (jx_mk D c0 c1 c2 c3 c4 H0 ga L xs) jx_mt md_67 K_67 := (jx_aa A_67_0 A_67_1)
end JT
