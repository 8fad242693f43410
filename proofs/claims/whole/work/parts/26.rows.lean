/-! printed by wip/whole/gen.py: each operation is what its instruction does -/
section JT
variable {D : va_G} {c0 c1 c2 c3 c4 : ClassId} {H0 : Heap} {ga : Nat → Nat} {L : Nat} {xs : Nat → Int32}
def dl_82 : List (Nat × Instr × Nat) := [(0, .aload_n 0, 1), (1, .bipush 42, 2), (3, .iconst 0, 1), (4, .invokevirtual 109, 3), (7, .aload_n 0, 1), (8, .getfield 99, 3), (11, .iconst 1, 1), (12, .iadd, 1), (13, .istore_n 1, 1), (14, .iconst 1, 1), (15, .istore_n 2, 1), (16, .iconst 1, 1), (17, .aload_n 0, 1), (18, .iload_n 1, 1), (19, .invokevirtual 102, 3), (22, .invokestatic 106, 3), (25, .ishl, 1), (26, .istore_n 3, 1), (27, .iinc 1 1, 3), (30, .aload_n 0, 1), (31, .iload_n 1, 1), (32, .invokevirtual 102, 3), (35, .bipush 44, 2), (37, .if_icmp .ne 40, 3), (40, .aload_n 0, 1), (41, .iload_n 1, 1), (42, .iconst 1, 1), (43, .iadd, 1), (44, .invokevirtual 102, 3), (47, .invokestatic 106, 3), (50, .ifCond .lt 27, 3), (53, .iload_n 3, 1), (54, .iconst 1, 1), (55, .aload_n 0, 1), (56, .iload_n 1, 1), (57, .iconst 1, 1), (58, .iadd, 1), (59, .invokevirtual 102, 3), (62, .invokestatic 106, 3), (65, .ishl, 1), (66, .ior, 1), (67, .istore_n 3, 1), (68, .iinc 1 2, 3), (71, .iinc 2 1, 3), (74, .goto (-44), 3), (77, .aload_n 0, 1), (78, .getfield 29, 3), (81, .aload_n 0, 1), (82, .getfield 96, 3), (85, .iconst 1, 1), (86, .isub, 1), (87, .iload_n 3, 1), (88, .iastore, 1), (89, .aload_n 0, 1), (90, .iload_n 1, 1), (91, .iconst 1, 1), (92, .iadd, 1), (93, .putfield 99, 3), (96, .aload_n 0, 1), (97, .iload_n 1, 1), (98, .invokevirtual 102, 3), (101, .bipush 93, 2), (103, .if_icmp .ne 12, 3), (106, .iload_n 2, 1), (107, .iconst 4, 1), (108, .if_icmp .gt 7, 3), (111, .iconst 1, 1), (112, .goto 4, 3), (115, .iconst 0, 1), (116, .ireturn, 1)]
theorem dd_82 : ∀ q ∈ dl_82, decode prog_9_method_11_code q.1 = .ok q.2 := by decide +kernel
theorem A_82_0 : jx_All (jx_mk D c0 c1 c2 c3 c4 H0 ga L xs) jx_mt md_82 K_82_0 := by
  refine jx_ac (s_aload_n (jx_dc dd_82 0 rfl) rfl) ?_
  refine jx_ac (s_bipush (jx_dc dd_82 1 rfl) rfl) ?_
  refine jx_ac (s_iconst (jx_dc dd_82 2 rfl) rfl) ?_
  refine jx_ac (s_callv (ce := 81) kk_6 mc_81 (jx_dc dd_82 3 rfl) w_452 w_453 w_454 ⟨by decide, by decide⟩ np_81) ?_
  refine jx_ac (s_aload_n (jx_dc dd_82 4 rfl) rfl) ?_
  refine jx_ac (s_getf kk_6 (k := 3) (Nat.le_of_ble_eq_true rfl) (jx_dc dd_82 5 rfl) w_434) ?_
  refine jx_ac (s_iconst (jx_dc dd_82 6 rfl) rfl) ?_
  refine jx_ac (s_iadd (jx_dc dd_82 7 rfl)) ?_
  refine jx_ac (s_istore_n (jx_dc dd_82 8 rfl) rfl) ?_
  refine jx_ac (s_iconst (jx_dc dd_82 9 rfl) rfl) ?_
  refine jx_ac (s_istore_n (jx_dc dd_82 10 rfl) rfl) ?_
  refine jx_ac (s_iconst (jx_dc dd_82 11 rfl) rfl) ?_
  refine jx_ac (s_aload_n (jx_dc dd_82 12 rfl) rfl) ?_
  refine jx_ac (s_iload_n (jx_dc dd_82 13 rfl) rfl) ?_
  refine jx_ac (s_callv (ce := 77) kk_6 mc_77 (jx_dc dd_82 14 rfl) w_436 w_437 w_438 ⟨by decide, by decide⟩ np_77) ?_
  refine jx_ac (s_calls (ce := 80) mc_80 (jx_dc dd_82 15 rfl) w_450 w_451 w_8 ⟨by decide, by decide⟩ np_80) ?_
  refine jx_ac (s_ishl (jx_dc dd_82 16 rfl)) ?_
  refine jx_ac (s_istore_n (jx_dc dd_82 17 rfl) rfl) ?_
  refine jx_ac (s_iinc (jx_dc dd_82 18 rfl) rfl) ?_
  refine jx_ac (s_aload_n (jx_dc dd_82 19 rfl) rfl) ?_
  refine jx_ac (s_iload_n (jx_dc dd_82 20 rfl) rfl) ?_
  refine jx_ac (s_callv (ce := 77) kk_6 mc_77 (jx_dc dd_82 21 rfl) w_436 w_437 w_438 ⟨by decide, by decide⟩ np_77) ?_
  refine jx_ac (s_bipush (jx_dc dd_82 22 rfl) rfl) ?_
  refine jx_ac (s_ine (jx_dc dd_82 23 rfl) rfl) ?_
  refine jx_ac (s_aload_n (jx_dc dd_82 24 rfl) rfl) ?_
  refine jx_ac (s_iload_n (jx_dc dd_82 25 rfl) rfl) ?_
  refine jx_ac (s_iconst (jx_dc dd_82 26 rfl) rfl) ?_
  refine jx_ac (s_iadd (jx_dc dd_82 27 rfl)) ?_
  refine jx_ac (s_callv (ce := 77) kk_6 mc_77 (jx_dc dd_82 28 rfl) w_436 w_437 w_438 ⟨by decide, by decide⟩ np_77) ?_
  refine jx_ac (s_calls (ce := 80) mc_80 (jx_dc dd_82 29 rfl) w_450 w_451 w_8 ⟨by decide, by decide⟩ np_80) ?_
  refine jx_ac (s_iflt (jx_dc dd_82 30 rfl) rfl) ?_
  refine jx_ac (s_iload_n (jx_dc dd_82 31 rfl) rfl) ?_
  refine jx_ac (s_iconst (jx_dc dd_82 32 rfl) rfl) ?_
  refine jx_ac (s_aload_n (jx_dc dd_82 33 rfl) rfl) ?_
  refine jx_ac (s_iload_n (jx_dc dd_82 34 rfl) rfl) ?_
  refine jx_ac (s_iconst (jx_dc dd_82 35 rfl) rfl) ?_
  refine jx_ac (s_iadd (jx_dc dd_82 36 rfl)) ?_
  refine jx_ac (s_callv (ce := 77) kk_6 mc_77 (jx_dc dd_82 37 rfl) w_436 w_437 w_438 ⟨by decide, by decide⟩ np_77) ?_
  refine jx_ac (s_calls (ce := 80) mc_80 (jx_dc dd_82 38 rfl) w_450 w_451 w_8 ⟨by decide, by decide⟩ np_80) ?_
  refine jx_ac (s_ishl (jx_dc dd_82 39 rfl)) ?_
  exact jx_an
theorem A_82_1 : jx_All (jx_mk D c0 c1 c2 c3 c4 H0 ga L xs) jx_mt md_82 K_82_1 := by
  refine jx_ac (s_ior (jx_dc dd_82 40 rfl)) ?_
  refine jx_ac (s_istore_n (jx_dc dd_82 41 rfl) rfl) ?_
  refine jx_ac (s_iinc (jx_dc dd_82 42 rfl) rfl) ?_
  refine jx_ac (s_iinc (jx_dc dd_82 43 rfl) rfl) ?_
  refine jx_ac (s_goto (jx_dc dd_82 44 rfl) rfl) ?_
  refine jx_ac (s_aload_n (jx_dc dd_82 45 rfl) rfl) ?_
  refine jx_ac (s_getf kk_6 (k := 10) (Nat.le_of_ble_eq_true rfl) (jx_dc dd_82 46 rfl) w_384) ?_
  refine jx_ac (s_aload_n (jx_dc dd_82 47 rfl) rfl) ?_
  refine jx_ac (s_getf kk_6 (k := 4) (Nat.le_of_ble_eq_true rfl) (jx_dc dd_82 48 rfl) w_427) ?_
  refine jx_ac (s_iconst (jx_dc dd_82 49 rfl) rfl) ?_
  refine jx_ac (s_isub (jx_dc dd_82 50 rfl)) ?_
  refine jx_ac (s_iload_n (jx_dc dd_82 51 rfl) rfl) ?_
  refine jx_ac (s_iast rfl (jx_dc dd_82 52 rfl)) ?_
  refine jx_ac (s_aload_n (jx_dc dd_82 53 rfl) rfl) ?_
  refine jx_ac (s_iload_n (jx_dc dd_82 54 rfl) rfl) ?_
  refine jx_ac (s_iconst (jx_dc dd_82 55 rfl) rfl) ?_
  refine jx_ac (s_iadd (jx_dc dd_82 56 rfl)) ?_
  refine jx_ac (s_putf kk_6 (k := 3) (Nat.le_of_ble_eq_true rfl) (jx_dc dd_82 57 rfl) (fun _ h => jx_okI_n _ h) rfl w_434) ?_
  refine jx_ac (s_aload_n (jx_dc dd_82 58 rfl) rfl) ?_
  refine jx_ac (s_iload_n (jx_dc dd_82 59 rfl) rfl) ?_
  refine jx_ac (s_callv (ce := 77) kk_6 mc_77 (jx_dc dd_82 60 rfl) w_436 w_437 w_438 ⟨by decide, by decide⟩ np_77) ?_
  refine jx_ac (s_bipush (jx_dc dd_82 61 rfl) rfl) ?_
  refine jx_ac (s_ine (jx_dc dd_82 62 rfl) rfl) ?_
  refine jx_ac (s_iload_n (jx_dc dd_82 63 rfl) rfl) ?_
  refine jx_ac (s_iconst (jx_dc dd_82 64 rfl) rfl) ?_
  refine jx_ac (s_igt (jx_dc dd_82 65 rfl) rfl) ?_
  refine jx_ac (s_iconst (jx_dc dd_82 66 rfl) rfl) ?_
  refine jx_ac (s_goto (jx_dc dd_82 67 rfl) rfl) ?_
  refine jx_ac (s_iconst (jx_dc dd_82 68 rfl) rfl) ?_
  refine jx_ac (s_zret rfl (jx_dc dd_82 69 rfl)) ?_
  exact jx_an
theorem A_82 : jx_All (jx_mk D c0 c1 c2 c3 c4 H0 ga L xs) jx_mt md_82 K_82 := (jx_aa A_82_0 A_82_1)
def dl_83 : List (Nat × Instr × Nat) := [(0, .aload_n 0, 1), (1, .aload_n 0, 1), (2, .aload_n 0, 1), (3, .getfield 99, 3), (6, .iconst 1, 1), (7, .iadd, 1), (8, .invokevirtual 102, 3), (11, .iconst 0, 1), (12, .invokevirtual 109, 3), (15, .aload_n 0, 1), (16, .getfield 99, 3), (19, .iconst 2, 1), (20, .iadd, 1), (21, .istore_n 1, 1), (22, .aload_n 0, 1), (23, .getfield 26, 3), (26, .aload_n 0, 1), (27, .getfield 96, 3), (30, .iconst 1, 1), (31, .isub, 1), (32, .iconst 1, 1), (33, .bastore, 1), (34, .aload_n 0, 1), (35, .iload_n 1, 1), (36, .invokevirtual 102, 3), (39, .bipush 72, 2), (41, .if_icmp .ne 60, 3), (44, .aload_n 0, 1), (45, .getfield 20, 3), (48, .aload_n 0, 1), (49, .getfield 96, 3), (52, .iconst 1, 1), (53, .isub, 1), (54, .iconst 1, 1), (55, .iastore, 1), (56, .iinc 1 1, 3), (59, .aload_n 0, 1), (60, .iload_n 1, 1), (61, .invokevirtual 102, 3), (64, .bipush 50, 2), (66, .if_icmp .lt 35, 3), (69, .aload_n 0, 1), (70, .iload_n 1, 1), (71, .invokevirtual 102, 3), (74, .bipush 52, 2), (76, .if_icmp .gt 25, 3), (79, .aload_n 0, 1), (80, .getfield 20, 3), (83, .aload_n 0, 1), (84, .getfield 96, 3), (87, .iconst 1, 1), (88, .isub, 1), (89, .aload_n 0, 1), (90, .iload_n 1, 1), (91, .invokevirtual 102, 3), (94, .bipush 48, 2), (96, .isub, 1), (97, .iastore, 1), (98, .iinc 1 1, 3), (101, .aload_n 0, 1), (102, .iload_n 1, 1), (103, .invokevirtual 102, 3), (106, .bipush 43, 2), (108, .if_icmp .eq 13, 3), (111, .aload_n 0, 1), (112, .iload_n 1, 1), (113, .invokevirtual 102, 3), (116, .bipush 45, 2), (118, .if_icmp .ne 32, 3), (121, .aload_n 0, 1), (122, .getfield 23, 3), (125, .aload_n 0, 1), (126, .getfield 96, 3), (129, .iconst 1, 1), (130, .isub, 1), (131, .aload_n 0, 1), (132, .iload_n 1, 1), (133, .invokevirtual 102, 3), (136, .bipush 43, 2), (138, .if_icmp .ne 7, 3), (141, .iconst 1, 1), (142, .goto 4, 3), (145, .iconst (-1), 1), (146, .iastore, 1), (147, .iinc 1 1, 3), (150, .aload_n 0, 1), (151, .iload_n 1, 1), (152, .iconst 1, 1), (153, .iadd, 1), (154, .putfield 99, 3), (157, .aload_n 0, 1), (158, .iload_n 1, 1), (159, .invokevirtual 102, 3), (162, .bipush 93, 2), (164, .if_icmp .ne 7, 3), (167, .iconst 1, 1), (168, .goto 4, 3), (171, .iconst 0, 1), (172, .ireturn, 1)]
theorem dd_83 : ∀ q ∈ dl_83, decode prog_9_method_12_code q.1 = .ok q.2 := by decide +kernel
theorem A_83_0 : jx_All (jx_mk D c0 c1 c2 c3 c4 H0 ga L xs) jx_mt md_83 K_83_0 := by
  refine jx_ac (s_aload_n (jx_dc dd_83 0 rfl) rfl) ?_
  refine jx_ac (s_aload_n (jx_dc dd_83 1 rfl) rfl) ?_
  refine jx_ac (s_aload_n (jx_dc dd_83 2 rfl) rfl) ?_
  refine jx_ac (s_getf kk_6 (k := 3) (Nat.le_of_ble_eq_true rfl) (jx_dc dd_83 3 rfl) w_434) ?_
  refine jx_ac (s_iconst (jx_dc dd_83 4 rfl) rfl) ?_
  refine jx_ac (s_iadd (jx_dc dd_83 5 rfl)) ?_
  refine jx_ac (s_callv (ce := 77) kk_6 mc_77 (jx_dc dd_83 6 rfl) w_436 w_437 w_438 ⟨by decide, by decide⟩ np_77) ?_
  refine jx_ac (s_iconst (jx_dc dd_83 7 rfl) rfl) ?_
  refine jx_ac (s_callv (ce := 81) kk_6 mc_81 (jx_dc dd_83 8 rfl) w_452 w_453 w_454 ⟨by decide, by decide⟩ np_81) ?_
  refine jx_ac (s_aload_n (jx_dc dd_83 9 rfl) rfl) ?_
  refine jx_ac (s_getf kk_6 (k := 3) (Nat.le_of_ble_eq_true rfl) (jx_dc dd_83 10 rfl) w_434) ?_
  refine jx_ac (s_iconst (jx_dc dd_83 11 rfl) rfl) ?_
  refine jx_ac (s_iadd (jx_dc dd_83 12 rfl)) ?_
  refine jx_ac (s_istore_n (jx_dc dd_83 13 rfl) rfl) ?_
  refine jx_ac (s_aload_n (jx_dc dd_83 14 rfl) rfl) ?_
  refine jx_ac (s_getf kk_6 (k := 9) (Nat.le_of_ble_eq_true rfl) (jx_dc dd_83 15 rfl) w_383) ?_
  refine jx_ac (s_aload_n (jx_dc dd_83 16 rfl) rfl) ?_
  refine jx_ac (s_getf kk_6 (k := 4) (Nat.le_of_ble_eq_true rfl) (jx_dc dd_83 17 rfl) w_427) ?_
  refine jx_ac (s_iconst (jx_dc dd_83 18 rfl) rfl) ?_
  refine jx_ac (s_isub (jx_dc dd_83 19 rfl)) ?_
  refine jx_ac (s_iconst (jx_dc dd_83 20 rfl) rfl) ?_
  refine jx_ac (s_zast rfl (jx_dc dd_83 21 rfl)) ?_
  refine jx_ac (s_aload_n (jx_dc dd_83 22 rfl) rfl) ?_
  refine jx_ac (s_iload_n (jx_dc dd_83 23 rfl) rfl) ?_
  refine jx_ac (s_callv (ce := 77) kk_6 mc_77 (jx_dc dd_83 24 rfl) w_436 w_437 w_438 ⟨by decide, by decide⟩ np_77) ?_
  refine jx_ac (s_bipush (jx_dc dd_83 25 rfl) rfl) ?_
  refine jx_ac (s_ine (jx_dc dd_83 26 rfl) rfl) ?_
  refine jx_ac (s_aload_n (jx_dc dd_83 27 rfl) rfl) ?_
  refine jx_ac (s_getf kk_6 (k := 7) (Nat.le_of_ble_eq_true rfl) (jx_dc dd_83 28 rfl) w_381) ?_
  refine jx_ac (s_aload_n (jx_dc dd_83 29 rfl) rfl) ?_
  refine jx_ac (s_getf kk_6 (k := 4) (Nat.le_of_ble_eq_true rfl) (jx_dc dd_83 30 rfl) w_427) ?_
  refine jx_ac (s_iconst (jx_dc dd_83 31 rfl) rfl) ?_
  refine jx_ac (s_isub (jx_dc dd_83 32 rfl)) ?_
  refine jx_ac (s_iconst (jx_dc dd_83 33 rfl) rfl) ?_
  refine jx_ac (s_iast rfl (jx_dc dd_83 34 rfl)) ?_
  refine jx_ac (s_iinc (jx_dc dd_83 35 rfl) rfl) ?_
  refine jx_ac (s_aload_n (jx_dc dd_83 36 rfl) rfl) ?_
  refine jx_ac (s_iload_n (jx_dc dd_83 37 rfl) rfl) ?_
  refine jx_ac (s_callv (ce := 77) kk_6 mc_77 (jx_dc dd_83 38 rfl) w_436 w_437 w_438 ⟨by decide, by decide⟩ np_77) ?_
  refine jx_ac (s_bipush (jx_dc dd_83 39 rfl) rfl) ?_
  exact jx_an
theorem A_83_1 : jx_All (jx_mk D c0 c1 c2 c3 c4 H0 ga L xs) jx_mt md_83 K_83_1 := by
  refine jx_ac (s_ilt (jx_dc dd_83 40 rfl) rfl) ?_
  refine jx_ac (s_aload_n (jx_dc dd_83 41 rfl) rfl) ?_
  refine jx_ac (s_iload_n (jx_dc dd_83 42 rfl) rfl) ?_
  refine jx_ac (s_callv (ce := 77) kk_6 mc_77 (jx_dc dd_83 43 rfl) w_436 w_437 w_438 ⟨by decide, by decide⟩ np_77) ?_
  refine jx_ac (s_bipush (jx_dc dd_83 44 rfl) rfl) ?_
  refine jx_ac (s_igt (jx_dc dd_83 45 rfl) rfl) ?_
  refine jx_ac (s_aload_n (jx_dc dd_83 46 rfl) rfl) ?_
  refine jx_ac (s_getf kk_6 (k := 7) (Nat.le_of_ble_eq_true rfl) (jx_dc dd_83 47 rfl) w_381) ?_
  refine jx_ac (s_aload_n (jx_dc dd_83 48 rfl) rfl) ?_
  refine jx_ac (s_getf kk_6 (k := 4) (Nat.le_of_ble_eq_true rfl) (jx_dc dd_83 49 rfl) w_427) ?_
  refine jx_ac (s_iconst (jx_dc dd_83 50 rfl) rfl) ?_
  refine jx_ac (s_isub (jx_dc dd_83 51 rfl)) ?_
  refine jx_ac (s_aload_n (jx_dc dd_83 52 rfl) rfl) ?_
  refine jx_ac (s_iload_n (jx_dc dd_83 53 rfl) rfl) ?_
  refine jx_ac (s_callv (ce := 77) kk_6 mc_77 (jx_dc dd_83 54 rfl) w_436 w_437 w_438 ⟨by decide, by decide⟩ np_77) ?_
  refine jx_ac (s_bipush (jx_dc dd_83 55 rfl) rfl) ?_
  refine jx_ac (s_isub (jx_dc dd_83 56 rfl)) ?_
  refine jx_ac (s_iast rfl (jx_dc dd_83 57 rfl)) ?_
  refine jx_ac (s_iinc (jx_dc dd_83 58 rfl) rfl) ?_
  refine jx_ac (s_aload_n (jx_dc dd_83 59 rfl) rfl) ?_
  refine jx_ac (s_iload_n (jx_dc dd_83 60 rfl) rfl) ?_
  refine jx_ac (s_callv (ce := 77) kk_6 mc_77 (jx_dc dd_83 61 rfl) w_436 w_437 w_438 ⟨by decide, by decide⟩ np_77) ?_
  refine jx_ac (s_bipush (jx_dc dd_83 62 rfl) rfl) ?_
  refine jx_ac (s_ieq (jx_dc dd_83 63 rfl) rfl) ?_
  refine jx_ac (s_aload_n (jx_dc dd_83 64 rfl) rfl) ?_
  refine jx_ac (s_iload_n (jx_dc dd_83 65 rfl) rfl) ?_
  refine jx_ac (s_callv (ce := 77) kk_6 mc_77 (jx_dc dd_83 66 rfl) w_436 w_437 w_438 ⟨by decide, by decide⟩ np_77) ?_
  refine jx_ac (s_bipush (jx_dc dd_83 67 rfl) rfl) ?_
  refine jx_ac (s_ine (jx_dc dd_83 68 rfl) rfl) ?_
  refine jx_ac (s_aload_n (jx_dc dd_83 69 rfl) rfl) ?_
  refine jx_ac (s_getf kk_6 (k := 8) (Nat.le_of_ble_eq_true rfl) (jx_dc dd_83 70 rfl) w_382) ?_
  refine jx_ac (s_aload_n (jx_dc dd_83 71 rfl) rfl) ?_
  refine jx_ac (s_getf kk_6 (k := 4) (Nat.le_of_ble_eq_true rfl) (jx_dc dd_83 72 rfl) w_427) ?_
  refine jx_ac (s_iconst (jx_dc dd_83 73 rfl) rfl) ?_
  refine jx_ac (s_isub (jx_dc dd_83 74 rfl)) ?_
  refine jx_ac (s_aload_n (jx_dc dd_83 75 rfl) rfl) ?_
  refine jx_ac (s_iload_n (jx_dc dd_83 76 rfl) rfl) ?_
  refine jx_ac (s_callv (ce := 77) kk_6 mc_77 (jx_dc dd_83 77 rfl) w_436 w_437 w_438 ⟨by decide, by decide⟩ np_77) ?_
  refine jx_ac (s_bipush (jx_dc dd_83 78 rfl) rfl) ?_
  refine jx_ac (s_ine (jx_dc dd_83 79 rfl) rfl) ?_
  exact jx_an
theorem A_83_2 : jx_All (jx_mk D c0 c1 c2 c3 c4 H0 ga L xs) jx_mt md_83 K_83_2 := by
  refine jx_ac (s_iconst (jx_dc dd_83 80 rfl) rfl) ?_
  refine jx_ac (s_goto (jx_dc dd_83 81 rfl) rfl) ?_
  refine jx_ac (s_iconst (jx_dc dd_83 82 rfl) rfl) ?_
  refine jx_ac (s_iast rfl (jx_dc dd_83 83 rfl)) ?_
  refine jx_ac (s_iinc (jx_dc dd_83 84 rfl) rfl) ?_
  refine jx_ac (s_aload_n (jx_dc dd_83 85 rfl) rfl) ?_
  refine jx_ac (s_iload_n (jx_dc dd_83 86 rfl) rfl) ?_
  refine jx_ac (s_iconst (jx_dc dd_83 87 rfl) rfl) ?_
  refine jx_ac (s_iadd (jx_dc dd_83 88 rfl)) ?_
  refine jx_ac (s_putf kk_6 (k := 3) (Nat.le_of_ble_eq_true rfl) (jx_dc dd_83 89 rfl) (fun _ h => jx_okI_n _ h) rfl w_434) ?_
  refine jx_ac (s_aload_n (jx_dc dd_83 90 rfl) rfl) ?_
  refine jx_ac (s_iload_n (jx_dc dd_83 91 rfl) rfl) ?_
  refine jx_ac (s_callv (ce := 77) kk_6 mc_77 (jx_dc dd_83 92 rfl) w_436 w_437 w_438 ⟨by decide, by decide⟩ np_77) ?_
  refine jx_ac (s_bipush (jx_dc dd_83 93 rfl) rfl) ?_
  refine jx_ac (s_ine (jx_dc dd_83 94 rfl) rfl) ?_
  refine jx_ac (s_iconst (jx_dc dd_83 95 rfl) rfl) ?_
  refine jx_ac (s_goto (jx_dc dd_83 96 rfl) rfl) ?_
  refine jx_ac (s_iconst (jx_dc dd_83 97 rfl) rfl) ?_
  refine jx_ac (s_zret rfl (jx_dc dd_83 98 rfl)) ?_
  exact jx_an
theorem A_83 : jx_All (jx_mk D c0 c1 c2 c3 c4 H0 ga L xs) jx_mt md_83 K_83 := (jx_aa A_83_0 (jx_aa A_83_1 A_83_2))
def dl_84 : List (Nat × Instr × Nat) := [(0, .aload_n 0, 1), (1, .getfield 16, 3), (4, .iload_n 1, 1), (5, .baload, 1), (6, .ifCond .eq 16, 3), (9, .aload_n 0, 1), (10, .getfield 16, 3), (13, .iload_n 2, 1), (14, .baload, 1), (15, .ifCond .eq 7, 3), (18, .iconst 1, 1), (19, .goto 4, 3), (22, .iconst 0, 1), (23, .istore 4, 2), (25, .iload_n 3, 1), (26, .ifCond .eq 7, 3), (29, .iload_n 3, 1), (30, .goto 13, 3), (33, .iload 4, 2), (35, .ifCond .eq 7, 3), (38, .iconst 4, 1), (39, .goto 4, 3), (42, .iconst 1, 1), (43, .istore 5, 2), (45, .aload_n 0, 1), (46, .getfield 29, 3), (49, .iload_n 1, 1), (50, .iaload, 1), (51, .ifCond .ne 16, 3), (54, .aload_n 0, 1), (55, .getfield 29, 3), (58, .iload_n 2, 1), (59, .iaload, 1), (60, .ifCond .ne 7, 3), (63, .iconst 1, 1), (64, .goto 4, 3), (67, .iconst 0, 1), (68, .istore 6, 2), (70, .iload 6, 2), (72, .ifCond .eq 37, 3), (75, .aload_n 0, 1), (76, .getfield 16, 3), (79, .iload_n 1, 1), (80, .baload, 1), (81, .ifCond .ne 12, 3), (84, .aload_n 0, 1), (85, .getfield 16, 3), (88, .iload_n 2, 1), (89, .baload, 1), (90, .ifCond .eq 19, 3), (93, .iload 5, 2), (95, .iconst 2, 1), (96, .if_icmp .eq 9, 3), (99, .iload 5, 2), (101, .iconst 3, 1), (102, .if_icmp .ne 7, 3), (105, .iconst 1, 1), (106, .goto 4, 3), (109, .iconst 0, 1), (110, .istore 7, 2), (112, .aload_n 0, 1), (113, .aload_n 0, 1), (114, .getfield 120, 3), (117, .ifCond .eq 31, 3), (120, .iload_n 1, 1), (121, .iload_n 2, 1), (122, .if_icmp .eq 26, 3), (125, .aload_n 0, 1), (126, .getfield 32, 3), (129, .bipush 40, 2), (131, .iload_n 1, 1), (132, .imul, 1), (133, .iload_n 2, 1), (134, .iadd, 1), (135, .iaload, 1), (136, .ifCond .ne 12, 3), (139, .iload 7, 2), (141, .ifCond .ne 7, 3), (144, .iconst 1, 1), (145, .goto 4, 3), (148, .iconst 0, 1), (149, .putfield 120, 3), (152, .aload_n 0, 1), (153, .getfield 32, 3), (156, .bipush 40, 2), (158, .iload_n 1, 1), (159, .imul, 1), (160, .iload_n 2, 1), (161, .iadd, 1), (162, .iload 5, 2), (164, .iastore, 1), (165, .aload_n 0, 1), (166, .getfield 32, 3), (169, .bipush 40, 2), (171, .iload_n 2, 1), (172, .imul, 1), (173, .iload_n 1, 1), (174, .iadd, 1), (175, .iload 5, 2), (177, .iastore, 1), (178, .return_, 1)]
theorem dd_84 : ∀ q ∈ dl_84, decode prog_9_method_13_code q.1 = .ok q.2 := by decide +kernel
theorem A_84_0 : jx_All (jx_mk D c0 c1 c2 c3 c4 H0 ga L xs) jx_mt md_84 K_84_0 := by
  refine jx_ac (s_aload_n (jx_dc dd_84 0 rfl) rfl) ?_
  refine jx_ac (s_getf kk_6 (k := 6) (Nat.le_of_ble_eq_true rfl) (jx_dc dd_84 1 rfl) w_380) ?_
  refine jx_ac (s_iload_n (jx_dc dd_84 2 rfl) rfl) ?_
  refine jx_ac (s_zald rfl (jx_dc dd_84 3 rfl)) ?_
  refine jx_ac (s_ifeq (jx_dc dd_84 4 rfl) rfl) ?_
  refine jx_ac (s_aload_n (jx_dc dd_84 5 rfl) rfl) ?_
  refine jx_ac (s_getf kk_6 (k := 6) (Nat.le_of_ble_eq_true rfl) (jx_dc dd_84 6 rfl) w_380) ?_
  refine jx_ac (s_iload_n (jx_dc dd_84 7 rfl) rfl) ?_
  refine jx_ac (s_zald rfl (jx_dc dd_84 8 rfl)) ?_
  refine jx_ac (s_ifeq (jx_dc dd_84 9 rfl) rfl) ?_
  refine jx_ac (s_iconst (jx_dc dd_84 10 rfl) rfl) ?_
  refine jx_ac (s_goto (jx_dc dd_84 11 rfl) rfl) ?_
  refine jx_ac (s_iconst (jx_dc dd_84 12 rfl) rfl) ?_
  refine jx_ac (s_istore (jx_dc dd_84 13 rfl)) ?_
  refine jx_ac (s_iload_n (jx_dc dd_84 14 rfl) rfl) ?_
  refine jx_ac (s_ifeq (jx_dc dd_84 15 rfl) rfl) ?_
  refine jx_ac (s_iload_n (jx_dc dd_84 16 rfl) rfl) ?_
  refine jx_ac (s_goto (jx_dc dd_84 17 rfl) rfl) ?_
  refine jx_ac (s_iload (jx_dc dd_84 18 rfl)) ?_
  refine jx_ac (s_ifeq (jx_dc dd_84 19 rfl) rfl) ?_
  refine jx_ac (s_iconst (jx_dc dd_84 20 rfl) rfl) ?_
  refine jx_ac (s_goto (jx_dc dd_84 21 rfl) rfl) ?_
  refine jx_ac (s_iconst (jx_dc dd_84 22 rfl) rfl) ?_
  refine jx_ac (s_istore (jx_dc dd_84 23 rfl)) ?_
  refine jx_ac (s_aload_n (jx_dc dd_84 24 rfl) rfl) ?_
  refine jx_ac (s_getf kk_6 (k := 10) (Nat.le_of_ble_eq_true rfl) (jx_dc dd_84 25 rfl) w_384) ?_
  refine jx_ac (s_iload_n (jx_dc dd_84 26 rfl) rfl) ?_
  refine jx_ac (s_iald rfl (jx_dc dd_84 27 rfl)) ?_
  refine jx_ac (s_ifne (jx_dc dd_84 28 rfl) rfl) ?_
  refine jx_ac (s_aload_n (jx_dc dd_84 29 rfl) rfl) ?_
  refine jx_ac (s_getf kk_6 (k := 10) (Nat.le_of_ble_eq_true rfl) (jx_dc dd_84 30 rfl) w_384) ?_
  refine jx_ac (s_iload_n (jx_dc dd_84 31 rfl) rfl) ?_
  refine jx_ac (s_iald rfl (jx_dc dd_84 32 rfl)) ?_
  refine jx_ac (s_ifne (jx_dc dd_84 33 rfl) rfl) ?_
  refine jx_ac (s_iconst (jx_dc dd_84 34 rfl) rfl) ?_
  refine jx_ac (s_goto (jx_dc dd_84 35 rfl) rfl) ?_
  refine jx_ac (s_iconst (jx_dc dd_84 36 rfl) rfl) ?_
  refine jx_ac (s_istore (jx_dc dd_84 37 rfl)) ?_
  refine jx_ac (s_iload (jx_dc dd_84 38 rfl)) ?_
  refine jx_ac (s_ifeq (jx_dc dd_84 39 rfl) rfl) ?_
  exact jx_an
theorem A_84_1 : jx_All (jx_mk D c0 c1 c2 c3 c4 H0 ga L xs) jx_mt md_84 K_84_1 := by
  refine jx_ac (s_aload_n (jx_dc dd_84 40 rfl) rfl) ?_
  refine jx_ac (s_getf kk_6 (k := 6) (Nat.le_of_ble_eq_true rfl) (jx_dc dd_84 41 rfl) w_380) ?_
  refine jx_ac (s_iload_n (jx_dc dd_84 42 rfl) rfl) ?_
  refine jx_ac (s_zald rfl (jx_dc dd_84 43 rfl)) ?_
  refine jx_ac (s_ifne (jx_dc dd_84 44 rfl) rfl) ?_
  refine jx_ac (s_aload_n (jx_dc dd_84 45 rfl) rfl) ?_
  refine jx_ac (s_getf kk_6 (k := 6) (Nat.le_of_ble_eq_true rfl) (jx_dc dd_84 46 rfl) w_380) ?_
  refine jx_ac (s_iload_n (jx_dc dd_84 47 rfl) rfl) ?_
  refine jx_ac (s_zald rfl (jx_dc dd_84 48 rfl)) ?_
  refine jx_ac (s_ifeq (jx_dc dd_84 49 rfl) rfl) ?_
  refine jx_ac (s_iload (jx_dc dd_84 50 rfl)) ?_
  refine jx_ac (s_iconst (jx_dc dd_84 51 rfl) rfl) ?_
  refine jx_ac (s_ieq (jx_dc dd_84 52 rfl) rfl) ?_
  refine jx_ac (s_iload (jx_dc dd_84 53 rfl)) ?_
  refine jx_ac (s_iconst (jx_dc dd_84 54 rfl) rfl) ?_
  refine jx_ac (s_ine (jx_dc dd_84 55 rfl) rfl) ?_
  refine jx_ac (s_iconst (jx_dc dd_84 56 rfl) rfl) ?_
  refine jx_ac (s_goto (jx_dc dd_84 57 rfl) rfl) ?_
  refine jx_ac (s_iconst (jx_dc dd_84 58 rfl) rfl) ?_
  refine jx_ac (s_istore (jx_dc dd_84 59 rfl)) ?_
  refine jx_ac (s_aload_n (jx_dc dd_84 60 rfl) rfl) ?_
  refine jx_ac (s_aload_n (jx_dc dd_84 61 rfl) rfl) ?_
  refine jx_ac (s_getf kk_6 (k := 15) (Nat.le_of_ble_eq_true rfl) (jx_dc dd_84 62 rfl) w_435) ?_
  refine jx_ac (s_ifeq (jx_dc dd_84 63 rfl) rfl) ?_
  refine jx_ac (s_iload_n (jx_dc dd_84 64 rfl) rfl) ?_
  refine jx_ac (s_iload_n (jx_dc dd_84 65 rfl) rfl) ?_
  refine jx_ac (s_ieq (jx_dc dd_84 66 rfl) rfl) ?_
  refine jx_ac (s_aload_n (jx_dc dd_84 67 rfl) rfl) ?_
  refine jx_ac (s_getf kk_6 (k := 11) (Nat.le_of_ble_eq_true rfl) (jx_dc dd_84 68 rfl) w_385) ?_
  refine jx_ac (s_bipush (jx_dc dd_84 69 rfl) rfl) ?_
  refine jx_ac (s_iload_n (jx_dc dd_84 70 rfl) rfl) ?_
  refine jx_ac (s_imul (jx_dc dd_84 71 rfl)) ?_
  refine jx_ac (s_iload_n (jx_dc dd_84 72 rfl) rfl) ?_
  refine jx_ac (s_iadd (jx_dc dd_84 73 rfl)) ?_
  refine jx_ac (s_iald rfl (jx_dc dd_84 74 rfl)) ?_
  refine jx_ac (s_ifne (jx_dc dd_84 75 rfl) rfl) ?_
  refine jx_ac (s_iload (jx_dc dd_84 76 rfl)) ?_
  refine jx_ac (s_ifne (jx_dc dd_84 77 rfl) rfl) ?_
  refine jx_ac (s_iconst (jx_dc dd_84 78 rfl) rfl) ?_
  refine jx_ac (s_goto (jx_dc dd_84 79 rfl) rfl) ?_
  exact jx_an
theorem A_84_2 : jx_All (jx_mk D c0 c1 c2 c3 c4 H0 ga L xs) jx_mt md_84 K_84_2 := by
  refine jx_ac (s_iconst (jx_dc dd_84 80 rfl) rfl) ?_
  refine jx_ac (s_putf kk_6 (k := 15) (Nat.le_of_ble_eq_true rfl) (jx_dc dd_84 81 rfl) (fun _ h => jx_okZ_n _ h) rfl w_435) ?_
  refine jx_ac (s_aload_n (jx_dc dd_84 82 rfl) rfl) ?_
  refine jx_ac (s_getf kk_6 (k := 11) (Nat.le_of_ble_eq_true rfl) (jx_dc dd_84 83 rfl) w_385) ?_
  refine jx_ac (s_bipush (jx_dc dd_84 84 rfl) rfl) ?_
  refine jx_ac (s_iload_n (jx_dc dd_84 85 rfl) rfl) ?_
  refine jx_ac (s_imul (jx_dc dd_84 86 rfl)) ?_
  refine jx_ac (s_iload_n (jx_dc dd_84 87 rfl) rfl) ?_
  refine jx_ac (s_iadd (jx_dc dd_84 88 rfl)) ?_
  refine jx_ac (s_iload (jx_dc dd_84 89 rfl)) ?_
  refine jx_ac (s_iast rfl (jx_dc dd_84 90 rfl)) ?_
  refine jx_ac (s_aload_n (jx_dc dd_84 91 rfl) rfl) ?_
  refine jx_ac (s_getf kk_6 (k := 11) (Nat.le_of_ble_eq_true rfl) (jx_dc dd_84 92 rfl) w_385) ?_
  refine jx_ac (s_bipush (jx_dc dd_84 93 rfl) rfl) ?_
  refine jx_ac (s_iload_n (jx_dc dd_84 94 rfl) rfl) ?_
  refine jx_ac (s_imul (jx_dc dd_84 95 rfl)) ?_
  refine jx_ac (s_iload_n (jx_dc dd_84 96 rfl) rfl) ?_
  refine jx_ac (s_iadd (jx_dc dd_84 97 rfl)) ?_
  refine jx_ac (s_iload (jx_dc dd_84 98 rfl)) ?_
  refine jx_ac (s_iast rfl (jx_dc dd_84 99 rfl)) ?_
  refine jx_ac (s_ret rfl (jx_dc dd_84 100 rfl)) ?_
  exact jx_an
theorem A_84 : jx_All (jx_mk D c0 c1 c2 c3 c4 H0 ga L xs) jx_mt md_84 K_84 := (jx_aa A_84_0 (jx_aa A_84_1 A_84_2))
def dl_85 : List (Nat × Instr × Nat) := [(0, .iconst 1, 1), (1, .istore_n 3, 1), (2, .iload_n 3, 1), (3, .ifCond .eq 192, 3), (6, .aload_n 0, 1), (7, .aload_n 0, 1), (8, .getfield 99, 3), (11, .invokevirtual 102, 3), (14, .iload_n 2, 1), (15, .invokestatic 124, 3), (18, .istore 4, 2), (20, .iload 4, 2), (22, .ifCond .eq 12, 3), (25, .aload_n 0, 1), (26, .getfield 99, 3), (29, .iconst 1, 1), (30, .iadd, 1), (31, .goto 7, 3), (34, .aload_n 0, 1), (35, .getfield 99, 3), (38, .istore 5, 2), (40, .aload_n 0, 1), (41, .iload 5, 2), (43, .invokevirtual 102, 3), (46, .bipush 48, 2), (48, .isub, 1), (49, .istore 6, 2), (51, .iload 6, 2), (53, .iconst 1, 1), (54, .if_icmp .lt 14, 3), (57, .iload 6, 2), (59, .bipush 9, 2), (61, .if_icmp .gt 7, 3), (64, .iconst 1, 1), (65, .goto 4, 3), (68, .iconst 0, 1), (69, .istore_n 3, 1), (70, .iload_n 3, 1), (71, .ifCond .eq 121, 3), (74, .aload_n 0, 1), (75, .iload 5, 2), (77, .iconst 1, 1), (78, .iadd, 1), (79, .putfield 99, 3), (82, .aload_n 0, 1), (83, .getfield 38, 3), (86, .iload 6, 2), (88, .iaload, 1), (89, .ifCond .ge 23, 3), (92, .aload_n 0, 1), (93, .getfield 38, 3), (96, .iload 6, 2), (98, .iload_n 1, 1), (99, .iastore, 1), (100, .aload_n 0, 1), (101, .getfield 41, 3), (104, .iload 6, 2), (106, .iload 4, 2), (108, .iastore, 1), (109, .goto 83, 3), (112, .aload_n 0, 1), (113, .aload_n 0, 1), (114, .getfield 120, 3), (117, .ifCond .eq 34, 3), (120, .iload 4, 2), (122, .ifCond .eq 25, 3), (125, .aload_n 0, 1), (126, .getfield 41, 3), (129, .iload 6, 2), (131, .iaload, 1), (132, .ifCond .eq 15, 3), (135, .iload 4, 2), (137, .aload_n 0, 1), (138, .getfield 41, 3), (141, .iload 6, 2), (143, .iaload, 1), (144, .if_icmp .ne 7, 3), (147, .iconst 1, 1), (148, .goto 4, 3), (151, .iconst 0, 1), (152, .putfield 120, 3), (155, .aload_n 0, 1), (156, .aload_n 0, 1), (157, .getfield 38, 3), (160, .iload 6, 2), (162, .iaload, 1), (163, .iload_n 1, 1), (164, .iload 4, 2), (166, .ifCond .eq 8, 3), (169, .iload 4, 2), (171, .goto 10, 3), (174, .aload_n 0, 1), (175, .getfield 41, 3), (178, .iload 6, 2), (180, .iaload, 1), (181, .invokevirtual 128, 3), (184, .aload_n 0, 1), (185, .getfield 38, 3), (188, .iload 6, 2), (190, .iconst (-1), 1), (191, .iastore, 1), (192, .goto (-190), 3), (195, .return_, 1)]
theorem dd_85 : ∀ q ∈ dl_85, decode prog_9_method_14_code q.1 = .ok q.2 := by decide +kernel
theorem A_85_0 : jx_All (jx_mk D c0 c1 c2 c3 c4 H0 ga L xs) jx_mt md_85 K_85_0 := by
  refine jx_ac (s_iconst (jx_dc dd_85 0 rfl) rfl) ?_
  refine jx_ac (s_istore_n (jx_dc dd_85 1 rfl) rfl) ?_
  refine jx_ac (s_iload_n (jx_dc dd_85 2 rfl) rfl) ?_
  refine jx_ac (s_ifeq (jx_dc dd_85 3 rfl) rfl) ?_
  refine jx_ac (s_aload_n (jx_dc dd_85 4 rfl) rfl) ?_
  refine jx_ac (s_aload_n (jx_dc dd_85 5 rfl) rfl) ?_
  refine jx_ac (s_getf kk_6 (k := 3) (Nat.le_of_ble_eq_true rfl) (jx_dc dd_85 6 rfl) w_434) ?_
  refine jx_ac (s_callv (ce := 77) kk_6 mc_77 (jx_dc dd_85 7 rfl) w_436 w_437 w_438 ⟨by decide, by decide⟩ np_77) ?_
  refine jx_ac (s_iload_n (jx_dc dd_85 8 rfl) rfl) ?_
  refine jx_ac (s_calls (ce := 78) mc_78 (jx_dc dd_85 9 rfl) w_439 w_440 w_8 ⟨by decide, by decide⟩ np_78) ?_
  refine jx_ac (s_istore (jx_dc dd_85 10 rfl)) ?_
  refine jx_ac (s_iload (jx_dc dd_85 11 rfl)) ?_
  refine jx_ac (s_ifeq (jx_dc dd_85 12 rfl) rfl) ?_
  refine jx_ac (s_aload_n (jx_dc dd_85 13 rfl) rfl) ?_
  refine jx_ac (s_getf kk_6 (k := 3) (Nat.le_of_ble_eq_true rfl) (jx_dc dd_85 14 rfl) w_434) ?_
  refine jx_ac (s_iconst (jx_dc dd_85 15 rfl) rfl) ?_
  refine jx_ac (s_iadd (jx_dc dd_85 16 rfl)) ?_
  refine jx_ac (s_goto (jx_dc dd_85 17 rfl) rfl) ?_
  refine jx_ac (s_aload_n (jx_dc dd_85 18 rfl) rfl) ?_
  refine jx_ac (s_getf kk_6 (k := 3) (Nat.le_of_ble_eq_true rfl) (jx_dc dd_85 19 rfl) w_434) ?_
  refine jx_ac (s_istore (jx_dc dd_85 20 rfl)) ?_
  refine jx_ac (s_aload_n (jx_dc dd_85 21 rfl) rfl) ?_
  refine jx_ac (s_iload (jx_dc dd_85 22 rfl)) ?_
  refine jx_ac (s_callv (ce := 77) kk_6 mc_77 (jx_dc dd_85 23 rfl) w_436 w_437 w_438 ⟨by decide, by decide⟩ np_77) ?_
  refine jx_ac (s_bipush (jx_dc dd_85 24 rfl) rfl) ?_
  refine jx_ac (s_isub (jx_dc dd_85 25 rfl)) ?_
  refine jx_ac (s_istore (jx_dc dd_85 26 rfl)) ?_
  refine jx_ac (s_iload (jx_dc dd_85 27 rfl)) ?_
  refine jx_ac (s_iconst (jx_dc dd_85 28 rfl) rfl) ?_
  refine jx_ac (s_ilt (jx_dc dd_85 29 rfl) rfl) ?_
  refine jx_ac (s_iload (jx_dc dd_85 30 rfl)) ?_
  refine jx_ac (s_bipush (jx_dc dd_85 31 rfl) rfl) ?_
  refine jx_ac (s_igt (jx_dc dd_85 32 rfl) rfl) ?_
  refine jx_ac (s_iconst (jx_dc dd_85 33 rfl) rfl) ?_
  refine jx_ac (s_goto (jx_dc dd_85 34 rfl) rfl) ?_
  refine jx_ac (s_iconst (jx_dc dd_85 35 rfl) rfl) ?_
  refine jx_ac (s_istore_n (jx_dc dd_85 36 rfl) rfl) ?_
  refine jx_ac (s_iload_n (jx_dc dd_85 37 rfl) rfl) ?_
  refine jx_ac (s_ifeq (jx_dc dd_85 38 rfl) rfl) ?_
  refine jx_ac (s_aload_n (jx_dc dd_85 39 rfl) rfl) ?_
  exact jx_an
theorem A_85_1 : jx_All (jx_mk D c0 c1 c2 c3 c4 H0 ga L xs) jx_mt md_85 K_85_1 := by
  refine jx_ac (s_iload (jx_dc dd_85 40 rfl)) ?_
  refine jx_ac (s_iconst (jx_dc dd_85 41 rfl) rfl) ?_
  refine jx_ac (s_iadd (jx_dc dd_85 42 rfl)) ?_
  refine jx_ac (s_putf kk_6 (k := 3) (Nat.le_of_ble_eq_true rfl) (jx_dc dd_85 43 rfl) (fun _ h => jx_okI_n _ h) rfl w_434) ?_
  refine jx_ac (s_aload_n (jx_dc dd_85 44 rfl) rfl) ?_
  refine jx_ac (s_getf kk_6 (k := 13) (Nat.le_of_ble_eq_true rfl) (jx_dc dd_85 45 rfl) w_387) ?_
  refine jx_ac (s_iload (jx_dc dd_85 46 rfl)) ?_
  refine jx_ac (s_iald rfl (jx_dc dd_85 47 rfl)) ?_
  refine jx_ac (s_ifge (jx_dc dd_85 48 rfl) rfl) ?_
  refine jx_ac (s_aload_n (jx_dc dd_85 49 rfl) rfl) ?_
  refine jx_ac (s_getf kk_6 (k := 13) (Nat.le_of_ble_eq_true rfl) (jx_dc dd_85 50 rfl) w_387) ?_
  refine jx_ac (s_iload (jx_dc dd_85 51 rfl)) ?_
  refine jx_ac (s_iload_n (jx_dc dd_85 52 rfl) rfl) ?_
  refine jx_ac (s_iast rfl (jx_dc dd_85 53 rfl)) ?_
  refine jx_ac (s_aload_n (jx_dc dd_85 54 rfl) rfl) ?_
  refine jx_ac (s_getf kk_6 (k := 14) (Nat.le_of_ble_eq_true rfl) (jx_dc dd_85 55 rfl) w_388) ?_
  refine jx_ac (s_iload (jx_dc dd_85 56 rfl)) ?_
  refine jx_ac (s_iload (jx_dc dd_85 57 rfl)) ?_
  refine jx_ac (s_iast rfl (jx_dc dd_85 58 rfl)) ?_
  refine jx_ac (s_goto (jx_dc dd_85 59 rfl) rfl) ?_
  refine jx_ac (s_aload_n (jx_dc dd_85 60 rfl) rfl) ?_
  refine jx_ac (s_aload_n (jx_dc dd_85 61 rfl) rfl) ?_
  refine jx_ac (s_getf kk_6 (k := 15) (Nat.le_of_ble_eq_true rfl) (jx_dc dd_85 62 rfl) w_435) ?_
  refine jx_ac (s_ifeq (jx_dc dd_85 63 rfl) rfl) ?_
  refine jx_ac (s_iload (jx_dc dd_85 64 rfl)) ?_
  refine jx_ac (s_ifeq (jx_dc dd_85 65 rfl) rfl) ?_
  refine jx_ac (s_aload_n (jx_dc dd_85 66 rfl) rfl) ?_
  refine jx_ac (s_getf kk_6 (k := 14) (Nat.le_of_ble_eq_true rfl) (jx_dc dd_85 67 rfl) w_388) ?_
  refine jx_ac (s_iload (jx_dc dd_85 68 rfl)) ?_
  refine jx_ac (s_iald rfl (jx_dc dd_85 69 rfl)) ?_
  refine jx_ac (s_ifeq (jx_dc dd_85 70 rfl) rfl) ?_
  refine jx_ac (s_iload (jx_dc dd_85 71 rfl)) ?_
  refine jx_ac (s_aload_n (jx_dc dd_85 72 rfl) rfl) ?_
  refine jx_ac (s_getf kk_6 (k := 14) (Nat.le_of_ble_eq_true rfl) (jx_dc dd_85 73 rfl) w_388) ?_
  refine jx_ac (s_iload (jx_dc dd_85 74 rfl)) ?_
  refine jx_ac (s_iald rfl (jx_dc dd_85 75 rfl)) ?_
  refine jx_ac (s_ine (jx_dc dd_85 76 rfl) rfl) ?_
  refine jx_ac (s_iconst (jx_dc dd_85 77 rfl) rfl) ?_
  refine jx_ac (s_goto (jx_dc dd_85 78 rfl) rfl) ?_
  refine jx_ac (s_iconst (jx_dc dd_85 79 rfl) rfl) ?_
  exact jx_an
theorem A_85_2 : jx_All (jx_mk D c0 c1 c2 c3 c4 H0 ga L xs) jx_mt md_85 K_85_2 := by
  refine jx_ac (s_putf kk_6 (k := 15) (Nat.le_of_ble_eq_true rfl) (jx_dc dd_85 80 rfl) (fun _ h => jx_okZ_n _ h) rfl w_435) ?_
  refine jx_ac (s_aload_n (jx_dc dd_85 81 rfl) rfl) ?_
  refine jx_ac (s_aload_n (jx_dc dd_85 82 rfl) rfl) ?_
  refine jx_ac (s_getf kk_6 (k := 13) (Nat.le_of_ble_eq_true rfl) (jx_dc dd_85 83 rfl) w_387) ?_
  refine jx_ac (s_iload (jx_dc dd_85 84 rfl)) ?_
  refine jx_ac (s_iald rfl (jx_dc dd_85 85 rfl)) ?_
  refine jx_ac (s_iload_n (jx_dc dd_85 86 rfl) rfl) ?_
  refine jx_ac (s_iload (jx_dc dd_85 87 rfl)) ?_
  refine jx_ac (s_ifeq (jx_dc dd_85 88 rfl) rfl) ?_
  refine jx_ac (s_iload (jx_dc dd_85 89 rfl)) ?_
  refine jx_ac (s_goto (jx_dc dd_85 90 rfl) rfl) ?_
  refine jx_ac (s_aload_n (jx_dc dd_85 91 rfl) rfl) ?_
  refine jx_ac (s_getf kk_6 (k := 14) (Nat.le_of_ble_eq_true rfl) (jx_dc dd_85 92 rfl) w_388) ?_
  refine jx_ac (s_iload (jx_dc dd_85 93 rfl)) ?_
  refine jx_ac (s_iald rfl (jx_dc dd_85 94 rfl)) ?_
  refine jx_ac (s_callv (ce := 84) kk_6 mc_84 (jx_dc dd_85 95 rfl) w_444 w_445 w_446 ⟨by decide, by decide⟩ np_84) ?_
  refine jx_ac (s_aload_n (jx_dc dd_85 96 rfl) rfl) ?_
  refine jx_ac (s_getf kk_6 (k := 13) (Nat.le_of_ble_eq_true rfl) (jx_dc dd_85 97 rfl) w_387) ?_
  refine jx_ac (s_iload (jx_dc dd_85 98 rfl)) ?_
  refine jx_ac (s_iconst (jx_dc dd_85 99 rfl) rfl) ?_
  refine jx_ac (s_iast rfl (jx_dc dd_85 100 rfl)) ?_
  refine jx_ac (s_goto (jx_dc dd_85 101 rfl) rfl) ?_
  refine jx_ac (s_ret rfl (jx_dc dd_85 102 rfl)) ?_
  exact jx_an
theorem A_85 : jx_All (jx_mk D c0 c1 c2 c3 c4 H0 ga L xs) jx_mt md_85 K_85 := (jx_aa A_85_0 (jx_aa A_85_1 A_85_2))
def dl_86 : List (Nat × Instr × Nat) := [(0, .iconst 1, 1), (1, .istore_n 1, 1), (2, .iconst 0, 1), (3, .istore_n 2, 1), (4, .iload_n 2, 1), (5, .aload_n 0, 1), (6, .getfield 96, 3), (9, .if_icmp .ge 126, 3), (12, .aload_n 0, 1), (13, .iload_n 2, 1), (14, .invokevirtual 139, 3), (17, .istore_n 3, 1), (18, .aload_n 0, 1), (19, .iload_n 2, 1), (20, .invokevirtual 142, 3), (23, .istore 4, 2), (25, .aload_n 0, 1), (26, .getfield 26, 3), (29, .iload_n 2, 1), (30, .baload, 1), (31, .ifCond .eq 72, 3), (34, .aload_n 0, 1), (35, .getfield 23, 3), (38, .iload_n 2, 1), (39, .iaload, 1), (40, .ifCond .ne 8, 3), (43, .iload 4, 2), (45, .goto 30, 3), (48, .aload_n 0, 1), (49, .getfield 13, 3), (52, .iload_n 2, 1), (53, .iaload, 1), (54, .bipush 67, 2), (56, .if_icmp .ne 10, 3), (59, .iload 4, 2), (61, .iconst 1, 1), (62, .isub, 1), (63, .goto 12, 3), (66, .iload 4, 2), (68, .aload_n 0, 1), (69, .getfield 23, 3), (72, .iload_n 2, 1), (73, .iaload, 1), (74, .iadd, 1), (75, .istore 5, 2), (77, .iload_n 1, 1), (78, .ifCond .eq 20, 3), (81, .aload_n 0, 1), (82, .getfield 20, 3), (85, .iload_n 2, 1), (86, .iaload, 1), (87, .iload_n 3, 1), (88, .iadd, 1), (89, .iload 5, 2), (91, .if_icmp .ne 7, 3), (94, .iconst 1, 1), (95, .goto 4, 3), (98, .iconst 0, 1), (99, .istore_n 1, 1), (100, .goto 29, 3), (103, .iload_n 1, 1), (104, .ifCond .eq 13, 3), (107, .iload_n 3, 1), (108, .iload 4, 2), (110, .if_icmp .gt 7, 3), (113, .iconst 1, 1), (114, .goto 4, 3), (117, .iconst 0, 1), (118, .istore_n 1, 1), (119, .aload_n 0, 1), (120, .getfield 20, 3), (123, .iload_n 2, 1), (124, .iload 4, 2), (126, .iload_n 3, 1), (127, .isub, 1), (128, .iastore, 1), (129, .iinc 2 1, 3), (132, .goto (-128), 3), (135, .iload_n 1, 1), (136, .ireturn, 1)]
theorem dd_86 : ∀ q ∈ dl_86, decode prog_9_method_18_code q.1 = .ok q.2 := by decide +kernel
theorem A_86_0 : jx_All (jx_mk D c0 c1 c2 c3 c4 H0 ga L xs) jx_mt md_86 K_86_0 := by
  refine jx_ac (s_iconst (jx_dc dd_86 0 rfl) rfl) ?_
  refine jx_ac (s_istore_n (jx_dc dd_86 1 rfl) rfl) ?_
  refine jx_ac (s_iconst (jx_dc dd_86 2 rfl) rfl) ?_
  refine jx_ac (s_istore_n (jx_dc dd_86 3 rfl) rfl) ?_
  refine jx_ac (s_iload_n (jx_dc dd_86 4 rfl) rfl) ?_
  refine jx_ac (s_aload_n (jx_dc dd_86 5 rfl) rfl) ?_
  refine jx_ac (s_getf kk_6 (k := 4) (Nat.le_of_ble_eq_true rfl) (jx_dc dd_86 6 rfl) w_427) ?_
  refine jx_ac (s_ige (jx_dc dd_86 7 rfl) rfl) ?_
  refine jx_ac (s_aload_n (jx_dc dd_86 8 rfl) rfl) ?_
  refine jx_ac (s_iload_n (jx_dc dd_86 9 rfl) rfl) ?_
  refine jx_ac (s_callv (ce := 87) kk_6 mc_87 (jx_dc dd_86 10 rfl) w_461 w_462 w_463 ⟨by decide, by decide⟩ np_87) ?_
  refine jx_ac (s_istore_n (jx_dc dd_86 11 rfl) rfl) ?_
  refine jx_ac (s_aload_n (jx_dc dd_86 12 rfl) rfl) ?_
  refine jx_ac (s_iload_n (jx_dc dd_86 13 rfl) rfl) ?_
  refine jx_ac (s_callv (ce := 88) kk_6 mc_88 (jx_dc dd_86 14 rfl) w_464 w_465 w_466 ⟨by decide, by decide⟩ np_88) ?_
  refine jx_ac (s_istore (jx_dc dd_86 15 rfl)) ?_
  refine jx_ac (s_aload_n (jx_dc dd_86 16 rfl) rfl) ?_
  refine jx_ac (s_getf kk_6 (k := 9) (Nat.le_of_ble_eq_true rfl) (jx_dc dd_86 17 rfl) w_383) ?_
  refine jx_ac (s_iload_n (jx_dc dd_86 18 rfl) rfl) ?_
  refine jx_ac (s_zald rfl (jx_dc dd_86 19 rfl)) ?_
  refine jx_ac (s_ifeq (jx_dc dd_86 20 rfl) rfl) ?_
  refine jx_ac (s_aload_n (jx_dc dd_86 21 rfl) rfl) ?_
  refine jx_ac (s_getf kk_6 (k := 8) (Nat.le_of_ble_eq_true rfl) (jx_dc dd_86 22 rfl) w_382) ?_
  refine jx_ac (s_iload_n (jx_dc dd_86 23 rfl) rfl) ?_
  refine jx_ac (s_iald rfl (jx_dc dd_86 24 rfl)) ?_
  refine jx_ac (s_ifne (jx_dc dd_86 25 rfl) rfl) ?_
  refine jx_ac (s_iload (jx_dc dd_86 26 rfl)) ?_
  refine jx_ac (s_goto (jx_dc dd_86 27 rfl) rfl) ?_
  refine jx_ac (s_aload_n (jx_dc dd_86 28 rfl) rfl) ?_
  refine jx_ac (s_getf kk_6 (k := 5) (Nat.le_of_ble_eq_true rfl) (jx_dc dd_86 29 rfl) w_378) ?_
  refine jx_ac (s_iload_n (jx_dc dd_86 30 rfl) rfl) ?_
  refine jx_ac (s_iald rfl (jx_dc dd_86 31 rfl)) ?_
  refine jx_ac (s_bipush (jx_dc dd_86 32 rfl) rfl) ?_
  refine jx_ac (s_ine (jx_dc dd_86 33 rfl) rfl) ?_
  refine jx_ac (s_iload (jx_dc dd_86 34 rfl)) ?_
  refine jx_ac (s_iconst (jx_dc dd_86 35 rfl) rfl) ?_
  refine jx_ac (s_isub (jx_dc dd_86 36 rfl)) ?_
  refine jx_ac (s_goto (jx_dc dd_86 37 rfl) rfl) ?_
  refine jx_ac (s_iload (jx_dc dd_86 38 rfl)) ?_
  refine jx_ac (s_aload_n (jx_dc dd_86 39 rfl) rfl) ?_
  exact jx_an
theorem A_86_1 : jx_All (jx_mk D c0 c1 c2 c3 c4 H0 ga L xs) jx_mt md_86 K_86_1 := by
  refine jx_ac (s_getf kk_6 (k := 8) (Nat.le_of_ble_eq_true rfl) (jx_dc dd_86 40 rfl) w_382) ?_
  refine jx_ac (s_iload_n (jx_dc dd_86 41 rfl) rfl) ?_
  refine jx_ac (s_iald rfl (jx_dc dd_86 42 rfl)) ?_
  refine jx_ac (s_iadd (jx_dc dd_86 43 rfl)) ?_
  refine jx_ac (s_istore (jx_dc dd_86 44 rfl)) ?_
  refine jx_ac (s_iload_n (jx_dc dd_86 45 rfl) rfl) ?_
  refine jx_ac (s_ifeq (jx_dc dd_86 46 rfl) rfl) ?_
  refine jx_ac (s_aload_n (jx_dc dd_86 47 rfl) rfl) ?_
  refine jx_ac (s_getf kk_6 (k := 7) (Nat.le_of_ble_eq_true rfl) (jx_dc dd_86 48 rfl) w_381) ?_
  refine jx_ac (s_iload_n (jx_dc dd_86 49 rfl) rfl) ?_
  refine jx_ac (s_iald rfl (jx_dc dd_86 50 rfl)) ?_
  refine jx_ac (s_iload_n (jx_dc dd_86 51 rfl) rfl) ?_
  refine jx_ac (s_iadd (jx_dc dd_86 52 rfl)) ?_
  refine jx_ac (s_iload (jx_dc dd_86 53 rfl)) ?_
  refine jx_ac (s_ine (jx_dc dd_86 54 rfl) rfl) ?_
  refine jx_ac (s_iconst (jx_dc dd_86 55 rfl) rfl) ?_
  refine jx_ac (s_goto (jx_dc dd_86 56 rfl) rfl) ?_
  refine jx_ac (s_iconst (jx_dc dd_86 57 rfl) rfl) ?_
  refine jx_ac (s_istore_n (jx_dc dd_86 58 rfl) rfl) ?_
  refine jx_ac (s_goto (jx_dc dd_86 59 rfl) rfl) ?_
  refine jx_ac (s_iload_n (jx_dc dd_86 60 rfl) rfl) ?_
  refine jx_ac (s_ifeq (jx_dc dd_86 61 rfl) rfl) ?_
  refine jx_ac (s_iload_n (jx_dc dd_86 62 rfl) rfl) ?_
  refine jx_ac (s_iload (jx_dc dd_86 63 rfl)) ?_
  refine jx_ac (s_igt (jx_dc dd_86 64 rfl) rfl) ?_
  refine jx_ac (s_iconst (jx_dc dd_86 65 rfl) rfl) ?_
  refine jx_ac (s_goto (jx_dc dd_86 66 rfl) rfl) ?_
  refine jx_ac (s_iconst (jx_dc dd_86 67 rfl) rfl) ?_
  refine jx_ac (s_istore_n (jx_dc dd_86 68 rfl) rfl) ?_
  refine jx_ac (s_aload_n (jx_dc dd_86 69 rfl) rfl) ?_
  refine jx_ac (s_getf kk_6 (k := 7) (Nat.le_of_ble_eq_true rfl) (jx_dc dd_86 70 rfl) w_381) ?_
  refine jx_ac (s_iload_n (jx_dc dd_86 71 rfl) rfl) ?_
  refine jx_ac (s_iload (jx_dc dd_86 72 rfl)) ?_
  refine jx_ac (s_iload_n (jx_dc dd_86 73 rfl) rfl) ?_
  refine jx_ac (s_isub (jx_dc dd_86 74 rfl)) ?_
  refine jx_ac (s_iast rfl (jx_dc dd_86 75 rfl)) ?_
  refine jx_ac (s_iinc (jx_dc dd_86 76 rfl) rfl) ?_
  refine jx_ac (s_goto (jx_dc dd_86 77 rfl) rfl) ?_
  refine jx_ac (s_iload_n (jx_dc dd_86 78 rfl) rfl) ?_
  refine jx_ac (s_zret rfl (jx_dc dd_86 79 rfl)) ?_
  exact jx_an
theorem A_86 : jx_All (jx_mk D c0 c1 c2 c3 c4 H0 ga L xs) jx_mt md_86 K_86 := (jx_aa A_86_0 A_86_1)
def dl_87 : List (Nat × Instr × Nat) := [(0, .iconst 0, 1), (1, .istore_n 2, 1), (2, .iconst 0, 1), (3, .istore_n 3, 1), (4, .iconst 0, 1), (5, .istore 4, 2), (7, .iload 4, 2), (9, .aload_n 0, 1), (10, .getfield 96, 3), (13, .if_icmp .ge 54, 3), (16, .aload_n 0, 1), (17, .getfield 32, 3), (20, .bipush 40, 2), (22, .iload_n 1, 1), (23, .imul, 1), (24, .iload 4, 2), (26, .iadd, 1), (27, .iaload, 1), (28, .istore 5, 2), (30, .iload_n 2, 1), (31, .iload 5, 2), (33, .iconst 4, 1), (34, .if_icmp .ne 7, 3), (37, .iconst 1, 1), (38, .goto 5, 3), (41, .iload 5, 2), (43, .iadd, 1), (44, .istore_n 2, 1), (45, .iload_n 3, 1), (46, .ifCond .ne 9, 3), (49, .iload 5, 2), (51, .iconst 4, 1), (52, .if_icmp .ne 7, 3), (55, .iconst 1, 1), (56, .goto 4, 3), (59, .iconst 0, 1), (60, .istore_n 3, 1), (61, .iinc 4 1, 3), (64, .goto (-57), 3), (67, .iload_n 3, 1), (68, .ifCond .eq 40, 3), (71, .aload_n 0, 1), (72, .getfield 16, 3), (75, .iload_n 1, 1), (76, .baload, 1), (77, .ifCond .eq 31, 3), (80, .aload_n 0, 1), (81, .getfield 13, 3), (84, .iload_n 1, 1), (85, .iaload, 1), (86, .bipush 67, 2), (88, .if_icmp .eq 14, 3), (91, .aload_n 0, 1), (92, .getfield 13, 3), (95, .iload_n 1, 1), (96, .iaload, 1), (97, .bipush 78, 2), (99, .if_icmp .ne 9, 3), (102, .iload_n 2, 1), (103, .iconst 1, 1), (104, .iadd, 1), (105, .goto 4, 3), (108, .iload_n 2, 1), (109, .ireturn, 1)]
theorem dd_87 : ∀ q ∈ dl_87, decode prog_9_method_17_code q.1 = .ok q.2 := by decide +kernel
theorem A_87_0 : jx_All (jx_mk D c0 c1 c2 c3 c4 H0 ga L xs) jx_mt md_87 K_87_0 := by
  refine jx_ac (s_iconst (jx_dc dd_87 0 rfl) rfl) ?_
  refine jx_ac (s_istore_n (jx_dc dd_87 1 rfl) rfl) ?_
  refine jx_ac (s_iconst (jx_dc dd_87 2 rfl) rfl) ?_
  refine jx_ac (s_istore_n (jx_dc dd_87 3 rfl) rfl) ?_
  refine jx_ac (s_iconst (jx_dc dd_87 4 rfl) rfl) ?_
  refine jx_ac (s_istore (jx_dc dd_87 5 rfl)) ?_
  refine jx_ac (s_iload (jx_dc dd_87 6 rfl)) ?_
  refine jx_ac (s_aload_n (jx_dc dd_87 7 rfl) rfl) ?_
  refine jx_ac (s_getf kk_6 (k := 4) (Nat.le_of_ble_eq_true rfl) (jx_dc dd_87 8 rfl) w_427) ?_
  refine jx_ac (s_ige (jx_dc dd_87 9 rfl) rfl) ?_
  refine jx_ac (s_aload_n (jx_dc dd_87 10 rfl) rfl) ?_
  refine jx_ac (s_getf kk_6 (k := 11) (Nat.le_of_ble_eq_true rfl) (jx_dc dd_87 11 rfl) w_385) ?_
  refine jx_ac (s_bipush (jx_dc dd_87 12 rfl) rfl) ?_
  refine jx_ac (s_iload_n (jx_dc dd_87 13 rfl) rfl) ?_
  refine jx_ac (s_imul (jx_dc dd_87 14 rfl)) ?_
  refine jx_ac (s_iload (jx_dc dd_87 15 rfl)) ?_
  refine jx_ac (s_iadd (jx_dc dd_87 16 rfl)) ?_
  refine jx_ac (s_iald rfl (jx_dc dd_87 17 rfl)) ?_
  refine jx_ac (s_istore (jx_dc dd_87 18 rfl)) ?_
  refine jx_ac (s_iload_n (jx_dc dd_87 19 rfl) rfl) ?_
  refine jx_ac (s_iload (jx_dc dd_87 20 rfl)) ?_
  refine jx_ac (s_iconst (jx_dc dd_87 21 rfl) rfl) ?_
  refine jx_ac (s_ine (jx_dc dd_87 22 rfl) rfl) ?_
  refine jx_ac (s_iconst (jx_dc dd_87 23 rfl) rfl) ?_
  refine jx_ac (s_goto (jx_dc dd_87 24 rfl) rfl) ?_
  refine jx_ac (s_iload (jx_dc dd_87 25 rfl)) ?_
  refine jx_ac (s_iadd (jx_dc dd_87 26 rfl)) ?_
  refine jx_ac (s_istore_n (jx_dc dd_87 27 rfl) rfl) ?_
  refine jx_ac (s_iload_n (jx_dc dd_87 28 rfl) rfl) ?_
  refine jx_ac (s_ifne (jx_dc dd_87 29 rfl) rfl) ?_
  refine jx_ac (s_iload (jx_dc dd_87 30 rfl)) ?_
  refine jx_ac (s_iconst (jx_dc dd_87 31 rfl) rfl) ?_
  refine jx_ac (s_ine (jx_dc dd_87 32 rfl) rfl) ?_
  refine jx_ac (s_iconst (jx_dc dd_87 33 rfl) rfl) ?_
  refine jx_ac (s_goto (jx_dc dd_87 34 rfl) rfl) ?_
  refine jx_ac (s_iconst (jx_dc dd_87 35 rfl) rfl) ?_
  refine jx_ac (s_istore_n (jx_dc dd_87 36 rfl) rfl) ?_
  refine jx_ac (s_iinc (jx_dc dd_87 37 rfl) rfl) ?_
  refine jx_ac (s_goto (jx_dc dd_87 38 rfl) rfl) ?_
  refine jx_ac (s_iload_n (jx_dc dd_87 39 rfl) rfl) ?_
  exact jx_an
theorem A_87_1 : jx_All (jx_mk D c0 c1 c2 c3 c4 H0 ga L xs) jx_mt md_87 K_87_1 := by
  refine jx_ac (s_ifeq (jx_dc dd_87 40 rfl) rfl) ?_
  refine jx_ac (s_aload_n (jx_dc dd_87 41 rfl) rfl) ?_
  refine jx_ac (s_getf kk_6 (k := 6) (Nat.le_of_ble_eq_true rfl) (jx_dc dd_87 42 rfl) w_380) ?_
  refine jx_ac (s_iload_n (jx_dc dd_87 43 rfl) rfl) ?_
  refine jx_ac (s_zald rfl (jx_dc dd_87 44 rfl)) ?_
  refine jx_ac (s_ifeq (jx_dc dd_87 45 rfl) rfl) ?_
  refine jx_ac (s_aload_n (jx_dc dd_87 46 rfl) rfl) ?_
  refine jx_ac (s_getf kk_6 (k := 5) (Nat.le_of_ble_eq_true rfl) (jx_dc dd_87 47 rfl) w_378) ?_
  refine jx_ac (s_iload_n (jx_dc dd_87 48 rfl) rfl) ?_
  refine jx_ac (s_iald rfl (jx_dc dd_87 49 rfl)) ?_
  refine jx_ac (s_bipush (jx_dc dd_87 50 rfl) rfl) ?_
  refine jx_ac (s_ieq (jx_dc dd_87 51 rfl) rfl) ?_
  refine jx_ac (s_aload_n (jx_dc dd_87 52 rfl) rfl) ?_
  refine jx_ac (s_getf kk_6 (k := 5) (Nat.le_of_ble_eq_true rfl) (jx_dc dd_87 53 rfl) w_378) ?_
  refine jx_ac (s_iload_n (jx_dc dd_87 54 rfl) rfl) ?_
  refine jx_ac (s_iald rfl (jx_dc dd_87 55 rfl)) ?_
  refine jx_ac (s_bipush (jx_dc dd_87 56 rfl) rfl) ?_
  refine jx_ac (s_ine (jx_dc dd_87 57 rfl) rfl) ?_
  refine jx_ac (s_iload_n (jx_dc dd_87 58 rfl) rfl) ?_
  refine jx_ac (s_iconst (jx_dc dd_87 59 rfl) rfl) ?_
  refine jx_ac (s_iadd (jx_dc dd_87 60 rfl)) ?_
  refine jx_ac (s_goto (jx_dc dd_87 61 rfl) rfl) ?_
  refine jx_ac (s_iload_n (jx_dc dd_87 62 rfl) rfl) ?_
  refine jx_ac (s_iret rfl (jx_dc dd_87 63 rfl)) ?_
  exact jx_an
theorem A_87 : jx_All (jx_mk D c0 c1 c2 c3 c4 H0 ga L xs) jx_mt md_87 K_87 := (jx_aa A_87_0 A_87_1)
def dl_88 : List (Nat × Instr × Nat) := [(0, .aload_n 0, 1), (1, .getfield 13, 3), (4, .iload_n 1, 1), (5, .iaload, 1), (6, .istore_n 2, 1), (7, .iload_n 2, 1), (8, .bipush 67, 2), (10, .if_icmp .ne 7, 3), (13, .iconst 4, 1), (14, .goto 24, 3), (17, .iload_n 2, 1), (18, .bipush 78, 2), (20, .if_icmp .ne 7, 3), (23, .iconst 3, 1), (24, .goto 14, 3), (27, .iload_n 2, 1), (28, .bipush 70, 2), (30, .if_icmp .ne 7, 3), (33, .iconst 1, 1), (34, .goto 4, 3), (37, .iconst 2, 1), (38, .ireturn, 1)]
theorem dd_88 : ∀ q ∈ dl_88, decode prog_9_method_16_code q.1 = .ok q.2 := by decide +kernel
theorem A_88_0 : jx_All (jx_mk D c0 c1 c2 c3 c4 H0 ga L xs) jx_mt md_88 K_88_0 := by
  refine jx_ac (s_aload_n (jx_dc dd_88 0 rfl) rfl) ?_
  refine jx_ac (s_getf kk_6 (k := 5) (Nat.le_of_ble_eq_true rfl) (jx_dc dd_88 1 rfl) w_378) ?_
  refine jx_ac (s_iload_n (jx_dc dd_88 2 rfl) rfl) ?_
  refine jx_ac (s_iald rfl (jx_dc dd_88 3 rfl)) ?_
  refine jx_ac (s_istore_n (jx_dc dd_88 4 rfl) rfl) ?_
  refine jx_ac (s_iload_n (jx_dc dd_88 5 rfl) rfl) ?_
  refine jx_ac (s_bipush (jx_dc dd_88 6 rfl) rfl) ?_
  refine jx_ac (s_ine (jx_dc dd_88 7 rfl) rfl) ?_
  refine jx_ac (s_iconst (jx_dc dd_88 8 rfl) rfl) ?_
  refine jx_ac (s_goto (jx_dc dd_88 9 rfl) rfl) ?_
  refine jx_ac (s_iload_n (jx_dc dd_88 10 rfl) rfl) ?_
  refine jx_ac (s_bipush (jx_dc dd_88 11 rfl) rfl) ?_
  refine jx_ac (s_ine (jx_dc dd_88 12 rfl) rfl) ?_
  refine jx_ac (s_iconst (jx_dc dd_88 13 rfl) rfl) ?_
  refine jx_ac (s_goto (jx_dc dd_88 14 rfl) rfl) ?_
  refine jx_ac (s_iload_n (jx_dc dd_88 15 rfl) rfl) ?_
  refine jx_ac (s_bipush (jx_dc dd_88 16 rfl) rfl) ?_
  refine jx_ac (s_ine (jx_dc dd_88 17 rfl) rfl) ?_
  refine jx_ac (s_iconst (jx_dc dd_88 18 rfl) rfl) ?_
  refine jx_ac (s_goto (jx_dc dd_88 19 rfl) rfl) ?_
  refine jx_ac (s_iconst (jx_dc dd_88 20 rfl) rfl) ?_
  refine jx_ac (s_iret rfl (jx_dc dd_88 21 rfl)) ?_
  exact jx_an
theorem A_88 : jx_All (jx_mk D c0 c1 c2 c3 c4 H0 ga L xs) jx_mt md_88 K_88 :=  A_88_0
def dl_89 : List (Nat × Instr × Nat) := [(0, .iconst 0, 1), (1, .istore_n 1, 1), (2, .iload_n 1, 1), (3, .aload_n 0, 1), (4, .getfield 96, 3), (7, .if_icmp .ge 28, 3), (10, .aload_n 0, 1), (11, .getfield 68, 3), (14, .iload_n 1, 1), (15, .aload_n 0, 1), (16, .iload_n 1, 1), (17, .invokevirtual 145, 3), (20, .ifCond .ne 7, 3), (23, .iconst 1, 1), (24, .goto 4, 3), (27, .iconst 0, 1), (28, .bastore, 1), (29, .iinc 1 1, 3), (32, .goto (-30), 3), (35, .iconst 0, 1), (36, .istore_n 1, 1), (37, .aload_n 0, 1), (38, .invokevirtual 149, 3), (41, .istore_n 2, 1), (42, .aload_n 0, 1), (43, .getfield 35, 3), (46, .iconst 0, 1), (47, .iload_n 2, 1), (48, .iastore, 1), (49, .aload_n 0, 1), (50, .getfield 65, 3), (53, .iconst 0, 1), (54, .iconst (-1), 1), (55, .iastore, 1), (56, .iload_n 1, 1), (57, .ifCond .lt 167, 3), (60, .aload_n 0, 1), (61, .getfield 35, 3), (64, .iload_n 1, 1), (65, .iaload, 1), (66, .ifCond .ge 5, 3), (69, .iconst 1, 1), (70, .ireturn, 1), (71, .aload_n 0, 1), (72, .getfield 35, 3), (75, .iload_n 1, 1), (76, .iaload, 1), (77, .istore_n 3, 1), (78, .aload_n 0, 1), (79, .getfield 65, 3), (82, .iload_n 1, 1), (83, .iaload, 1), (84, .ifCond .lt 22, 3), (87, .aload_n 0, 1), (88, .getfield 68, 3), (91, .iload_n 3, 1), (92, .iconst 0, 1), (93, .bastore, 1), (94, .aload_n 0, 1), (95, .getfield 68, 3), (98, .aload_n 0, 1), (99, .getfield 65, 3), (102, .iload_n 1, 1), (103, .iaload, 1), (104, .iconst 0, 1), (105, .bastore, 1), (106, .aload_n 0, 1), (107, .getfield 65, 3), (110, .iload_n 1, 1), (111, .iaload, 1), (112, .iconst 1, 1), (113, .iadd, 1), (114, .istore 4, 2), (116, .iload 4, 2), (118, .aload_n 0, 1), (119, .getfield 96, 3), (122, .if_icmp .ge 41, 3), (125, .aload_n 0, 1), (126, .getfield 68, 3), (129, .iload 4, 2), (131, .baload, 1), (132, .ifCond .ne 25, 3), (135, .iload 4, 2), (137, .iload_n 3, 1), (138, .if_icmp .eq 19, 3), (141, .aload_n 0, 1), (142, .getfield 32, 3), (145, .bipush 40, 2), (147, .iload_n 3, 1), (148, .imul, 1), (149, .iload 4, 2), (151, .iadd, 1), (152, .iaload, 1), (153, .iconst 4, 1), (154, .if_icmp .eq 9, 3), (157, .iinc 4 1, 3), (160, .goto (-44), 3), (163, .iload 4, 2), (165, .aload_n 0, 1), (166, .getfield 96, 3), (169, .if_icmp .ge 49, 3), (172, .aload_n 0, 1), (173, .getfield 65, 3), (176, .iload_n 1, 1), (177, .iload 4, 2), (179, .iastore, 1), (180, .aload_n 0, 1), (181, .getfield 68, 3), (184, .iload_n 3, 1), (185, .iconst 1, 1), (186, .bastore, 1), (187, .aload_n 0, 1), (188, .getfield 68, 3), (191, .iload 4, 2), (193, .iconst 1, 1), (194, .bastore, 1), (195, .iinc 1 1, 3), (198, .aload_n 0, 1), (199, .getfield 35, 3), (202, .iload_n 1, 1), (203, .aload_n 0, 1), (204, .invokevirtual 149, 3), (207, .iastore, 1), (208, .aload_n 0, 1), (209, .getfield 65, 3), (212, .iload_n 1, 1), (213, .iconst (-1), 1), (214, .iastore, 1), (215, .goto 6, 3), (218, .iinc 1 (-1), 3), (221, .goto (-165), 3), (224, .iconst 0, 1), (225, .ireturn, 1)]
theorem dd_89 : ∀ q ∈ dl_89, decode prog_9_method_20_code q.1 = .ok q.2 := by decide +kernel
theorem A_89_0 : jx_All (jx_mk D c0 c1 c2 c3 c4 H0 ga L xs) jx_mt md_89 K_89_0 := by
  refine jx_ac (s_iconst (jx_dc dd_89 0 rfl) rfl) ?_
  refine jx_ac (s_istore_n (jx_dc dd_89 1 rfl) rfl) ?_
  refine jx_ac (s_iload_n (jx_dc dd_89 2 rfl) rfl) ?_
  refine jx_ac (s_aload_n (jx_dc dd_89 3 rfl) rfl) ?_
  refine jx_ac (s_getf kk_6 (k := 4) (Nat.le_of_ble_eq_true rfl) (jx_dc dd_89 4 rfl) w_427) ?_
  refine jx_ac (s_ige (jx_dc dd_89 5 rfl) rfl) ?_
  refine jx_ac (s_aload_n (jx_dc dd_89 6 rfl) rfl) ?_
  refine jx_ac (s_getf kk_6 (k := 26) (Nat.le_of_ble_eq_true rfl) (jx_dc dd_89 7 rfl) w_397) ?_
  refine jx_ac (s_iload_n (jx_dc dd_89 8 rfl) rfl) ?_
  refine jx_ac (s_aload_n (jx_dc dd_89 9 rfl) rfl) ?_
  refine jx_ac (s_iload_n (jx_dc dd_89 10 rfl) rfl) ?_
  refine jx_ac (s_callv (ce := 90) kk_6 mc_90 (jx_dc dd_89 11 rfl) w_467 w_468 w_469 ⟨by decide, by decide⟩ np_90) ?_
  refine jx_ac (s_ifne (jx_dc dd_89 12 rfl) rfl) ?_
  refine jx_ac (s_iconst (jx_dc dd_89 13 rfl) rfl) ?_
  refine jx_ac (s_goto (jx_dc dd_89 14 rfl) rfl) ?_
  refine jx_ac (s_iconst (jx_dc dd_89 15 rfl) rfl) ?_
  refine jx_ac (s_zast rfl (jx_dc dd_89 16 rfl)) ?_
  refine jx_ac (s_iinc (jx_dc dd_89 17 rfl) rfl) ?_
  refine jx_ac (s_goto (jx_dc dd_89 18 rfl) rfl) ?_
  refine jx_ac (s_iconst (jx_dc dd_89 19 rfl) rfl) ?_
  refine jx_ac (s_istore_n (jx_dc dd_89 20 rfl) rfl) ?_
  refine jx_ac (s_aload_n (jx_dc dd_89 21 rfl) rfl) ?_
  refine jx_ac (s_callv (ce := 91) kk_6 mc_91 (jx_dc dd_89 22 rfl) w_470 w_471 w_472 ⟨by decide, by decide⟩ np_91) ?_
  refine jx_ac (s_istore_n (jx_dc dd_89 23 rfl) rfl) ?_
  refine jx_ac (s_aload_n (jx_dc dd_89 24 rfl) rfl) ?_
  refine jx_ac (s_getf kk_6 (k := 12) (Nat.le_of_ble_eq_true rfl) (jx_dc dd_89 25 rfl) w_386) ?_
  refine jx_ac (s_iconst (jx_dc dd_89 26 rfl) rfl) ?_
  refine jx_ac (s_iload_n (jx_dc dd_89 27 rfl) rfl) ?_
  refine jx_ac (s_iast rfl (jx_dc dd_89 28 rfl)) ?_
  refine jx_ac (s_aload_n (jx_dc dd_89 29 rfl) rfl) ?_
  refine jx_ac (s_getf kk_6 (k := 25) (Nat.le_of_ble_eq_true rfl) (jx_dc dd_89 30 rfl) w_396) ?_
  refine jx_ac (s_iconst (jx_dc dd_89 31 rfl) rfl) ?_
  refine jx_ac (s_iconst (jx_dc dd_89 32 rfl) rfl) ?_
  refine jx_ac (s_iast rfl (jx_dc dd_89 33 rfl)) ?_
  refine jx_ac (s_iload_n (jx_dc dd_89 34 rfl) rfl) ?_
  refine jx_ac (s_iflt (jx_dc dd_89 35 rfl) rfl) ?_
  refine jx_ac (s_aload_n (jx_dc dd_89 36 rfl) rfl) ?_
  refine jx_ac (s_getf kk_6 (k := 12) (Nat.le_of_ble_eq_true rfl) (jx_dc dd_89 37 rfl) w_386) ?_
  refine jx_ac (s_iload_n (jx_dc dd_89 38 rfl) rfl) ?_
  refine jx_ac (s_iald rfl (jx_dc dd_89 39 rfl)) ?_
  exact jx_an
theorem A_89_1 : jx_All (jx_mk D c0 c1 c2 c3 c4 H0 ga L xs) jx_mt md_89 K_89_1 := by
  refine jx_ac (s_ifge (jx_dc dd_89 40 rfl) rfl) ?_
  refine jx_ac (s_iconst (jx_dc dd_89 41 rfl) rfl) ?_
  refine jx_ac (s_zret rfl (jx_dc dd_89 42 rfl)) ?_
  refine jx_ac (s_aload_n (jx_dc dd_89 43 rfl) rfl) ?_
  refine jx_ac (s_getf kk_6 (k := 12) (Nat.le_of_ble_eq_true rfl) (jx_dc dd_89 44 rfl) w_386) ?_
  refine jx_ac (s_iload_n (jx_dc dd_89 45 rfl) rfl) ?_
  refine jx_ac (s_iald rfl (jx_dc dd_89 46 rfl)) ?_
  refine jx_ac (s_istore_n (jx_dc dd_89 47 rfl) rfl) ?_
  refine jx_ac (s_aload_n (jx_dc dd_89 48 rfl) rfl) ?_
  refine jx_ac (s_getf kk_6 (k := 25) (Nat.le_of_ble_eq_true rfl) (jx_dc dd_89 49 rfl) w_396) ?_
  refine jx_ac (s_iload_n (jx_dc dd_89 50 rfl) rfl) ?_
  refine jx_ac (s_iald rfl (jx_dc dd_89 51 rfl)) ?_
  refine jx_ac (s_iflt (jx_dc dd_89 52 rfl) rfl) ?_
  refine jx_ac (s_aload_n (jx_dc dd_89 53 rfl) rfl) ?_
  refine jx_ac (s_getf kk_6 (k := 26) (Nat.le_of_ble_eq_true rfl) (jx_dc dd_89 54 rfl) w_397) ?_
  refine jx_ac (s_iload_n (jx_dc dd_89 55 rfl) rfl) ?_
  refine jx_ac (s_iconst (jx_dc dd_89 56 rfl) rfl) ?_
  refine jx_ac (s_zast rfl (jx_dc dd_89 57 rfl)) ?_
  refine jx_ac (s_aload_n (jx_dc dd_89 58 rfl) rfl) ?_
  refine jx_ac (s_getf kk_6 (k := 26) (Nat.le_of_ble_eq_true rfl) (jx_dc dd_89 59 rfl) w_397) ?_
  refine jx_ac (s_aload_n (jx_dc dd_89 60 rfl) rfl) ?_
  refine jx_ac (s_getf kk_6 (k := 25) (Nat.le_of_ble_eq_true rfl) (jx_dc dd_89 61 rfl) w_396) ?_
  refine jx_ac (s_iload_n (jx_dc dd_89 62 rfl) rfl) ?_
  refine jx_ac (s_iald rfl (jx_dc dd_89 63 rfl)) ?_
  refine jx_ac (s_iconst (jx_dc dd_89 64 rfl) rfl) ?_
  refine jx_ac (s_zast rfl (jx_dc dd_89 65 rfl)) ?_
  refine jx_ac (s_aload_n (jx_dc dd_89 66 rfl) rfl) ?_
  refine jx_ac (s_getf kk_6 (k := 25) (Nat.le_of_ble_eq_true rfl) (jx_dc dd_89 67 rfl) w_396) ?_
  refine jx_ac (s_iload_n (jx_dc dd_89 68 rfl) rfl) ?_
  refine jx_ac (s_iald rfl (jx_dc dd_89 69 rfl)) ?_
  refine jx_ac (s_iconst (jx_dc dd_89 70 rfl) rfl) ?_
  refine jx_ac (s_iadd (jx_dc dd_89 71 rfl)) ?_
  refine jx_ac (s_istore (jx_dc dd_89 72 rfl)) ?_
  refine jx_ac (s_iload (jx_dc dd_89 73 rfl)) ?_
  refine jx_ac (s_aload_n (jx_dc dd_89 74 rfl) rfl) ?_
  refine jx_ac (s_getf kk_6 (k := 4) (Nat.le_of_ble_eq_true rfl) (jx_dc dd_89 75 rfl) w_427) ?_
  refine jx_ac (s_ige (jx_dc dd_89 76 rfl) rfl) ?_
  refine jx_ac (s_aload_n (jx_dc dd_89 77 rfl) rfl) ?_
  refine jx_ac (s_getf kk_6 (k := 26) (Nat.le_of_ble_eq_true rfl) (jx_dc dd_89 78 rfl) w_397) ?_
  refine jx_ac (s_iload (jx_dc dd_89 79 rfl)) ?_
  exact jx_an
theorem A_89_2 : jx_All (jx_mk D c0 c1 c2 c3 c4 H0 ga L xs) jx_mt md_89 K_89_2 := by
  refine jx_ac (s_zald rfl (jx_dc dd_89 80 rfl)) ?_
  refine jx_ac (s_ifne (jx_dc dd_89 81 rfl) rfl) ?_
  refine jx_ac (s_iload (jx_dc dd_89 82 rfl)) ?_
  refine jx_ac (s_iload_n (jx_dc dd_89 83 rfl) rfl) ?_
  refine jx_ac (s_ieq (jx_dc dd_89 84 rfl) rfl) ?_
  refine jx_ac (s_aload_n (jx_dc dd_89 85 rfl) rfl) ?_
  refine jx_ac (s_getf kk_6 (k := 11) (Nat.le_of_ble_eq_true rfl) (jx_dc dd_89 86 rfl) w_385) ?_
  refine jx_ac (s_bipush (jx_dc dd_89 87 rfl) rfl) ?_
  refine jx_ac (s_iload_n (jx_dc dd_89 88 rfl) rfl) ?_
  refine jx_ac (s_imul (jx_dc dd_89 89 rfl)) ?_
  refine jx_ac (s_iload (jx_dc dd_89 90 rfl)) ?_
  refine jx_ac (s_iadd (jx_dc dd_89 91 rfl)) ?_
  refine jx_ac (s_iald rfl (jx_dc dd_89 92 rfl)) ?_
  refine jx_ac (s_iconst (jx_dc dd_89 93 rfl) rfl) ?_
  refine jx_ac (s_ieq (jx_dc dd_89 94 rfl) rfl) ?_
  refine jx_ac (s_iinc (jx_dc dd_89 95 rfl) rfl) ?_
  refine jx_ac (s_goto (jx_dc dd_89 96 rfl) rfl) ?_
  refine jx_ac (s_iload (jx_dc dd_89 97 rfl)) ?_
  refine jx_ac (s_aload_n (jx_dc dd_89 98 rfl) rfl) ?_
  refine jx_ac (s_getf kk_6 (k := 4) (Nat.le_of_ble_eq_true rfl) (jx_dc dd_89 99 rfl) w_427) ?_
  refine jx_ac (s_ige (jx_dc dd_89 100 rfl) rfl) ?_
  refine jx_ac (s_aload_n (jx_dc dd_89 101 rfl) rfl) ?_
  refine jx_ac (s_getf kk_6 (k := 25) (Nat.le_of_ble_eq_true rfl) (jx_dc dd_89 102 rfl) w_396) ?_
  refine jx_ac (s_iload_n (jx_dc dd_89 103 rfl) rfl) ?_
  refine jx_ac (s_iload (jx_dc dd_89 104 rfl)) ?_
  refine jx_ac (s_iast rfl (jx_dc dd_89 105 rfl)) ?_
  refine jx_ac (s_aload_n (jx_dc dd_89 106 rfl) rfl) ?_
  refine jx_ac (s_getf kk_6 (k := 26) (Nat.le_of_ble_eq_true rfl) (jx_dc dd_89 107 rfl) w_397) ?_
  refine jx_ac (s_iload_n (jx_dc dd_89 108 rfl) rfl) ?_
  refine jx_ac (s_iconst (jx_dc dd_89 109 rfl) rfl) ?_
  refine jx_ac (s_zast rfl (jx_dc dd_89 110 rfl)) ?_
  refine jx_ac (s_aload_n (jx_dc dd_89 111 rfl) rfl) ?_
  refine jx_ac (s_getf kk_6 (k := 26) (Nat.le_of_ble_eq_true rfl) (jx_dc dd_89 112 rfl) w_397) ?_
  refine jx_ac (s_iload (jx_dc dd_89 113 rfl)) ?_
  refine jx_ac (s_iconst (jx_dc dd_89 114 rfl) rfl) ?_
  refine jx_ac (s_zast rfl (jx_dc dd_89 115 rfl)) ?_
  refine jx_ac (s_iinc (jx_dc dd_89 116 rfl) rfl) ?_
  refine jx_ac (s_aload_n (jx_dc dd_89 117 rfl) rfl) ?_
  refine jx_ac (s_getf kk_6 (k := 12) (Nat.le_of_ble_eq_true rfl) (jx_dc dd_89 118 rfl) w_386) ?_
  refine jx_ac (s_iload_n (jx_dc dd_89 119 rfl) rfl) ?_
  exact jx_an
theorem A_89_3 : jx_All (jx_mk D c0 c1 c2 c3 c4 H0 ga L xs) jx_mt md_89 K_89_3 := by
  refine jx_ac (s_aload_n (jx_dc dd_89 120 rfl) rfl) ?_
  refine jx_ac (s_callv (ce := 91) kk_6 mc_91 (jx_dc dd_89 121 rfl) w_470 w_471 w_472 ⟨by decide, by decide⟩ np_91) ?_
  refine jx_ac (s_iast rfl (jx_dc dd_89 122 rfl)) ?_
  refine jx_ac (s_aload_n (jx_dc dd_89 123 rfl) rfl) ?_
  refine jx_ac (s_getf kk_6 (k := 25) (Nat.le_of_ble_eq_true rfl) (jx_dc dd_89 124 rfl) w_396) ?_
  refine jx_ac (s_iload_n (jx_dc dd_89 125 rfl) rfl) ?_
  refine jx_ac (s_iconst (jx_dc dd_89 126 rfl) rfl) ?_
  refine jx_ac (s_iast rfl (jx_dc dd_89 127 rfl)) ?_
  refine jx_ac (s_goto (jx_dc dd_89 128 rfl) rfl) ?_
  refine jx_ac (s_iinc (jx_dc dd_89 129 rfl) rfl) ?_
  refine jx_ac (s_goto (jx_dc dd_89 130 rfl) rfl) ?_
  refine jx_ac (s_iconst (jx_dc dd_89 131 rfl) rfl) ?_
  refine jx_ac (s_zret rfl (jx_dc dd_89 132 rfl)) ?_
  exact jx_an
theorem A_89 : jx_All (jx_mk D c0 c1 c2 c3 c4 H0 ga L xs) jx_mt md_89 K_89 := (jx_aa A_89_0 (jx_aa A_89_1 (jx_aa A_89_2 A_89_3)))
def dl_90 : List (Nat × Instr × Nat) := [(0, .aload_n 0, 1), (1, .getfield 16, 3), (4, .iload_n 1, 1), (5, .baload, 1), (6, .ifCond .eq 29, 3), (9, .aload_n 0, 1), (10, .getfield 13, 3), (13, .iload_n 1, 1), (14, .iaload, 1), (15, .bipush 67, 2), (17, .if_icmp .eq 14, 3), (20, .aload_n 0, 1), (21, .getfield 13, 3), (24, .iload_n 1, 1), (25, .iaload, 1), (26, .bipush 78, 2), (28, .if_icmp .ne 7, 3), (31, .iconst 1, 1), (32, .goto 4, 3), (35, .iconst 0, 1), (36, .ireturn, 1)]
theorem dd_90 : ∀ q ∈ dl_90, decode prog_9_method_19_code q.1 = .ok q.2 := by decide +kernel
theorem A_90_0 : jx_All (jx_mk D c0 c1 c2 c3 c4 H0 ga L xs) jx_mt md_90 K_90_0 := by
  refine jx_ac (s_aload_n (jx_dc dd_90 0 rfl) rfl) ?_
  refine jx_ac (s_getf kk_6 (k := 6) (Nat.le_of_ble_eq_true rfl) (jx_dc dd_90 1 rfl) w_380) ?_
  refine jx_ac (s_iload_n (jx_dc dd_90 2 rfl) rfl) ?_
  refine jx_ac (s_zald rfl (jx_dc dd_90 3 rfl)) ?_
  refine jx_ac (s_ifeq (jx_dc dd_90 4 rfl) rfl) ?_
  refine jx_ac (s_aload_n (jx_dc dd_90 5 rfl) rfl) ?_
  refine jx_ac (s_getf kk_6 (k := 5) (Nat.le_of_ble_eq_true rfl) (jx_dc dd_90 6 rfl) w_378) ?_
  refine jx_ac (s_iload_n (jx_dc dd_90 7 rfl) rfl) ?_
  refine jx_ac (s_iald rfl (jx_dc dd_90 8 rfl)) ?_
  refine jx_ac (s_bipush (jx_dc dd_90 9 rfl) rfl) ?_
  refine jx_ac (s_ieq (jx_dc dd_90 10 rfl) rfl) ?_
  refine jx_ac (s_aload_n (jx_dc dd_90 11 rfl) rfl) ?_
  refine jx_ac (s_getf kk_6 (k := 5) (Nat.le_of_ble_eq_true rfl) (jx_dc dd_90 12 rfl) w_378) ?_
  refine jx_ac (s_iload_n (jx_dc dd_90 13 rfl) rfl) ?_
  refine jx_ac (s_iald rfl (jx_dc dd_90 14 rfl)) ?_
  refine jx_ac (s_bipush (jx_dc dd_90 15 rfl) rfl) ?_
  refine jx_ac (s_ine (jx_dc dd_90 16 rfl) rfl) ?_
  refine jx_ac (s_iconst (jx_dc dd_90 17 rfl) rfl) ?_
  refine jx_ac (s_goto (jx_dc dd_90 18 rfl) rfl) ?_
  refine jx_ac (s_iconst (jx_dc dd_90 19 rfl) rfl) ?_
  refine jx_ac (s_zret rfl (jx_dc dd_90 20 rfl)) ?_
  exact jx_an
theorem A_90 : jx_All (jx_mk D c0 c1 c2 c3 c4 H0 ga L xs) jx_mt md_90 K_90 :=  A_90_0
def dl_91 : List (Nat × Instr × Nat) := [(0, .iconst 0, 1), (1, .istore_n 1, 1), (2, .iload_n 1, 1), (3, .aload_n 0, 1), (4, .getfield 96, 3), (7, .if_icmp .ge 20, 3), (10, .aload_n 0, 1), (11, .getfield 68, 3), (14, .iload_n 1, 1), (15, .baload, 1), (16, .ifCond .ne 5, 3), (19, .iload_n 1, 1), (20, .ireturn, 1), (21, .iinc 1 1, 3), (24, .goto (-22), 3), (27, .iconst (-1), 1), (28, .ireturn, 1)]
theorem dd_91 : ∀ q ∈ dl_91, decode prog_9_method_21_code q.1 = .ok q.2 := by decide +kernel
theorem A_91_0 : jx_All (jx_mk D c0 c1 c2 c3 c4 H0 ga L xs) jx_mt md_91 K_91_0 := by
  refine jx_ac (s_iconst (jx_dc dd_91 0 rfl) rfl) ?_
  refine jx_ac (s_istore_n (jx_dc dd_91 1 rfl) rfl) ?_
  refine jx_ac (s_iload_n (jx_dc dd_91 2 rfl) rfl) ?_
  refine jx_ac (s_aload_n (jx_dc dd_91 3 rfl) rfl) ?_
  refine jx_ac (s_getf kk_6 (k := 4) (Nat.le_of_ble_eq_true rfl) (jx_dc dd_91 4 rfl) w_427) ?_
  refine jx_ac (s_ige (jx_dc dd_91 5 rfl) rfl) ?_
  refine jx_ac (s_aload_n (jx_dc dd_91 6 rfl) rfl) ?_
  refine jx_ac (s_getf kk_6 (k := 26) (Nat.le_of_ble_eq_true rfl) (jx_dc dd_91 7 rfl) w_397) ?_
  refine jx_ac (s_iload_n (jx_dc dd_91 8 rfl) rfl) ?_
  refine jx_ac (s_zald rfl (jx_dc dd_91 9 rfl)) ?_
  refine jx_ac (s_ifne (jx_dc dd_91 10 rfl) rfl) ?_
  refine jx_ac (s_iload_n (jx_dc dd_91 11 rfl) rfl) ?_
  refine jx_ac (s_iret rfl (jx_dc dd_91 12 rfl)) ?_
  refine jx_ac (s_iinc (jx_dc dd_91 13 rfl) rfl) ?_
  refine jx_ac (s_goto (jx_dc dd_91 14 rfl) rfl) ?_
  refine jx_ac (s_iconst (jx_dc dd_91 15 rfl) rfl) ?_
  refine jx_ac (s_iret rfl (jx_dc dd_91 16 rfl)) ?_
  exact jx_an
theorem A_91 : jx_All (jx_mk D c0 c1 c2 c3 c4 H0 ga L xs) jx_mt md_91 K_91 :=  A_91_0
end JT
