/-! printed by wip/whole/gen.py: each operation is what its instruction does -/
section JT
variable {D : va_G} {c0 c1 c2 c3 c4 : ClassId} {H0 : Heap} {ga : Nat → Nat} {L : Nat} {xs : Nat → Int32}
def dl_92 : List (Nat × Instr × Nat) := [(0, .iconst 0, 1), (1, .istore_n 1, 1), (2, .iload_n 1, 1), (3, .aload_n 0, 1), (4, .getfield 169, 3), (7, .if_icmp .ge 20, 3), (10, .aload_n 0, 1), (11, .iload_n 1, 1), (12, .iconst 1, 1), (13, .invokevirtual 172, 3), (16, .ifCond .eq 5, 3), (19, .iload_n 1, 1), (20, .ireturn, 1), (21, .iinc 1 1, 3), (24, .goto (-22), 3), (27, .iconst (-1), 1), (28, .ireturn, 1)]
theorem dd_92 : ∀ q ∈ dl_92, decode prog_9_method_26_code q.1 = .ok q.2 := by decide +kernel
theorem A_92_0 : jx_All (jx_mk D c0 c1 c2 c3 c4 H0 ga L xs) jx_mt md_92 K_92_0 := by
  refine jx_ac (s_iconst (jx_dc dd_92 0 rfl) rfl) ?_
  refine jx_ac (s_istore_n (jx_dc dd_92 1 rfl) rfl) ?_
  refine jx_ac (s_iload_n (jx_dc dd_92 2 rfl) rfl) ?_
  refine jx_ac (s_aload_n (jx_dc dd_92 3 rfl) rfl) ?_
  refine jx_ac (s_getf kk_6 (k := 16) (Nat.le_of_ble_eq_true rfl) (jx_dc dd_92 4 rfl) w_416) ?_
  refine jx_ac (s_ige (jx_dc dd_92 5 rfl) rfl) ?_
  refine jx_ac (s_aload_n (jx_dc dd_92 6 rfl) rfl) ?_
  refine jx_ac (s_iload_n (jx_dc dd_92 7 rfl) rfl) ?_
  refine jx_ac (s_iconst (jx_dc dd_92 8 rfl) rfl) ?_
  refine jx_ac (s_callv (ce := 93) kk_6 mc_93 (jx_dc dd_92 9 rfl) w_473 w_474 w_475 ⟨by decide, by decide⟩ np_93) ?_
  refine jx_ac (s_ifeq (jx_dc dd_92 10 rfl) rfl) ?_
  refine jx_ac (s_iload_n (jx_dc dd_92 11 rfl) rfl) ?_
  refine jx_ac (s_iret rfl (jx_dc dd_92 12 rfl)) ?_
  refine jx_ac (s_iinc (jx_dc dd_92 13 rfl) rfl) ?_
  refine jx_ac (s_goto (jx_dc dd_92 14 rfl) rfl) ?_
  refine jx_ac (s_iconst (jx_dc dd_92 15 rfl) rfl) ?_
  refine jx_ac (s_iret rfl (jx_dc dd_92 16 rfl)) ?_
  exact jx_an
theorem A_92 : jx_All (jx_mk D c0 c1 c2 c3 c4 H0 ga L xs) jx_mt md_92 K_92 :=  A_92_0
def dl_93 : List (Nat × Instr × Nat) := [(0, .aload_n 0, 1), (1, .getfield 96, 3), (4, .aload_n 0, 1), (5, .getfield 47, 3), (8, .iload_n 1, 1), (9, .iaload, 1), (10, .if_icmp .gt 20, 3), (13, .iload_n 2, 1), (14, .ifCond .eq 18, 3), (17, .aload_n 0, 1), (18, .getfield 96, 3), (21, .aload_n 0, 1), (22, .getfield 47, 3), (25, .iload_n 1, 1), (26, .iaload, 1), (27, .if_icmp .eq 5, 3), (30, .iconst 0, 1), (31, .ireturn, 1), (32, .iconst 0, 1), (33, .istore_n 3, 1), (34, .aload_n 0, 1), (35, .getfield 65, 3), (38, .iconst 0, 1), (39, .iconst (-1), 1), (40, .iastore, 1), (41, .iload_n 3, 1), (42, .ifCond .lt 88, 3), (45, .iload_n 3, 1), (46, .aload_n 0, 1), (47, .getfield 96, 3), (50, .if_icmp .ge 80, 3), (53, .aload_n 0, 1), (54, .getfield 65, 3), (57, .iload_n 3, 1), (58, .iaload, 1), (59, .iconst 1, 1), (60, .iadd, 1), (61, .istore 4, 2), (63, .iload 4, 2), (65, .aload_n 0, 1), (66, .getfield 47, 3), (69, .iload_n 1, 1), (70, .iaload, 1), (71, .if_icmp .ge 21, 3), (74, .aload_n 0, 1), (75, .iload_n 3, 1), (76, .iload_n 1, 1), (77, .iload 4, 2), (79, .iload_n 2, 1), (80, .invokevirtual 166, 3), (83, .ifCond .ne 9, 3), (86, .iinc 4 1, 3), (89, .goto (-26), 3), (92, .iload 4, 2), (94, .aload_n 0, 1), (95, .getfield 47, 3), (98, .iload_n 1, 1), (99, .iaload, 1), (100, .if_icmp .ge 24, 3), (103, .aload_n 0, 1), (104, .getfield 65, 3), (107, .iload_n 3, 1), (108, .iload 4, 2), (110, .iastore, 1), (111, .iinc 3 1, 3), (114, .aload_n 0, 1), (115, .getfield 65, 3), (118, .iload_n 3, 1), (119, .iconst (-1), 1), (120, .iastore, 1), (121, .goto 6, 3), (124, .iinc 3 (-1), 3), (127, .goto (-86), 3), (130, .iload_n 3, 1), (131, .aload_n 0, 1), (132, .getfield 96, 3), (135, .if_icmp .ne 7, 3), (138, .iconst 1, 1), (139, .goto 4, 3), (142, .iconst 0, 1), (143, .ireturn, 1)]
theorem dd_93 : ∀ q ∈ dl_93, decode prog_9_method_25_code q.1 = .ok q.2 := by decide +kernel
theorem A_93_0 : jx_All (jx_mk D c0 c1 c2 c3 c4 H0 ga L xs) jx_mt md_93 K_93_0 := by
  refine jx_ac (s_aload_n (jx_dc dd_93 0 rfl) rfl) ?_
  refine jx_ac (s_getf kk_6 (k := 4) (Nat.le_of_ble_eq_true rfl) (jx_dc dd_93 1 rfl) w_427) ?_
  refine jx_ac (s_aload_n (jx_dc dd_93 2 rfl) rfl) ?_
  refine jx_ac (s_getf kk_6 (k := 19) (Nat.le_of_ble_eq_true rfl) (jx_dc dd_93 3 rfl) w_390) ?_
  refine jx_ac (s_iload_n (jx_dc dd_93 4 rfl) rfl) ?_
  refine jx_ac (s_iald rfl (jx_dc dd_93 5 rfl)) ?_
  refine jx_ac (s_igt (jx_dc dd_93 6 rfl) rfl) ?_
  refine jx_ac (s_iload_n (jx_dc dd_93 7 rfl) rfl) ?_
  refine jx_ac (s_ifeq (jx_dc dd_93 8 rfl) rfl) ?_
  refine jx_ac (s_aload_n (jx_dc dd_93 9 rfl) rfl) ?_
  refine jx_ac (s_getf kk_6 (k := 4) (Nat.le_of_ble_eq_true rfl) (jx_dc dd_93 10 rfl) w_427) ?_
  refine jx_ac (s_aload_n (jx_dc dd_93 11 rfl) rfl) ?_
  refine jx_ac (s_getf kk_6 (k := 19) (Nat.le_of_ble_eq_true rfl) (jx_dc dd_93 12 rfl) w_390) ?_
  refine jx_ac (s_iload_n (jx_dc dd_93 13 rfl) rfl) ?_
  refine jx_ac (s_iald rfl (jx_dc dd_93 14 rfl)) ?_
  refine jx_ac (s_ieq (jx_dc dd_93 15 rfl) rfl) ?_
  refine jx_ac (s_iconst (jx_dc dd_93 16 rfl) rfl) ?_
  refine jx_ac (s_zret rfl (jx_dc dd_93 17 rfl)) ?_
  refine jx_ac (s_iconst (jx_dc dd_93 18 rfl) rfl) ?_
  refine jx_ac (s_istore_n (jx_dc dd_93 19 rfl) rfl) ?_
  refine jx_ac (s_aload_n (jx_dc dd_93 20 rfl) rfl) ?_
  refine jx_ac (s_getf kk_6 (k := 25) (Nat.le_of_ble_eq_true rfl) (jx_dc dd_93 21 rfl) w_396) ?_
  refine jx_ac (s_iconst (jx_dc dd_93 22 rfl) rfl) ?_
  refine jx_ac (s_iconst (jx_dc dd_93 23 rfl) rfl) ?_
  refine jx_ac (s_iast rfl (jx_dc dd_93 24 rfl)) ?_
  refine jx_ac (s_iload_n (jx_dc dd_93 25 rfl) rfl) ?_
  refine jx_ac (s_iflt (jx_dc dd_93 26 rfl) rfl) ?_
  refine jx_ac (s_iload_n (jx_dc dd_93 27 rfl) rfl) ?_
  refine jx_ac (s_aload_n (jx_dc dd_93 28 rfl) rfl) ?_
  refine jx_ac (s_getf kk_6 (k := 4) (Nat.le_of_ble_eq_true rfl) (jx_dc dd_93 29 rfl) w_427) ?_
  refine jx_ac (s_ige (jx_dc dd_93 30 rfl) rfl) ?_
  refine jx_ac (s_aload_n (jx_dc dd_93 31 rfl) rfl) ?_
  refine jx_ac (s_getf kk_6 (k := 25) (Nat.le_of_ble_eq_true rfl) (jx_dc dd_93 32 rfl) w_396) ?_
  refine jx_ac (s_iload_n (jx_dc dd_93 33 rfl) rfl) ?_
  refine jx_ac (s_iald rfl (jx_dc dd_93 34 rfl)) ?_
  refine jx_ac (s_iconst (jx_dc dd_93 35 rfl) rfl) ?_
  refine jx_ac (s_iadd (jx_dc dd_93 36 rfl)) ?_
  refine jx_ac (s_istore (jx_dc dd_93 37 rfl)) ?_
  refine jx_ac (s_iload (jx_dc dd_93 38 rfl)) ?_
  refine jx_ac (s_aload_n (jx_dc dd_93 39 rfl) rfl) ?_
  exact jx_an
theorem A_93_1 : jx_All (jx_mk D c0 c1 c2 c3 c4 H0 ga L xs) jx_mt md_93 K_93_1 := by
  refine jx_ac (s_getf kk_6 (k := 19) (Nat.le_of_ble_eq_true rfl) (jx_dc dd_93 40 rfl) w_390) ?_
  refine jx_ac (s_iload_n (jx_dc dd_93 41 rfl) rfl) ?_
  refine jx_ac (s_iald rfl (jx_dc dd_93 42 rfl)) ?_
  refine jx_ac (s_ige (jx_dc dd_93 43 rfl) rfl) ?_
  refine jx_ac (s_aload_n (jx_dc dd_93 44 rfl) rfl) ?_
  refine jx_ac (s_iload_n (jx_dc dd_93 45 rfl) rfl) ?_
  refine jx_ac (s_iload_n (jx_dc dd_93 46 rfl) rfl) ?_
  refine jx_ac (s_iload (jx_dc dd_93 47 rfl)) ?_
  refine jx_ac (s_iload_n (jx_dc dd_93 48 rfl) rfl) ?_
  refine jx_ac (s_callv (ce := 94) kk_6 mc_94 (jx_dc dd_93 49 rfl) w_476 w_477 w_478 ⟨by decide, by decide⟩ np_94) ?_
  refine jx_ac (s_ifne (jx_dc dd_93 50 rfl) rfl) ?_
  refine jx_ac (s_iinc (jx_dc dd_93 51 rfl) rfl) ?_
  refine jx_ac (s_goto (jx_dc dd_93 52 rfl) rfl) ?_
  refine jx_ac (s_iload (jx_dc dd_93 53 rfl)) ?_
  refine jx_ac (s_aload_n (jx_dc dd_93 54 rfl) rfl) ?_
  refine jx_ac (s_getf kk_6 (k := 19) (Nat.le_of_ble_eq_true rfl) (jx_dc dd_93 55 rfl) w_390) ?_
  refine jx_ac (s_iload_n (jx_dc dd_93 56 rfl) rfl) ?_
  refine jx_ac (s_iald rfl (jx_dc dd_93 57 rfl)) ?_
  refine jx_ac (s_ige (jx_dc dd_93 58 rfl) rfl) ?_
  refine jx_ac (s_aload_n (jx_dc dd_93 59 rfl) rfl) ?_
  refine jx_ac (s_getf kk_6 (k := 25) (Nat.le_of_ble_eq_true rfl) (jx_dc dd_93 60 rfl) w_396) ?_
  refine jx_ac (s_iload_n (jx_dc dd_93 61 rfl) rfl) ?_
  refine jx_ac (s_iload (jx_dc dd_93 62 rfl)) ?_
  refine jx_ac (s_iast rfl (jx_dc dd_93 63 rfl)) ?_
  refine jx_ac (s_iinc (jx_dc dd_93 64 rfl) rfl) ?_
  refine jx_ac (s_aload_n (jx_dc dd_93 65 rfl) rfl) ?_
  refine jx_ac (s_getf kk_6 (k := 25) (Nat.le_of_ble_eq_true rfl) (jx_dc dd_93 66 rfl) w_396) ?_
  refine jx_ac (s_iload_n (jx_dc dd_93 67 rfl) rfl) ?_
  refine jx_ac (s_iconst (jx_dc dd_93 68 rfl) rfl) ?_
  refine jx_ac (s_iast rfl (jx_dc dd_93 69 rfl)) ?_
  refine jx_ac (s_goto (jx_dc dd_93 70 rfl) rfl) ?_
  refine jx_ac (s_iinc (jx_dc dd_93 71 rfl) rfl) ?_
  refine jx_ac (s_goto (jx_dc dd_93 72 rfl) rfl) ?_
  refine jx_ac (s_iload_n (jx_dc dd_93 73 rfl) rfl) ?_
  refine jx_ac (s_aload_n (jx_dc dd_93 74 rfl) rfl) ?_
  refine jx_ac (s_getf kk_6 (k := 4) (Nat.le_of_ble_eq_true rfl) (jx_dc dd_93 75 rfl) w_427) ?_
  refine jx_ac (s_ine (jx_dc dd_93 76 rfl) rfl) ?_
  refine jx_ac (s_iconst (jx_dc dd_93 77 rfl) rfl) ?_
  refine jx_ac (s_goto (jx_dc dd_93 78 rfl) rfl) ?_
  refine jx_ac (s_iconst (jx_dc dd_93 79 rfl) rfl) ?_
  exact jx_an
theorem A_93_2 : jx_All (jx_mk D c0 c1 c2 c3 c4 H0 ga L xs) jx_mt md_93 K_93_2 := by
  refine jx_ac (s_zret rfl (jx_dc dd_93 80 rfl)) ?_
  exact jx_an
theorem A_93 : jx_All (jx_mk D c0 c1 c2 c3 c4 H0 ga L xs) jx_mt md_93 K_93 := (jx_aa A_93_0 (jx_aa A_93_1 A_93_2))
def dl_94 : List (Nat × Instr × Nat) := [(0, .aload_n 0, 1), (1, .iload_n 1, 1), (2, .iload_n 2, 1), (3, .iload_n 3, 1), (4, .iload 4, 2), (6, .invokevirtual 162, 3), (9, .istore 5, 2), (11, .iconst 0, 1), (12, .istore 6, 2), (14, .iload 6, 2), (16, .iload_n 1, 1), (17, .if_icmp .ge 98, 3), (20, .iload 5, 2), (22, .ifCond .eq 93, 3), (25, .aload_n 0, 1), (26, .getfield 32, 3), (29, .bipush 40, 2), (31, .iload_n 1, 1), (32, .imul, 1), (33, .iload 6, 2), (35, .iadd, 1), (36, .iaload, 1), (37, .istore 7, 2), (39, .aload_n 0, 1), (40, .getfield 62, 3), (43, .bipush 100, 2), (45, .iload_n 2, 1), (46, .imul, 1), (47, .bipush 10, 2), (49, .iload_n 3, 1), (50, .imul, 1), (51, .iadd, 1), (52, .aload_n 0, 1), (53, .getfield 65, 3), (56, .iload 6, 2), (58, .iaload, 1), (59, .iadd, 1), (60, .iaload, 1), (61, .istore 8, 2), (63, .aload_n 0, 1), (64, .getfield 65, 3), (67, .iload 6, 2), (69, .iaload, 1), (70, .iload_n 3, 1), (71, .if_icmp .eq 35, 3), (74, .iload 7, 2), (76, .iload 8, 2), (78, .if_icmp .eq 24, 3), (81, .iload 7, 2), (83, .iconst 5, 1), (84, .if_icmp .ne 8, 3), (87, .iload 8, 2), (89, .ifCond .ne 13, 3), (92, .iload 7, 2), (94, .ifCond .ne 12, 3), (97, .iload 4, 2), (99, .ifCond .ne 7, 3), (102, .iconst 1, 1), (103, .goto 4, 3), (106, .iconst 0, 1), (107, .istore 5, 2), (109, .iinc 6 1, 3), (112, .goto (-98), 3), (115, .iload 5, 2), (117, .ireturn, 1)]
theorem dd_94 : ∀ q ∈ dl_94, decode prog_9_method_24_code q.1 = .ok q.2 := by decide +kernel
theorem A_94_0 : jx_All (jx_mk D c0 c1 c2 c3 c4 H0 ga L xs) jx_mt md_94 K_94_0 := by
  refine jx_ac (s_aload_n (jx_dc dd_94 0 rfl) rfl) ?_
  refine jx_ac (s_iload_n (jx_dc dd_94 1 rfl) rfl) ?_
  refine jx_ac (s_iload_n (jx_dc dd_94 2 rfl) rfl) ?_
  refine jx_ac (s_iload_n (jx_dc dd_94 3 rfl) rfl) ?_
  refine jx_ac (s_iload (jx_dc dd_94 4 rfl)) ?_
  refine jx_ac (s_callv (ce := 95) kk_6 mc_95 (jx_dc dd_94 5 rfl) w_479 w_480 w_481 ⟨by decide, by decide⟩ np_95) ?_
  refine jx_ac (s_istore (jx_dc dd_94 6 rfl)) ?_
  refine jx_ac (s_iconst (jx_dc dd_94 7 rfl) rfl) ?_
  refine jx_ac (s_istore (jx_dc dd_94 8 rfl)) ?_
  refine jx_ac (s_iload (jx_dc dd_94 9 rfl)) ?_
  refine jx_ac (s_iload_n (jx_dc dd_94 10 rfl) rfl) ?_
  refine jx_ac (s_ige (jx_dc dd_94 11 rfl) rfl) ?_
  refine jx_ac (s_iload (jx_dc dd_94 12 rfl)) ?_
  refine jx_ac (s_ifeq (jx_dc dd_94 13 rfl) rfl) ?_
  refine jx_ac (s_aload_n (jx_dc dd_94 14 rfl) rfl) ?_
  refine jx_ac (s_getf kk_6 (k := 11) (Nat.le_of_ble_eq_true rfl) (jx_dc dd_94 15 rfl) w_385) ?_
  refine jx_ac (s_bipush (jx_dc dd_94 16 rfl) rfl) ?_
  refine jx_ac (s_iload_n (jx_dc dd_94 17 rfl) rfl) ?_
  refine jx_ac (s_imul (jx_dc dd_94 18 rfl)) ?_
  refine jx_ac (s_iload (jx_dc dd_94 19 rfl)) ?_
  refine jx_ac (s_iadd (jx_dc dd_94 20 rfl)) ?_
  refine jx_ac (s_iald rfl (jx_dc dd_94 21 rfl)) ?_
  refine jx_ac (s_istore (jx_dc dd_94 22 rfl)) ?_
  refine jx_ac (s_aload_n (jx_dc dd_94 23 rfl) rfl) ?_
  refine jx_ac (s_getf kk_6 (k := 24) (Nat.le_of_ble_eq_true rfl) (jx_dc dd_94 24 rfl) w_395) ?_
  refine jx_ac (s_bipush (jx_dc dd_94 25 rfl) rfl) ?_
  refine jx_ac (s_iload_n (jx_dc dd_94 26 rfl) rfl) ?_
  refine jx_ac (s_imul (jx_dc dd_94 27 rfl)) ?_
  refine jx_ac (s_bipush (jx_dc dd_94 28 rfl) rfl) ?_
  refine jx_ac (s_iload_n (jx_dc dd_94 29 rfl) rfl) ?_
  refine jx_ac (s_imul (jx_dc dd_94 30 rfl)) ?_
  refine jx_ac (s_iadd (jx_dc dd_94 31 rfl)) ?_
  refine jx_ac (s_aload_n (jx_dc dd_94 32 rfl) rfl) ?_
  refine jx_ac (s_getf kk_6 (k := 25) (Nat.le_of_ble_eq_true rfl) (jx_dc dd_94 33 rfl) w_396) ?_
  refine jx_ac (s_iload (jx_dc dd_94 34 rfl)) ?_
  refine jx_ac (s_iald rfl (jx_dc dd_94 35 rfl)) ?_
  refine jx_ac (s_iadd (jx_dc dd_94 36 rfl)) ?_
  refine jx_ac (s_iald rfl (jx_dc dd_94 37 rfl)) ?_
  refine jx_ac (s_istore (jx_dc dd_94 38 rfl)) ?_
  refine jx_ac (s_aload_n (jx_dc dd_94 39 rfl) rfl) ?_
  exact jx_an
theorem A_94_1 : jx_All (jx_mk D c0 c1 c2 c3 c4 H0 ga L xs) jx_mt md_94 K_94_1 := by
  refine jx_ac (s_getf kk_6 (k := 25) (Nat.le_of_ble_eq_true rfl) (jx_dc dd_94 40 rfl) w_396) ?_
  refine jx_ac (s_iload (jx_dc dd_94 41 rfl)) ?_
  refine jx_ac (s_iald rfl (jx_dc dd_94 42 rfl)) ?_
  refine jx_ac (s_iload_n (jx_dc dd_94 43 rfl) rfl) ?_
  refine jx_ac (s_ieq (jx_dc dd_94 44 rfl) rfl) ?_
  refine jx_ac (s_iload (jx_dc dd_94 45 rfl)) ?_
  refine jx_ac (s_iload (jx_dc dd_94 46 rfl)) ?_
  refine jx_ac (s_ieq (jx_dc dd_94 47 rfl) rfl) ?_
  refine jx_ac (s_iload (jx_dc dd_94 48 rfl)) ?_
  refine jx_ac (s_iconst (jx_dc dd_94 49 rfl) rfl) ?_
  refine jx_ac (s_ine (jx_dc dd_94 50 rfl) rfl) ?_
  refine jx_ac (s_iload (jx_dc dd_94 51 rfl)) ?_
  refine jx_ac (s_ifne (jx_dc dd_94 52 rfl) rfl) ?_
  refine jx_ac (s_iload (jx_dc dd_94 53 rfl)) ?_
  refine jx_ac (s_ifne (jx_dc dd_94 54 rfl) rfl) ?_
  refine jx_ac (s_iload (jx_dc dd_94 55 rfl)) ?_
  refine jx_ac (s_ifne (jx_dc dd_94 56 rfl) rfl) ?_
  refine jx_ac (s_iconst (jx_dc dd_94 57 rfl) rfl) ?_
  refine jx_ac (s_goto (jx_dc dd_94 58 rfl) rfl) ?_
  refine jx_ac (s_iconst (jx_dc dd_94 59 rfl) rfl) ?_
  refine jx_ac (s_istore (jx_dc dd_94 60 rfl)) ?_
  refine jx_ac (s_iinc (jx_dc dd_94 61 rfl) rfl) ?_
  refine jx_ac (s_goto (jx_dc dd_94 62 rfl) rfl) ?_
  refine jx_ac (s_iload (jx_dc dd_94 63 rfl)) ?_
  refine jx_ac (s_zret rfl (jx_dc dd_94 64 rfl)) ?_
  exact jx_an
theorem A_94 : jx_All (jx_mk D c0 c1 c2 c3 c4 H0 ga L xs) jx_mt md_94 K_94 := (jx_aa A_94_0 A_94_1)
def dl_95 : List (Nat × Instr × Nat) := [(0, .bipush 10, 2), (2, .iload_n 2, 1), (3, .imul, 1), (4, .iload_n 3, 1), (5, .iadd, 1), (6, .istore 5, 2), (8, .aload_n 0, 1), (9, .getfield 29, 3), (12, .iload_n 1, 1), (13, .iaload, 1), (14, .ifCond .eq 43, 3), (17, .aload_n 0, 1), (18, .getfield 29, 3), (21, .iload_n 1, 1), (22, .iaload, 1), (23, .bipush 63, 2), (25, .if_icmp .eq 26, 3), (28, .aload_n 0, 1), (29, .getfield 29, 3), (32, .iload_n 1, 1), (33, .iaload, 1), (34, .aload_n 0, 1), (35, .getfield 50, 3), (38, .iload 5, 2), (40, .iaload, 1), (41, .invokestatic 106, 3), (44, .ishr, 1), (45, .iconst 1, 1), (46, .iand, 1), (47, .iconst 1, 1), (48, .if_icmp .ne 7, 3), (51, .iconst 1, 1), (52, .goto 4, 3), (55, .iconst 0, 1), (56, .ireturn, 1), (57, .aload_n 0, 1), (58, .getfield 13, 3), (61, .iload_n 1, 1), (62, .iaload, 1), (63, .aload_n 0, 1), (64, .getfield 50, 3), (67, .iload 5, 2), (69, .iaload, 1), (70, .if_icmp .ne 39, 3), (73, .aload_n 0, 1), (74, .getfield 16, 3), (77, .iload_n 1, 1), (78, .baload, 1), (79, .aload_n 0, 1), (80, .getfield 53, 3), (83, .iload 5, 2), (85, .baload, 1), (86, .if_icmp .ne 23, 3), (89, .aload_n 0, 1), (90, .getfield 23, 3), (93, .iload_n 1, 1), (94, .iaload, 1), (95, .aload_n 0, 1), (96, .getfield 59, 3), (99, .iload 5, 2), (101, .iaload, 1), (102, .if_icmp .ne 7, 3), (105, .iconst 1, 1), (106, .goto 4, 3), (109, .iconst 0, 1), (110, .istore 6, 2), (112, .iload 6, 2), (114, .ifCond .eq 28, 3), (117, .iload 4, 2), (119, .ifCond .eq 19, 3), (122, .aload_n 0, 1), (123, .getfield 20, 3), (126, .iload_n 1, 1), (127, .iaload, 1), (128, .aload_n 0, 1), (129, .getfield 56, 3), (132, .iload 5, 2), (134, .iaload, 1), (135, .if_icmp .ne 7, 3), (138, .iconst 1, 1), (139, .goto 4, 3), (142, .iconst 0, 1), (143, .ireturn, 1)]
theorem dd_95 : ∀ q ∈ dl_95, decode prog_9_method_23_code q.1 = .ok q.2 := by decide +kernel
theorem A_95_0 : jx_All (jx_mk D c0 c1 c2 c3 c4 H0 ga L xs) jx_mt md_95 K_95_0 := by
  refine jx_ac (s_bipush (jx_dc dd_95 0 rfl) rfl) ?_
  refine jx_ac (s_iload_n (jx_dc dd_95 1 rfl) rfl) ?_
  refine jx_ac (s_imul (jx_dc dd_95 2 rfl)) ?_
  refine jx_ac (s_iload_n (jx_dc dd_95 3 rfl) rfl) ?_
  refine jx_ac (s_iadd (jx_dc dd_95 4 rfl)) ?_
  refine jx_ac (s_istore (jx_dc dd_95 5 rfl)) ?_
  refine jx_ac (s_aload_n (jx_dc dd_95 6 rfl) rfl) ?_
  refine jx_ac (s_getf kk_6 (k := 10) (Nat.le_of_ble_eq_true rfl) (jx_dc dd_95 7 rfl) w_384) ?_
  refine jx_ac (s_iload_n (jx_dc dd_95 8 rfl) rfl) ?_
  refine jx_ac (s_iald rfl (jx_dc dd_95 9 rfl)) ?_
  refine jx_ac (s_ifeq (jx_dc dd_95 10 rfl) rfl) ?_
  refine jx_ac (s_aload_n (jx_dc dd_95 11 rfl) rfl) ?_
  refine jx_ac (s_getf kk_6 (k := 10) (Nat.le_of_ble_eq_true rfl) (jx_dc dd_95 12 rfl) w_384) ?_
  refine jx_ac (s_iload_n (jx_dc dd_95 13 rfl) rfl) ?_
  refine jx_ac (s_iald rfl (jx_dc dd_95 14 rfl)) ?_
  refine jx_ac (s_bipush (jx_dc dd_95 15 rfl) rfl) ?_
  refine jx_ac (s_ieq (jx_dc dd_95 16 rfl) rfl) ?_
  refine jx_ac (s_aload_n (jx_dc dd_95 17 rfl) rfl) ?_
  refine jx_ac (s_getf kk_6 (k := 10) (Nat.le_of_ble_eq_true rfl) (jx_dc dd_95 18 rfl) w_384) ?_
  refine jx_ac (s_iload_n (jx_dc dd_95 19 rfl) rfl) ?_
  refine jx_ac (s_iald rfl (jx_dc dd_95 20 rfl)) ?_
  refine jx_ac (s_aload_n (jx_dc dd_95 21 rfl) rfl) ?_
  refine jx_ac (s_getf kk_6 (k := 20) (Nat.le_of_ble_eq_true rfl) (jx_dc dd_95 22 rfl) w_391) ?_
  refine jx_ac (s_iload (jx_dc dd_95 23 rfl)) ?_
  refine jx_ac (s_iald rfl (jx_dc dd_95 24 rfl)) ?_
  refine jx_ac (s_calls (ce := 80) mc_80 (jx_dc dd_95 25 rfl) w_450 w_451 w_8 ⟨by decide, by decide⟩ np_80) ?_
  refine jx_ac (s_ishr (jx_dc dd_95 26 rfl)) ?_
  refine jx_ac (s_iconst (jx_dc dd_95 27 rfl) rfl) ?_
  refine jx_ac (s_iand (jx_dc dd_95 28 rfl)) ?_
  refine jx_ac (s_iconst (jx_dc dd_95 29 rfl) rfl) ?_
  refine jx_ac (s_ine (jx_dc dd_95 30 rfl) rfl) ?_
  refine jx_ac (s_iconst (jx_dc dd_95 31 rfl) rfl) ?_
  refine jx_ac (s_goto (jx_dc dd_95 32 rfl) rfl) ?_
  refine jx_ac (s_iconst (jx_dc dd_95 33 rfl) rfl) ?_
  refine jx_ac (s_zret rfl (jx_dc dd_95 34 rfl)) ?_
  refine jx_ac (s_aload_n (jx_dc dd_95 35 rfl) rfl) ?_
  refine jx_ac (s_getf kk_6 (k := 5) (Nat.le_of_ble_eq_true rfl) (jx_dc dd_95 36 rfl) w_378) ?_
  refine jx_ac (s_iload_n (jx_dc dd_95 37 rfl) rfl) ?_
  refine jx_ac (s_iald rfl (jx_dc dd_95 38 rfl)) ?_
  refine jx_ac (s_aload_n (jx_dc dd_95 39 rfl) rfl) ?_
  exact jx_an
theorem A_95_1 : jx_All (jx_mk D c0 c1 c2 c3 c4 H0 ga L xs) jx_mt md_95 K_95_1 := by
  refine jx_ac (s_getf kk_6 (k := 20) (Nat.le_of_ble_eq_true rfl) (jx_dc dd_95 40 rfl) w_391) ?_
  refine jx_ac (s_iload (jx_dc dd_95 41 rfl)) ?_
  refine jx_ac (s_iald rfl (jx_dc dd_95 42 rfl)) ?_
  refine jx_ac (s_ine (jx_dc dd_95 43 rfl) rfl) ?_
  refine jx_ac (s_aload_n (jx_dc dd_95 44 rfl) rfl) ?_
  refine jx_ac (s_getf kk_6 (k := 6) (Nat.le_of_ble_eq_true rfl) (jx_dc dd_95 45 rfl) w_380) ?_
  refine jx_ac (s_iload_n (jx_dc dd_95 46 rfl) rfl) ?_
  refine jx_ac (s_zald rfl (jx_dc dd_95 47 rfl)) ?_
  refine jx_ac (s_aload_n (jx_dc dd_95 48 rfl) rfl) ?_
  refine jx_ac (s_getf kk_6 (k := 21) (Nat.le_of_ble_eq_true rfl) (jx_dc dd_95 49 rfl) w_392) ?_
  refine jx_ac (s_iload (jx_dc dd_95 50 rfl)) ?_
  refine jx_ac (s_zald rfl (jx_dc dd_95 51 rfl)) ?_
  refine jx_ac (s_ine (jx_dc dd_95 52 rfl) rfl) ?_
  refine jx_ac (s_aload_n (jx_dc dd_95 53 rfl) rfl) ?_
  refine jx_ac (s_getf kk_6 (k := 8) (Nat.le_of_ble_eq_true rfl) (jx_dc dd_95 54 rfl) w_382) ?_
  refine jx_ac (s_iload_n (jx_dc dd_95 55 rfl) rfl) ?_
  refine jx_ac (s_iald rfl (jx_dc dd_95 56 rfl)) ?_
  refine jx_ac (s_aload_n (jx_dc dd_95 57 rfl) rfl) ?_
  refine jx_ac (s_getf kk_6 (k := 23) (Nat.le_of_ble_eq_true rfl) (jx_dc dd_95 58 rfl) w_394) ?_
  refine jx_ac (s_iload (jx_dc dd_95 59 rfl)) ?_
  refine jx_ac (s_iald rfl (jx_dc dd_95 60 rfl)) ?_
  refine jx_ac (s_ine (jx_dc dd_95 61 rfl) rfl) ?_
  refine jx_ac (s_iconst (jx_dc dd_95 62 rfl) rfl) ?_
  refine jx_ac (s_goto (jx_dc dd_95 63 rfl) rfl) ?_
  refine jx_ac (s_iconst (jx_dc dd_95 64 rfl) rfl) ?_
  refine jx_ac (s_istore (jx_dc dd_95 65 rfl)) ?_
  refine jx_ac (s_iload (jx_dc dd_95 66 rfl)) ?_
  refine jx_ac (s_ifeq (jx_dc dd_95 67 rfl) rfl) ?_
  refine jx_ac (s_iload (jx_dc dd_95 68 rfl)) ?_
  refine jx_ac (s_ifeq (jx_dc dd_95 69 rfl) rfl) ?_
  refine jx_ac (s_aload_n (jx_dc dd_95 70 rfl) rfl) ?_
  refine jx_ac (s_getf kk_6 (k := 7) (Nat.le_of_ble_eq_true rfl) (jx_dc dd_95 71 rfl) w_381) ?_
  refine jx_ac (s_iload_n (jx_dc dd_95 72 rfl) rfl) ?_
  refine jx_ac (s_iald rfl (jx_dc dd_95 73 rfl)) ?_
  refine jx_ac (s_aload_n (jx_dc dd_95 74 rfl) rfl) ?_
  refine jx_ac (s_getf kk_6 (k := 22) (Nat.le_of_ble_eq_true rfl) (jx_dc dd_95 75 rfl) w_393) ?_
  refine jx_ac (s_iload (jx_dc dd_95 76 rfl)) ?_
  refine jx_ac (s_iald rfl (jx_dc dd_95 77 rfl)) ?_
  refine jx_ac (s_ine (jx_dc dd_95 78 rfl) rfl) ?_
  refine jx_ac (s_iconst (jx_dc dd_95 79 rfl) rfl) ?_
  exact jx_an
theorem A_95_2 : jx_All (jx_mk D c0 c1 c2 c3 c4 H0 ga L xs) jx_mt md_95 K_95_2 := by
  refine jx_ac (s_goto (jx_dc dd_95 80 rfl) rfl) ?_
  refine jx_ac (s_iconst (jx_dc dd_95 81 rfl) rfl) ?_
  refine jx_ac (s_zret rfl (jx_dc dd_95 82 rfl)) ?_
  exact jx_an
theorem A_95 : jx_All (jx_mk D c0 c1 c2 c3 c4 H0 ga L xs) jx_mt md_95 K_95 := (jx_aa A_95_0 (jx_aa A_95_1 A_95_2))
def dl_96 : List (Nat × Instr × Nat) := [(0, .aload_n 0, 1), (1, .aload_n 0, 1), (2, .getfield 96, 3), (5, .putfield 176, 3), (8, .iconst 0, 1), (9, .istore_n 1, 1), (10, .iload_n 1, 1), (11, .aload_n 0, 1), (12, .getfield 96, 3), (15, .if_icmp .ge 95, 3), (18, .aload_n 0, 1), (19, .getfield 71, 3), (22, .iload_n 1, 1), (23, .aload_n 0, 1), (24, .getfield 13, 3), (27, .iload_n 1, 1), (28, .iaload, 1), (29, .iastore, 1), (30, .aload_n 0, 1), (31, .getfield 74, 3), (34, .iload_n 1, 1), (35, .aload_n 0, 1), (36, .getfield 16, 3), (39, .iload_n 1, 1), (40, .baload, 1), (41, .bastore, 1), (42, .aload_n 0, 1), (43, .getfield 77, 3), (46, .iload_n 1, 1), (47, .aload_n 0, 1), (48, .getfield 20, 3), (51, .iload_n 1, 1), (52, .iaload, 1), (53, .iastore, 1), (54, .aload_n 0, 1), (55, .getfield 80, 3), (58, .iload_n 1, 1), (59, .aload_n 0, 1), (60, .getfield 23, 3), (63, .iload_n 1, 1), (64, .iaload, 1), (65, .iastore, 1), (66, .iconst 0, 1), (67, .istore_n 2, 1), (68, .iload_n 2, 1), (69, .aload_n 0, 1), (70, .getfield 96, 3), (73, .if_icmp .ge 31, 3), (76, .aload_n 0, 1), (77, .getfield 83, 3), (80, .bipush 10, 2), (82, .iload_n 1, 1), (83, .imul, 1), (84, .iload_n 2, 1), (85, .iadd, 1), (86, .aload_n 0, 1), (87, .getfield 32, 3), (90, .bipush 40, 2), (92, .iload_n 1, 1), (93, .imul, 1), (94, .iload_n 2, 1), (95, .iadd, 1), (96, .iaload, 1), (97, .iastore, 1), (98, .iinc 2 1, 3), (101, .goto (-33), 3), (104, .iinc 1 1, 3), (107, .goto (-97), 3), (110, .return_, 1)]
theorem dd_96 : ∀ q ∈ dl_96, decode prog_9_method_27_code q.1 = .ok q.2 := by decide +kernel
theorem A_96_0 : jx_All (jx_mk D c0 c1 c2 c3 c4 H0 ga L xs) jx_mt md_96 K_96_0 := by
  refine jx_ac (s_aload_n (jx_dc dd_96 0 rfl) rfl) ?_
  refine jx_ac (s_aload_n (jx_dc dd_96 1 rfl) rfl) ?_
  refine jx_ac (s_getf kk_6 (k := 4) (Nat.le_of_ble_eq_true rfl) (jx_dc dd_96 2 rfl) w_427) ?_
  refine jx_ac (s_putf kk_6 (k := 32) (Nat.le_of_ble_eq_true rfl) (jx_dc dd_96 3 rfl) (fun _ h => jx_okI_n _ h) rfl w_482) ?_
  refine jx_ac (s_iconst (jx_dc dd_96 4 rfl) rfl) ?_
  refine jx_ac (s_istore_n (jx_dc dd_96 5 rfl) rfl) ?_
  refine jx_ac (s_iload_n (jx_dc dd_96 6 rfl) rfl) ?_
  refine jx_ac (s_aload_n (jx_dc dd_96 7 rfl) rfl) ?_
  refine jx_ac (s_getf kk_6 (k := 4) (Nat.le_of_ble_eq_true rfl) (jx_dc dd_96 8 rfl) w_427) ?_
  refine jx_ac (s_ige (jx_dc dd_96 9 rfl) rfl) ?_
  refine jx_ac (s_aload_n (jx_dc dd_96 10 rfl) rfl) ?_
  refine jx_ac (s_getf kk_6 (k := 33) (Nat.le_of_ble_eq_true rfl) (jx_dc dd_96 11 rfl) w_398) ?_
  refine jx_ac (s_iload_n (jx_dc dd_96 12 rfl) rfl) ?_
  refine jx_ac (s_aload_n (jx_dc dd_96 13 rfl) rfl) ?_
  refine jx_ac (s_getf kk_6 (k := 5) (Nat.le_of_ble_eq_true rfl) (jx_dc dd_96 14 rfl) w_378) ?_
  refine jx_ac (s_iload_n (jx_dc dd_96 15 rfl) rfl) ?_
  refine jx_ac (s_iald rfl (jx_dc dd_96 16 rfl)) ?_
  refine jx_ac (s_iast rfl (jx_dc dd_96 17 rfl)) ?_
  refine jx_ac (s_aload_n (jx_dc dd_96 18 rfl) rfl) ?_
  refine jx_ac (s_getf kk_6 (k := 34) (Nat.le_of_ble_eq_true rfl) (jx_dc dd_96 19 rfl) w_399) ?_
  refine jx_ac (s_iload_n (jx_dc dd_96 20 rfl) rfl) ?_
  refine jx_ac (s_aload_n (jx_dc dd_96 21 rfl) rfl) ?_
  refine jx_ac (s_getf kk_6 (k := 6) (Nat.le_of_ble_eq_true rfl) (jx_dc dd_96 22 rfl) w_380) ?_
  refine jx_ac (s_iload_n (jx_dc dd_96 23 rfl) rfl) ?_
  refine jx_ac (s_zald rfl (jx_dc dd_96 24 rfl)) ?_
  refine jx_ac (s_zast rfl (jx_dc dd_96 25 rfl)) ?_
  refine jx_ac (s_aload_n (jx_dc dd_96 26 rfl) rfl) ?_
  refine jx_ac (s_getf kk_6 (k := 35) (Nat.le_of_ble_eq_true rfl) (jx_dc dd_96 27 rfl) w_400) ?_
  refine jx_ac (s_iload_n (jx_dc dd_96 28 rfl) rfl) ?_
  refine jx_ac (s_aload_n (jx_dc dd_96 29 rfl) rfl) ?_
  refine jx_ac (s_getf kk_6 (k := 7) (Nat.le_of_ble_eq_true rfl) (jx_dc dd_96 30 rfl) w_381) ?_
  refine jx_ac (s_iload_n (jx_dc dd_96 31 rfl) rfl) ?_
  refine jx_ac (s_iald rfl (jx_dc dd_96 32 rfl)) ?_
  refine jx_ac (s_iast rfl (jx_dc dd_96 33 rfl)) ?_
  refine jx_ac (s_aload_n (jx_dc dd_96 34 rfl) rfl) ?_
  refine jx_ac (s_getf kk_6 (k := 36) (Nat.le_of_ble_eq_true rfl) (jx_dc dd_96 35 rfl) w_401) ?_
  refine jx_ac (s_iload_n (jx_dc dd_96 36 rfl) rfl) ?_
  refine jx_ac (s_aload_n (jx_dc dd_96 37 rfl) rfl) ?_
  refine jx_ac (s_getf kk_6 (k := 8) (Nat.le_of_ble_eq_true rfl) (jx_dc dd_96 38 rfl) w_382) ?_
  refine jx_ac (s_iload_n (jx_dc dd_96 39 rfl) rfl) ?_
  exact jx_an
theorem A_96_1 : jx_All (jx_mk D c0 c1 c2 c3 c4 H0 ga L xs) jx_mt md_96 K_96_1 := by
  refine jx_ac (s_iald rfl (jx_dc dd_96 40 rfl)) ?_
  refine jx_ac (s_iast rfl (jx_dc dd_96 41 rfl)) ?_
  refine jx_ac (s_iconst (jx_dc dd_96 42 rfl) rfl) ?_
  refine jx_ac (s_istore_n (jx_dc dd_96 43 rfl) rfl) ?_
  refine jx_ac (s_iload_n (jx_dc dd_96 44 rfl) rfl) ?_
  refine jx_ac (s_aload_n (jx_dc dd_96 45 rfl) rfl) ?_
  refine jx_ac (s_getf kk_6 (k := 4) (Nat.le_of_ble_eq_true rfl) (jx_dc dd_96 46 rfl) w_427) ?_
  refine jx_ac (s_ige (jx_dc dd_96 47 rfl) rfl) ?_
  refine jx_ac (s_aload_n (jx_dc dd_96 48 rfl) rfl) ?_
  refine jx_ac (s_getf kk_6 (k := 37) (Nat.le_of_ble_eq_true rfl) (jx_dc dd_96 49 rfl) w_402) ?_
  refine jx_ac (s_bipush (jx_dc dd_96 50 rfl) rfl) ?_
  refine jx_ac (s_iload_n (jx_dc dd_96 51 rfl) rfl) ?_
  refine jx_ac (s_imul (jx_dc dd_96 52 rfl)) ?_
  refine jx_ac (s_iload_n (jx_dc dd_96 53 rfl) rfl) ?_
  refine jx_ac (s_iadd (jx_dc dd_96 54 rfl)) ?_
  refine jx_ac (s_aload_n (jx_dc dd_96 55 rfl) rfl) ?_
  refine jx_ac (s_getf kk_6 (k := 11) (Nat.le_of_ble_eq_true rfl) (jx_dc dd_96 56 rfl) w_385) ?_
  refine jx_ac (s_bipush (jx_dc dd_96 57 rfl) rfl) ?_
  refine jx_ac (s_iload_n (jx_dc dd_96 58 rfl) rfl) ?_
  refine jx_ac (s_imul (jx_dc dd_96 59 rfl)) ?_
  refine jx_ac (s_iload_n (jx_dc dd_96 60 rfl) rfl) ?_
  refine jx_ac (s_iadd (jx_dc dd_96 61 rfl)) ?_
  refine jx_ac (s_iald rfl (jx_dc dd_96 62 rfl)) ?_
  refine jx_ac (s_iast rfl (jx_dc dd_96 63 rfl)) ?_
  refine jx_ac (s_iinc (jx_dc dd_96 64 rfl) rfl) ?_
  refine jx_ac (s_goto (jx_dc dd_96 65 rfl) rfl) ?_
  refine jx_ac (s_iinc (jx_dc dd_96 66 rfl) rfl) ?_
  refine jx_ac (s_goto (jx_dc dd_96 67 rfl) rfl) ?_
  refine jx_ac (s_ret rfl (jx_dc dd_96 68 rfl)) ?_
  exact jx_an
theorem A_96 : jx_All (jx_mk D c0 c1 c2 c3 c4 H0 ga L xs) jx_mt md_96 K_96 := (jx_aa A_96_0 A_96_1)
def dl_97 : List (Nat × Instr × Nat) := [(0, .aload_n 0, 1), (1, .getfield 195, 3), (4, .istore_n 3, 1), (5, .aload_n 0, 1), (6, .iconst 0, 1), (7, .putfield 195, 3), (10, .aload_n 0, 1), (11, .iconst 0, 1), (12, .putfield 198, 3), (15, .aload_n 0, 1), (16, .iload_n 3, 1), (17, .ifCond .eq 7, 3), (20, .iconst 1, 1), (21, .goto 4, 3), (24, .iconst 0, 1), (25, .putfield 201, 3), (28, .iload_n 3, 1), (29, .iconst 1, 1), (30, .if_icmp .eq 8, 3), (33, .iload_n 3, 1), (34, .iconst 2, 1), (35, .if_icmp .ne 10, 3), (38, .aload_n 0, 1), (39, .iconst 0, 1), (40, .putfield 179, 3), (43, .iconst 0, 1), (44, .ireturn, 1), (45, .aload_n 0, 1), (46, .iload_n 1, 1), (47, .putfield 179, 3), (50, .aload_n 0, 1), (51, .iload_n 2, 1), (52, .putfield 182, 3), (55, .aload_n 0, 1), (56, .iload_n 3, 1), (57, .iconst 3, 1), (58, .if_icmp .eq 7, 3), (61, .iconst 1, 1), (62, .goto 4, 3), (65, .iconst 0, 1), (66, .putfield 204, 3), (69, .aload_n 0, 1), (70, .getfield 204, 3), (73, .ifCond .eq 7, 3), (76, .aload_n 0, 1), (77, .invokevirtual 207, 3), (80, .aload_n 0, 1), (81, .iload_n 3, 1), (82, .ifCond .ne 7, 3), (85, .iconst 0, 1), (86, .goto 7, 3), (89, .aload_n 0, 1), (90, .getfield 179, 3), (93, .putfield 179, 3), (96, .iload_n 3, 1), (97, .ifCond .ne 7, 3), (100, .iconst 1, 1), (101, .goto 4, 3), (104, .iconst 0, 1), (105, .ireturn, 1)]
theorem dd_97 : ∀ q ∈ dl_97, decode prog_9_method_30_code q.1 = .ok q.2 := by decide +kernel
theorem A_97_0 : jx_All (jx_mk D c0 c1 c2 c3 c4 H0 ga L xs) jx_mt md_97 K_97_0 := by
  refine jx_ac (s_aload_n (jx_dc dd_97 0 rfl) rfl) ?_
  refine jx_ac (s_getf kk_6 (k := 27) (Nat.le_of_ble_eq_true rfl) (jx_dc dd_97 1 rfl) w_483) ?_
  refine jx_ac (s_istore_n (jx_dc dd_97 2 rfl) rfl) ?_
  refine jx_ac (s_aload_n (jx_dc dd_97 3 rfl) rfl) ?_
  refine jx_ac (s_iconst (jx_dc dd_97 4 rfl) rfl) ?_
  refine jx_ac (s_putf kk_6 (k := 27) (Nat.le_of_ble_eq_true rfl) (jx_dc dd_97 5 rfl) (fun _ h => jx_okI_n _ h) rfl w_483) ?_
  refine jx_ac (s_aload_n (jx_dc dd_97 6 rfl) rfl) ?_
  refine jx_ac (s_iconst (jx_dc dd_97 7 rfl) rfl) ?_
  refine jx_ac (s_putf kk_6 (k := 38) (Nat.le_of_ble_eq_true rfl) (jx_dc dd_97 8 rfl) (fun _ h => jx_okI_n _ h) rfl w_484) ?_
  refine jx_ac (s_aload_n (jx_dc dd_97 9 rfl) rfl) ?_
  refine jx_ac (s_iload_n (jx_dc dd_97 10 rfl) rfl) ?_
  refine jx_ac (s_ifeq (jx_dc dd_97 11 rfl) rfl) ?_
  refine jx_ac (s_iconst (jx_dc dd_97 12 rfl) rfl) ?_
  refine jx_ac (s_goto (jx_dc dd_97 13 rfl) rfl) ?_
  refine jx_ac (s_iconst (jx_dc dd_97 14 rfl) rfl) ?_
  refine jx_ac (s_putf kk_6 (k := 28) (Nat.le_of_ble_eq_true rfl) (jx_dc dd_97 15 rfl) (fun _ h => jx_okZ_n _ h) rfl w_406) ?_
  refine jx_ac (s_iload_n (jx_dc dd_97 16 rfl) rfl) ?_
  refine jx_ac (s_iconst (jx_dc dd_97 17 rfl) rfl) ?_
  refine jx_ac (s_ieq (jx_dc dd_97 18 rfl) rfl) ?_
  refine jx_ac (s_iload_n (jx_dc dd_97 19 rfl) rfl) ?_
  refine jx_ac (s_iconst (jx_dc dd_97 20 rfl) rfl) ?_
  refine jx_ac (s_ine (jx_dc dd_97 21 rfl) rfl) ?_
  refine jx_ac (s_aload_n (jx_dc dd_97 22 rfl) rfl) ?_
  refine jx_ac (s_iconst (jx_dc dd_97 23 rfl) rfl) ?_
  refine jx_ac (s_putf kk_6 (k := 29) (Nat.le_of_ble_eq_true rfl) (jx_dc dd_97 24 rfl) (fun _ h => jx_okI_n _ h) rfl w_485) ?_
  refine jx_ac (s_iconst (jx_dc dd_97 25 rfl) rfl) ?_
  refine jx_ac (s_zret rfl (jx_dc dd_97 26 rfl)) ?_
  refine jx_ac (s_aload_n (jx_dc dd_97 27 rfl) rfl) ?_
  refine jx_ac (s_iload_n (jx_dc dd_97 28 rfl) rfl) ?_
  refine jx_ac (s_putf kk_6 (k := 29) (Nat.le_of_ble_eq_true rfl) (jx_dc dd_97 29 rfl) (fun _ h => jx_okI_n _ h) rfl w_485) ?_
  refine jx_ac (s_aload_n (jx_dc dd_97 30 rfl) rfl) ?_
  refine jx_ac (s_iload_n (jx_dc dd_97 31 rfl) rfl) ?_
  refine jx_ac (s_putf kk_6 (k := 30) (Nat.le_of_ble_eq_true rfl) (jx_dc dd_97 32 rfl) (fun _ h => jx_okI_n _ h) rfl w_486) ?_
  refine jx_ac (s_aload_n (jx_dc dd_97 33 rfl) rfl) ?_
  refine jx_ac (s_iload_n (jx_dc dd_97 34 rfl) rfl) ?_
  refine jx_ac (s_iconst (jx_dc dd_97 35 rfl) rfl) ?_
  refine jx_ac (s_ieq (jx_dc dd_97 36 rfl) rfl) ?_
  refine jx_ac (s_iconst (jx_dc dd_97 37 rfl) rfl) ?_
  refine jx_ac (s_goto (jx_dc dd_97 38 rfl) rfl) ?_
  refine jx_ac (s_iconst (jx_dc dd_97 39 rfl) rfl) ?_
  exact jx_an
theorem A_97_1 : jx_All (jx_mk D c0 c1 c2 c3 c4 H0 ga L xs) jx_mt md_97 K_97_1 := by
  refine jx_ac (s_putf kk_6 (k := 31) (Nat.le_of_ble_eq_true rfl) (jx_dc dd_97 40 rfl) (fun _ h => jx_okZ_n _ h) rfl w_487) ?_
  refine jx_ac (s_aload_n (jx_dc dd_97 41 rfl) rfl) ?_
  refine jx_ac (s_getf kk_6 (k := 31) (Nat.le_of_ble_eq_true rfl) (jx_dc dd_97 42 rfl) w_487) ?_
  refine jx_ac (s_ifeq (jx_dc dd_97 43 rfl) rfl) ?_
  refine jx_ac (s_aload_n (jx_dc dd_97 44 rfl) rfl) ?_
  refine jx_ac (s_callv (ce := 98) kk_6 mc_98 (jx_dc dd_97 45 rfl) w_488 w_489 w_490 ⟨by decide, by decide⟩ np_98) ?_
  refine jx_ac (s_aload_n (jx_dc dd_97 46 rfl) rfl) ?_
  refine jx_ac (s_iload_n (jx_dc dd_97 47 rfl) rfl) ?_
  refine jx_ac (s_ifne (jx_dc dd_97 48 rfl) rfl) ?_
  refine jx_ac (s_iconst (jx_dc dd_97 49 rfl) rfl) ?_
  refine jx_ac (s_goto (jx_dc dd_97 50 rfl) rfl) ?_
  refine jx_ac (s_aload_n (jx_dc dd_97 51 rfl) rfl) ?_
  refine jx_ac (s_getf kk_6 (k := 29) (Nat.le_of_ble_eq_true rfl) (jx_dc dd_97 52 rfl) w_485) ?_
  refine jx_ac (s_putf kk_6 (k := 29) (Nat.le_of_ble_eq_true rfl) (jx_dc dd_97 53 rfl) (fun _ h => jx_okI_n _ h) rfl w_485) ?_
  refine jx_ac (s_iload_n (jx_dc dd_97 54 rfl) rfl) ?_
  refine jx_ac (s_ifne (jx_dc dd_97 55 rfl) rfl) ?_
  refine jx_ac (s_iconst (jx_dc dd_97 56 rfl) rfl) ?_
  refine jx_ac (s_goto (jx_dc dd_97 57 rfl) rfl) ?_
  refine jx_ac (s_iconst (jx_dc dd_97 58 rfl) rfl) ?_
  refine jx_ac (s_zret rfl (jx_dc dd_97 59 rfl)) ?_
  exact jx_an
theorem A_97 : jx_All (jx_mk D c0 c1 c2 c3 c4 H0 ga L xs) jx_mt md_97 K_97 := (jx_aa A_97_0 A_97_1)
def dl_98 : List (Nat × Instr × Nat) := [(0, .aload_n 0, 1), (1, .getfield 179, 3), (4, .iconst 1, 1), (5, .if_icmp .ne 168, 3), (8, .aload_n 0, 1), (9, .getfield 44, 3), (12, .aload_n 0, 1), (13, .getfield 169, 3), (16, .aload_n 0, 1), (17, .getfield 182, 3), (20, .iastore, 1), (21, .aload_n 0, 1), (22, .aload_n 0, 1), (23, .getfield 182, 3), (26, .putfield 185, 3), (29, .aload_n 0, 1), (30, .getfield 47, 3), (33, .aload_n 0, 1), (34, .getfield 169, 3), (37, .aload_n 0, 1), (38, .getfield 176, 3), (41, .iastore, 1), (42, .iconst 0, 1), (43, .istore_n 1, 1), (44, .iload_n 1, 1), (45, .aload_n 0, 1), (46, .getfield 176, 3), (49, .if_icmp .ge 113, 3), (52, .bipush 10, 2), (54, .aload_n 0, 1), (55, .getfield 169, 3), (58, .imul, 1), (59, .iload_n 1, 1), (60, .iadd, 1), (61, .istore_n 2, 1), (62, .aload_n 0, 1), (63, .getfield 50, 3), (66, .iload_n 2, 1), (67, .aload_n 0, 1), (68, .getfield 71, 3), (71, .iload_n 1, 1), (72, .iaload, 1), (73, .iastore, 1), (74, .aload_n 0, 1), (75, .getfield 53, 3), (78, .iload_n 2, 1), (79, .aload_n 0, 1), (80, .getfield 74, 3), (83, .iload_n 1, 1), (84, .baload, 1), (85, .bastore, 1), (86, .aload_n 0, 1), (87, .getfield 56, 3), (90, .iload_n 2, 1), (91, .aload_n 0, 1), (92, .getfield 77, 3), (95, .iload_n 1, 1), (96, .iaload, 1), (97, .iastore, 1), (98, .aload_n 0, 1), (99, .getfield 59, 3), (102, .iload_n 2, 1), (103, .aload_n 0, 1), (104, .getfield 80, 3), (107, .iload_n 1, 1), (108, .iaload, 1), (109, .iastore, 1), (110, .iconst 0, 1), (111, .istore_n 3, 1), (112, .iload_n 3, 1), (113, .aload_n 0, 1), (114, .getfield 176, 3), (117, .if_icmp .ge 39, 3), (120, .aload_n 0, 1), (121, .getfield 62, 3), (124, .bipush 100, 2), (126, .aload_n 0, 1), (127, .getfield 169, 3), (130, .imul, 1), (131, .bipush 10, 2), (133, .iload_n 1, 1), (134, .imul, 1), (135, .iadd, 1), (136, .iload_n 3, 1), (137, .iadd, 1), (138, .aload_n 0, 1), (139, .getfield 83, 3), (142, .bipush 10, 2), (144, .iload_n 1, 1), (145, .imul, 1), (146, .iload_n 3, 1), (147, .iadd, 1), (148, .iaload, 1), (149, .iastore, 1), (150, .iinc 3 1, 3), (153, .goto (-41), 3), (156, .iinc 1 1, 3), (159, .goto (-115), 3), (162, .aload_n 0, 1), (163, .dup, 1), (164, .getfield 169, 3), (167, .iconst 1, 1), (168, .iadd, 1), (169, .putfield 169, 3), (172, .return_, 1), (173, .aload_n 0, 1), (174, .aload_n 0, 1), (175, .getfield 182, 3), (178, .invokevirtual 188, 3), (181, .istore_n 1, 1), (182, .aload_n 0, 1), (183, .dup, 1), (184, .getfield 169, 3), (187, .iconst 1, 1), (188, .isub, 1), (189, .putfield 169, 3), (192, .iload_n 1, 1), (193, .istore_n 2, 1), (194, .iload_n 2, 1), (195, .aload_n 0, 1), (196, .getfield 169, 3), (199, .if_icmp .ge 17, 3), (202, .aload_n 0, 1), (203, .iload_n 2, 1), (204, .iconst 1, 1), (205, .iadd, 1), (206, .iload_n 2, 1), (207, .invokevirtual 191, 3), (210, .iinc 2 1, 3), (213, .goto (-19), 3), (216, .return_, 1)]
theorem dd_98 : ∀ q ∈ dl_98, decode prog_9_method_28_code q.1 = .ok q.2 := by decide +kernel
theorem A_98_0 : jx_All (jx_mk D c0 c1 c2 c3 c4 H0 ga L xs) jx_mt md_98 K_98_0 := by
  refine jx_ac (s_aload_n (jx_dc dd_98 0 rfl) rfl) ?_
  refine jx_ac (s_getf kk_6 (k := 29) (Nat.le_of_ble_eq_true rfl) (jx_dc dd_98 1 rfl) w_485) ?_
  refine jx_ac (s_iconst (jx_dc dd_98 2 rfl) rfl) ?_
  refine jx_ac (s_ine (jx_dc dd_98 3 rfl) rfl) ?_
  refine jx_ac (s_aload_n (jx_dc dd_98 4 rfl) rfl) ?_
  refine jx_ac (s_getf kk_6 (k := 18) (Nat.le_of_ble_eq_true rfl) (jx_dc dd_98 5 rfl) w_389) ?_
  refine jx_ac (s_aload_n (jx_dc dd_98 6 rfl) rfl) ?_
  refine jx_ac (s_getf kk_6 (k := 16) (Nat.le_of_ble_eq_true rfl) (jx_dc dd_98 7 rfl) w_416) ?_
  refine jx_ac (s_aload_n (jx_dc dd_98 8 rfl) rfl) ?_
  refine jx_ac (s_getf kk_6 (k := 30) (Nat.le_of_ble_eq_true rfl) (jx_dc dd_98 9 rfl) w_486) ?_
  refine jx_ac (s_iast rfl (jx_dc dd_98 10 rfl)) ?_
  refine jx_ac (s_aload_n (jx_dc dd_98 11 rfl) rfl) ?_
  refine jx_ac (s_aload_n (jx_dc dd_98 12 rfl) rfl) ?_
  refine jx_ac (s_getf kk_6 (k := 30) (Nat.le_of_ble_eq_true rfl) (jx_dc dd_98 13 rfl) w_486) ?_
  refine jx_ac (s_putf kk_6 (k := 17) (Nat.le_of_ble_eq_true rfl) (jx_dc dd_98 14 rfl) (fun _ h => jx_okI_n _ h) rfl w_420) ?_
  refine jx_ac (s_aload_n (jx_dc dd_98 15 rfl) rfl) ?_
  refine jx_ac (s_getf kk_6 (k := 19) (Nat.le_of_ble_eq_true rfl) (jx_dc dd_98 16 rfl) w_390) ?_
  refine jx_ac (s_aload_n (jx_dc dd_98 17 rfl) rfl) ?_
  refine jx_ac (s_getf kk_6 (k := 16) (Nat.le_of_ble_eq_true rfl) (jx_dc dd_98 18 rfl) w_416) ?_
  refine jx_ac (s_aload_n (jx_dc dd_98 19 rfl) rfl) ?_
  refine jx_ac (s_getf kk_6 (k := 32) (Nat.le_of_ble_eq_true rfl) (jx_dc dd_98 20 rfl) w_482) ?_
  refine jx_ac (s_iast rfl (jx_dc dd_98 21 rfl)) ?_
  refine jx_ac (s_iconst (jx_dc dd_98 22 rfl) rfl) ?_
  refine jx_ac (s_istore_n (jx_dc dd_98 23 rfl) rfl) ?_
  refine jx_ac (s_iload_n (jx_dc dd_98 24 rfl) rfl) ?_
  refine jx_ac (s_aload_n (jx_dc dd_98 25 rfl) rfl) ?_
  refine jx_ac (s_getf kk_6 (k := 32) (Nat.le_of_ble_eq_true rfl) (jx_dc dd_98 26 rfl) w_482) ?_
  refine jx_ac (s_ige (jx_dc dd_98 27 rfl) rfl) ?_
  refine jx_ac (s_bipush (jx_dc dd_98 28 rfl) rfl) ?_
  refine jx_ac (s_aload_n (jx_dc dd_98 29 rfl) rfl) ?_
  refine jx_ac (s_getf kk_6 (k := 16) (Nat.le_of_ble_eq_true rfl) (jx_dc dd_98 30 rfl) w_416) ?_
  refine jx_ac (s_imul (jx_dc dd_98 31 rfl)) ?_
  refine jx_ac (s_iload_n (jx_dc dd_98 32 rfl) rfl) ?_
  refine jx_ac (s_iadd (jx_dc dd_98 33 rfl)) ?_
  refine jx_ac (s_istore_n (jx_dc dd_98 34 rfl) rfl) ?_
  refine jx_ac (s_aload_n (jx_dc dd_98 35 rfl) rfl) ?_
  refine jx_ac (s_getf kk_6 (k := 20) (Nat.le_of_ble_eq_true rfl) (jx_dc dd_98 36 rfl) w_391) ?_
  refine jx_ac (s_iload_n (jx_dc dd_98 37 rfl) rfl) ?_
  refine jx_ac (s_aload_n (jx_dc dd_98 38 rfl) rfl) ?_
  refine jx_ac (s_getf kk_6 (k := 33) (Nat.le_of_ble_eq_true rfl) (jx_dc dd_98 39 rfl) w_398) ?_
  exact jx_an
theorem A_98_1 : jx_All (jx_mk D c0 c1 c2 c3 c4 H0 ga L xs) jx_mt md_98 K_98_1 := by
  refine jx_ac (s_iload_n (jx_dc dd_98 40 rfl) rfl) ?_
  refine jx_ac (s_iald rfl (jx_dc dd_98 41 rfl)) ?_
  refine jx_ac (s_iast rfl (jx_dc dd_98 42 rfl)) ?_
  refine jx_ac (s_aload_n (jx_dc dd_98 43 rfl) rfl) ?_
  refine jx_ac (s_getf kk_6 (k := 21) (Nat.le_of_ble_eq_true rfl) (jx_dc dd_98 44 rfl) w_392) ?_
  refine jx_ac (s_iload_n (jx_dc dd_98 45 rfl) rfl) ?_
  refine jx_ac (s_aload_n (jx_dc dd_98 46 rfl) rfl) ?_
  refine jx_ac (s_getf kk_6 (k := 34) (Nat.le_of_ble_eq_true rfl) (jx_dc dd_98 47 rfl) w_399) ?_
  refine jx_ac (s_iload_n (jx_dc dd_98 48 rfl) rfl) ?_
  refine jx_ac (s_zald rfl (jx_dc dd_98 49 rfl)) ?_
  refine jx_ac (s_zast rfl (jx_dc dd_98 50 rfl)) ?_
  refine jx_ac (s_aload_n (jx_dc dd_98 51 rfl) rfl) ?_
  refine jx_ac (s_getf kk_6 (k := 22) (Nat.le_of_ble_eq_true rfl) (jx_dc dd_98 52 rfl) w_393) ?_
  refine jx_ac (s_iload_n (jx_dc dd_98 53 rfl) rfl) ?_
  refine jx_ac (s_aload_n (jx_dc dd_98 54 rfl) rfl) ?_
  refine jx_ac (s_getf kk_6 (k := 35) (Nat.le_of_ble_eq_true rfl) (jx_dc dd_98 55 rfl) w_400) ?_
  refine jx_ac (s_iload_n (jx_dc dd_98 56 rfl) rfl) ?_
  refine jx_ac (s_iald rfl (jx_dc dd_98 57 rfl)) ?_
  refine jx_ac (s_iast rfl (jx_dc dd_98 58 rfl)) ?_
  refine jx_ac (s_aload_n (jx_dc dd_98 59 rfl) rfl) ?_
  refine jx_ac (s_getf kk_6 (k := 23) (Nat.le_of_ble_eq_true rfl) (jx_dc dd_98 60 rfl) w_394) ?_
  refine jx_ac (s_iload_n (jx_dc dd_98 61 rfl) rfl) ?_
  refine jx_ac (s_aload_n (jx_dc dd_98 62 rfl) rfl) ?_
  refine jx_ac (s_getf kk_6 (k := 36) (Nat.le_of_ble_eq_true rfl) (jx_dc dd_98 63 rfl) w_401) ?_
  refine jx_ac (s_iload_n (jx_dc dd_98 64 rfl) rfl) ?_
  refine jx_ac (s_iald rfl (jx_dc dd_98 65 rfl)) ?_
  refine jx_ac (s_iast rfl (jx_dc dd_98 66 rfl)) ?_
  refine jx_ac (s_iconst (jx_dc dd_98 67 rfl) rfl) ?_
  refine jx_ac (s_istore_n (jx_dc dd_98 68 rfl) rfl) ?_
  refine jx_ac (s_iload_n (jx_dc dd_98 69 rfl) rfl) ?_
  refine jx_ac (s_aload_n (jx_dc dd_98 70 rfl) rfl) ?_
  refine jx_ac (s_getf kk_6 (k := 32) (Nat.le_of_ble_eq_true rfl) (jx_dc dd_98 71 rfl) w_482) ?_
  refine jx_ac (s_ige (jx_dc dd_98 72 rfl) rfl) ?_
  refine jx_ac (s_aload_n (jx_dc dd_98 73 rfl) rfl) ?_
  refine jx_ac (s_getf kk_6 (k := 24) (Nat.le_of_ble_eq_true rfl) (jx_dc dd_98 74 rfl) w_395) ?_
  refine jx_ac (s_bipush (jx_dc dd_98 75 rfl) rfl) ?_
  refine jx_ac (s_aload_n (jx_dc dd_98 76 rfl) rfl) ?_
  refine jx_ac (s_getf kk_6 (k := 16) (Nat.le_of_ble_eq_true rfl) (jx_dc dd_98 77 rfl) w_416) ?_
  refine jx_ac (s_imul (jx_dc dd_98 78 rfl)) ?_
  refine jx_ac (s_bipush (jx_dc dd_98 79 rfl) rfl) ?_
  exact jx_an
theorem A_98_2 : jx_All (jx_mk D c0 c1 c2 c3 c4 H0 ga L xs) jx_mt md_98 K_98_2 := by
  refine jx_ac (s_iload_n (jx_dc dd_98 80 rfl) rfl) ?_
  refine jx_ac (s_imul (jx_dc dd_98 81 rfl)) ?_
  refine jx_ac (s_iadd (jx_dc dd_98 82 rfl)) ?_
  refine jx_ac (s_iload_n (jx_dc dd_98 83 rfl) rfl) ?_
  refine jx_ac (s_iadd (jx_dc dd_98 84 rfl)) ?_
  refine jx_ac (s_aload_n (jx_dc dd_98 85 rfl) rfl) ?_
  refine jx_ac (s_getf kk_6 (k := 37) (Nat.le_of_ble_eq_true rfl) (jx_dc dd_98 86 rfl) w_402) ?_
  refine jx_ac (s_bipush (jx_dc dd_98 87 rfl) rfl) ?_
  refine jx_ac (s_iload_n (jx_dc dd_98 88 rfl) rfl) ?_
  refine jx_ac (s_imul (jx_dc dd_98 89 rfl)) ?_
  refine jx_ac (s_iload_n (jx_dc dd_98 90 rfl) rfl) ?_
  refine jx_ac (s_iadd (jx_dc dd_98 91 rfl)) ?_
  refine jx_ac (s_iald rfl (jx_dc dd_98 92 rfl)) ?_
  refine jx_ac (s_iast rfl (jx_dc dd_98 93 rfl)) ?_
  refine jx_ac (s_iinc (jx_dc dd_98 94 rfl) rfl) ?_
  refine jx_ac (s_goto (jx_dc dd_98 95 rfl) rfl) ?_
  refine jx_ac (s_iinc (jx_dc dd_98 96 rfl) rfl) ?_
  refine jx_ac (s_goto (jx_dc dd_98 97 rfl) rfl) ?_
  refine jx_ac (s_aload_n (jx_dc dd_98 98 rfl) rfl) ?_
  refine jx_ac (s_dup (jx_dc dd_98 99 rfl)) ?_
  refine jx_ac (s_getf kk_6 (k := 16) (Nat.le_of_ble_eq_true rfl) (jx_dc dd_98 100 rfl) w_416) ?_
  refine jx_ac (s_iconst (jx_dc dd_98 101 rfl) rfl) ?_
  refine jx_ac (s_iadd (jx_dc dd_98 102 rfl)) ?_
  refine jx_ac (s_putf kk_6 (k := 16) (Nat.le_of_ble_eq_true rfl) (jx_dc dd_98 103 rfl) (fun _ h => jx_okI_n _ h) rfl w_416) ?_
  refine jx_ac (s_ret rfl (jx_dc dd_98 104 rfl)) ?_
  refine jx_ac (s_aload_n (jx_dc dd_98 105 rfl) rfl) ?_
  refine jx_ac (s_aload_n (jx_dc dd_98 106 rfl) rfl) ?_
  refine jx_ac (s_getf kk_6 (k := 30) (Nat.le_of_ble_eq_true rfl) (jx_dc dd_98 107 rfl) w_486) ?_
  refine jx_ac (s_callv (ce := 99) kk_6 mc_99 (jx_dc dd_98 108 rfl) w_491 w_492 w_493 ⟨by decide, by decide⟩ np_99) ?_
  refine jx_ac (s_istore_n (jx_dc dd_98 109 rfl) rfl) ?_
  refine jx_ac (s_aload_n (jx_dc dd_98 110 rfl) rfl) ?_
  refine jx_ac (s_dup (jx_dc dd_98 111 rfl)) ?_
  refine jx_ac (s_getf kk_6 (k := 16) (Nat.le_of_ble_eq_true rfl) (jx_dc dd_98 112 rfl) w_416) ?_
  refine jx_ac (s_iconst (jx_dc dd_98 113 rfl) rfl) ?_
  refine jx_ac (s_isub (jx_dc dd_98 114 rfl)) ?_
  refine jx_ac (s_putf kk_6 (k := 16) (Nat.le_of_ble_eq_true rfl) (jx_dc dd_98 115 rfl) (fun _ h => jx_okI_n _ h) rfl w_416) ?_
  refine jx_ac (s_iload_n (jx_dc dd_98 116 rfl) rfl) ?_
  refine jx_ac (s_istore_n (jx_dc dd_98 117 rfl) rfl) ?_
  refine jx_ac (s_iload_n (jx_dc dd_98 118 rfl) rfl) ?_
  refine jx_ac (s_aload_n (jx_dc dd_98 119 rfl) rfl) ?_
  exact jx_an
theorem A_98_3 : jx_All (jx_mk D c0 c1 c2 c3 c4 H0 ga L xs) jx_mt md_98 K_98_3 := by
  refine jx_ac (s_getf kk_6 (k := 16) (Nat.le_of_ble_eq_true rfl) (jx_dc dd_98 120 rfl) w_416) ?_
  refine jx_ac (s_ige (jx_dc dd_98 121 rfl) rfl) ?_
  refine jx_ac (s_aload_n (jx_dc dd_98 122 rfl) rfl) ?_
  refine jx_ac (s_iload_n (jx_dc dd_98 123 rfl) rfl) ?_
  refine jx_ac (s_iconst (jx_dc dd_98 124 rfl) rfl) ?_
  refine jx_ac (s_iadd (jx_dc dd_98 125 rfl)) ?_
  refine jx_ac (s_iload_n (jx_dc dd_98 126 rfl) rfl) ?_
  refine jx_ac (s_callv (ce := 100) kk_6 mc_100 (jx_dc dd_98 127 rfl) w_494 w_495 w_496 ⟨by decide, by decide⟩ np_100) ?_
  refine jx_ac (s_iinc (jx_dc dd_98 128 rfl) rfl) ?_
  refine jx_ac (s_goto (jx_dc dd_98 129 rfl) rfl) ?_
  refine jx_ac (s_ret rfl (jx_dc dd_98 130 rfl)) ?_
  exact jx_an
theorem A_98 : jx_All (jx_mk D c0 c1 c2 c3 c4 H0 ga L xs) jx_mt md_98 K_98 := (jx_aa A_98_0 (jx_aa A_98_1 (jx_aa A_98_2 A_98_3)))
def dl_99 : List (Nat × Instr × Nat) := [(0, .iconst 0, 1), (1, .istore_n 2, 1), (2, .iload_n 2, 1), (3, .aload_n 0, 1), (4, .getfield 169, 3), (7, .if_icmp .ge 21, 3), (10, .aload_n 0, 1), (11, .getfield 44, 3), (14, .iload_n 2, 1), (15, .iaload, 1), (16, .iload_n 1, 1), (17, .if_icmp .ne 5, 3), (20, .iload_n 2, 1), (21, .ireturn, 1), (22, .iinc 2 1, 3), (25, .goto (-23), 3), (28, .iconst (-1), 1), (29, .ireturn, 1)]
theorem dd_99 : ∀ q ∈ dl_99, decode prog_9_method_31_code q.1 = .ok q.2 := by decide +kernel
theorem A_99_0 : jx_All (jx_mk D c0 c1 c2 c3 c4 H0 ga L xs) jx_mt md_99 K_99_0 := by
  refine jx_ac (s_iconst (jx_dc dd_99 0 rfl) rfl) ?_
  refine jx_ac (s_istore_n (jx_dc dd_99 1 rfl) rfl) ?_
  refine jx_ac (s_iload_n (jx_dc dd_99 2 rfl) rfl) ?_
  refine jx_ac (s_aload_n (jx_dc dd_99 3 rfl) rfl) ?_
  refine jx_ac (s_getf kk_6 (k := 16) (Nat.le_of_ble_eq_true rfl) (jx_dc dd_99 4 rfl) w_416) ?_
  refine jx_ac (s_ige (jx_dc dd_99 5 rfl) rfl) ?_
  refine jx_ac (s_aload_n (jx_dc dd_99 6 rfl) rfl) ?_
  refine jx_ac (s_getf kk_6 (k := 18) (Nat.le_of_ble_eq_true rfl) (jx_dc dd_99 7 rfl) w_389) ?_
  refine jx_ac (s_iload_n (jx_dc dd_99 8 rfl) rfl) ?_
  refine jx_ac (s_iald rfl (jx_dc dd_99 9 rfl)) ?_
  refine jx_ac (s_iload_n (jx_dc dd_99 10 rfl) rfl) ?_
  refine jx_ac (s_ine (jx_dc dd_99 11 rfl) rfl) ?_
  refine jx_ac (s_iload_n (jx_dc dd_99 12 rfl) rfl) ?_
  refine jx_ac (s_iret rfl (jx_dc dd_99 13 rfl)) ?_
  refine jx_ac (s_iinc (jx_dc dd_99 14 rfl) rfl) ?_
  refine jx_ac (s_goto (jx_dc dd_99 15 rfl) rfl) ?_
  refine jx_ac (s_iconst (jx_dc dd_99 16 rfl) rfl) ?_
  refine jx_ac (s_iret rfl (jx_dc dd_99 17 rfl)) ?_
  exact jx_an
theorem A_99 : jx_All (jx_mk D c0 c1 c2 c3 c4 H0 ga L xs) jx_mt md_99 K_99 :=  A_99_0
def dl_100 : List (Nat × Instr × Nat) := [(0, .aload_n 0, 1), (1, .getfield 44, 3), (4, .iload_n 2, 1), (5, .aload_n 0, 1), (6, .getfield 44, 3), (9, .iload_n 1, 1), (10, .iaload, 1), (11, .iastore, 1), (12, .aload_n 0, 1), (13, .getfield 47, 3), (16, .iload_n 2, 1), (17, .aload_n 0, 1), (18, .getfield 47, 3), (21, .iload_n 1, 1), (22, .iaload, 1), (23, .iastore, 1), (24, .iconst 0, 1), (25, .istore_n 3, 1), (26, .iload_n 3, 1), (27, .bipush 10, 2), (29, .if_icmp .ge 97, 3), (32, .aload_n 0, 1), (33, .getfield 50, 3), (36, .bipush 10, 2), (38, .iload_n 2, 1), (39, .imul, 1), (40, .iload_n 3, 1), (41, .iadd, 1), (42, .aload_n 0, 1), (43, .getfield 50, 3), (46, .bipush 10, 2), (48, .iload_n 1, 1), (49, .imul, 1), (50, .iload_n 3, 1), (51, .iadd, 1), (52, .iaload, 1), (53, .iastore, 1), (54, .aload_n 0, 1), (55, .getfield 53, 3), (58, .bipush 10, 2), (60, .iload_n 2, 1), (61, .imul, 1), (62, .iload_n 3, 1), (63, .iadd, 1), (64, .aload_n 0, 1), (65, .getfield 53, 3), (68, .bipush 10, 2), (70, .iload_n 1, 1), (71, .imul, 1), (72, .iload_n 3, 1), (73, .iadd, 1), (74, .baload, 1), (75, .bastore, 1), (76, .aload_n 0, 1), (77, .getfield 56, 3), (80, .bipush 10, 2), (82, .iload_n 2, 1), (83, .imul, 1), (84, .iload_n 3, 1), (85, .iadd, 1), (86, .aload_n 0, 1), (87, .getfield 56, 3), (90, .bipush 10, 2), (92, .iload_n 1, 1), (93, .imul, 1), (94, .iload_n 3, 1), (95, .iadd, 1), (96, .iaload, 1), (97, .iastore, 1), (98, .aload_n 0, 1), (99, .getfield 59, 3), (102, .bipush 10, 2), (104, .iload_n 2, 1), (105, .imul, 1), (106, .iload_n 3, 1), (107, .iadd, 1), (108, .aload_n 0, 1), (109, .getfield 59, 3), (112, .bipush 10, 2), (114, .iload_n 1, 1), (115, .imul, 1), (116, .iload_n 3, 1), (117, .iadd, 1), (118, .iaload, 1), (119, .iastore, 1), (120, .iinc 3 1, 3), (123, .goto (-97), 3), (126, .iconst 0, 1), (127, .istore_n 3, 1), (128, .iload_n 3, 1), (129, .bipush 100, 2), (131, .if_icmp .ge 31, 3), (134, .aload_n 0, 1), (135, .getfield 62, 3), (138, .bipush 100, 2), (140, .iload_n 2, 1), (141, .imul, 1), (142, .iload_n 3, 1), (143, .iadd, 1), (144, .aload_n 0, 1), (145, .getfield 62, 3), (148, .bipush 100, 2), (150, .iload_n 1, 1), (151, .imul, 1), (152, .iload_n 3, 1), (153, .iadd, 1), (154, .iaload, 1), (155, .iastore, 1), (156, .iinc 3 1, 3), (159, .goto (-31), 3), (162, .return_, 1)]
theorem dd_100 : ∀ q ∈ dl_100, decode prog_9_method_29_code q.1 = .ok q.2 := by decide +kernel
theorem A_100_0 : jx_All (jx_mk D c0 c1 c2 c3 c4 H0 ga L xs) jx_mt md_100 K_100_0 := by
  refine jx_ac (s_aload_n (jx_dc dd_100 0 rfl) rfl) ?_
  refine jx_ac (s_getf kk_6 (k := 18) (Nat.le_of_ble_eq_true rfl) (jx_dc dd_100 1 rfl) w_389) ?_
  refine jx_ac (s_iload_n (jx_dc dd_100 2 rfl) rfl) ?_
  refine jx_ac (s_aload_n (jx_dc dd_100 3 rfl) rfl) ?_
  refine jx_ac (s_getf kk_6 (k := 18) (Nat.le_of_ble_eq_true rfl) (jx_dc dd_100 4 rfl) w_389) ?_
  refine jx_ac (s_iload_n (jx_dc dd_100 5 rfl) rfl) ?_
  refine jx_ac (s_iald rfl (jx_dc dd_100 6 rfl)) ?_
  refine jx_ac (s_iast rfl (jx_dc dd_100 7 rfl)) ?_
  refine jx_ac (s_aload_n (jx_dc dd_100 8 rfl) rfl) ?_
  refine jx_ac (s_getf kk_6 (k := 19) (Nat.le_of_ble_eq_true rfl) (jx_dc dd_100 9 rfl) w_390) ?_
  refine jx_ac (s_iload_n (jx_dc dd_100 10 rfl) rfl) ?_
  refine jx_ac (s_aload_n (jx_dc dd_100 11 rfl) rfl) ?_
  refine jx_ac (s_getf kk_6 (k := 19) (Nat.le_of_ble_eq_true rfl) (jx_dc dd_100 12 rfl) w_390) ?_
  refine jx_ac (s_iload_n (jx_dc dd_100 13 rfl) rfl) ?_
  refine jx_ac (s_iald rfl (jx_dc dd_100 14 rfl)) ?_
  refine jx_ac (s_iast rfl (jx_dc dd_100 15 rfl)) ?_
  refine jx_ac (s_iconst (jx_dc dd_100 16 rfl) rfl) ?_
  refine jx_ac (s_istore_n (jx_dc dd_100 17 rfl) rfl) ?_
  refine jx_ac (s_iload_n (jx_dc dd_100 18 rfl) rfl) ?_
  refine jx_ac (s_bipush (jx_dc dd_100 19 rfl) rfl) ?_
  refine jx_ac (s_ige (jx_dc dd_100 20 rfl) rfl) ?_
  refine jx_ac (s_aload_n (jx_dc dd_100 21 rfl) rfl) ?_
  refine jx_ac (s_getf kk_6 (k := 20) (Nat.le_of_ble_eq_true rfl) (jx_dc dd_100 22 rfl) w_391) ?_
  refine jx_ac (s_bipush (jx_dc dd_100 23 rfl) rfl) ?_
  refine jx_ac (s_iload_n (jx_dc dd_100 24 rfl) rfl) ?_
  refine jx_ac (s_imul (jx_dc dd_100 25 rfl)) ?_
  refine jx_ac (s_iload_n (jx_dc dd_100 26 rfl) rfl) ?_
  refine jx_ac (s_iadd (jx_dc dd_100 27 rfl)) ?_
  refine jx_ac (s_aload_n (jx_dc dd_100 28 rfl) rfl) ?_
  refine jx_ac (s_getf kk_6 (k := 20) (Nat.le_of_ble_eq_true rfl) (jx_dc dd_100 29 rfl) w_391) ?_
  refine jx_ac (s_bipush (jx_dc dd_100 30 rfl) rfl) ?_
  refine jx_ac (s_iload_n (jx_dc dd_100 31 rfl) rfl) ?_
  refine jx_ac (s_imul (jx_dc dd_100 32 rfl)) ?_
  refine jx_ac (s_iload_n (jx_dc dd_100 33 rfl) rfl) ?_
  refine jx_ac (s_iadd (jx_dc dd_100 34 rfl)) ?_
  refine jx_ac (s_iald rfl (jx_dc dd_100 35 rfl)) ?_
  refine jx_ac (s_iast rfl (jx_dc dd_100 36 rfl)) ?_
  refine jx_ac (s_aload_n (jx_dc dd_100 37 rfl) rfl) ?_
  refine jx_ac (s_getf kk_6 (k := 21) (Nat.le_of_ble_eq_true rfl) (jx_dc dd_100 38 rfl) w_392) ?_
  refine jx_ac (s_bipush (jx_dc dd_100 39 rfl) rfl) ?_
  exact jx_an
theorem A_100_1 : jx_All (jx_mk D c0 c1 c2 c3 c4 H0 ga L xs) jx_mt md_100 K_100_1 := by
  refine jx_ac (s_iload_n (jx_dc dd_100 40 rfl) rfl) ?_
  refine jx_ac (s_imul (jx_dc dd_100 41 rfl)) ?_
  refine jx_ac (s_iload_n (jx_dc dd_100 42 rfl) rfl) ?_
  refine jx_ac (s_iadd (jx_dc dd_100 43 rfl)) ?_
  refine jx_ac (s_aload_n (jx_dc dd_100 44 rfl) rfl) ?_
  refine jx_ac (s_getf kk_6 (k := 21) (Nat.le_of_ble_eq_true rfl) (jx_dc dd_100 45 rfl) w_392) ?_
  refine jx_ac (s_bipush (jx_dc dd_100 46 rfl) rfl) ?_
  refine jx_ac (s_iload_n (jx_dc dd_100 47 rfl) rfl) ?_
  refine jx_ac (s_imul (jx_dc dd_100 48 rfl)) ?_
  refine jx_ac (s_iload_n (jx_dc dd_100 49 rfl) rfl) ?_
  refine jx_ac (s_iadd (jx_dc dd_100 50 rfl)) ?_
  refine jx_ac (s_zald rfl (jx_dc dd_100 51 rfl)) ?_
  refine jx_ac (s_zast rfl (jx_dc dd_100 52 rfl)) ?_
  refine jx_ac (s_aload_n (jx_dc dd_100 53 rfl) rfl) ?_
  refine jx_ac (s_getf kk_6 (k := 22) (Nat.le_of_ble_eq_true rfl) (jx_dc dd_100 54 rfl) w_393) ?_
  refine jx_ac (s_bipush (jx_dc dd_100 55 rfl) rfl) ?_
  refine jx_ac (s_iload_n (jx_dc dd_100 56 rfl) rfl) ?_
  refine jx_ac (s_imul (jx_dc dd_100 57 rfl)) ?_
  refine jx_ac (s_iload_n (jx_dc dd_100 58 rfl) rfl) ?_
  refine jx_ac (s_iadd (jx_dc dd_100 59 rfl)) ?_
  refine jx_ac (s_aload_n (jx_dc dd_100 60 rfl) rfl) ?_
  refine jx_ac (s_getf kk_6 (k := 22) (Nat.le_of_ble_eq_true rfl) (jx_dc dd_100 61 rfl) w_393) ?_
  refine jx_ac (s_bipush (jx_dc dd_100 62 rfl) rfl) ?_
  refine jx_ac (s_iload_n (jx_dc dd_100 63 rfl) rfl) ?_
  refine jx_ac (s_imul (jx_dc dd_100 64 rfl)) ?_
  refine jx_ac (s_iload_n (jx_dc dd_100 65 rfl) rfl) ?_
  refine jx_ac (s_iadd (jx_dc dd_100 66 rfl)) ?_
  refine jx_ac (s_iald rfl (jx_dc dd_100 67 rfl)) ?_
  refine jx_ac (s_iast rfl (jx_dc dd_100 68 rfl)) ?_
  refine jx_ac (s_aload_n (jx_dc dd_100 69 rfl) rfl) ?_
  refine jx_ac (s_getf kk_6 (k := 23) (Nat.le_of_ble_eq_true rfl) (jx_dc dd_100 70 rfl) w_394) ?_
  refine jx_ac (s_bipush (jx_dc dd_100 71 rfl) rfl) ?_
  refine jx_ac (s_iload_n (jx_dc dd_100 72 rfl) rfl) ?_
  refine jx_ac (s_imul (jx_dc dd_100 73 rfl)) ?_
  refine jx_ac (s_iload_n (jx_dc dd_100 74 rfl) rfl) ?_
  refine jx_ac (s_iadd (jx_dc dd_100 75 rfl)) ?_
  refine jx_ac (s_aload_n (jx_dc dd_100 76 rfl) rfl) ?_
  refine jx_ac (s_getf kk_6 (k := 23) (Nat.le_of_ble_eq_true rfl) (jx_dc dd_100 77 rfl) w_394) ?_
  refine jx_ac (s_bipush (jx_dc dd_100 78 rfl) rfl) ?_
  refine jx_ac (s_iload_n (jx_dc dd_100 79 rfl) rfl) ?_
  exact jx_an
theorem A_100_2 : jx_All (jx_mk D c0 c1 c2 c3 c4 H0 ga L xs) jx_mt md_100 K_100_2 := by
  refine jx_ac (s_imul (jx_dc dd_100 80 rfl)) ?_
  refine jx_ac (s_iload_n (jx_dc dd_100 81 rfl) rfl) ?_
  refine jx_ac (s_iadd (jx_dc dd_100 82 rfl)) ?_
  refine jx_ac (s_iald rfl (jx_dc dd_100 83 rfl)) ?_
  refine jx_ac (s_iast rfl (jx_dc dd_100 84 rfl)) ?_
  refine jx_ac (s_iinc (jx_dc dd_100 85 rfl) rfl) ?_
  refine jx_ac (s_goto (jx_dc dd_100 86 rfl) rfl) ?_
  refine jx_ac (s_iconst (jx_dc dd_100 87 rfl) rfl) ?_
  refine jx_ac (s_istore_n (jx_dc dd_100 88 rfl) rfl) ?_
  refine jx_ac (s_iload_n (jx_dc dd_100 89 rfl) rfl) ?_
  refine jx_ac (s_bipush (jx_dc dd_100 90 rfl) rfl) ?_
  refine jx_ac (s_ige (jx_dc dd_100 91 rfl) rfl) ?_
  refine jx_ac (s_aload_n (jx_dc dd_100 92 rfl) rfl) ?_
  refine jx_ac (s_getf kk_6 (k := 24) (Nat.le_of_ble_eq_true rfl) (jx_dc dd_100 93 rfl) w_395) ?_
  refine jx_ac (s_bipush (jx_dc dd_100 94 rfl) rfl) ?_
  refine jx_ac (s_iload_n (jx_dc dd_100 95 rfl) rfl) ?_
  refine jx_ac (s_imul (jx_dc dd_100 96 rfl)) ?_
  refine jx_ac (s_iload_n (jx_dc dd_100 97 rfl) rfl) ?_
  refine jx_ac (s_iadd (jx_dc dd_100 98 rfl)) ?_
  refine jx_ac (s_aload_n (jx_dc dd_100 99 rfl) rfl) ?_
  refine jx_ac (s_getf kk_6 (k := 24) (Nat.le_of_ble_eq_true rfl) (jx_dc dd_100 100 rfl) w_395) ?_
  refine jx_ac (s_bipush (jx_dc dd_100 101 rfl) rfl) ?_
  refine jx_ac (s_iload_n (jx_dc dd_100 102 rfl) rfl) ?_
  refine jx_ac (s_imul (jx_dc dd_100 103 rfl)) ?_
  refine jx_ac (s_iload_n (jx_dc dd_100 104 rfl) rfl) ?_
  refine jx_ac (s_iadd (jx_dc dd_100 105 rfl)) ?_
  refine jx_ac (s_iald rfl (jx_dc dd_100 106 rfl)) ?_
  refine jx_ac (s_iast rfl (jx_dc dd_100 107 rfl)) ?_
  refine jx_ac (s_iinc (jx_dc dd_100 108 rfl) rfl) ?_
  refine jx_ac (s_goto (jx_dc dd_100 109 rfl) rfl) ?_
  refine jx_ac (s_ret rfl (jx_dc dd_100 110 rfl)) ?_
  exact jx_an
theorem A_100 : jx_All (jx_mk D c0 c1 c2 c3 c4 H0 ga L xs) jx_mt md_100 K_100 := (jx_aa A_100_0 (jx_aa A_100_1 A_100_2))
def dl_101 : List (Nat × Instr × Nat) := [(0, .aload_n 0, 1), (1, .getfield 201, 3), (4, .ifCond .eq 9, 3), (7, .aload_n 0, 1), (8, .iconst 1, 1), (9, .invokevirtual 210, 3), (12, .ireturn, 1), (13, .aload_n 0, 1), (14, .invokevirtual 213, 3), (17, .istore_n 1, 1), (18, .iload_n 1, 1), (19, .ifCond .le 11, 3), (22, .aload_n 0, 1), (23, .iload_n 1, 1), (24, .iconst 1, 1), (25, .iadd, 1), (26, .invokevirtual 210, 3), (29, .ireturn, 1), (30, .aload_n 0, 1), (31, .iconst 0, 1), (32, .putfield 89, 3), (35, .aload_n 0, 1), (36, .iconst 0, 1), (37, .putfield 93, 3), (40, .aload_n 0, 1), (41, .invokevirtual 216, 3), (44, .istore_n 2, 1), (45, .iload_n 2, 1), (46, .ifCond .ge 7, 3), (49, .iconst 0, 1), (50, .goto 9, 3), (53, .aload_n 0, 1), (54, .getfield 44, 3), (57, .iload_n 2, 1), (58, .iaload, 1), (59, .ireturn, 1)]
theorem dd_101 : ∀ q ∈ dl_101, decode prog_9_method_33_code q.1 = .ok q.2 := by decide +kernel
theorem A_101_0 : jx_All (jx_mk D c0 c1 c2 c3 c4 H0 ga L xs) jx_mt md_101 K_101_0 := by
  refine jx_ac (s_aload_n (jx_dc dd_101 0 rfl) rfl) ?_
  refine jx_ac (s_getf kk_6 (k := 28) (Nat.le_of_ble_eq_true rfl) (jx_dc dd_101 1 rfl) w_406) ?_
  refine jx_ac (s_ifeq (jx_dc dd_101 2 rfl) rfl) ?_
  refine jx_ac (s_aload_n (jx_dc dd_101 3 rfl) rfl) ?_
  refine jx_ac (s_iconst (jx_dc dd_101 4 rfl) rfl) ?_
  refine jx_ac (s_callv (ce := 74) kk_6 mc_74 (jx_dc dd_101 5 rfl) w_407 w_408 w_409 ⟨by decide, by decide⟩ np_74) ?_
  refine jx_ac (s_iret rfl (jx_dc dd_101 6 rfl)) ?_
  refine jx_ac (s_aload_n (jx_dc dd_101 7 rfl) rfl) ?_
  refine jx_ac (s_callv (ce := 75) kk_6 mc_75 (jx_dc dd_101 8 rfl) w_410 w_411 w_412 ⟨by decide, by decide⟩ np_75) ?_
  refine jx_ac (s_istore_n (jx_dc dd_101 9 rfl) rfl) ?_
  refine jx_ac (s_iload_n (jx_dc dd_101 10 rfl) rfl) ?_
  refine jx_ac (s_ifle (jx_dc dd_101 11 rfl) rfl) ?_
  refine jx_ac (s_aload_n (jx_dc dd_101 12 rfl) rfl) ?_
  refine jx_ac (s_iload_n (jx_dc dd_101 13 rfl) rfl) ?_
  refine jx_ac (s_iconst (jx_dc dd_101 14 rfl) rfl) ?_
  refine jx_ac (s_iadd (jx_dc dd_101 15 rfl)) ?_
  refine jx_ac (s_callv (ce := 74) kk_6 mc_74 (jx_dc dd_101 16 rfl) w_407 w_408 w_409 ⟨by decide, by decide⟩ np_74) ?_
  refine jx_ac (s_iret rfl (jx_dc dd_101 17 rfl)) ?_
  refine jx_ac (s_aload_n (jx_dc dd_101 18 rfl) rfl) ?_
  refine jx_ac (s_iconst (jx_dc dd_101 19 rfl) rfl) ?_
  refine jx_ac (s_putf kk_6 (k := 0) (Nat.le_of_ble_eq_true rfl) (jx_dc dd_101 20 rfl) (fun _ h => jx_okI_n _ h) rfl w_404) ?_
  refine jx_ac (s_aload_n (jx_dc dd_101 21 rfl) rfl) ?_
  refine jx_ac (s_iconst (jx_dc dd_101 22 rfl) rfl) ?_
  refine jx_ac (s_putf kk_6 (k := 1) (Nat.le_of_ble_eq_true rfl) (jx_dc dd_101 23 rfl) (fun _ h => jx_okI_n _ h) rfl w_405) ?_
  refine jx_ac (s_aload_n (jx_dc dd_101 24 rfl) rfl) ?_
  refine jx_ac (s_callv (ce := 92) kk_6 mc_92 (jx_dc dd_101 25 rfl) w_413 w_414 w_415 ⟨by decide, by decide⟩ np_92) ?_
  refine jx_ac (s_istore_n (jx_dc dd_101 26 rfl) rfl) ?_
  refine jx_ac (s_iload_n (jx_dc dd_101 27 rfl) rfl) ?_
  refine jx_ac (s_ifge (jx_dc dd_101 28 rfl) rfl) ?_
  refine jx_ac (s_iconst (jx_dc dd_101 29 rfl) rfl) ?_
  refine jx_ac (s_goto (jx_dc dd_101 30 rfl) rfl) ?_
  refine jx_ac (s_aload_n (jx_dc dd_101 31 rfl) rfl) ?_
  refine jx_ac (s_getf kk_6 (k := 18) (Nat.le_of_ble_eq_true rfl) (jx_dc dd_101 32 rfl) w_389) ?_
  refine jx_ac (s_iload_n (jx_dc dd_101 33 rfl) rfl) ?_
  refine jx_ac (s_iald rfl (jx_dc dd_101 34 rfl)) ?_
  refine jx_ac (s_iret rfl (jx_dc dd_101 35 rfl)) ?_
  exact jx_an
theorem A_101 : jx_All (jx_mk D c0 c1 c2 c3 c4 H0 ga L xs) jx_mt md_101 K_101 :=  A_101_0
def dl_102 : List (Nat × Instr × Nat) := [(0, .aload_n 0, 1), (1, .getfield 201, 3), (4, .ifCond .eq 9, 3), (7, .aload_n 0, 1), (8, .iconst 1, 1), (9, .invokevirtual 210, 3), (12, .ireturn, 1), (13, .aload_n 0, 1), (14, .iconst 1, 1), (15, .invokevirtual 153, 3), (18, .ifCond .ne 9, 3), (21, .aload_n 0, 1), (22, .iconst 2, 1), (23, .invokevirtual 210, 3), (26, .ireturn, 1), (27, .aload_n 0, 1), (28, .getfield 96, 3), (31, .bipush 10, 2), (33, .if_icmp .le 9, 3), (36, .aload_n 0, 1), (37, .iconst 3, 1), (38, .invokevirtual 210, 3), (41, .ireturn, 1), (42, .aload_n 0, 1), (43, .iconst 0, 1), (44, .putfield 89, 3), (47, .aload_n 0, 1), (48, .iconst 0, 1), (49, .putfield 93, 3), (52, .aload_n 0, 1), (53, .iconst 0, 1), (54, .putfield 198, 3), (57, .iconst 0, 1), (58, .istore_n 1, 1), (59, .iload_n 1, 1), (60, .aload_n 0, 1), (61, .getfield 169, 3), (64, .if_icmp .ge 43, 3), (67, .aload_n 0, 1), (68, .iload_n 1, 1), (69, .iconst 0, 1), (70, .invokevirtual 172, 3), (73, .ifCond .eq 28, 3), (76, .aload_n 0, 1), (77, .getfield 86, 3), (80, .aload_n 0, 1), (81, .getfield 198, 3), (84, .aload_n 0, 1), (85, .getfield 44, 3), (88, .iload_n 1, 1), (89, .iaload, 1), (90, .iastore, 1), (91, .aload_n 0, 1), (92, .dup, 1), (93, .getfield 198, 3), (96, .iconst 1, 1), (97, .iadd, 1), (98, .putfield 198, 3), (101, .iinc 1 1, 3), (104, .goto (-45), 3), (107, .aload_n 0, 1), (108, .getfield 198, 3), (111, .ireturn, 1)]
theorem dd_102 : ∀ q ∈ dl_102, decode prog_9_method_34_code q.1 = .ok q.2 := by decide +kernel
theorem A_102_0 : jx_All (jx_mk D c0 c1 c2 c3 c4 H0 ga L xs) jx_mt md_102 K_102_0 := by
  refine jx_ac (s_aload_n (jx_dc dd_102 0 rfl) rfl) ?_
  refine jx_ac (s_getf kk_6 (k := 28) (Nat.le_of_ble_eq_true rfl) (jx_dc dd_102 1 rfl) w_406) ?_
  refine jx_ac (s_ifeq (jx_dc dd_102 2 rfl) rfl) ?_
  refine jx_ac (s_aload_n (jx_dc dd_102 3 rfl) rfl) ?_
  refine jx_ac (s_iconst (jx_dc dd_102 4 rfl) rfl) ?_
  refine jx_ac (s_callv (ce := 74) kk_6 mc_74 (jx_dc dd_102 5 rfl) w_407 w_408 w_409 ⟨by decide, by decide⟩ np_74) ?_
  refine jx_ac (s_iret rfl (jx_dc dd_102 6 rfl)) ?_
  refine jx_ac (s_aload_n (jx_dc dd_102 7 rfl) rfl) ?_
  refine jx_ac (s_iconst (jx_dc dd_102 8 rfl) rfl) ?_
  refine jx_ac (s_callv (ce := 76) kk_6 mc_76 (jx_dc dd_102 9 rfl) w_424 w_425 w_426 ⟨by decide, by decide⟩ np_76) ?_
  refine jx_ac (s_ifne (jx_dc dd_102 10 rfl) rfl) ?_
  refine jx_ac (s_aload_n (jx_dc dd_102 11 rfl) rfl) ?_
  refine jx_ac (s_iconst (jx_dc dd_102 12 rfl) rfl) ?_
  refine jx_ac (s_callv (ce := 74) kk_6 mc_74 (jx_dc dd_102 13 rfl) w_407 w_408 w_409 ⟨by decide, by decide⟩ np_74) ?_
  refine jx_ac (s_iret rfl (jx_dc dd_102 14 rfl)) ?_
  refine jx_ac (s_aload_n (jx_dc dd_102 15 rfl) rfl) ?_
  refine jx_ac (s_getf kk_6 (k := 4) (Nat.le_of_ble_eq_true rfl) (jx_dc dd_102 16 rfl) w_427) ?_
  refine jx_ac (s_bipush (jx_dc dd_102 17 rfl) rfl) ?_
  refine jx_ac (s_ile (jx_dc dd_102 18 rfl) rfl) ?_
  refine jx_ac (s_aload_n (jx_dc dd_102 19 rfl) rfl) ?_
  refine jx_ac (s_iconst (jx_dc dd_102 20 rfl) rfl) ?_
  refine jx_ac (s_callv (ce := 74) kk_6 mc_74 (jx_dc dd_102 21 rfl) w_407 w_408 w_409 ⟨by decide, by decide⟩ np_74) ?_
  refine jx_ac (s_iret rfl (jx_dc dd_102 22 rfl)) ?_
  refine jx_ac (s_aload_n (jx_dc dd_102 23 rfl) rfl) ?_
  refine jx_ac (s_iconst (jx_dc dd_102 24 rfl) rfl) ?_
  refine jx_ac (s_putf kk_6 (k := 0) (Nat.le_of_ble_eq_true rfl) (jx_dc dd_102 25 rfl) (fun _ h => jx_okI_n _ h) rfl w_404) ?_
  refine jx_ac (s_aload_n (jx_dc dd_102 26 rfl) rfl) ?_
  refine jx_ac (s_iconst (jx_dc dd_102 27 rfl) rfl) ?_
  refine jx_ac (s_putf kk_6 (k := 1) (Nat.le_of_ble_eq_true rfl) (jx_dc dd_102 28 rfl) (fun _ h => jx_okI_n _ h) rfl w_405) ?_
  refine jx_ac (s_aload_n (jx_dc dd_102 29 rfl) rfl) ?_
  refine jx_ac (s_iconst (jx_dc dd_102 30 rfl) rfl) ?_
  refine jx_ac (s_putf kk_6 (k := 38) (Nat.le_of_ble_eq_true rfl) (jx_dc dd_102 31 rfl) (fun _ h => jx_okI_n _ h) rfl w_484) ?_
  refine jx_ac (s_iconst (jx_dc dd_102 32 rfl) rfl) ?_
  refine jx_ac (s_istore_n (jx_dc dd_102 33 rfl) rfl) ?_
  refine jx_ac (s_iload_n (jx_dc dd_102 34 rfl) rfl) ?_
  refine jx_ac (s_aload_n (jx_dc dd_102 35 rfl) rfl) ?_
  refine jx_ac (s_getf kk_6 (k := 16) (Nat.le_of_ble_eq_true rfl) (jx_dc dd_102 36 rfl) w_416) ?_
  refine jx_ac (s_ige (jx_dc dd_102 37 rfl) rfl) ?_
  refine jx_ac (s_aload_n (jx_dc dd_102 38 rfl) rfl) ?_
  refine jx_ac (s_iload_n (jx_dc dd_102 39 rfl) rfl) ?_
  exact jx_an
theorem A_102_1 : jx_All (jx_mk D c0 c1 c2 c3 c4 H0 ga L xs) jx_mt md_102 K_102_1 := by
  refine jx_ac (s_iconst (jx_dc dd_102 40 rfl) rfl) ?_
  refine jx_ac (s_callv (ce := 93) kk_6 mc_93 (jx_dc dd_102 41 rfl) w_473 w_474 w_475 ⟨by decide, by decide⟩ np_93) ?_
  refine jx_ac (s_ifeq (jx_dc dd_102 42 rfl) rfl) ?_
  refine jx_ac (s_aload_n (jx_dc dd_102 43 rfl) rfl) ?_
  refine jx_ac (s_getf kk_6 (k := 39) (Nat.le_of_ble_eq_true rfl) (jx_dc dd_102 44 rfl) w_403) ?_
  refine jx_ac (s_aload_n (jx_dc dd_102 45 rfl) rfl) ?_
  refine jx_ac (s_getf kk_6 (k := 38) (Nat.le_of_ble_eq_true rfl) (jx_dc dd_102 46 rfl) w_484) ?_
  refine jx_ac (s_aload_n (jx_dc dd_102 47 rfl) rfl) ?_
  refine jx_ac (s_getf kk_6 (k := 18) (Nat.le_of_ble_eq_true rfl) (jx_dc dd_102 48 rfl) w_389) ?_
  refine jx_ac (s_iload_n (jx_dc dd_102 49 rfl) rfl) ?_
  refine jx_ac (s_iald rfl (jx_dc dd_102 50 rfl)) ?_
  refine jx_ac (s_iast rfl (jx_dc dd_102 51 rfl)) ?_
  refine jx_ac (s_aload_n (jx_dc dd_102 52 rfl) rfl) ?_
  refine jx_ac (s_dup (jx_dc dd_102 53 rfl)) ?_
  refine jx_ac (s_getf kk_6 (k := 38) (Nat.le_of_ble_eq_true rfl) (jx_dc dd_102 54 rfl) w_484) ?_
  refine jx_ac (s_iconst (jx_dc dd_102 55 rfl) rfl) ?_
  refine jx_ac (s_iadd (jx_dc dd_102 56 rfl)) ?_
  refine jx_ac (s_putf kk_6 (k := 38) (Nat.le_of_ble_eq_true rfl) (jx_dc dd_102 57 rfl) (fun _ h => jx_okI_n _ h) rfl w_484) ?_
  refine jx_ac (s_iinc (jx_dc dd_102 58 rfl) rfl) ?_
  refine jx_ac (s_goto (jx_dc dd_102 59 rfl) rfl) ?_
  refine jx_ac (s_aload_n (jx_dc dd_102 60 rfl) rfl) ?_
  refine jx_ac (s_getf kk_6 (k := 38) (Nat.le_of_ble_eq_true rfl) (jx_dc dd_102 61 rfl) w_484) ?_
  refine jx_ac (s_iret rfl (jx_dc dd_102 62 rfl)) ?_
  exact jx_an
theorem A_102 : jx_All (jx_mk D c0 c1 c2 c3 c4 H0 ga L xs) jx_mt md_102 K_102 := (jx_aa A_102_0 A_102_1)
end JT
