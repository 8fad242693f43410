/-! printed by wip/whole/gen.py: each operation is what its instruction does -/
section JT
variable {D : va_G} {c0 c1 c2 c3 c4 : ClassId} {H0 : Heap} {ga : Nat → Nat} {L : Nat} {xs : Nat → Int32}
def dl_68 : List (Nat × Instr × Nat) := [(0, .aload_n 0, 1), (1, .invokevirtual 106, 3), (4, .aload_n 0, 1), (5, .getfield 37, 3), (8, .iload_n 1, 1), (9, .invokevirtual 109, 3), (12, .iconst (-1), 1), (13, .if_icmp .ne 5, 3), (16, .iconst 0, 1), (17, .ireturn, 1), (18, .aload_n 0, 1), (19, .iconst 1, 1), (20, .iload_n 1, 1), (21, .invokevirtual 88, 3), (24, .ifCond .eq 7, 3), (27, .iconst 1, 1), (28, .goto 5, 3), (31, .bipush (-2), 2), (33, .ireturn, 1)]
theorem dd_68 : ∀ q ∈ dl_68, decode prog_1_method_10_code q.1 = .ok q.2 := by decide +kernel
theorem A_68_0 : jx_All (jx_mk D c0 c1 c2 c3 c4 H0 ga L xs) jx_mt md_68 K_68_0 := by
  refine jx_ac (s_aload_n (jx_dc dd_68 0 rfl) rfl) ?_
  refine jx_ac (s_callv (ce := 63) kk_5 mc_63 (jx_dc dd_68 1 rfl) w_334 w_335 w_336 ⟨by decide, by decide⟩ np_63) ?_
  refine jx_ac (s_aload_n (jx_dc dd_68 2 rfl) rfl) ?_
  refine jx_ac (s_getf kk_5 (k := 5) (Nat.le_of_ble_eq_true rfl) (jx_dc dd_68 3 rfl) w_277) ?_
  refine jx_ac (s_iload_n (jx_dc dd_68 4 rfl) rfl) ?_
  refine jx_ac (s_callv (ce := 44) kk_4 mc_44 (jx_dc dd_68 5 rfl) w_303 w_249 w_250 ⟨by decide, by decide⟩ np_44) ?_
  refine jx_ac (s_iconst (jx_dc dd_68 6 rfl) rfl) ?_
  refine jx_ac (s_ine (jx_dc dd_68 7 rfl) rfl) ?_
  refine jx_ac (s_iconst (jx_dc dd_68 8 rfl) rfl) ?_
  refine jx_ac (s_iret rfl (jx_dc dd_68 9 rfl)) ?_
  refine jx_ac (s_aload_n (jx_dc dd_68 10 rfl) rfl) ?_
  refine jx_ac (s_iconst (jx_dc dd_68 11 rfl) rfl) ?_
  refine jx_ac (s_iload_n (jx_dc dd_68 12 rfl) rfl) ?_
  refine jx_ac (s_callv (ce := 65) kk_5 mc_65 (jx_dc dd_68 13 rfl) w_331 w_332 w_333 ⟨by decide, by decide⟩ np_65) ?_
  refine jx_ac (s_ifeq (jx_dc dd_68 14 rfl) rfl) ?_
  refine jx_ac (s_iconst (jx_dc dd_68 15 rfl) rfl) ?_
  refine jx_ac (s_goto (jx_dc dd_68 16 rfl) rfl) ?_
  refine jx_ac (s_bipush (jx_dc dd_68 17 rfl) rfl) ?_
  refine jx_ac (s_iret rfl (jx_dc dd_68 18 rfl)) ?_
  exact jx_an
theorem A_68 : jx_All (jx_mk D c0 c1 c2 c3 c4 H0 ga L xs) jx_mt md_68 K_68 :=  A_68_0
def dl_69 : List (Nat × Instr × Nat) := [(0, .aload_n 0, 1), (1, .invokespecial 1, 3), (4, .aload_n 0, 1), (5, .bipush 40, 2), (7, .newarray .int, 2), (9, .putfield 7, 3), (12, .aload_n 0, 1), (13, .bipush 40, 2), (15, .newarray .int, 2), (17, .putfield 13, 3), (20, .aload_n 0, 1), (21, .bipush 40, 2), (23, .newarray .boolean, 2), (25, .putfield 16, 3), (28, .aload_n 0, 1), (29, .bipush 40, 2), (31, .newarray .int, 2), (33, .putfield 20, 3), (36, .aload_n 0, 1), (37, .bipush 40, 2), (39, .newarray .int, 2), (41, .putfield 23, 3), (44, .aload_n 0, 1), (45, .bipush 40, 2), (47, .newarray .boolean, 2), (49, .putfield 26, 3), (52, .aload_n 0, 1), (53, .bipush 40, 2), (55, .newarray .int, 2), (57, .putfield 29, 3), (60, .aload_n 0, 1), (61, .sipush 1600, 3), (64, .newarray .int, 2), (66, .putfield 32, 3), (69, .aload_n 0, 1), (70, .bipush 40, 2), (72, .newarray .int, 2), (74, .putfield 35, 3), (77, .aload_n 0, 1), (78, .bipush 10, 2), (80, .newarray .int, 2), (82, .putfield 38, 3), (85, .aload_n 0, 1), (86, .bipush 10, 2), (88, .newarray .int, 2), (90, .putfield 41, 3), (93, .aload_n 0, 1), (94, .bipush 12, 2), (96, .newarray .int, 2), (98, .putfield 44, 3), (101, .aload_n 0, 1), (102, .bipush 12, 2), (104, .newarray .int, 2), (106, .putfield 47, 3), (109, .aload_n 0, 1), (110, .bipush 120, 2), (112, .newarray .int, 2), (114, .putfield 50, 3), (117, .aload_n 0, 1), (118, .bipush 120, 2), (120, .newarray .boolean, 2), (122, .putfield 53, 3), (125, .aload_n 0, 1), (126, .bipush 120, 2), (128, .newarray .int, 2), (130, .putfield 56, 3), (133, .aload_n 0, 1), (134, .bipush 120, 2), (136, .newarray .int, 2), (138, .putfield 59, 3), (141, .aload_n 0, 1), (142, .sipush 1200, 3), (145, .newarray .int, 2), (147, .putfield 62, 3), (150, .aload_n 0, 1), (151, .bipush 11, 2), (153, .newarray .int, 2), (155, .putfield 65, 3), (158, .aload_n 0, 1), (159, .bipush 40, 2), (161, .newarray .boolean, 2), (163, .putfield 68, 3), (166, .aload_n 0, 1), (167, .bipush 10, 2), (169, .newarray .int, 2), (171, .putfield 71, 3), (174, .aload_n 0, 1), (175, .bipush 10, 2), (177, .newarray .boolean, 2), (179, .putfield 74, 3), (182, .aload_n 0, 1), (183, .bipush 10, 2), (185, .newarray .int, 2), (187, .putfield 77, 3), (190, .aload_n 0, 1), (191, .bipush 10, 2), (193, .newarray .int, 2), (195, .putfield 80, 3), (198, .aload_n 0, 1), (199, .bipush 100, 2), (201, .newarray .int, 2), (203, .putfield 83, 3), (206, .aload_n 0, 1), (207, .bipush 12, 2), (209, .newarray .int, 2), (211, .putfield 86, 3), (214, .return_, 1)]
theorem dd_69 : ∀ q ∈ dl_69, decode prog_9_method_1_code q.1 = .ok q.2 := by decide +kernel
theorem A_69_0 : jx_All (jx_mk D c0 c1 c2 c3 c4 H0 ga L xs) jx_mt md_69 K_69_0 := by
  refine jx_ac (s_aload_n (jx_dc dd_69 0 rfl) rfl) ?_
  refine jx_ac (s_oinit (jx_dc dd_69 1 rfl) w_376 w_93 w_94) ?_
  refine jx_ac (s_aload_n (jx_dc dd_69 2 rfl) rfl) ?_
  refine jx_ac (s_bipush (jx_dc dd_69 3 rfl) rfl) ?_
  refine jx_ac (s_newa (t := 0) (z := jx_zi) rfl rfl (Nat.le_of_ble_eq_true rfl) (jx_dc dd_69 4 rfl) w_95 (fun _ _ => rfl) (fun _ => rfl) (by decide) (fun _ _ h => h)) ?_
  refine jx_ac (s_putfF kk_6 (k := 2) (Nat.le_of_ble_eq_true rfl) (jx_dc dd_69 5 rfl) (fun _ h => jx_okA_n _ _ h) rfl rfl rfl w_377) ?_
  refine jx_ac (s_aload_n (jx_dc dd_69 6 rfl) rfl) ?_
  refine jx_ac (s_bipush (jx_dc dd_69 7 rfl) rfl) ?_
  refine jx_ac (s_newa (t := 0) (z := jx_zi) rfl rfl (Nat.le_of_ble_eq_true rfl) (jx_dc dd_69 8 rfl) w_95 (fun _ _ => rfl) (fun _ => rfl) (by decide) (fun _ _ h => h)) ?_
  refine jx_ac (s_putfF kk_6 (k := 5) (Nat.le_of_ble_eq_true rfl) (jx_dc dd_69 9 rfl) (fun _ h => jx_okA_n _ _ h) rfl rfl rfl w_378) ?_
  refine jx_ac (s_aload_n (jx_dc dd_69 10 rfl) rfl) ?_
  refine jx_ac (s_bipush (jx_dc dd_69 11 rfl) rfl) ?_
  refine jx_ac (s_newa (t := 2) (z := jx_zi) rfl rfl (Nat.le_of_ble_eq_true rfl) (jx_dc dd_69 12 rfl) w_379 (fun _ _ => rfl) (fun _ => rfl) (by decide) (fun _ _ h => h)) ?_
  refine jx_ac (s_putfF kk_6 (k := 6) (Nat.le_of_ble_eq_true rfl) (jx_dc dd_69 13 rfl) (fun _ h => jx_okA_n _ _ h) rfl rfl rfl w_380) ?_
  refine jx_ac (s_aload_n (jx_dc dd_69 14 rfl) rfl) ?_
  refine jx_ac (s_bipush (jx_dc dd_69 15 rfl) rfl) ?_
  refine jx_ac (s_newa (t := 0) (z := jx_zi) rfl rfl (Nat.le_of_ble_eq_true rfl) (jx_dc dd_69 16 rfl) w_95 (fun _ _ => rfl) (fun _ => rfl) (by decide) (fun _ _ h => h)) ?_
  refine jx_ac (s_putfF kk_6 (k := 7) (Nat.le_of_ble_eq_true rfl) (jx_dc dd_69 17 rfl) (fun _ h => jx_okA_n _ _ h) rfl rfl rfl w_381) ?_
  refine jx_ac (s_aload_n (jx_dc dd_69 18 rfl) rfl) ?_
  refine jx_ac (s_bipush (jx_dc dd_69 19 rfl) rfl) ?_
  refine jx_ac (s_newa (t := 0) (z := jx_zi) rfl rfl (Nat.le_of_ble_eq_true rfl) (jx_dc dd_69 20 rfl) w_95 (fun _ _ => rfl) (fun _ => rfl) (by decide) (fun _ _ h => h)) ?_
  refine jx_ac (s_putfF kk_6 (k := 8) (Nat.le_of_ble_eq_true rfl) (jx_dc dd_69 21 rfl) (fun _ h => jx_okA_n _ _ h) rfl rfl rfl w_382) ?_
  refine jx_ac (s_aload_n (jx_dc dd_69 22 rfl) rfl) ?_
  refine jx_ac (s_bipush (jx_dc dd_69 23 rfl) rfl) ?_
  refine jx_ac (s_newa (t := 2) (z := jx_zi) rfl rfl (Nat.le_of_ble_eq_true rfl) (jx_dc dd_69 24 rfl) w_379 (fun _ _ => rfl) (fun _ => rfl) (by decide) (fun _ _ h => h)) ?_
  refine jx_ac (s_putfF kk_6 (k := 9) (Nat.le_of_ble_eq_true rfl) (jx_dc dd_69 25 rfl) (fun _ h => jx_okA_n _ _ h) rfl rfl rfl w_383) ?_
  refine jx_ac (s_aload_n (jx_dc dd_69 26 rfl) rfl) ?_
  refine jx_ac (s_bipush (jx_dc dd_69 27 rfl) rfl) ?_
  refine jx_ac (s_newa (t := 0) (z := jx_zi) rfl rfl (Nat.le_of_ble_eq_true rfl) (jx_dc dd_69 28 rfl) w_95 (fun _ _ => rfl) (fun _ => rfl) (by decide) (fun _ _ h => h)) ?_
  refine jx_ac (s_putfF kk_6 (k := 10) (Nat.le_of_ble_eq_true rfl) (jx_dc dd_69 29 rfl) (fun _ h => jx_okA_n _ _ h) rfl rfl rfl w_384) ?_
  refine jx_ac (s_aload_n (jx_dc dd_69 30 rfl) rfl) ?_
  refine jx_ac (s_sipush (jx_dc dd_69 31 rfl) rfl) ?_
  refine jx_ac (s_newa (t := 0) (z := jx_zi) rfl rfl (Nat.le_of_ble_eq_true rfl) (jx_dc dd_69 32 rfl) w_95 (fun _ _ => rfl) (fun _ => rfl) (by decide) (fun _ _ h => h)) ?_
  refine jx_ac (s_putfF kk_6 (k := 11) (Nat.le_of_ble_eq_true rfl) (jx_dc dd_69 33 rfl) (fun _ h => jx_okA_n _ _ h) rfl rfl rfl w_385) ?_
  refine jx_ac (s_aload_n (jx_dc dd_69 34 rfl) rfl) ?_
  refine jx_ac (s_bipush (jx_dc dd_69 35 rfl) rfl) ?_
  refine jx_ac (s_newa (t := 0) (z := jx_zi) rfl rfl (Nat.le_of_ble_eq_true rfl) (jx_dc dd_69 36 rfl) w_95 (fun _ _ => rfl) (fun _ => rfl) (by decide) (fun _ _ h => h)) ?_
  refine jx_ac (s_putfF kk_6 (k := 12) (Nat.le_of_ble_eq_true rfl) (jx_dc dd_69 37 rfl) (fun _ h => jx_okA_n _ _ h) rfl rfl rfl w_386) ?_
  refine jx_ac (s_aload_n (jx_dc dd_69 38 rfl) rfl) ?_
  refine jx_ac (s_bipush (jx_dc dd_69 39 rfl) rfl) ?_
  exact jx_an
theorem A_69_1 : jx_All (jx_mk D c0 c1 c2 c3 c4 H0 ga L xs) jx_mt md_69 K_69_1 := by
  refine jx_ac (s_newa (t := 0) (z := jx_zi) rfl rfl (Nat.le_of_ble_eq_true rfl) (jx_dc dd_69 40 rfl) w_95 (fun _ _ => rfl) (fun _ => rfl) (by decide) (fun _ _ h => h)) ?_
  refine jx_ac (s_putfF kk_6 (k := 13) (Nat.le_of_ble_eq_true rfl) (jx_dc dd_69 41 rfl) (fun _ h => jx_okA_n _ _ h) rfl rfl rfl w_387) ?_
  refine jx_ac (s_aload_n (jx_dc dd_69 42 rfl) rfl) ?_
  refine jx_ac (s_bipush (jx_dc dd_69 43 rfl) rfl) ?_
  refine jx_ac (s_newa (t := 0) (z := jx_zi) rfl rfl (Nat.le_of_ble_eq_true rfl) (jx_dc dd_69 44 rfl) w_95 (fun _ _ => rfl) (fun _ => rfl) (by decide) (fun _ _ h => h)) ?_
  refine jx_ac (s_putfF kk_6 (k := 14) (Nat.le_of_ble_eq_true rfl) (jx_dc dd_69 45 rfl) (fun _ h => jx_okA_n _ _ h) rfl rfl rfl w_388) ?_
  refine jx_ac (s_aload_n (jx_dc dd_69 46 rfl) rfl) ?_
  refine jx_ac (s_bipush (jx_dc dd_69 47 rfl) rfl) ?_
  refine jx_ac (s_newa (t := 0) (z := jx_zi) rfl rfl (Nat.le_of_ble_eq_true rfl) (jx_dc dd_69 48 rfl) w_95 (fun _ _ => rfl) (fun _ => rfl) (by decide) (fun _ _ h => h)) ?_
  refine jx_ac (s_putfF kk_6 (k := 18) (Nat.le_of_ble_eq_true rfl) (jx_dc dd_69 49 rfl) (fun _ h => jx_okA_n _ _ h) rfl rfl rfl w_389) ?_
  refine jx_ac (s_aload_n (jx_dc dd_69 50 rfl) rfl) ?_
  refine jx_ac (s_bipush (jx_dc dd_69 51 rfl) rfl) ?_
  refine jx_ac (s_newa (t := 0) (z := jx_zi) rfl rfl (Nat.le_of_ble_eq_true rfl) (jx_dc dd_69 52 rfl) w_95 (fun _ _ => rfl) (fun _ => rfl) (by decide) (fun _ _ h => h)) ?_
  refine jx_ac (s_putfF kk_6 (k := 19) (Nat.le_of_ble_eq_true rfl) (jx_dc dd_69 53 rfl) (fun _ h => jx_okA_n _ _ h) rfl rfl rfl w_390) ?_
  refine jx_ac (s_aload_n (jx_dc dd_69 54 rfl) rfl) ?_
  refine jx_ac (s_bipush (jx_dc dd_69 55 rfl) rfl) ?_
  refine jx_ac (s_newa (t := 0) (z := jx_zi) rfl rfl (Nat.le_of_ble_eq_true rfl) (jx_dc dd_69 56 rfl) w_95 (fun _ _ => rfl) (fun _ => rfl) (by decide) (fun _ _ h => h)) ?_
  refine jx_ac (s_putfF kk_6 (k := 20) (Nat.le_of_ble_eq_true rfl) (jx_dc dd_69 57 rfl) (fun _ h => jx_okA_n _ _ h) rfl rfl rfl w_391) ?_
  refine jx_ac (s_aload_n (jx_dc dd_69 58 rfl) rfl) ?_
  refine jx_ac (s_bipush (jx_dc dd_69 59 rfl) rfl) ?_
  refine jx_ac (s_newa (t := 2) (z := jx_zi) rfl rfl (Nat.le_of_ble_eq_true rfl) (jx_dc dd_69 60 rfl) w_379 (fun _ _ => rfl) (fun _ => rfl) (by decide) (fun _ _ h => h)) ?_
  refine jx_ac (s_putfF kk_6 (k := 21) (Nat.le_of_ble_eq_true rfl) (jx_dc dd_69 61 rfl) (fun _ h => jx_okA_n _ _ h) rfl rfl rfl w_392) ?_
  refine jx_ac (s_aload_n (jx_dc dd_69 62 rfl) rfl) ?_
  refine jx_ac (s_bipush (jx_dc dd_69 63 rfl) rfl) ?_
  refine jx_ac (s_newa (t := 0) (z := jx_zi) rfl rfl (Nat.le_of_ble_eq_true rfl) (jx_dc dd_69 64 rfl) w_95 (fun _ _ => rfl) (fun _ => rfl) (by decide) (fun _ _ h => h)) ?_
  refine jx_ac (s_putfF kk_6 (k := 22) (Nat.le_of_ble_eq_true rfl) (jx_dc dd_69 65 rfl) (fun _ h => jx_okA_n _ _ h) rfl rfl rfl w_393) ?_
  refine jx_ac (s_aload_n (jx_dc dd_69 66 rfl) rfl) ?_
  refine jx_ac (s_bipush (jx_dc dd_69 67 rfl) rfl) ?_
  refine jx_ac (s_newa (t := 0) (z := jx_zi) rfl rfl (Nat.le_of_ble_eq_true rfl) (jx_dc dd_69 68 rfl) w_95 (fun _ _ => rfl) (fun _ => rfl) (by decide) (fun _ _ h => h)) ?_
  refine jx_ac (s_putfF kk_6 (k := 23) (Nat.le_of_ble_eq_true rfl) (jx_dc dd_69 69 rfl) (fun _ h => jx_okA_n _ _ h) rfl rfl rfl w_394) ?_
  refine jx_ac (s_aload_n (jx_dc dd_69 70 rfl) rfl) ?_
  refine jx_ac (s_sipush (jx_dc dd_69 71 rfl) rfl) ?_
  refine jx_ac (s_newa (t := 0) (z := jx_zi) rfl rfl (Nat.le_of_ble_eq_true rfl) (jx_dc dd_69 72 rfl) w_95 (fun _ _ => rfl) (fun _ => rfl) (by decide) (fun _ _ h => h)) ?_
  refine jx_ac (s_putfF kk_6 (k := 24) (Nat.le_of_ble_eq_true rfl) (jx_dc dd_69 73 rfl) (fun _ h => jx_okA_n _ _ h) rfl rfl rfl w_395) ?_
  refine jx_ac (s_aload_n (jx_dc dd_69 74 rfl) rfl) ?_
  refine jx_ac (s_bipush (jx_dc dd_69 75 rfl) rfl) ?_
  refine jx_ac (s_newa (t := 0) (z := jx_zi) rfl rfl (Nat.le_of_ble_eq_true rfl) (jx_dc dd_69 76 rfl) w_95 (fun _ _ => rfl) (fun _ => rfl) (by decide) (fun _ _ h => h)) ?_
  refine jx_ac (s_putfF kk_6 (k := 25) (Nat.le_of_ble_eq_true rfl) (jx_dc dd_69 77 rfl) (fun _ h => jx_okA_n _ _ h) rfl rfl rfl w_396) ?_
  refine jx_ac (s_aload_n (jx_dc dd_69 78 rfl) rfl) ?_
  refine jx_ac (s_bipush (jx_dc dd_69 79 rfl) rfl) ?_
  exact jx_an
theorem A_69_2 : jx_All (jx_mk D c0 c1 c2 c3 c4 H0 ga L xs) jx_mt md_69 K_69_2 := by
  refine jx_ac (s_newa (t := 2) (z := jx_zi) rfl rfl (Nat.le_of_ble_eq_true rfl) (jx_dc dd_69 80 rfl) w_379 (fun _ _ => rfl) (fun _ => rfl) (by decide) (fun _ _ h => h)) ?_
  refine jx_ac (s_putfF kk_6 (k := 26) (Nat.le_of_ble_eq_true rfl) (jx_dc dd_69 81 rfl) (fun _ h => jx_okA_n _ _ h) rfl rfl rfl w_397) ?_
  refine jx_ac (s_aload_n (jx_dc dd_69 82 rfl) rfl) ?_
  refine jx_ac (s_bipush (jx_dc dd_69 83 rfl) rfl) ?_
  refine jx_ac (s_newa (t := 0) (z := jx_zi) rfl rfl (Nat.le_of_ble_eq_true rfl) (jx_dc dd_69 84 rfl) w_95 (fun _ _ => rfl) (fun _ => rfl) (by decide) (fun _ _ h => h)) ?_
  refine jx_ac (s_putfF kk_6 (k := 33) (Nat.le_of_ble_eq_true rfl) (jx_dc dd_69 85 rfl) (fun _ h => jx_okA_n _ _ h) rfl rfl rfl w_398) ?_
  refine jx_ac (s_aload_n (jx_dc dd_69 86 rfl) rfl) ?_
  refine jx_ac (s_bipush (jx_dc dd_69 87 rfl) rfl) ?_
  refine jx_ac (s_newa (t := 2) (z := jx_zi) rfl rfl (Nat.le_of_ble_eq_true rfl) (jx_dc dd_69 88 rfl) w_379 (fun _ _ => rfl) (fun _ => rfl) (by decide) (fun _ _ h => h)) ?_
  refine jx_ac (s_putfF kk_6 (k := 34) (Nat.le_of_ble_eq_true rfl) (jx_dc dd_69 89 rfl) (fun _ h => jx_okA_n _ _ h) rfl rfl rfl w_399) ?_
  refine jx_ac (s_aload_n (jx_dc dd_69 90 rfl) rfl) ?_
  refine jx_ac (s_bipush (jx_dc dd_69 91 rfl) rfl) ?_
  refine jx_ac (s_newa (t := 0) (z := jx_zi) rfl rfl (Nat.le_of_ble_eq_true rfl) (jx_dc dd_69 92 rfl) w_95 (fun _ _ => rfl) (fun _ => rfl) (by decide) (fun _ _ h => h)) ?_
  refine jx_ac (s_putfF kk_6 (k := 35) (Nat.le_of_ble_eq_true rfl) (jx_dc dd_69 93 rfl) (fun _ h => jx_okA_n _ _ h) rfl rfl rfl w_400) ?_
  refine jx_ac (s_aload_n (jx_dc dd_69 94 rfl) rfl) ?_
  refine jx_ac (s_bipush (jx_dc dd_69 95 rfl) rfl) ?_
  refine jx_ac (s_newa (t := 0) (z := jx_zi) rfl rfl (Nat.le_of_ble_eq_true rfl) (jx_dc dd_69 96 rfl) w_95 (fun _ _ => rfl) (fun _ => rfl) (by decide) (fun _ _ h => h)) ?_
  refine jx_ac (s_putfF kk_6 (k := 36) (Nat.le_of_ble_eq_true rfl) (jx_dc dd_69 97 rfl) (fun _ h => jx_okA_n _ _ h) rfl rfl rfl w_401) ?_
  refine jx_ac (s_aload_n (jx_dc dd_69 98 rfl) rfl) ?_
  refine jx_ac (s_bipush (jx_dc dd_69 99 rfl) rfl) ?_
  refine jx_ac (s_newa (t := 0) (z := jx_zi) rfl rfl (Nat.le_of_ble_eq_true rfl) (jx_dc dd_69 100 rfl) w_95 (fun _ _ => rfl) (fun _ => rfl) (by decide) (fun _ _ h => h)) ?_
  refine jx_ac (s_putfF kk_6 (k := 37) (Nat.le_of_ble_eq_true rfl) (jx_dc dd_69 101 rfl) (fun _ h => jx_okA_n _ _ h) rfl rfl rfl w_402) ?_
  refine jx_ac (s_aload_n (jx_dc dd_69 102 rfl) rfl) ?_
  refine jx_ac (s_bipush (jx_dc dd_69 103 rfl) rfl) ?_
  refine jx_ac (s_newa (t := 0) (z := jx_zi) rfl rfl (Nat.le_of_ble_eq_true rfl) (jx_dc dd_69 104 rfl) w_95 (fun _ _ => rfl) (fun _ => rfl) (by decide) (fun _ _ h => h)) ?_
  refine jx_ac (s_putfF kk_6 (k := 39) (Nat.le_of_ble_eq_true rfl) (jx_dc dd_69 105 rfl) (fun _ h => jx_okA_n _ _ h) rfl rfl rfl w_403) ?_
  refine jx_ac (s_ret rfl (jx_dc dd_69 106 rfl)) ?_
  exact jx_an
theorem A_69 : jx_All (jx_mk D c0 c1 c2 c3 c4 H0 ga L xs) jx_mt md_69 K_69 := (jx_aa A_69_0 (jx_aa A_69_1 A_69_2))
def dl_70 : List (Nat × Instr × Nat) := [(0, .aload_n 0, 1), (1, .getfield 89, 3), (4, .ireturn, 1)]
theorem dd_70 : ∀ q ∈ dl_70, decode prog_9_method_2_code q.1 = .ok q.2 := by decide +kernel
theorem A_70_0 : jx_All (jx_mk D c0 c1 c2 c3 c4 H0 ga L xs) jx_mt md_70 K_70_0 := by
  refine jx_ac (s_aload_n (jx_dc dd_70 0 rfl) rfl) ?_
  refine jx_ac (s_getf kk_6 (k := 0) (Nat.le_of_ble_eq_true rfl) (jx_dc dd_70 1 rfl) w_404) ?_
  refine jx_ac (s_iret rfl (jx_dc dd_70 2 rfl)) ?_
  exact jx_an
theorem A_70 : jx_All (jx_mk D c0 c1 c2 c3 c4 H0 ga L xs) jx_mt md_70 K_70 :=  A_70_0
def dl_71 : List (Nat × Instr × Nat) := [(0, .aload_n 0, 1), (1, .iconst 0, 1), (2, .putfield 89, 3), (5, .iconst 0, 1), (6, .istore_n 3, 1), (7, .iconst 1, 1), (8, .istore 4, 2), (10, .bipush 56, 2), (12, .istore 5, 2), (14, .iload 5, 2), (16, .ifCond .lt 64, 3), (19, .lload_n 1, 1), (20, .iload 5, 2), (22, .lushr, 1), (23, .l2i, 1), (24, .sipush 255, 3), (27, .iand, 1), (28, .istore 6, 2), (30, .iload 4, 2), (32, .ifCond .eq 26, 3), (35, .iload 6, 2), (37, .ifCond .eq 17, 3), (40, .iload 6, 2), (42, .bipush 33, 2), (44, .if_icmp .lt 14, 3), (47, .iload 6, 2), (49, .bipush 126, 2), (51, .if_icmp .gt 7, 3), (54, .iconst 1, 1), (55, .goto 4, 3), (58, .iconst 0, 1), (59, .istore 4, 2), (61, .iload 6, 2), (63, .ifCond .ne 7, 3), (66, .iload_n 3, 1), (67, .goto 6, 3), (70, .iload_n 3, 1), (71, .iconst 1, 1), (72, .iadd, 1), (73, .istore_n 3, 1), (74, .iinc 5 (-8), 3), (77, .goto (-63), 3), (80, .iload 4, 2), (82, .ifCond .eq 14, 3), (85, .aload_n 0, 1), (86, .getfield 93, 3), (89, .iload_n 3, 1), (90, .iadd, 1), (91, .bipush 40, 2), (93, .if_icmp .le 5, 3), (96, .iconst 0, 1), (97, .ireturn, 1), (98, .bipush 56, 2), (100, .istore 5, 2), (102, .iload 5, 2), (104, .ifCond .lt 46, 3), (107, .lload_n 1, 1), (108, .iload 5, 2), (110, .lushr, 1), (111, .l2i, 1), (112, .sipush 255, 3), (115, .iand, 1), (116, .istore 6, 2), (118, .iload 6, 2), (120, .ifCond .eq 24, 3), (123, .aload_n 0, 1), (124, .getfield 7, 3), (127, .aload_n 0, 1), (128, .getfield 93, 3), (131, .iload 6, 2), (133, .iastore, 1), (134, .aload_n 0, 1), (135, .dup, 1), (136, .getfield 93, 3), (139, .iconst 1, 1), (140, .iadd, 1), (141, .putfield 93, 3), (144, .iinc 5 (-8), 3), (147, .goto (-45), 3), (150, .iconst 1, 1), (151, .ireturn, 1)]
theorem dd_71 : ∀ q ∈ dl_71, decode prog_9_method_4_code q.1 = .ok q.2 := by decide +kernel
theorem A_71_0 : jx_All (jx_mk D c0 c1 c2 c3 c4 H0 ga L xs) jx_mt md_71 K_71_0 := by
  refine jx_ac (s_aload_n (jx_dc dd_71 0 rfl) rfl) ?_
  refine jx_ac (s_iconst (jx_dc dd_71 1 rfl) rfl) ?_
  refine jx_ac (s_putf kk_6 (k := 0) (Nat.le_of_ble_eq_true rfl) (jx_dc dd_71 2 rfl) (fun _ h => jx_okI_n _ h) rfl w_404) ?_
  refine jx_ac (s_iconst (jx_dc dd_71 3 rfl) rfl) ?_
  refine jx_ac (s_istore_n (jx_dc dd_71 4 rfl) rfl) ?_
  refine jx_ac (s_iconst (jx_dc dd_71 5 rfl) rfl) ?_
  refine jx_ac (s_istore (jx_dc dd_71 6 rfl)) ?_
  refine jx_ac (s_bipush (jx_dc dd_71 7 rfl) rfl) ?_
  refine jx_ac (s_istore (jx_dc dd_71 8 rfl)) ?_
  refine jx_ac (s_iload (jx_dc dd_71 9 rfl)) ?_
  refine jx_ac (s_iflt (jx_dc dd_71 10 rfl) rfl) ?_
  refine jx_ac (s_lload_n (jx_dc dd_71 11 rfl) rfl) ?_
  refine jx_ac (s_iload (jx_dc dd_71 12 rfl)) ?_
  refine jx_ac (s_lushr (jx_dc dd_71 13 rfl)) ?_
  refine jx_ac (s_l2i (jx_dc dd_71 14 rfl)) ?_
  refine jx_ac (s_sipush (jx_dc dd_71 15 rfl) rfl) ?_
  refine jx_ac (s_iand (jx_dc dd_71 16 rfl)) ?_
  refine jx_ac (s_istore (jx_dc dd_71 17 rfl)) ?_
  refine jx_ac (s_iload (jx_dc dd_71 18 rfl)) ?_
  refine jx_ac (s_ifeq (jx_dc dd_71 19 rfl) rfl) ?_
  refine jx_ac (s_iload (jx_dc dd_71 20 rfl)) ?_
  refine jx_ac (s_ifeq (jx_dc dd_71 21 rfl) rfl) ?_
  refine jx_ac (s_iload (jx_dc dd_71 22 rfl)) ?_
  refine jx_ac (s_bipush (jx_dc dd_71 23 rfl) rfl) ?_
  refine jx_ac (s_ilt (jx_dc dd_71 24 rfl) rfl) ?_
  refine jx_ac (s_iload (jx_dc dd_71 25 rfl)) ?_
  refine jx_ac (s_bipush (jx_dc dd_71 26 rfl) rfl) ?_
  refine jx_ac (s_igt (jx_dc dd_71 27 rfl) rfl) ?_
  refine jx_ac (s_iconst (jx_dc dd_71 28 rfl) rfl) ?_
  refine jx_ac (s_goto (jx_dc dd_71 29 rfl) rfl) ?_
  refine jx_ac (s_iconst (jx_dc dd_71 30 rfl) rfl) ?_
  refine jx_ac (s_istore (jx_dc dd_71 31 rfl)) ?_
  refine jx_ac (s_iload (jx_dc dd_71 32 rfl)) ?_
  refine jx_ac (s_ifne (jx_dc dd_71 33 rfl) rfl) ?_
  refine jx_ac (s_iload_n (jx_dc dd_71 34 rfl) rfl) ?_
  refine jx_ac (s_goto (jx_dc dd_71 35 rfl) rfl) ?_
  refine jx_ac (s_iload_n (jx_dc dd_71 36 rfl) rfl) ?_
  refine jx_ac (s_iconst (jx_dc dd_71 37 rfl) rfl) ?_
  refine jx_ac (s_iadd (jx_dc dd_71 38 rfl)) ?_
  refine jx_ac (s_istore_n (jx_dc dd_71 39 rfl) rfl) ?_
  exact jx_an
theorem A_71_1 : jx_All (jx_mk D c0 c1 c2 c3 c4 H0 ga L xs) jx_mt md_71 K_71_1 := by
  refine jx_ac (s_iinc (jx_dc dd_71 40 rfl) rfl) ?_
  refine jx_ac (s_goto (jx_dc dd_71 41 rfl) rfl) ?_
  refine jx_ac (s_iload (jx_dc dd_71 42 rfl)) ?_
  refine jx_ac (s_ifeq (jx_dc dd_71 43 rfl) rfl) ?_
  refine jx_ac (s_aload_n (jx_dc dd_71 44 rfl) rfl) ?_
  refine jx_ac (s_getf kk_6 (k := 1) (Nat.le_of_ble_eq_true rfl) (jx_dc dd_71 45 rfl) w_405) ?_
  refine jx_ac (s_iload_n (jx_dc dd_71 46 rfl) rfl) ?_
  refine jx_ac (s_iadd (jx_dc dd_71 47 rfl)) ?_
  refine jx_ac (s_bipush (jx_dc dd_71 48 rfl) rfl) ?_
  refine jx_ac (s_ile (jx_dc dd_71 49 rfl) rfl) ?_
  refine jx_ac (s_iconst (jx_dc dd_71 50 rfl) rfl) ?_
  refine jx_ac (s_zret rfl (jx_dc dd_71 51 rfl)) ?_
  refine jx_ac (s_bipush (jx_dc dd_71 52 rfl) rfl) ?_
  refine jx_ac (s_istore (jx_dc dd_71 53 rfl)) ?_
  refine jx_ac (s_iload (jx_dc dd_71 54 rfl)) ?_
  refine jx_ac (s_iflt (jx_dc dd_71 55 rfl) rfl) ?_
  refine jx_ac (s_lload_n (jx_dc dd_71 56 rfl) rfl) ?_
  refine jx_ac (s_iload (jx_dc dd_71 57 rfl)) ?_
  refine jx_ac (s_lushr (jx_dc dd_71 58 rfl)) ?_
  refine jx_ac (s_l2i (jx_dc dd_71 59 rfl)) ?_
  refine jx_ac (s_sipush (jx_dc dd_71 60 rfl) rfl) ?_
  refine jx_ac (s_iand (jx_dc dd_71 61 rfl)) ?_
  refine jx_ac (s_istore (jx_dc dd_71 62 rfl)) ?_
  refine jx_ac (s_iload (jx_dc dd_71 63 rfl)) ?_
  refine jx_ac (s_ifeq (jx_dc dd_71 64 rfl) rfl) ?_
  refine jx_ac (s_aload_n (jx_dc dd_71 65 rfl) rfl) ?_
  refine jx_ac (s_getf kk_6 (k := 2) (Nat.le_of_ble_eq_true rfl) (jx_dc dd_71 66 rfl) w_377) ?_
  refine jx_ac (s_aload_n (jx_dc dd_71 67 rfl) rfl) ?_
  refine jx_ac (s_getf kk_6 (k := 1) (Nat.le_of_ble_eq_true rfl) (jx_dc dd_71 68 rfl) w_405) ?_
  refine jx_ac (s_iload (jx_dc dd_71 69 rfl)) ?_
  refine jx_ac (s_iast rfl (jx_dc dd_71 70 rfl)) ?_
  refine jx_ac (s_aload_n (jx_dc dd_71 71 rfl) rfl) ?_
  refine jx_ac (s_dup (jx_dc dd_71 72 rfl)) ?_
  refine jx_ac (s_getf kk_6 (k := 1) (Nat.le_of_ble_eq_true rfl) (jx_dc dd_71 73 rfl) w_405) ?_
  refine jx_ac (s_iconst (jx_dc dd_71 74 rfl) rfl) ?_
  refine jx_ac (s_iadd (jx_dc dd_71 75 rfl)) ?_
  refine jx_ac (s_putf kk_6 (k := 1) (Nat.le_of_ble_eq_true rfl) (jx_dc dd_71 76 rfl) (fun _ h => jx_okI_n _ h) rfl w_405) ?_
  refine jx_ac (s_iinc (jx_dc dd_71 77 rfl) rfl) ?_
  refine jx_ac (s_goto (jx_dc dd_71 78 rfl) rfl) ?_
  refine jx_ac (s_iconst (jx_dc dd_71 79 rfl) rfl) ?_
  exact jx_an
theorem A_71_2 : jx_All (jx_mk D c0 c1 c2 c3 c4 H0 ga L xs) jx_mt md_71 K_71_2 := by
  refine jx_ac (s_zret rfl (jx_dc dd_71 80 rfl)) ?_
  exact jx_an
theorem A_71 : jx_All (jx_mk D c0 c1 c2 c3 c4 H0 ga L xs) jx_mt md_71 K_71 := (jx_aa A_71_0 (jx_aa A_71_1 A_71_2))
def dl_72 : List (Nat × Instr × Nat) := [(0, .aload_n 0, 1), (1, .iconst 0, 1), (2, .putfield 89, 3), (5, .aload_n 0, 1), (6, .iconst 0, 1), (7, .putfield 93, 3), (10, .return_, 1)]
theorem dd_72 : ∀ q ∈ dl_72, decode prog_9_method_5_code q.1 = .ok q.2 := by decide +kernel
theorem A_72_0 : jx_All (jx_mk D c0 c1 c2 c3 c4 H0 ga L xs) jx_mt md_72 K_72_0 := by
  refine jx_ac (s_aload_n (jx_dc dd_72 0 rfl) rfl) ?_
  refine jx_ac (s_iconst (jx_dc dd_72 1 rfl) rfl) ?_
  refine jx_ac (s_putf kk_6 (k := 0) (Nat.le_of_ble_eq_true rfl) (jx_dc dd_72 2 rfl) (fun _ h => jx_okI_n _ h) rfl w_404) ?_
  refine jx_ac (s_aload_n (jx_dc dd_72 3 rfl) rfl) ?_
  refine jx_ac (s_iconst (jx_dc dd_72 4 rfl) rfl) ?_
  refine jx_ac (s_putf kk_6 (k := 1) (Nat.le_of_ble_eq_true rfl) (jx_dc dd_72 5 rfl) (fun _ h => jx_okI_n _ h) rfl w_405) ?_
  refine jx_ac (s_ret rfl (jx_dc dd_72 6 rfl)) ?_
  exact jx_an
theorem A_72 : jx_All (jx_mk D c0 c1 c2 c3 c4 H0 ga L xs) jx_mt md_72 K_72 :=  A_72_0
def dl_73 : List (Nat × Instr × Nat) := [(0, .aload_n 0, 1), (1, .getfield 201, 3), (4, .ifCond .eq 9, 3), (7, .aload_n 0, 1), (8, .iconst 1, 1), (9, .invokevirtual 210, 3), (12, .ireturn, 1), (13, .aload_n 0, 1), (14, .invokevirtual 213, 3), (17, .istore_n 1, 1), (18, .iload_n 1, 1), (19, .ifCond .le 11, 3), (22, .aload_n 0, 1), (23, .iload_n 1, 1), (24, .iconst 1, 1), (25, .iadd, 1), (26, .invokevirtual 210, 3), (29, .ireturn, 1), (30, .aload_n 0, 1), (31, .invokevirtual 216, 3), (34, .istore_n 2, 1), (35, .iload_n 2, 1), (36, .ifCond .ge 18, 3), (39, .aload_n 0, 1), (40, .getfield 169, 3), (43, .bipush 12, 2), (45, .if_icmp .ne 9, 3), (48, .aload_n 0, 1), (49, .iconst 5, 1), (50, .invokevirtual 210, 3), (53, .ireturn, 1), (54, .aload_n 0, 1), (55, .iconst 0, 1), (56, .putfield 89, 3), (59, .aload_n 0, 1), (60, .iconst 0, 1), (61, .putfield 93, 3), (64, .iload_n 2, 1), (65, .ifCond .lt 10, 3), (68, .aload_n 0, 1), (69, .getfield 44, 3), (72, .iload_n 2, 1), (73, .iaload, 1), (74, .ireturn, 1), (75, .aload_n 0, 1), (76, .invokevirtual 219, 3), (79, .aload_n 0, 1), (80, .getfield 185, 3), (83, .iconst 1, 1), (84, .iadd, 1), (85, .istore_n 3, 1), (86, .aload_n 0, 1), (87, .iconst 1, 1), (88, .iload_n 3, 1), (89, .invokevirtual 222, 3), (92, .ifCond .eq 7, 3), (95, .iload_n 3, 1), (96, .goto 5, 3), (99, .bipush (-2), 2), (101, .ireturn, 1)]
theorem dd_73 : ∀ q ∈ dl_73, decode prog_9_method_32_code q.1 = .ok q.2 := by decide +kernel
theorem A_73_0 : jx_All (jx_mk D c0 c1 c2 c3 c4 H0 ga L xs) jx_mt md_73 K_73_0 := by
  refine jx_ac (s_aload_n (jx_dc dd_73 0 rfl) rfl) ?_
  refine jx_ac (s_getf kk_6 (k := 28) (Nat.le_of_ble_eq_true rfl) (jx_dc dd_73 1 rfl) w_406) ?_
  refine jx_ac (s_ifeq (jx_dc dd_73 2 rfl) rfl) ?_
  refine jx_ac (s_aload_n (jx_dc dd_73 3 rfl) rfl) ?_
  refine jx_ac (s_iconst (jx_dc dd_73 4 rfl) rfl) ?_
  refine jx_ac (s_callv (ce := 74) kk_6 mc_74 (jx_dc dd_73 5 rfl) w_407 w_408 w_409 ⟨by decide, by decide⟩ np_74) ?_
  refine jx_ac (s_iret rfl (jx_dc dd_73 6 rfl)) ?_
  refine jx_ac (s_aload_n (jx_dc dd_73 7 rfl) rfl) ?_
  refine jx_ac (s_callv (ce := 75) kk_6 mc_75 (jx_dc dd_73 8 rfl) w_410 w_411 w_412 ⟨by decide, by decide⟩ np_75) ?_
  refine jx_ac (s_istore_n (jx_dc dd_73 9 rfl) rfl) ?_
  refine jx_ac (s_iload_n (jx_dc dd_73 10 rfl) rfl) ?_
  refine jx_ac (s_ifle (jx_dc dd_73 11 rfl) rfl) ?_
  refine jx_ac (s_aload_n (jx_dc dd_73 12 rfl) rfl) ?_
  refine jx_ac (s_iload_n (jx_dc dd_73 13 rfl) rfl) ?_
  refine jx_ac (s_iconst (jx_dc dd_73 14 rfl) rfl) ?_
  refine jx_ac (s_iadd (jx_dc dd_73 15 rfl)) ?_
  refine jx_ac (s_callv (ce := 74) kk_6 mc_74 (jx_dc dd_73 16 rfl) w_407 w_408 w_409 ⟨by decide, by decide⟩ np_74) ?_
  refine jx_ac (s_iret rfl (jx_dc dd_73 17 rfl)) ?_
  refine jx_ac (s_aload_n (jx_dc dd_73 18 rfl) rfl) ?_
  refine jx_ac (s_callv (ce := 92) kk_6 mc_92 (jx_dc dd_73 19 rfl) w_413 w_414 w_415 ⟨by decide, by decide⟩ np_92) ?_
  refine jx_ac (s_istore_n (jx_dc dd_73 20 rfl) rfl) ?_
  refine jx_ac (s_iload_n (jx_dc dd_73 21 rfl) rfl) ?_
  refine jx_ac (s_ifge (jx_dc dd_73 22 rfl) rfl) ?_
  refine jx_ac (s_aload_n (jx_dc dd_73 23 rfl) rfl) ?_
  refine jx_ac (s_getf kk_6 (k := 16) (Nat.le_of_ble_eq_true rfl) (jx_dc dd_73 24 rfl) w_416) ?_
  refine jx_ac (s_bipush (jx_dc dd_73 25 rfl) rfl) ?_
  refine jx_ac (s_ine (jx_dc dd_73 26 rfl) rfl) ?_
  refine jx_ac (s_aload_n (jx_dc dd_73 27 rfl) rfl) ?_
  refine jx_ac (s_iconst (jx_dc dd_73 28 rfl) rfl) ?_
  refine jx_ac (s_callv (ce := 74) kk_6 mc_74 (jx_dc dd_73 29 rfl) w_407 w_408 w_409 ⟨by decide, by decide⟩ np_74) ?_
  refine jx_ac (s_iret rfl (jx_dc dd_73 30 rfl)) ?_
  refine jx_ac (s_aload_n (jx_dc dd_73 31 rfl) rfl) ?_
  refine jx_ac (s_iconst (jx_dc dd_73 32 rfl) rfl) ?_
  refine jx_ac (s_putf kk_6 (k := 0) (Nat.le_of_ble_eq_true rfl) (jx_dc dd_73 33 rfl) (fun _ h => jx_okI_n _ h) rfl w_404) ?_
  refine jx_ac (s_aload_n (jx_dc dd_73 34 rfl) rfl) ?_
  refine jx_ac (s_iconst (jx_dc dd_73 35 rfl) rfl) ?_
  refine jx_ac (s_putf kk_6 (k := 1) (Nat.le_of_ble_eq_true rfl) (jx_dc dd_73 36 rfl) (fun _ h => jx_okI_n _ h) rfl w_405) ?_
  refine jx_ac (s_iload_n (jx_dc dd_73 37 rfl) rfl) ?_
  refine jx_ac (s_iflt (jx_dc dd_73 38 rfl) rfl) ?_
  refine jx_ac (s_aload_n (jx_dc dd_73 39 rfl) rfl) ?_
  exact jx_an
theorem A_73_1 : jx_All (jx_mk D c0 c1 c2 c3 c4 H0 ga L xs) jx_mt md_73 K_73_1 := by
  refine jx_ac (s_getf kk_6 (k := 18) (Nat.le_of_ble_eq_true rfl) (jx_dc dd_73 40 rfl) w_389) ?_
  refine jx_ac (s_iload_n (jx_dc dd_73 41 rfl) rfl) ?_
  refine jx_ac (s_iald rfl (jx_dc dd_73 42 rfl)) ?_
  refine jx_ac (s_iret rfl (jx_dc dd_73 43 rfl)) ?_
  refine jx_ac (s_aload_n (jx_dc dd_73 44 rfl) rfl) ?_
  refine jx_ac (s_callv (ce := 96) kk_6 mc_96 (jx_dc dd_73 45 rfl) w_417 w_418 w_419 ⟨by decide, by decide⟩ np_96) ?_
  refine jx_ac (s_aload_n (jx_dc dd_73 46 rfl) rfl) ?_
  refine jx_ac (s_getf kk_6 (k := 17) (Nat.le_of_ble_eq_true rfl) (jx_dc dd_73 47 rfl) w_420) ?_
  refine jx_ac (s_iconst (jx_dc dd_73 48 rfl) rfl) ?_
  refine jx_ac (s_iadd (jx_dc dd_73 49 rfl)) ?_
  refine jx_ac (s_istore_n (jx_dc dd_73 50 rfl) rfl) ?_
  refine jx_ac (s_aload_n (jx_dc dd_73 51 rfl) rfl) ?_
  refine jx_ac (s_iconst (jx_dc dd_73 52 rfl) rfl) ?_
  refine jx_ac (s_iload_n (jx_dc dd_73 53 rfl) rfl) ?_
  refine jx_ac (s_callv (ce := 97) kk_6 mc_97 (jx_dc dd_73 54 rfl) w_421 w_422 w_423 ⟨by decide, by decide⟩ np_97) ?_
  refine jx_ac (s_ifeq (jx_dc dd_73 55 rfl) rfl) ?_
  refine jx_ac (s_iload_n (jx_dc dd_73 56 rfl) rfl) ?_
  refine jx_ac (s_goto (jx_dc dd_73 57 rfl) rfl) ?_
  refine jx_ac (s_bipush (jx_dc dd_73 58 rfl) rfl) ?_
  refine jx_ac (s_iret rfl (jx_dc dd_73 59 rfl)) ?_
  exact jx_an
theorem A_73 : jx_All (jx_mk D c0 c1 c2 c3 c4 H0 ga L xs) jx_mt md_73 K_73 := (jx_aa A_73_0 A_73_1)
def dl_74 : List (Nat × Instr × Nat) := [(0, .aload_n 0, 1), (1, .iload_n 1, 1), (2, .putfield 89, 3), (5, .iconst 0, 1), (6, .ireturn, 1)]
theorem dd_74 : ∀ q ∈ dl_74, decode prog_9_method_3_code q.1 = .ok q.2 := by decide +kernel
theorem A_74_0 : jx_All (jx_mk D c0 c1 c2 c3 c4 H0 ga L xs) jx_mt md_74 K_74_0 := by
  refine jx_ac (s_aload_n (jx_dc dd_74 0 rfl) rfl) ?_
  refine jx_ac (s_iload_n (jx_dc dd_74 1 rfl) rfl) ?_
  refine jx_ac (s_putf kk_6 (k := 0) (Nat.le_of_ble_eq_true rfl) (jx_dc dd_74 2 rfl) (fun _ h => jx_okI_n _ h) rfl w_404) ?_
  refine jx_ac (s_iconst (jx_dc dd_74 3 rfl) rfl) ?_
  refine jx_ac (s_iret rfl (jx_dc dd_74 4 rfl)) ?_
  exact jx_an
theorem A_74 : jx_All (jx_mk D c0 c1 c2 c3 c4 H0 ga L xs) jx_mt md_74 K_74 :=  A_74_0
def dl_75 : List (Nat × Instr × Nat) := [(0, .aload_n 0, 1), (1, .iconst 0, 1), (2, .invokevirtual 153, 3), (5, .ifCond .ne 5, 3), (8, .iconst 1, 1), (9, .ireturn, 1), (10, .aload_n 0, 1), (11, .getfield 96, 3), (14, .bipush 10, 2), (16, .if_icmp .le 5, 3), (19, .iconst 2, 1), (20, .ireturn, 1), (21, .aload_n 0, 1), (22, .invokevirtual 156, 3), (25, .ifCond .eq 14, 3), (28, .aload_n 0, 1), (29, .invokevirtual 159, 3), (32, .ifCond .eq 7, 3), (35, .iconst 0, 1), (36, .goto 4, 3), (39, .iconst 3, 1), (40, .ireturn, 1)]
theorem dd_75 : ∀ q ∈ dl_75, decode prog_9_method_22_code q.1 = .ok q.2 := by decide +kernel
theorem A_75_0 : jx_All (jx_mk D c0 c1 c2 c3 c4 H0 ga L xs) jx_mt md_75 K_75_0 := by
  refine jx_ac (s_aload_n (jx_dc dd_75 0 rfl) rfl) ?_
  refine jx_ac (s_iconst (jx_dc dd_75 1 rfl) rfl) ?_
  refine jx_ac (s_callv (ce := 76) kk_6 mc_76 (jx_dc dd_75 2 rfl) w_424 w_425 w_426 ⟨by decide, by decide⟩ np_76) ?_
  refine jx_ac (s_ifne (jx_dc dd_75 3 rfl) rfl) ?_
  refine jx_ac (s_iconst (jx_dc dd_75 4 rfl) rfl) ?_
  refine jx_ac (s_iret rfl (jx_dc dd_75 5 rfl)) ?_
  refine jx_ac (s_aload_n (jx_dc dd_75 6 rfl) rfl) ?_
  refine jx_ac (s_getf kk_6 (k := 4) (Nat.le_of_ble_eq_true rfl) (jx_dc dd_75 7 rfl) w_427) ?_
  refine jx_ac (s_bipush (jx_dc dd_75 8 rfl) rfl) ?_
  refine jx_ac (s_ile (jx_dc dd_75 9 rfl) rfl) ?_
  refine jx_ac (s_iconst (jx_dc dd_75 10 rfl) rfl) ?_
  refine jx_ac (s_iret rfl (jx_dc dd_75 11 rfl)) ?_
  refine jx_ac (s_aload_n (jx_dc dd_75 12 rfl) rfl) ?_
  refine jx_ac (s_callv (ce := 86) kk_6 mc_86 (jx_dc dd_75 13 rfl) w_428 w_429 w_430 ⟨by decide, by decide⟩ np_86) ?_
  refine jx_ac (s_ifeq (jx_dc dd_75 14 rfl) rfl) ?_
  refine jx_ac (s_aload_n (jx_dc dd_75 15 rfl) rfl) ?_
  refine jx_ac (s_callv (ce := 89) kk_6 mc_89 (jx_dc dd_75 16 rfl) w_431 w_432 w_433 ⟨by decide, by decide⟩ np_89) ?_
  refine jx_ac (s_ifeq (jx_dc dd_75 17 rfl) rfl) ?_
  refine jx_ac (s_iconst (jx_dc dd_75 18 rfl) rfl) ?_
  refine jx_ac (s_goto (jx_dc dd_75 19 rfl) rfl) ?_
  refine jx_ac (s_iconst (jx_dc dd_75 20 rfl) rfl) ?_
  refine jx_ac (s_iret rfl (jx_dc dd_75 21 rfl)) ?_
  exact jx_an
theorem A_75 : jx_All (jx_mk D c0 c1 c2 c3 c4 H0 ga L xs) jx_mt md_75 K_75 :=  A_75_0
def dl_76 : List (Nat × Instr × Nat) := [(0, .aload_n 0, 1), (1, .iconst 0, 1), (2, .putfield 99, 3), (5, .aload_n 0, 1), (6, .iconst 0, 1), (7, .putfield 96, 3), (10, .aload_n 0, 1), (11, .iconst 1, 1), (12, .putfield 120, 3), (15, .iconst 0, 1), (16, .istore_n 2, 1), (17, .iload_n 2, 1), (18, .bipush 10, 2), (20, .if_icmp .ge 16, 3), (23, .aload_n 0, 1), (24, .getfield 38, 3), (27, .iload_n 2, 1), (28, .iconst (-1), 1), (29, .iastore, 1), (30, .iinc 2 1, 3), (33, .goto (-16), 3), (36, .iconst 0, 1), (37, .istore_n 2, 1), (38, .iconst (-1), 1), (39, .istore_n 3, 1), (40, .iconst 0, 1), (41, .istore 4, 2), (43, .aload_n 0, 1), (44, .getfield 120, 3), (47, .ifCond .eq 212, 3), (50, .iload 4, 2), (52, .ifCond .ne 207, 3), (55, .iload_n 3, 1), (56, .ifCond .ge 7, 3), (59, .iconst 0, 1), (60, .goto 15, 3), (63, .aload_n 0, 1), (64, .aload_n 0, 1), (65, .getfield 99, 3), (68, .invokevirtual 102, 3), (71, .iload_n 1, 1), (72, .invokestatic 124, 3), (75, .istore 5, 2), (77, .aload_n 0, 1), (78, .iload 5, 2), (80, .ifCond .eq 12, 3), (83, .aload_n 0, 1), (84, .getfield 99, 3), (87, .iconst 1, 1), (88, .iadd, 1), (89, .goto 7, 3), (92, .aload_n 0, 1), (93, .getfield 99, 3), (96, .putfield 99, 3), (99, .aload_n 0, 1), (100, .iload_n 1, 1), (101, .invokevirtual 132, 3), (104, .ifCond .ne 5, 3), (107, .iconst 0, 1), (108, .ireturn, 1), (109, .aload_n 0, 1), (110, .getfield 96, 3), (113, .iconst 1, 1), (114, .isub, 1), (115, .istore 6, 2), (117, .iload_n 3, 1), (118, .ifCond .lt 12, 3), (121, .aload_n 0, 1), (122, .iload_n 3, 1), (123, .iload 6, 2), (125, .iload 5, 2), (127, .invokevirtual 128, 3), (130, .aload_n 0, 1), (131, .iload 6, 2), (133, .iload_n 1, 1), (134, .invokevirtual 136, 3), (137, .iload 6, 2), (139, .istore_n 3, 1), (140, .iconst 1, 1), (141, .istore 7, 2), (143, .iload 7, 2), (145, .ifCond .eq 57, 3), (148, .aload_n 0, 1), (149, .aload_n 0, 1), (150, .getfield 99, 3), (153, .invokevirtual 102, 3), (156, .bipush 41, 2), (158, .if_icmp .ne 44, 3), (161, .iload_n 2, 1), (162, .ifCond .le 7, 3), (165, .iconst 1, 1), (166, .goto 4, 3), (169, .iconst 0, 1), (170, .istore 7, 2), (172, .iload 7, 2), (174, .ifCond .ne 5, 3), (177, .iconst 0, 1), (178, .ireturn, 1), (179, .iinc 2 (-1), 3), (182, .aload_n 0, 1), (183, .getfield 35, 3), (186, .iload_n 2, 1), (187, .iaload, 1), (188, .istore_n 3, 1), (189, .aload_n 0, 1), (190, .dup, 1), (191, .getfield 99, 3), (194, .iconst 1, 1), (195, .iadd, 1), (196, .putfield 99, 3), (199, .goto (-56), 3), (202, .aload_n 0, 1), (203, .aload_n 0, 1), (204, .getfield 99, 3), (207, .invokevirtual 102, 3), (210, .bipush 40, 2), (212, .if_icmp .ne 26, 3), (215, .aload_n 0, 1), (216, .getfield 35, 3), (219, .iload_n 2, 1), (220, .iload_n 3, 1), (221, .iastore, 1), (222, .iinc 2 1, 3), (225, .aload_n 0, 1), (226, .dup, 1), (227, .getfield 99, 3), (230, .iconst 1, 1), (231, .iadd, 1), (232, .putfield 99, 3), (235, .goto 21, 3), (238, .aload_n 0, 1), (239, .getfield 99, 3), (242, .aload_n 0, 1), (243, .getfield 93, 3), (246, .if_icmp .lt 7, 3), (249, .iconst 1, 1), (250, .goto 4, 3), (253, .iconst 0, 1), (254, .istore 4, 2), (256, .goto (-213), 3), (259, .iconst 1, 1), (260, .istore 5, 2), (262, .iconst 1, 1), (263, .istore 6, 2), (265, .iload 6, 2), (267, .bipush 10, 2), (269, .if_icmp .ge 31, 3), (272, .iload 5, 2), (274, .ifCond .eq 17, 3), (277, .aload_n 0, 1), (278, .getfield 38, 3), (281, .iload 6, 2), (283, .iaload, 1), (284, .ifCond .ge 7, 3), (287, .iconst 1, 1), (288, .goto 4, 3), (291, .iconst 0, 1), (292, .istore 5, 2), (294, .iinc 6 1, 3), (297, .goto (-32), 3), (300, .aload_n 0, 1), (301, .getfield 120, 3), (304, .ifCond .eq 21, 3), (307, .iload 4, 2), (309, .ifCond .eq 16, 3), (312, .iload_n 2, 1), (313, .ifCond .ne 12, 3), (316, .iload 5, 2), (318, .ifCond .eq 7, 3), (321, .iconst 1, 1), (322, .goto 4, 3), (325, .iconst 0, 1), (326, .ireturn, 1)]
theorem dd_76 : ∀ q ∈ dl_76, decode prog_9_method_15_code q.1 = .ok q.2 := by decide +kernel
theorem A_76_0 : jx_All (jx_mk D c0 c1 c2 c3 c4 H0 ga L xs) jx_mt md_76 K_76_0 := by
  refine jx_ac (s_aload_n (jx_dc dd_76 0 rfl) rfl) ?_
  refine jx_ac (s_iconst (jx_dc dd_76 1 rfl) rfl) ?_
  refine jx_ac (s_putf kk_6 (k := 3) (Nat.le_of_ble_eq_true rfl) (jx_dc dd_76 2 rfl) (fun _ h => jx_okI_n _ h) rfl w_434) ?_
  refine jx_ac (s_aload_n (jx_dc dd_76 3 rfl) rfl) ?_
  refine jx_ac (s_iconst (jx_dc dd_76 4 rfl) rfl) ?_
  refine jx_ac (s_putf kk_6 (k := 4) (Nat.le_of_ble_eq_true rfl) (jx_dc dd_76 5 rfl) (fun _ h => jx_okI_n _ h) rfl w_427) ?_
  refine jx_ac (s_aload_n (jx_dc dd_76 6 rfl) rfl) ?_
  refine jx_ac (s_iconst (jx_dc dd_76 7 rfl) rfl) ?_
  refine jx_ac (s_putf kk_6 (k := 15) (Nat.le_of_ble_eq_true rfl) (jx_dc dd_76 8 rfl) (fun _ h => jx_okZ_n _ h) rfl w_435) ?_
  refine jx_ac (s_iconst (jx_dc dd_76 9 rfl) rfl) ?_
  refine jx_ac (s_istore_n (jx_dc dd_76 10 rfl) rfl) ?_
  refine jx_ac (s_iload_n (jx_dc dd_76 11 rfl) rfl) ?_
  refine jx_ac (s_bipush (jx_dc dd_76 12 rfl) rfl) ?_
  refine jx_ac (s_ige (jx_dc dd_76 13 rfl) rfl) ?_
  refine jx_ac (s_aload_n (jx_dc dd_76 14 rfl) rfl) ?_
  refine jx_ac (s_getf kk_6 (k := 13) (Nat.le_of_ble_eq_true rfl) (jx_dc dd_76 15 rfl) w_387) ?_
  refine jx_ac (s_iload_n (jx_dc dd_76 16 rfl) rfl) ?_
  refine jx_ac (s_iconst (jx_dc dd_76 17 rfl) rfl) ?_
  refine jx_ac (s_iast rfl (jx_dc dd_76 18 rfl)) ?_
  refine jx_ac (s_iinc (jx_dc dd_76 19 rfl) rfl) ?_
  refine jx_ac (s_goto (jx_dc dd_76 20 rfl) rfl) ?_
  refine jx_ac (s_iconst (jx_dc dd_76 21 rfl) rfl) ?_
  refine jx_ac (s_istore_n (jx_dc dd_76 22 rfl) rfl) ?_
  refine jx_ac (s_iconst (jx_dc dd_76 23 rfl) rfl) ?_
  refine jx_ac (s_istore_n (jx_dc dd_76 24 rfl) rfl) ?_
  refine jx_ac (s_iconst (jx_dc dd_76 25 rfl) rfl) ?_
  refine jx_ac (s_istore (jx_dc dd_76 26 rfl)) ?_
  refine jx_ac (s_aload_n (jx_dc dd_76 27 rfl) rfl) ?_
  refine jx_ac (s_getf kk_6 (k := 15) (Nat.le_of_ble_eq_true rfl) (jx_dc dd_76 28 rfl) w_435) ?_
  refine jx_ac (s_ifeq (jx_dc dd_76 29 rfl) rfl) ?_
  refine jx_ac (s_iload (jx_dc dd_76 30 rfl)) ?_
  refine jx_ac (s_ifne (jx_dc dd_76 31 rfl) rfl) ?_
  refine jx_ac (s_iload_n (jx_dc dd_76 32 rfl) rfl) ?_
  refine jx_ac (s_ifge (jx_dc dd_76 33 rfl) rfl) ?_
  refine jx_ac (s_iconst (jx_dc dd_76 34 rfl) rfl) ?_
  refine jx_ac (s_goto (jx_dc dd_76 35 rfl) rfl) ?_
  refine jx_ac (s_aload_n (jx_dc dd_76 36 rfl) rfl) ?_
  refine jx_ac (s_aload_n (jx_dc dd_76 37 rfl) rfl) ?_
  refine jx_ac (s_getf kk_6 (k := 3) (Nat.le_of_ble_eq_true rfl) (jx_dc dd_76 38 rfl) w_434) ?_
  refine jx_ac (s_callv (ce := 77) kk_6 mc_77 (jx_dc dd_76 39 rfl) w_436 w_437 w_438 ⟨by decide, by decide⟩ np_77) ?_
  exact jx_an
theorem A_76_1 : jx_All (jx_mk D c0 c1 c2 c3 c4 H0 ga L xs) jx_mt md_76 K_76_1 := by
  refine jx_ac (s_iload_n (jx_dc dd_76 40 rfl) rfl) ?_
  refine jx_ac (s_calls (ce := 78) mc_78 (jx_dc dd_76 41 rfl) w_439 w_440 w_8 ⟨by decide, by decide⟩ np_78) ?_
  refine jx_ac (s_istore (jx_dc dd_76 42 rfl)) ?_
  refine jx_ac (s_aload_n (jx_dc dd_76 43 rfl) rfl) ?_
  refine jx_ac (s_iload (jx_dc dd_76 44 rfl)) ?_
  refine jx_ac (s_ifeq (jx_dc dd_76 45 rfl) rfl) ?_
  refine jx_ac (s_aload_n (jx_dc dd_76 46 rfl) rfl) ?_
  refine jx_ac (s_getf kk_6 (k := 3) (Nat.le_of_ble_eq_true rfl) (jx_dc dd_76 47 rfl) w_434) ?_
  refine jx_ac (s_iconst (jx_dc dd_76 48 rfl) rfl) ?_
  refine jx_ac (s_iadd (jx_dc dd_76 49 rfl)) ?_
  refine jx_ac (s_goto (jx_dc dd_76 50 rfl) rfl) ?_
  refine jx_ac (s_aload_n (jx_dc dd_76 51 rfl) rfl) ?_
  refine jx_ac (s_getf kk_6 (k := 3) (Nat.le_of_ble_eq_true rfl) (jx_dc dd_76 52 rfl) w_434) ?_
  refine jx_ac (s_putf kk_6 (k := 3) (Nat.le_of_ble_eq_true rfl) (jx_dc dd_76 53 rfl) (fun _ h => jx_okI_n _ h) rfl w_434) ?_
  refine jx_ac (s_aload_n (jx_dc dd_76 54 rfl) rfl) ?_
  refine jx_ac (s_iload_n (jx_dc dd_76 55 rfl) rfl) ?_
  refine jx_ac (s_callv (ce := 79) kk_6 mc_79 (jx_dc dd_76 56 rfl) w_441 w_442 w_443 ⟨by decide, by decide⟩ np_79) ?_
  refine jx_ac (s_ifne (jx_dc dd_76 57 rfl) rfl) ?_
  refine jx_ac (s_iconst (jx_dc dd_76 58 rfl) rfl) ?_
  refine jx_ac (s_zret rfl (jx_dc dd_76 59 rfl)) ?_
  refine jx_ac (s_aload_n (jx_dc dd_76 60 rfl) rfl) ?_
  refine jx_ac (s_getf kk_6 (k := 4) (Nat.le_of_ble_eq_true rfl) (jx_dc dd_76 61 rfl) w_427) ?_
  refine jx_ac (s_iconst (jx_dc dd_76 62 rfl) rfl) ?_
  refine jx_ac (s_isub (jx_dc dd_76 63 rfl)) ?_
  refine jx_ac (s_istore (jx_dc dd_76 64 rfl)) ?_
  refine jx_ac (s_iload_n (jx_dc dd_76 65 rfl) rfl) ?_
  refine jx_ac (s_iflt (jx_dc dd_76 66 rfl) rfl) ?_
  refine jx_ac (s_aload_n (jx_dc dd_76 67 rfl) rfl) ?_
  refine jx_ac (s_iload_n (jx_dc dd_76 68 rfl) rfl) ?_
  refine jx_ac (s_iload (jx_dc dd_76 69 rfl)) ?_
  refine jx_ac (s_iload (jx_dc dd_76 70 rfl)) ?_
  refine jx_ac (s_callv (ce := 84) kk_6 mc_84 (jx_dc dd_76 71 rfl) w_444 w_445 w_446 ⟨by decide, by decide⟩ np_84) ?_
  refine jx_ac (s_aload_n (jx_dc dd_76 72 rfl) rfl) ?_
  refine jx_ac (s_iload (jx_dc dd_76 73 rfl)) ?_
  refine jx_ac (s_iload_n (jx_dc dd_76 74 rfl) rfl) ?_
  refine jx_ac (s_callv (ce := 85) kk_6 mc_85 (jx_dc dd_76 75 rfl) w_447 w_448 w_449 ⟨by decide, by decide⟩ np_85) ?_
  refine jx_ac (s_iload (jx_dc dd_76 76 rfl)) ?_
  refine jx_ac (s_istore_n (jx_dc dd_76 77 rfl) rfl) ?_
  refine jx_ac (s_iconst (jx_dc dd_76 78 rfl) rfl) ?_
  refine jx_ac (s_istore (jx_dc dd_76 79 rfl)) ?_
  exact jx_an
theorem A_76_2 : jx_All (jx_mk D c0 c1 c2 c3 c4 H0 ga L xs) jx_mt md_76 K_76_2 := by
  refine jx_ac (s_iload (jx_dc dd_76 80 rfl)) ?_
  refine jx_ac (s_ifeq (jx_dc dd_76 81 rfl) rfl) ?_
  refine jx_ac (s_aload_n (jx_dc dd_76 82 rfl) rfl) ?_
  refine jx_ac (s_aload_n (jx_dc dd_76 83 rfl) rfl) ?_
  refine jx_ac (s_getf kk_6 (k := 3) (Nat.le_of_ble_eq_true rfl) (jx_dc dd_76 84 rfl) w_434) ?_
  refine jx_ac (s_callv (ce := 77) kk_6 mc_77 (jx_dc dd_76 85 rfl) w_436 w_437 w_438 ⟨by decide, by decide⟩ np_77) ?_
  refine jx_ac (s_bipush (jx_dc dd_76 86 rfl) rfl) ?_
  refine jx_ac (s_ine (jx_dc dd_76 87 rfl) rfl) ?_
  refine jx_ac (s_iload_n (jx_dc dd_76 88 rfl) rfl) ?_
  refine jx_ac (s_ifle (jx_dc dd_76 89 rfl) rfl) ?_
  refine jx_ac (s_iconst (jx_dc dd_76 90 rfl) rfl) ?_
  refine jx_ac (s_goto (jx_dc dd_76 91 rfl) rfl) ?_
  refine jx_ac (s_iconst (jx_dc dd_76 92 rfl) rfl) ?_
  refine jx_ac (s_istore (jx_dc dd_76 93 rfl)) ?_
  refine jx_ac (s_iload (jx_dc dd_76 94 rfl)) ?_
  refine jx_ac (s_ifne (jx_dc dd_76 95 rfl) rfl) ?_
  refine jx_ac (s_iconst (jx_dc dd_76 96 rfl) rfl) ?_
  refine jx_ac (s_zret rfl (jx_dc dd_76 97 rfl)) ?_
  refine jx_ac (s_iinc (jx_dc dd_76 98 rfl) rfl) ?_
  refine jx_ac (s_aload_n (jx_dc dd_76 99 rfl) rfl) ?_
  refine jx_ac (s_getf kk_6 (k := 12) (Nat.le_of_ble_eq_true rfl) (jx_dc dd_76 100 rfl) w_386) ?_
  refine jx_ac (s_iload_n (jx_dc dd_76 101 rfl) rfl) ?_
  refine jx_ac (s_iald rfl (jx_dc dd_76 102 rfl)) ?_
  refine jx_ac (s_istore_n (jx_dc dd_76 103 rfl) rfl) ?_
  refine jx_ac (s_aload_n (jx_dc dd_76 104 rfl) rfl) ?_
  refine jx_ac (s_dup (jx_dc dd_76 105 rfl)) ?_
  refine jx_ac (s_getf kk_6 (k := 3) (Nat.le_of_ble_eq_true rfl) (jx_dc dd_76 106 rfl) w_434) ?_
  refine jx_ac (s_iconst (jx_dc dd_76 107 rfl) rfl) ?_
  refine jx_ac (s_iadd (jx_dc dd_76 108 rfl)) ?_
  refine jx_ac (s_putf kk_6 (k := 3) (Nat.le_of_ble_eq_true rfl) (jx_dc dd_76 109 rfl) (fun _ h => jx_okI_n _ h) rfl w_434) ?_
  refine jx_ac (s_goto (jx_dc dd_76 110 rfl) rfl) ?_
  refine jx_ac (s_aload_n (jx_dc dd_76 111 rfl) rfl) ?_
  refine jx_ac (s_aload_n (jx_dc dd_76 112 rfl) rfl) ?_
  refine jx_ac (s_getf kk_6 (k := 3) (Nat.le_of_ble_eq_true rfl) (jx_dc dd_76 113 rfl) w_434) ?_
  refine jx_ac (s_callv (ce := 77) kk_6 mc_77 (jx_dc dd_76 114 rfl) w_436 w_437 w_438 ⟨by decide, by decide⟩ np_77) ?_
  refine jx_ac (s_bipush (jx_dc dd_76 115 rfl) rfl) ?_
  refine jx_ac (s_ine (jx_dc dd_76 116 rfl) rfl) ?_
  refine jx_ac (s_aload_n (jx_dc dd_76 117 rfl) rfl) ?_
  refine jx_ac (s_getf kk_6 (k := 12) (Nat.le_of_ble_eq_true rfl) (jx_dc dd_76 118 rfl) w_386) ?_
  refine jx_ac (s_iload_n (jx_dc dd_76 119 rfl) rfl) ?_
  exact jx_an
theorem A_76_3 : jx_All (jx_mk D c0 c1 c2 c3 c4 H0 ga L xs) jx_mt md_76 K_76_3 := by
  refine jx_ac (s_iload_n (jx_dc dd_76 120 rfl) rfl) ?_
  refine jx_ac (s_iast rfl (jx_dc dd_76 121 rfl)) ?_
  refine jx_ac (s_iinc (jx_dc dd_76 122 rfl) rfl) ?_
  refine jx_ac (s_aload_n (jx_dc dd_76 123 rfl) rfl) ?_
  refine jx_ac (s_dup (jx_dc dd_76 124 rfl)) ?_
  refine jx_ac (s_getf kk_6 (k := 3) (Nat.le_of_ble_eq_true rfl) (jx_dc dd_76 125 rfl) w_434) ?_
  refine jx_ac (s_iconst (jx_dc dd_76 126 rfl) rfl) ?_
  refine jx_ac (s_iadd (jx_dc dd_76 127 rfl)) ?_
  refine jx_ac (s_putf kk_6 (k := 3) (Nat.le_of_ble_eq_true rfl) (jx_dc dd_76 128 rfl) (fun _ h => jx_okI_n _ h) rfl w_434) ?_
  refine jx_ac (s_goto (jx_dc dd_76 129 rfl) rfl) ?_
  refine jx_ac (s_aload_n (jx_dc dd_76 130 rfl) rfl) ?_
  refine jx_ac (s_getf kk_6 (k := 3) (Nat.le_of_ble_eq_true rfl) (jx_dc dd_76 131 rfl) w_434) ?_
  refine jx_ac (s_aload_n (jx_dc dd_76 132 rfl) rfl) ?_
  refine jx_ac (s_getf kk_6 (k := 1) (Nat.le_of_ble_eq_true rfl) (jx_dc dd_76 133 rfl) w_405) ?_
  refine jx_ac (s_ilt (jx_dc dd_76 134 rfl) rfl) ?_
  refine jx_ac (s_iconst (jx_dc dd_76 135 rfl) rfl) ?_
  refine jx_ac (s_goto (jx_dc dd_76 136 rfl) rfl) ?_
  refine jx_ac (s_iconst (jx_dc dd_76 137 rfl) rfl) ?_
  refine jx_ac (s_istore (jx_dc dd_76 138 rfl)) ?_
  refine jx_ac (s_goto (jx_dc dd_76 139 rfl) rfl) ?_
  refine jx_ac (s_iconst (jx_dc dd_76 140 rfl) rfl) ?_
  refine jx_ac (s_istore (jx_dc dd_76 141 rfl)) ?_
  refine jx_ac (s_iconst (jx_dc dd_76 142 rfl) rfl) ?_
  refine jx_ac (s_istore (jx_dc dd_76 143 rfl)) ?_
  refine jx_ac (s_iload (jx_dc dd_76 144 rfl)) ?_
  refine jx_ac (s_bipush (jx_dc dd_76 145 rfl) rfl) ?_
  refine jx_ac (s_ige (jx_dc dd_76 146 rfl) rfl) ?_
  refine jx_ac (s_iload (jx_dc dd_76 147 rfl)) ?_
  refine jx_ac (s_ifeq (jx_dc dd_76 148 rfl) rfl) ?_
  refine jx_ac (s_aload_n (jx_dc dd_76 149 rfl) rfl) ?_
  refine jx_ac (s_getf kk_6 (k := 13) (Nat.le_of_ble_eq_true rfl) (jx_dc dd_76 150 rfl) w_387) ?_
  refine jx_ac (s_iload (jx_dc dd_76 151 rfl)) ?_
  refine jx_ac (s_iald rfl (jx_dc dd_76 152 rfl)) ?_
  refine jx_ac (s_ifge (jx_dc dd_76 153 rfl) rfl) ?_
  refine jx_ac (s_iconst (jx_dc dd_76 154 rfl) rfl) ?_
  refine jx_ac (s_goto (jx_dc dd_76 155 rfl) rfl) ?_
  refine jx_ac (s_iconst (jx_dc dd_76 156 rfl) rfl) ?_
  refine jx_ac (s_istore (jx_dc dd_76 157 rfl)) ?_
  refine jx_ac (s_iinc (jx_dc dd_76 158 rfl) rfl) ?_
  refine jx_ac (s_goto (jx_dc dd_76 159 rfl) rfl) ?_
  exact jx_an
theorem A_76_4 : jx_All (jx_mk D c0 c1 c2 c3 c4 H0 ga L xs) jx_mt md_76 K_76_4 := by
  refine jx_ac (s_aload_n (jx_dc dd_76 160 rfl) rfl) ?_
  refine jx_ac (s_getf kk_6 (k := 15) (Nat.le_of_ble_eq_true rfl) (jx_dc dd_76 161 rfl) w_435) ?_
  refine jx_ac (s_ifeq (jx_dc dd_76 162 rfl) rfl) ?_
  refine jx_ac (s_iload (jx_dc dd_76 163 rfl)) ?_
  refine jx_ac (s_ifeq (jx_dc dd_76 164 rfl) rfl) ?_
  refine jx_ac (s_iload_n (jx_dc dd_76 165 rfl) rfl) ?_
  refine jx_ac (s_ifne (jx_dc dd_76 166 rfl) rfl) ?_
  refine jx_ac (s_iload (jx_dc dd_76 167 rfl)) ?_
  refine jx_ac (s_ifeq (jx_dc dd_76 168 rfl) rfl) ?_
  refine jx_ac (s_iconst (jx_dc dd_76 169 rfl) rfl) ?_
  refine jx_ac (s_goto (jx_dc dd_76 170 rfl) rfl) ?_
  refine jx_ac (s_iconst (jx_dc dd_76 171 rfl) rfl) ?_
  refine jx_ac (s_zret rfl (jx_dc dd_76 172 rfl)) ?_
  exact jx_an
theorem A_76 : jx_All (jx_mk D c0 c1 c2 c3 c4 H0 ga L xs) jx_mt md_76 K_76 := (jx_aa A_76_0 (jx_aa A_76_1 (jx_aa A_76_2 (jx_aa A_76_3 A_76_4))))
def dl_77 : List (Nat × Instr × Nat) := [(0, .iload_n 1, 1), (1, .aload_n 0, 1), (2, .getfield 93, 3), (5, .if_icmp .ge 12, 3), (8, .aload_n 0, 1), (9, .getfield 7, 3), (12, .iload_n 1, 1), (13, .iaload, 1), (14, .goto 4, 3), (17, .iconst 0, 1), (18, .ireturn, 1)]
theorem dd_77 : ∀ q ∈ dl_77, decode prog_9_method_6_code q.1 = .ok q.2 := by decide +kernel
theorem A_77_0 : jx_All (jx_mk D c0 c1 c2 c3 c4 H0 ga L xs) jx_mt md_77 K_77_0 := by
  refine jx_ac (s_iload_n (jx_dc dd_77 0 rfl) rfl) ?_
  refine jx_ac (s_aload_n (jx_dc dd_77 1 rfl) rfl) ?_
  refine jx_ac (s_getf kk_6 (k := 1) (Nat.le_of_ble_eq_true rfl) (jx_dc dd_77 2 rfl) w_405) ?_
  refine jx_ac (s_ige (jx_dc dd_77 3 rfl) rfl) ?_
  refine jx_ac (s_aload_n (jx_dc dd_77 4 rfl) rfl) ?_
  refine jx_ac (s_getf kk_6 (k := 2) (Nat.le_of_ble_eq_true rfl) (jx_dc dd_77 5 rfl) w_377) ?_
  refine jx_ac (s_iload_n (jx_dc dd_77 6 rfl) rfl) ?_
  refine jx_ac (s_iald rfl (jx_dc dd_77 7 rfl)) ?_
  refine jx_ac (s_goto (jx_dc dd_77 8 rfl) rfl) ?_
  refine jx_ac (s_iconst (jx_dc dd_77 9 rfl) rfl) ?_
  refine jx_ac (s_iret rfl (jx_dc dd_77 10 rfl)) ?_
  exact jx_an
theorem A_77 : jx_All (jx_mk D c0 c1 c2 c3 c4 H0 ga L xs) jx_mt md_77 K_77 :=  A_77_0
def dl_78 : List (Nat × Instr × Nat) := [(0, .iload_n 0, 1), (1, .bipush 45, 2), (3, .if_icmp .ne 7, 3), (6, .iconst 1, 1), (7, .goto 38, 3), (10, .iload_n 0, 1), (11, .bipush 61, 2), (13, .if_icmp .ne 7, 3), (16, .iconst 2, 1), (17, .goto 28, 3), (20, .iload_n 0, 1), (21, .bipush 35, 2), (23, .if_icmp .ne 7, 3), (26, .iconst 3, 1), (27, .goto 18, 3), (30, .iload_n 0, 1), (31, .bipush 126, 2), (33, .if_icmp .ne 11, 3), (36, .iload_n 1, 1), (37, .ifCond .eq 7, 3), (40, .iconst 5, 1), (41, .goto 4, 3), (44, .iconst 0, 1), (45, .ireturn, 1)]
theorem dd_78 : ∀ q ∈ dl_78, decode prog_9_method_8_code q.1 = .ok q.2 := by decide +kernel
theorem A_78_0 : jx_All (jx_mk D c0 c1 c2 c3 c4 H0 ga L xs) jx_mt md_78 K_78_0 := by
  refine jx_ac (s_iload_n (jx_dc dd_78 0 rfl) rfl) ?_
  refine jx_ac (s_bipush (jx_dc dd_78 1 rfl) rfl) ?_
  refine jx_ac (s_ine (jx_dc dd_78 2 rfl) rfl) ?_
  refine jx_ac (s_iconst (jx_dc dd_78 3 rfl) rfl) ?_
  refine jx_ac (s_goto (jx_dc dd_78 4 rfl) rfl) ?_
  refine jx_ac (s_iload_n (jx_dc dd_78 5 rfl) rfl) ?_
  refine jx_ac (s_bipush (jx_dc dd_78 6 rfl) rfl) ?_
  refine jx_ac (s_ine (jx_dc dd_78 7 rfl) rfl) ?_
  refine jx_ac (s_iconst (jx_dc dd_78 8 rfl) rfl) ?_
  refine jx_ac (s_goto (jx_dc dd_78 9 rfl) rfl) ?_
  refine jx_ac (s_iload_n (jx_dc dd_78 10 rfl) rfl) ?_
  refine jx_ac (s_bipush (jx_dc dd_78 11 rfl) rfl) ?_
  refine jx_ac (s_ine (jx_dc dd_78 12 rfl) rfl) ?_
  refine jx_ac (s_iconst (jx_dc dd_78 13 rfl) rfl) ?_
  refine jx_ac (s_goto (jx_dc dd_78 14 rfl) rfl) ?_
  refine jx_ac (s_iload_n (jx_dc dd_78 15 rfl) rfl) ?_
  refine jx_ac (s_bipush (jx_dc dd_78 16 rfl) rfl) ?_
  refine jx_ac (s_ine (jx_dc dd_78 17 rfl) rfl) ?_
  refine jx_ac (s_iload_n (jx_dc dd_78 18 rfl) rfl) ?_
  refine jx_ac (s_ifeq (jx_dc dd_78 19 rfl) rfl) ?_
  refine jx_ac (s_iconst (jx_dc dd_78 20 rfl) rfl) ?_
  refine jx_ac (s_goto (jx_dc dd_78 21 rfl) rfl) ?_
  refine jx_ac (s_iconst (jx_dc dd_78 22 rfl) rfl) ?_
  refine jx_ac (s_iret rfl (jx_dc dd_78 23 rfl)) ?_
  exact jx_an
theorem A_78 : jx_All (jx_mk D c0 c1 c2 c3 c4 H0 ga L xs) jx_mt md_78 K_78 :=  A_78_0
def dl_79 : List (Nat × Instr × Nat) := [(0, .aload_n 0, 1), (1, .aload_n 0, 1), (2, .getfield 99, 3), (5, .invokevirtual 102, 3), (8, .istore_n 2, 1), (9, .iload_n 2, 1), (10, .invokestatic 106, 3), (13, .ifCond .lt 21, 3), (16, .aload_n 0, 1), (17, .iload_n 2, 1), (18, .iconst 0, 1), (19, .invokevirtual 109, 3), (22, .aload_n 0, 1), (23, .dup, 1), (24, .getfield 99, 3), (27, .iconst 1, 1), (28, .iadd, 1), (29, .putfield 99, 3), (32, .iconst 1, 1), (33, .ireturn, 1), (34, .iload_n 2, 1), (35, .bipush 99, 2), (37, .if_icmp .eq 21, 3), (40, .iload_n 2, 1), (41, .bipush 110, 2), (43, .if_icmp .eq 15, 3), (46, .iload_n 2, 1), (47, .bipush 111, 2), (49, .if_icmp .eq 9, 3), (52, .iload_n 2, 1), (53, .bipush 115, 2), (55, .if_icmp .ne 24, 3), (58, .aload_n 0, 1), (59, .iload_n 2, 1), (60, .bipush 32, 2), (62, .isub, 1), (63, .iconst 1, 1), (64, .invokevirtual 109, 3), (67, .aload_n 0, 1), (68, .dup, 1), (69, .getfield 99, 3), (72, .iconst 1, 1), (73, .iadd, 1), (74, .putfield 99, 3), (77, .iconst 1, 1), (78, .ireturn, 1), (79, .iload_n 2, 1), (80, .bipush 42, 2), (82, .if_icmp .ne 39, 3), (85, .iload_n 1, 1), (86, .ifCond .eq 35, 3), (89, .aload_n 0, 1), (90, .bipush 42, 2), (92, .iconst 0, 1), (93, .invokevirtual 109, 3), (96, .aload_n 0, 1), (97, .getfield 29, 3), (100, .aload_n 0, 1), (101, .getfield 96, 3), (104, .iconst 1, 1), (105, .isub, 1), (106, .bipush 63, 2), (108, .iastore, 1), (109, .aload_n 0, 1), (110, .dup, 1), (111, .getfield 99, 3), (114, .iconst 1, 1), (115, .iadd, 1), (116, .putfield 99, 3), (119, .iconst 1, 1), (120, .ireturn, 1), (121, .iload_n 2, 1), (122, .bipush 91, 2), (124, .if_icmp .ne 59, 3), (127, .aload_n 0, 1), (128, .aload_n 0, 1), (129, .getfield 99, 3), (132, .iconst 1, 1), (133, .iadd, 1), (134, .invokevirtual 102, 3), (137, .invokestatic 106, 3), (140, .ifCond .lt 43, 3), (143, .iload_n 1, 1), (144, .ifCond .eq 28, 3), (147, .aload_n 0, 1), (148, .aload_n 0, 1), (149, .getfield 99, 3), (152, .iconst 2, 1), (153, .iadd, 1), (154, .invokevirtual 102, 3), (157, .bipush 44, 2), (159, .if_icmp .ne 13, 3), (162, .aload_n 0, 1), (163, .invokevirtual 113, 3), (166, .ifCond .eq 17, 3), (169, .goto 10, 3), (172, .aload_n 0, 1), (173, .invokevirtual 117, 3), (176, .ifCond .eq 7, 3), (179, .iconst 1, 1), (180, .goto 4, 3), (183, .iconst 0, 1), (184, .ireturn, 1)]
theorem dd_79 : ∀ q ∈ dl_79, decode prog_9_method_10_code q.1 = .ok q.2 := by decide +kernel
theorem A_79_0 : jx_All (jx_mk D c0 c1 c2 c3 c4 H0 ga L xs) jx_mt md_79 K_79_0 := by
  refine jx_ac (s_aload_n (jx_dc dd_79 0 rfl) rfl) ?_
  refine jx_ac (s_aload_n (jx_dc dd_79 1 rfl) rfl) ?_
  refine jx_ac (s_getf kk_6 (k := 3) (Nat.le_of_ble_eq_true rfl) (jx_dc dd_79 2 rfl) w_434) ?_
  refine jx_ac (s_callv (ce := 77) kk_6 mc_77 (jx_dc dd_79 3 rfl) w_436 w_437 w_438 ⟨by decide, by decide⟩ np_77) ?_
  refine jx_ac (s_istore_n (jx_dc dd_79 4 rfl) rfl) ?_
  refine jx_ac (s_iload_n (jx_dc dd_79 5 rfl) rfl) ?_
  refine jx_ac (s_calls (ce := 80) mc_80 (jx_dc dd_79 6 rfl) w_450 w_451 w_8 ⟨by decide, by decide⟩ np_80) ?_
  refine jx_ac (s_iflt (jx_dc dd_79 7 rfl) rfl) ?_
  refine jx_ac (s_aload_n (jx_dc dd_79 8 rfl) rfl) ?_
  refine jx_ac (s_iload_n (jx_dc dd_79 9 rfl) rfl) ?_
  refine jx_ac (s_iconst (jx_dc dd_79 10 rfl) rfl) ?_
  refine jx_ac (s_callv (ce := 81) kk_6 mc_81 (jx_dc dd_79 11 rfl) w_452 w_453 w_454 ⟨by decide, by decide⟩ np_81) ?_
  refine jx_ac (s_aload_n (jx_dc dd_79 12 rfl) rfl) ?_
  refine jx_ac (s_dup (jx_dc dd_79 13 rfl)) ?_
  refine jx_ac (s_getf kk_6 (k := 3) (Nat.le_of_ble_eq_true rfl) (jx_dc dd_79 14 rfl) w_434) ?_
  refine jx_ac (s_iconst (jx_dc dd_79 15 rfl) rfl) ?_
  refine jx_ac (s_iadd (jx_dc dd_79 16 rfl)) ?_
  refine jx_ac (s_putf kk_6 (k := 3) (Nat.le_of_ble_eq_true rfl) (jx_dc dd_79 17 rfl) (fun _ h => jx_okI_n _ h) rfl w_434) ?_
  refine jx_ac (s_iconst (jx_dc dd_79 18 rfl) rfl) ?_
  refine jx_ac (s_zret rfl (jx_dc dd_79 19 rfl)) ?_
  refine jx_ac (s_iload_n (jx_dc dd_79 20 rfl) rfl) ?_
  refine jx_ac (s_bipush (jx_dc dd_79 21 rfl) rfl) ?_
  refine jx_ac (s_ieq (jx_dc dd_79 22 rfl) rfl) ?_
  refine jx_ac (s_iload_n (jx_dc dd_79 23 rfl) rfl) ?_
  refine jx_ac (s_bipush (jx_dc dd_79 24 rfl) rfl) ?_
  refine jx_ac (s_ieq (jx_dc dd_79 25 rfl) rfl) ?_
  refine jx_ac (s_iload_n (jx_dc dd_79 26 rfl) rfl) ?_
  refine jx_ac (s_bipush (jx_dc dd_79 27 rfl) rfl) ?_
  refine jx_ac (s_ieq (jx_dc dd_79 28 rfl) rfl) ?_
  refine jx_ac (s_iload_n (jx_dc dd_79 29 rfl) rfl) ?_
  refine jx_ac (s_bipush (jx_dc dd_79 30 rfl) rfl) ?_
  refine jx_ac (s_ine (jx_dc dd_79 31 rfl) rfl) ?_
  refine jx_ac (s_aload_n (jx_dc dd_79 32 rfl) rfl) ?_
  refine jx_ac (s_iload_n (jx_dc dd_79 33 rfl) rfl) ?_
  refine jx_ac (s_bipush (jx_dc dd_79 34 rfl) rfl) ?_
  refine jx_ac (s_isub (jx_dc dd_79 35 rfl)) ?_
  refine jx_ac (s_iconst (jx_dc dd_79 36 rfl) rfl) ?_
  refine jx_ac (s_callv (ce := 81) kk_6 mc_81 (jx_dc dd_79 37 rfl) w_452 w_453 w_454 ⟨by decide, by decide⟩ np_81) ?_
  refine jx_ac (s_aload_n (jx_dc dd_79 38 rfl) rfl) ?_
  refine jx_ac (s_dup (jx_dc dd_79 39 rfl)) ?_
  exact jx_an
theorem A_79_1 : jx_All (jx_mk D c0 c1 c2 c3 c4 H0 ga L xs) jx_mt md_79 K_79_1 := by
  refine jx_ac (s_getf kk_6 (k := 3) (Nat.le_of_ble_eq_true rfl) (jx_dc dd_79 40 rfl) w_434) ?_
  refine jx_ac (s_iconst (jx_dc dd_79 41 rfl) rfl) ?_
  refine jx_ac (s_iadd (jx_dc dd_79 42 rfl)) ?_
  refine jx_ac (s_putf kk_6 (k := 3) (Nat.le_of_ble_eq_true rfl) (jx_dc dd_79 43 rfl) (fun _ h => jx_okI_n _ h) rfl w_434) ?_
  refine jx_ac (s_iconst (jx_dc dd_79 44 rfl) rfl) ?_
  refine jx_ac (s_zret rfl (jx_dc dd_79 45 rfl)) ?_
  refine jx_ac (s_iload_n (jx_dc dd_79 46 rfl) rfl) ?_
  refine jx_ac (s_bipush (jx_dc dd_79 47 rfl) rfl) ?_
  refine jx_ac (s_ine (jx_dc dd_79 48 rfl) rfl) ?_
  refine jx_ac (s_iload_n (jx_dc dd_79 49 rfl) rfl) ?_
  refine jx_ac (s_ifeq (jx_dc dd_79 50 rfl) rfl) ?_
  refine jx_ac (s_aload_n (jx_dc dd_79 51 rfl) rfl) ?_
  refine jx_ac (s_bipush (jx_dc dd_79 52 rfl) rfl) ?_
  refine jx_ac (s_iconst (jx_dc dd_79 53 rfl) rfl) ?_
  refine jx_ac (s_callv (ce := 81) kk_6 mc_81 (jx_dc dd_79 54 rfl) w_452 w_453 w_454 ⟨by decide, by decide⟩ np_81) ?_
  refine jx_ac (s_aload_n (jx_dc dd_79 55 rfl) rfl) ?_
  refine jx_ac (s_getf kk_6 (k := 10) (Nat.le_of_ble_eq_true rfl) (jx_dc dd_79 56 rfl) w_384) ?_
  refine jx_ac (s_aload_n (jx_dc dd_79 57 rfl) rfl) ?_
  refine jx_ac (s_getf kk_6 (k := 4) (Nat.le_of_ble_eq_true rfl) (jx_dc dd_79 58 rfl) w_427) ?_
  refine jx_ac (s_iconst (jx_dc dd_79 59 rfl) rfl) ?_
  refine jx_ac (s_isub (jx_dc dd_79 60 rfl)) ?_
  refine jx_ac (s_bipush (jx_dc dd_79 61 rfl) rfl) ?_
  refine jx_ac (s_iast rfl (jx_dc dd_79 62 rfl)) ?_
  refine jx_ac (s_aload_n (jx_dc dd_79 63 rfl) rfl) ?_
  refine jx_ac (s_dup (jx_dc dd_79 64 rfl)) ?_
  refine jx_ac (s_getf kk_6 (k := 3) (Nat.le_of_ble_eq_true rfl) (jx_dc dd_79 65 rfl) w_434) ?_
  refine jx_ac (s_iconst (jx_dc dd_79 66 rfl) rfl) ?_
  refine jx_ac (s_iadd (jx_dc dd_79 67 rfl)) ?_
  refine jx_ac (s_putf kk_6 (k := 3) (Nat.le_of_ble_eq_true rfl) (jx_dc dd_79 68 rfl) (fun _ h => jx_okI_n _ h) rfl w_434) ?_
  refine jx_ac (s_iconst (jx_dc dd_79 69 rfl) rfl) ?_
  refine jx_ac (s_zret rfl (jx_dc dd_79 70 rfl)) ?_
  refine jx_ac (s_iload_n (jx_dc dd_79 71 rfl) rfl) ?_
  refine jx_ac (s_bipush (jx_dc dd_79 72 rfl) rfl) ?_
  refine jx_ac (s_ine (jx_dc dd_79 73 rfl) rfl) ?_
  refine jx_ac (s_aload_n (jx_dc dd_79 74 rfl) rfl) ?_
  refine jx_ac (s_aload_n (jx_dc dd_79 75 rfl) rfl) ?_
  refine jx_ac (s_getf kk_6 (k := 3) (Nat.le_of_ble_eq_true rfl) (jx_dc dd_79 76 rfl) w_434) ?_
  refine jx_ac (s_iconst (jx_dc dd_79 77 rfl) rfl) ?_
  refine jx_ac (s_iadd (jx_dc dd_79 78 rfl)) ?_
  refine jx_ac (s_callv (ce := 77) kk_6 mc_77 (jx_dc dd_79 79 rfl) w_436 w_437 w_438 ⟨by decide, by decide⟩ np_77) ?_
  exact jx_an
theorem A_79_2 : jx_All (jx_mk D c0 c1 c2 c3 c4 H0 ga L xs) jx_mt md_79 K_79_2 := by
  refine jx_ac (s_calls (ce := 80) mc_80 (jx_dc dd_79 80 rfl) w_450 w_451 w_8 ⟨by decide, by decide⟩ np_80) ?_
  refine jx_ac (s_iflt (jx_dc dd_79 81 rfl) rfl) ?_
  refine jx_ac (s_iload_n (jx_dc dd_79 82 rfl) rfl) ?_
  refine jx_ac (s_ifeq (jx_dc dd_79 83 rfl) rfl) ?_
  refine jx_ac (s_aload_n (jx_dc dd_79 84 rfl) rfl) ?_
  refine jx_ac (s_aload_n (jx_dc dd_79 85 rfl) rfl) ?_
  refine jx_ac (s_getf kk_6 (k := 3) (Nat.le_of_ble_eq_true rfl) (jx_dc dd_79 86 rfl) w_434) ?_
  refine jx_ac (s_iconst (jx_dc dd_79 87 rfl) rfl) ?_
  refine jx_ac (s_iadd (jx_dc dd_79 88 rfl)) ?_
  refine jx_ac (s_callv (ce := 77) kk_6 mc_77 (jx_dc dd_79 89 rfl) w_436 w_437 w_438 ⟨by decide, by decide⟩ np_77) ?_
  refine jx_ac (s_bipush (jx_dc dd_79 90 rfl) rfl) ?_
  refine jx_ac (s_ine (jx_dc dd_79 91 rfl) rfl) ?_
  refine jx_ac (s_aload_n (jx_dc dd_79 92 rfl) rfl) ?_
  refine jx_ac (s_callv (ce := 82) kk_6 mc_82 (jx_dc dd_79 93 rfl) w_455 w_456 w_457 ⟨by decide, by decide⟩ np_82) ?_
  refine jx_ac (s_ifeq (jx_dc dd_79 94 rfl) rfl) ?_
  refine jx_ac (s_goto (jx_dc dd_79 95 rfl) rfl) ?_
  refine jx_ac (s_aload_n (jx_dc dd_79 96 rfl) rfl) ?_
  refine jx_ac (s_callv (ce := 83) kk_6 mc_83 (jx_dc dd_79 97 rfl) w_458 w_459 w_460 ⟨by decide, by decide⟩ np_83) ?_
  refine jx_ac (s_ifeq (jx_dc dd_79 98 rfl) rfl) ?_
  refine jx_ac (s_iconst (jx_dc dd_79 99 rfl) rfl) ?_
  refine jx_ac (s_goto (jx_dc dd_79 100 rfl) rfl) ?_
  refine jx_ac (s_iconst (jx_dc dd_79 101 rfl) rfl) ?_
  refine jx_ac (s_zret rfl (jx_dc dd_79 102 rfl)) ?_
  exact jx_an
theorem A_79 : jx_All (jx_mk D c0 c1 c2 c3 c4 H0 ga L xs) jx_mt md_79 K_79 := (jx_aa A_79_0 (jx_aa A_79_1 A_79_2))
def dl_80 : List (Nat × Instr × Nat) := [(0, .iload_n 0, 1), (1, .bipush 67, 2), (3, .if_icmp .ne 7, 3), (6, .iconst 0, 1), (7, .goto 44, 3), (10, .iload_n 0, 1), (11, .bipush 78, 2), (13, .if_icmp .ne 7, 3), (16, .iconst 1, 1), (17, .goto 34, 3), (20, .iload_n 0, 1), (21, .bipush 79, 2), (23, .if_icmp .ne 7, 3), (26, .iconst 2, 1), (27, .goto 24, 3), (30, .iload_n 0, 1), (31, .bipush 83, 2), (33, .if_icmp .ne 7, 3), (36, .iconst 3, 1), (37, .goto 14, 3), (40, .iload_n 0, 1), (41, .bipush 70, 2), (43, .if_icmp .ne 7, 3), (46, .iconst 4, 1), (47, .goto 4, 3), (50, .iconst (-1), 1), (51, .ireturn, 1)]
theorem dd_80 : ∀ q ∈ dl_80, decode prog_9_method_7_code q.1 = .ok q.2 := by decide +kernel
theorem A_80_0 : jx_All (jx_mk D c0 c1 c2 c3 c4 H0 ga L xs) jx_mt md_80 K_80_0 := by
  refine jx_ac (s_iload_n (jx_dc dd_80 0 rfl) rfl) ?_
  refine jx_ac (s_bipush (jx_dc dd_80 1 rfl) rfl) ?_
  refine jx_ac (s_ine (jx_dc dd_80 2 rfl) rfl) ?_
  refine jx_ac (s_iconst (jx_dc dd_80 3 rfl) rfl) ?_
  refine jx_ac (s_goto (jx_dc dd_80 4 rfl) rfl) ?_
  refine jx_ac (s_iload_n (jx_dc dd_80 5 rfl) rfl) ?_
  refine jx_ac (s_bipush (jx_dc dd_80 6 rfl) rfl) ?_
  refine jx_ac (s_ine (jx_dc dd_80 7 rfl) rfl) ?_
  refine jx_ac (s_iconst (jx_dc dd_80 8 rfl) rfl) ?_
  refine jx_ac (s_goto (jx_dc dd_80 9 rfl) rfl) ?_
  refine jx_ac (s_iload_n (jx_dc dd_80 10 rfl) rfl) ?_
  refine jx_ac (s_bipush (jx_dc dd_80 11 rfl) rfl) ?_
  refine jx_ac (s_ine (jx_dc dd_80 12 rfl) rfl) ?_
  refine jx_ac (s_iconst (jx_dc dd_80 13 rfl) rfl) ?_
  refine jx_ac (s_goto (jx_dc dd_80 14 rfl) rfl) ?_
  refine jx_ac (s_iload_n (jx_dc dd_80 15 rfl) rfl) ?_
  refine jx_ac (s_bipush (jx_dc dd_80 16 rfl) rfl) ?_
  refine jx_ac (s_ine (jx_dc dd_80 17 rfl) rfl) ?_
  refine jx_ac (s_iconst (jx_dc dd_80 18 rfl) rfl) ?_
  refine jx_ac (s_goto (jx_dc dd_80 19 rfl) rfl) ?_
  refine jx_ac (s_iload_n (jx_dc dd_80 20 rfl) rfl) ?_
  refine jx_ac (s_bipush (jx_dc dd_80 21 rfl) rfl) ?_
  refine jx_ac (s_ine (jx_dc dd_80 22 rfl) rfl) ?_
  refine jx_ac (s_iconst (jx_dc dd_80 23 rfl) rfl) ?_
  refine jx_ac (s_goto (jx_dc dd_80 24 rfl) rfl) ?_
  refine jx_ac (s_iconst (jx_dc dd_80 25 rfl) rfl) ?_
  refine jx_ac (s_iret rfl (jx_dc dd_80 26 rfl)) ?_
  exact jx_an
theorem A_80 : jx_All (jx_mk D c0 c1 c2 c3 c4 H0 ga L xs) jx_mt md_80 K_80 :=  A_80_0
def dl_81 : List (Nat × Instr × Nat) := [(0, .aload_n 0, 1), (1, .getfield 13, 3), (4, .aload_n 0, 1), (5, .getfield 96, 3), (8, .iload_n 1, 1), (9, .iastore, 1), (10, .aload_n 0, 1), (11, .getfield 16, 3), (14, .aload_n 0, 1), (15, .getfield 96, 3), (18, .iload_n 2, 1), (19, .bastore, 1), (20, .aload_n 0, 1), (21, .getfield 20, 3), (24, .aload_n 0, 1), (25, .getfield 96, 3), (28, .iconst 0, 1), (29, .iastore, 1), (30, .aload_n 0, 1), (31, .getfield 23, 3), (34, .aload_n 0, 1), (35, .getfield 96, 3), (38, .iconst 0, 1), (39, .iastore, 1), (40, .aload_n 0, 1), (41, .getfield 26, 3), (44, .aload_n 0, 1), (45, .getfield 96, 3), (48, .iconst 0, 1), (49, .bastore, 1), (50, .aload_n 0, 1), (51, .getfield 29, 3), (54, .aload_n 0, 1), (55, .getfield 96, 3), (58, .iconst 0, 1), (59, .iastore, 1), (60, .iconst 0, 1), (61, .istore_n 3, 1), (62, .iload_n 3, 1), (63, .aload_n 0, 1), (64, .getfield 96, 3), (67, .if_icmp .ge 39, 3), (70, .aload_n 0, 1), (71, .getfield 32, 3), (74, .bipush 40, 2), (76, .aload_n 0, 1), (77, .getfield 96, 3), (80, .imul, 1), (81, .iload_n 3, 1), (82, .iadd, 1), (83, .iconst 0, 1), (84, .iastore, 1), (85, .aload_n 0, 1), (86, .getfield 32, 3), (89, .bipush 40, 2), (91, .iload_n 3, 1), (92, .imul, 1), (93, .aload_n 0, 1), (94, .getfield 96, 3), (97, .iadd, 1), (98, .iconst 0, 1), (99, .iastore, 1), (100, .iinc 3 1, 3), (103, .goto (-41), 3), (106, .aload_n 0, 1), (107, .getfield 32, 3), (110, .bipush 41, 2), (112, .aload_n 0, 1), (113, .getfield 96, 3), (116, .imul, 1), (117, .iconst 0, 1), (118, .iastore, 1), (119, .aload_n 0, 1), (120, .dup, 1), (121, .getfield 96, 3), (124, .iconst 1, 1), (125, .iadd, 1), (126, .putfield 96, 3), (129, .return_, 1)]
theorem dd_81 : ∀ q ∈ dl_81, decode prog_9_method_9_code q.1 = .ok q.2 := by decide +kernel
theorem A_81_0 : jx_All (jx_mk D c0 c1 c2 c3 c4 H0 ga L xs) jx_mt md_81 K_81_0 := by
  refine jx_ac (s_aload_n (jx_dc dd_81 0 rfl) rfl) ?_
  refine jx_ac (s_getf kk_6 (k := 5) (Nat.le_of_ble_eq_true rfl) (jx_dc dd_81 1 rfl) w_378) ?_
  refine jx_ac (s_aload_n (jx_dc dd_81 2 rfl) rfl) ?_
  refine jx_ac (s_getf kk_6 (k := 4) (Nat.le_of_ble_eq_true rfl) (jx_dc dd_81 3 rfl) w_427) ?_
  refine jx_ac (s_iload_n (jx_dc dd_81 4 rfl) rfl) ?_
  refine jx_ac (s_iast rfl (jx_dc dd_81 5 rfl)) ?_
  refine jx_ac (s_aload_n (jx_dc dd_81 6 rfl) rfl) ?_
  refine jx_ac (s_getf kk_6 (k := 6) (Nat.le_of_ble_eq_true rfl) (jx_dc dd_81 7 rfl) w_380) ?_
  refine jx_ac (s_aload_n (jx_dc dd_81 8 rfl) rfl) ?_
  refine jx_ac (s_getf kk_6 (k := 4) (Nat.le_of_ble_eq_true rfl) (jx_dc dd_81 9 rfl) w_427) ?_
  refine jx_ac (s_iload_n (jx_dc dd_81 10 rfl) rfl) ?_
  refine jx_ac (s_zast rfl (jx_dc dd_81 11 rfl)) ?_
  refine jx_ac (s_aload_n (jx_dc dd_81 12 rfl) rfl) ?_
  refine jx_ac (s_getf kk_6 (k := 7) (Nat.le_of_ble_eq_true rfl) (jx_dc dd_81 13 rfl) w_381) ?_
  refine jx_ac (s_aload_n (jx_dc dd_81 14 rfl) rfl) ?_
  refine jx_ac (s_getf kk_6 (k := 4) (Nat.le_of_ble_eq_true rfl) (jx_dc dd_81 15 rfl) w_427) ?_
  refine jx_ac (s_iconst (jx_dc dd_81 16 rfl) rfl) ?_
  refine jx_ac (s_iast rfl (jx_dc dd_81 17 rfl)) ?_
  refine jx_ac (s_aload_n (jx_dc dd_81 18 rfl) rfl) ?_
  refine jx_ac (s_getf kk_6 (k := 8) (Nat.le_of_ble_eq_true rfl) (jx_dc dd_81 19 rfl) w_382) ?_
  refine jx_ac (s_aload_n (jx_dc dd_81 20 rfl) rfl) ?_
  refine jx_ac (s_getf kk_6 (k := 4) (Nat.le_of_ble_eq_true rfl) (jx_dc dd_81 21 rfl) w_427) ?_
  refine jx_ac (s_iconst (jx_dc dd_81 22 rfl) rfl) ?_
  refine jx_ac (s_iast rfl (jx_dc dd_81 23 rfl)) ?_
  refine jx_ac (s_aload_n (jx_dc dd_81 24 rfl) rfl) ?_
  refine jx_ac (s_getf kk_6 (k := 9) (Nat.le_of_ble_eq_true rfl) (jx_dc dd_81 25 rfl) w_383) ?_
  refine jx_ac (s_aload_n (jx_dc dd_81 26 rfl) rfl) ?_
  refine jx_ac (s_getf kk_6 (k := 4) (Nat.le_of_ble_eq_true rfl) (jx_dc dd_81 27 rfl) w_427) ?_
  refine jx_ac (s_iconst (jx_dc dd_81 28 rfl) rfl) ?_
  refine jx_ac (s_zast rfl (jx_dc dd_81 29 rfl)) ?_
  refine jx_ac (s_aload_n (jx_dc dd_81 30 rfl) rfl) ?_
  refine jx_ac (s_getf kk_6 (k := 10) (Nat.le_of_ble_eq_true rfl) (jx_dc dd_81 31 rfl) w_384) ?_
  refine jx_ac (s_aload_n (jx_dc dd_81 32 rfl) rfl) ?_
  refine jx_ac (s_getf kk_6 (k := 4) (Nat.le_of_ble_eq_true rfl) (jx_dc dd_81 33 rfl) w_427) ?_
  refine jx_ac (s_iconst (jx_dc dd_81 34 rfl) rfl) ?_
  refine jx_ac (s_iast rfl (jx_dc dd_81 35 rfl)) ?_
  refine jx_ac (s_iconst (jx_dc dd_81 36 rfl) rfl) ?_
  refine jx_ac (s_istore_n (jx_dc dd_81 37 rfl) rfl) ?_
  refine jx_ac (s_iload_n (jx_dc dd_81 38 rfl) rfl) ?_
  refine jx_ac (s_aload_n (jx_dc dd_81 39 rfl) rfl) ?_
  exact jx_an
theorem A_81_1 : jx_All (jx_mk D c0 c1 c2 c3 c4 H0 ga L xs) jx_mt md_81 K_81_1 := by
  refine jx_ac (s_getf kk_6 (k := 4) (Nat.le_of_ble_eq_true rfl) (jx_dc dd_81 40 rfl) w_427) ?_
  refine jx_ac (s_ige (jx_dc dd_81 41 rfl) rfl) ?_
  refine jx_ac (s_aload_n (jx_dc dd_81 42 rfl) rfl) ?_
  refine jx_ac (s_getf kk_6 (k := 11) (Nat.le_of_ble_eq_true rfl) (jx_dc dd_81 43 rfl) w_385) ?_
  refine jx_ac (s_bipush (jx_dc dd_81 44 rfl) rfl) ?_
  refine jx_ac (s_aload_n (jx_dc dd_81 45 rfl) rfl) ?_
  refine jx_ac (s_getf kk_6 (k := 4) (Nat.le_of_ble_eq_true rfl) (jx_dc dd_81 46 rfl) w_427) ?_
  refine jx_ac (s_imul (jx_dc dd_81 47 rfl)) ?_
  refine jx_ac (s_iload_n (jx_dc dd_81 48 rfl) rfl) ?_
  refine jx_ac (s_iadd (jx_dc dd_81 49 rfl)) ?_
  refine jx_ac (s_iconst (jx_dc dd_81 50 rfl) rfl) ?_
  refine jx_ac (s_iast rfl (jx_dc dd_81 51 rfl)) ?_
  refine jx_ac (s_aload_n (jx_dc dd_81 52 rfl) rfl) ?_
  refine jx_ac (s_getf kk_6 (k := 11) (Nat.le_of_ble_eq_true rfl) (jx_dc dd_81 53 rfl) w_385) ?_
  refine jx_ac (s_bipush (jx_dc dd_81 54 rfl) rfl) ?_
  refine jx_ac (s_iload_n (jx_dc dd_81 55 rfl) rfl) ?_
  refine jx_ac (s_imul (jx_dc dd_81 56 rfl)) ?_
  refine jx_ac (s_aload_n (jx_dc dd_81 57 rfl) rfl) ?_
  refine jx_ac (s_getf kk_6 (k := 4) (Nat.le_of_ble_eq_true rfl) (jx_dc dd_81 58 rfl) w_427) ?_
  refine jx_ac (s_iadd (jx_dc dd_81 59 rfl)) ?_
  refine jx_ac (s_iconst (jx_dc dd_81 60 rfl) rfl) ?_
  refine jx_ac (s_iast rfl (jx_dc dd_81 61 rfl)) ?_
  refine jx_ac (s_iinc (jx_dc dd_81 62 rfl) rfl) ?_
  refine jx_ac (s_goto (jx_dc dd_81 63 rfl) rfl) ?_
  refine jx_ac (s_aload_n (jx_dc dd_81 64 rfl) rfl) ?_
  refine jx_ac (s_getf kk_6 (k := 11) (Nat.le_of_ble_eq_true rfl) (jx_dc dd_81 65 rfl) w_385) ?_
  refine jx_ac (s_bipush (jx_dc dd_81 66 rfl) rfl) ?_
  refine jx_ac (s_aload_n (jx_dc dd_81 67 rfl) rfl) ?_
  refine jx_ac (s_getf kk_6 (k := 4) (Nat.le_of_ble_eq_true rfl) (jx_dc dd_81 68 rfl) w_427) ?_
  refine jx_ac (s_imul (jx_dc dd_81 69 rfl)) ?_
  refine jx_ac (s_iconst (jx_dc dd_81 70 rfl) rfl) ?_
  refine jx_ac (s_iast rfl (jx_dc dd_81 71 rfl)) ?_
  refine jx_ac (s_aload_n (jx_dc dd_81 72 rfl) rfl) ?_
  refine jx_ac (s_dup (jx_dc dd_81 73 rfl)) ?_
  refine jx_ac (s_getf kk_6 (k := 4) (Nat.le_of_ble_eq_true rfl) (jx_dc dd_81 74 rfl) w_427) ?_
  refine jx_ac (s_iconst (jx_dc dd_81 75 rfl) rfl) ?_
  refine jx_ac (s_iadd (jx_dc dd_81 76 rfl)) ?_
  refine jx_ac (s_putf kk_6 (k := 4) (Nat.le_of_ble_eq_true rfl) (jx_dc dd_81 77 rfl) (fun _ h => jx_okI_n _ h) rfl w_427) ?_
  refine jx_ac (s_ret rfl (jx_dc dd_81 78 rfl)) ?_
  exact jx_an
theorem A_81 : jx_All (jx_mk D c0 c1 c2 c3 c4 H0 ga L xs) jx_mt md_81 K_81 := (jx_aa A_81_0 A_81_1)
end JT
