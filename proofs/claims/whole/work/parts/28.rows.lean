/-! printed by wip/whole/gen.py: each operation is what its instruction does -/
section JT
variable {D : va_G} {c0 c1 c2 c3 c4 : ClassId} {H0 : Heap} {ga : Nat → Nat} {L : Nat} {xs : Nat → Int32}
def dl_103 : List (Nat × Instr × Nat) := [(0, .aload_n 0, 1), (1, .iconst 0, 1), (2, .putfield 89, 3), (5, .aload_n 0, 1), (6, .getfield 201, 3), (9, .ifCond .ne 24, 3), (12, .iload_n 1, 1), (13, .ifCond .lt 20, 3), (16, .iload_n 1, 1), (17, .aload_n 0, 1), (18, .getfield 198, 3), (21, .if_icmp .ge 12, 3), (24, .aload_n 0, 1), (25, .getfield 86, 3), (28, .iload_n 1, 1), (29, .iaload, 1), (30, .goto 4, 3), (33, .iconst 0, 1), (34, .ireturn, 1)]
theorem dd_103 : ∀ q ∈ dl_103, decode prog_9_method_35_code q.1 = .ok q.2 := by decide +kernel
theorem A_103_0 : jx_All (jx_mk D c0 c1 c2 c3 c4 H0 ga L xs) jx_mt md_103 K_103_0 := by
  refine jx_ac (s_aload_n (jx_dc dd_103 0 rfl) rfl) ?_
  refine jx_ac (s_iconst (jx_dc dd_103 1 rfl) rfl) ?_
  refine jx_ac (s_putf kk_6 (k := 0) (Nat.le_of_ble_eq_true rfl) (jx_dc dd_103 2 rfl) (fun _ h => jx_okI_n _ h) rfl w_404) ?_
  refine jx_ac (s_aload_n (jx_dc dd_103 3 rfl) rfl) ?_
  refine jx_ac (s_getf kk_6 (k := 28) (Nat.le_of_ble_eq_true rfl) (jx_dc dd_103 4 rfl) w_406) ?_
  refine jx_ac (s_ifne (jx_dc dd_103 5 rfl) rfl) ?_
  refine jx_ac (s_iload_n (jx_dc dd_103 6 rfl) rfl) ?_
  refine jx_ac (s_iflt (jx_dc dd_103 7 rfl) rfl) ?_
  refine jx_ac (s_iload_n (jx_dc dd_103 8 rfl) rfl) ?_
  refine jx_ac (s_aload_n (jx_dc dd_103 9 rfl) rfl) ?_
  refine jx_ac (s_getf kk_6 (k := 38) (Nat.le_of_ble_eq_true rfl) (jx_dc dd_103 10 rfl) w_484) ?_
  refine jx_ac (s_ige (jx_dc dd_103 11 rfl) rfl) ?_
  refine jx_ac (s_aload_n (jx_dc dd_103 12 rfl) rfl) ?_
  refine jx_ac (s_getf kk_6 (k := 39) (Nat.le_of_ble_eq_true rfl) (jx_dc dd_103 13 rfl) w_403) ?_
  refine jx_ac (s_iload_n (jx_dc dd_103 14 rfl) rfl) ?_
  refine jx_ac (s_iald rfl (jx_dc dd_103 15 rfl)) ?_
  refine jx_ac (s_goto (jx_dc dd_103 16 rfl) rfl) ?_
  refine jx_ac (s_iconst (jx_dc dd_103 17 rfl) rfl) ?_
  refine jx_ac (s_iret rfl (jx_dc dd_103 18 rfl)) ?_
  exact jx_an
theorem A_103 : jx_All (jx_mk D c0 c1 c2 c3 c4 H0 ga L xs) jx_mt md_103 K_103 :=  A_103_0
def dl_104 : List (Nat × Instr × Nat) := [(0, .aload_n 0, 1), (1, .getfield 201, 3), (4, .ifCond .eq 9, 3), (7, .aload_n 0, 1), (8, .iconst 1, 1), (9, .invokevirtual 210, 3), (12, .ireturn, 1), (13, .aload_n 0, 1), (14, .iconst 0, 1), (15, .putfield 89, 3), (18, .aload_n 0, 1), (19, .iload_n 1, 1), (20, .invokevirtual 188, 3), (23, .ifCond .ge 5, 3), (26, .iconst 0, 1), (27, .ireturn, 1), (28, .aload_n 0, 1), (29, .iconst 2, 1), (30, .iload_n 1, 1), (31, .invokevirtual 222, 3), (34, .ifCond .eq 7, 3), (37, .iconst 1, 1), (38, .goto 5, 3), (41, .bipush (-2), 2), (43, .ireturn, 1)]
theorem dd_104 : ∀ q ∈ dl_104, decode prog_9_method_36_code q.1 = .ok q.2 := by decide +kernel
theorem A_104_0 : jx_All (jx_mk D c0 c1 c2 c3 c4 H0 ga L xs) jx_mt md_104 K_104_0 := by
  refine jx_ac (s_aload_n (jx_dc dd_104 0 rfl) rfl) ?_
  refine jx_ac (s_getf kk_6 (k := 28) (Nat.le_of_ble_eq_true rfl) (jx_dc dd_104 1 rfl) w_406) ?_
  refine jx_ac (s_ifeq (jx_dc dd_104 2 rfl) rfl) ?_
  refine jx_ac (s_aload_n (jx_dc dd_104 3 rfl) rfl) ?_
  refine jx_ac (s_iconst (jx_dc dd_104 4 rfl) rfl) ?_
  refine jx_ac (s_callv (ce := 74) kk_6 mc_74 (jx_dc dd_104 5 rfl) w_407 w_408 w_409 ⟨by decide, by decide⟩ np_74) ?_
  refine jx_ac (s_iret rfl (jx_dc dd_104 6 rfl)) ?_
  refine jx_ac (s_aload_n (jx_dc dd_104 7 rfl) rfl) ?_
  refine jx_ac (s_iconst (jx_dc dd_104 8 rfl) rfl) ?_
  refine jx_ac (s_putf kk_6 (k := 0) (Nat.le_of_ble_eq_true rfl) (jx_dc dd_104 9 rfl) (fun _ h => jx_okI_n _ h) rfl w_404) ?_
  refine jx_ac (s_aload_n (jx_dc dd_104 10 rfl) rfl) ?_
  refine jx_ac (s_iload_n (jx_dc dd_104 11 rfl) rfl) ?_
  refine jx_ac (s_callv (ce := 99) kk_6 mc_99 (jx_dc dd_104 12 rfl) w_491 w_492 w_493 ⟨by decide, by decide⟩ np_99) ?_
  refine jx_ac (s_ifge (jx_dc dd_104 13 rfl) rfl) ?_
  refine jx_ac (s_iconst (jx_dc dd_104 14 rfl) rfl) ?_
  refine jx_ac (s_iret rfl (jx_dc dd_104 15 rfl)) ?_
  refine jx_ac (s_aload_n (jx_dc dd_104 16 rfl) rfl) ?_
  refine jx_ac (s_iconst (jx_dc dd_104 17 rfl) rfl) ?_
  refine jx_ac (s_iload_n (jx_dc dd_104 18 rfl) rfl) ?_
  refine jx_ac (s_callv (ce := 97) kk_6 mc_97 (jx_dc dd_104 19 rfl) w_421 w_422 w_423 ⟨by decide, by decide⟩ np_97) ?_
  refine jx_ac (s_ifeq (jx_dc dd_104 20 rfl) rfl) ?_
  refine jx_ac (s_iconst (jx_dc dd_104 21 rfl) rfl) ?_
  refine jx_ac (s_goto (jx_dc dd_104 22 rfl) rfl) ?_
  refine jx_ac (s_bipush (jx_dc dd_104 23 rfl) rfl) ?_
  refine jx_ac (s_iret rfl (jx_dc dd_104 24 rfl)) ?_
  exact jx_an
theorem A_104 : jx_All (jx_mk D c0 c1 c2 c3 c4 H0 ga L xs) jx_mt md_104 K_104 :=  A_104_0
def dl_105 : List (Nat × Instr × Nat) := [(0, .aload_n 0, 1), (1, .iconst 0, 1), (2, .putfield 89, 3), (5, .aload_n 0, 1), (6, .getfield 201, 3), (9, .ifCond .ne 12, 3), (12, .iload_n 1, 1), (13, .ifCond .lt 8, 3), (16, .iload_n 1, 1), (17, .iconst 4, 1), (18, .if_icmp .le 5, 3), (21, .iconst 0, 1), (22, .ireturn, 1), (23, .aload_n 0, 1), (24, .iload_n 1, 1), (25, .putfield 195, 3), (28, .iconst 1, 1), (29, .ireturn, 1)]
theorem dd_105 : ∀ q ∈ dl_105, decode prog_9_method_37_code q.1 = .ok q.2 := by decide +kernel
theorem A_105_0 : jx_All (jx_mk D c0 c1 c2 c3 c4 H0 ga L xs) jx_mt md_105 K_105_0 := by
  refine jx_ac (s_aload_n (jx_dc dd_105 0 rfl) rfl) ?_
  refine jx_ac (s_iconst (jx_dc dd_105 1 rfl) rfl) ?_
  refine jx_ac (s_putf kk_6 (k := 0) (Nat.le_of_ble_eq_true rfl) (jx_dc dd_105 2 rfl) (fun _ h => jx_okI_n _ h) rfl w_404) ?_
  refine jx_ac (s_aload_n (jx_dc dd_105 3 rfl) rfl) ?_
  refine jx_ac (s_getf kk_6 (k := 28) (Nat.le_of_ble_eq_true rfl) (jx_dc dd_105 4 rfl) w_406) ?_
  refine jx_ac (s_ifne (jx_dc dd_105 5 rfl) rfl) ?_
  refine jx_ac (s_iload_n (jx_dc dd_105 6 rfl) rfl) ?_
  refine jx_ac (s_iflt (jx_dc dd_105 7 rfl) rfl) ?_
  refine jx_ac (s_iload_n (jx_dc dd_105 8 rfl) rfl) ?_
  refine jx_ac (s_iconst (jx_dc dd_105 9 rfl) rfl) ?_
  refine jx_ac (s_ile (jx_dc dd_105 10 rfl) rfl) ?_
  refine jx_ac (s_iconst (jx_dc dd_105 11 rfl) rfl) ?_
  refine jx_ac (s_zret rfl (jx_dc dd_105 12 rfl)) ?_
  refine jx_ac (s_aload_n (jx_dc dd_105 13 rfl) rfl) ?_
  refine jx_ac (s_iload_n (jx_dc dd_105 14 rfl) rfl) ?_
  refine jx_ac (s_putf kk_6 (k := 27) (Nat.le_of_ble_eq_true rfl) (jx_dc dd_105 15 rfl) (fun _ h => jx_okI_n _ h) rfl w_483) ?_
  refine jx_ac (s_iconst (jx_dc dd_105 16 rfl) rfl) ?_
  refine jx_ac (s_zret rfl (jx_dc dd_105 17 rfl)) ?_
  exact jx_an
theorem A_105 : jx_All (jx_mk D c0 c1 c2 c3 c4 H0 ga L xs) jx_mt md_105 K_105 :=  A_105_0
def dl_106 : List (Nat × Instr × Nat) := [(0, .aload_n 0, 1), (1, .iconst 0, 1), (2, .putfield 89, 3), (5, .aload_n 0, 1), (6, .getfield 201, 3), (9, .ifCond .ne 5, 3), (12, .iconst (-1), 1), (13, .ireturn, 1), (14, .aload_n 0, 1), (15, .iconst 0, 1), (16, .putfield 201, 3), (19, .aload_n 0, 1), (20, .iconst 0, 1), (21, .putfield 198, 3), (24, .aload_n 0, 1), (25, .getfield 179, 3), (28, .ifCond .ne 5, 3), (31, .iconst 0, 1), (32, .ireturn, 1), (33, .aload_n 0, 1), (34, .getfield 204, 3), (37, .ifCond .ne 7, 3), (40, .aload_n 0, 1), (41, .invokevirtual 207, 3), (44, .aload_n 0, 1), (45, .iconst 0, 1), (46, .putfield 179, 3), (49, .iconst 1, 1), (50, .ireturn, 1)]
theorem dd_106 : ∀ q ∈ dl_106, decode prog_9_method_38_code q.1 = .ok q.2 := by decide +kernel
theorem A_106_0 : jx_All (jx_mk D c0 c1 c2 c3 c4 H0 ga L xs) jx_mt md_106 K_106_0 := by
  refine jx_ac (s_aload_n (jx_dc dd_106 0 rfl) rfl) ?_
  refine jx_ac (s_iconst (jx_dc dd_106 1 rfl) rfl) ?_
  refine jx_ac (s_putf kk_6 (k := 0) (Nat.le_of_ble_eq_true rfl) (jx_dc dd_106 2 rfl) (fun _ h => jx_okI_n _ h) rfl w_404) ?_
  refine jx_ac (s_aload_n (jx_dc dd_106 3 rfl) rfl) ?_
  refine jx_ac (s_getf kk_6 (k := 28) (Nat.le_of_ble_eq_true rfl) (jx_dc dd_106 4 rfl) w_406) ?_
  refine jx_ac (s_ifne (jx_dc dd_106 5 rfl) rfl) ?_
  refine jx_ac (s_iconst (jx_dc dd_106 6 rfl) rfl) ?_
  refine jx_ac (s_iret rfl (jx_dc dd_106 7 rfl)) ?_
  refine jx_ac (s_aload_n (jx_dc dd_106 8 rfl) rfl) ?_
  refine jx_ac (s_iconst (jx_dc dd_106 9 rfl) rfl) ?_
  refine jx_ac (s_putf kk_6 (k := 28) (Nat.le_of_ble_eq_true rfl) (jx_dc dd_106 10 rfl) (fun _ h => jx_okZ_n _ h) rfl w_406) ?_
  refine jx_ac (s_aload_n (jx_dc dd_106 11 rfl) rfl) ?_
  refine jx_ac (s_iconst (jx_dc dd_106 12 rfl) rfl) ?_
  refine jx_ac (s_putf kk_6 (k := 38) (Nat.le_of_ble_eq_true rfl) (jx_dc dd_106 13 rfl) (fun _ h => jx_okI_n _ h) rfl w_484) ?_
  refine jx_ac (s_aload_n (jx_dc dd_106 14 rfl) rfl) ?_
  refine jx_ac (s_getf kk_6 (k := 29) (Nat.le_of_ble_eq_true rfl) (jx_dc dd_106 15 rfl) w_485) ?_
  refine jx_ac (s_ifne (jx_dc dd_106 16 rfl) rfl) ?_
  refine jx_ac (s_iconst (jx_dc dd_106 17 rfl) rfl) ?_
  refine jx_ac (s_iret rfl (jx_dc dd_106 18 rfl)) ?_
  refine jx_ac (s_aload_n (jx_dc dd_106 19 rfl) rfl) ?_
  refine jx_ac (s_getf kk_6 (k := 31) (Nat.le_of_ble_eq_true rfl) (jx_dc dd_106 20 rfl) w_487) ?_
  refine jx_ac (s_ifne (jx_dc dd_106 21 rfl) rfl) ?_
  refine jx_ac (s_aload_n (jx_dc dd_106 22 rfl) rfl) ?_
  refine jx_ac (s_callv (ce := 98) kk_6 mc_98 (jx_dc dd_106 23 rfl) w_488 w_489 w_490 ⟨by decide, by decide⟩ np_98) ?_
  refine jx_ac (s_aload_n (jx_dc dd_106 24 rfl) rfl) ?_
  refine jx_ac (s_iconst (jx_dc dd_106 25 rfl) rfl) ?_
  refine jx_ac (s_putf kk_6 (k := 29) (Nat.le_of_ble_eq_true rfl) (jx_dc dd_106 26 rfl) (fun _ h => jx_okI_n _ h) rfl w_485) ?_
  refine jx_ac (s_iconst (jx_dc dd_106 27 rfl) rfl) ?_
  refine jx_ac (s_iret rfl (jx_dc dd_106 28 rfl)) ?_
  exact jx_an
theorem A_106 : jx_All (jx_mk D c0 c1 c2 c3 c4 H0 ga L xs) jx_mt md_106 K_106 :=  A_106_0
def dl_107 : List (Nat × Instr × Nat) := [(0, .aload_n 0, 1), (1, .iconst 0, 1), (2, .putfield 89, 3), (5, .aload_n 0, 1), (6, .getfield 201, 3), (9, .ifCond .eq 7, 3), (12, .iconst (-1), 1), (13, .goto 7, 3), (16, .aload_n 0, 1), (17, .getfield 169, 3), (20, .ireturn, 1)]
theorem dd_107 : ∀ q ∈ dl_107, decode prog_9_method_39_code q.1 = .ok q.2 := by decide +kernel
theorem A_107_0 : jx_All (jx_mk D c0 c1 c2 c3 c4 H0 ga L xs) jx_mt md_107 K_107_0 := by
  refine jx_ac (s_aload_n (jx_dc dd_107 0 rfl) rfl) ?_
  refine jx_ac (s_iconst (jx_dc dd_107 1 rfl) rfl) ?_
  refine jx_ac (s_putf kk_6 (k := 0) (Nat.le_of_ble_eq_true rfl) (jx_dc dd_107 2 rfl) (fun _ h => jx_okI_n _ h) rfl w_404) ?_
  refine jx_ac (s_aload_n (jx_dc dd_107 3 rfl) rfl) ?_
  refine jx_ac (s_getf kk_6 (k := 28) (Nat.le_of_ble_eq_true rfl) (jx_dc dd_107 4 rfl) w_406) ?_
  refine jx_ac (s_ifeq (jx_dc dd_107 5 rfl) rfl) ?_
  refine jx_ac (s_iconst (jx_dc dd_107 6 rfl) rfl) ?_
  refine jx_ac (s_goto (jx_dc dd_107 7 rfl) rfl) ?_
  refine jx_ac (s_aload_n (jx_dc dd_107 8 rfl) rfl) ?_
  refine jx_ac (s_getf kk_6 (k := 16) (Nat.le_of_ble_eq_true rfl) (jx_dc dd_107 9 rfl) w_416) ?_
  refine jx_ac (s_iret rfl (jx_dc dd_107 10 rfl)) ?_
  exact jx_an
theorem A_107 : jx_All (jx_mk D c0 c1 c2 c3 c4 H0 ga L xs) jx_mt md_107 K_107 :=  A_107_0
def dl_108 : List (Nat × Instr × Nat) := [(0, .aload_n 0, 1), (1, .iconst 0, 1), (2, .putfield 89, 3), (5, .aload_n 0, 1), (6, .iload_n 1, 1), (7, .invokevirtual 188, 3), (10, .istore_n 2, 1), (11, .aload_n 0, 1), (12, .getfield 201, 3), (15, .ifCond .ne 7, 3), (18, .iload_n 2, 1), (19, .ifCond .ge 7, 3), (22, .iconst 0, 1), (23, .goto 9, 3), (26, .aload_n 0, 1), (27, .getfield 47, 3), (30, .iload_n 2, 1), (31, .iaload, 1), (32, .ireturn, 1)]
theorem dd_108 : ∀ q ∈ dl_108, decode prog_9_method_40_code q.1 = .ok q.2 := by decide +kernel
theorem A_108_0 : jx_All (jx_mk D c0 c1 c2 c3 c4 H0 ga L xs) jx_mt md_108 K_108_0 := by
  refine jx_ac (s_aload_n (jx_dc dd_108 0 rfl) rfl) ?_
  refine jx_ac (s_iconst (jx_dc dd_108 1 rfl) rfl) ?_
  refine jx_ac (s_putf kk_6 (k := 0) (Nat.le_of_ble_eq_true rfl) (jx_dc dd_108 2 rfl) (fun _ h => jx_okI_n _ h) rfl w_404) ?_
  refine jx_ac (s_aload_n (jx_dc dd_108 3 rfl) rfl) ?_
  refine jx_ac (s_iload_n (jx_dc dd_108 4 rfl) rfl) ?_
  refine jx_ac (s_callv (ce := 99) kk_6 mc_99 (jx_dc dd_108 5 rfl) w_491 w_492 w_493 ⟨by decide, by decide⟩ np_99) ?_
  refine jx_ac (s_istore_n (jx_dc dd_108 6 rfl) rfl) ?_
  refine jx_ac (s_aload_n (jx_dc dd_108 7 rfl) rfl) ?_
  refine jx_ac (s_getf kk_6 (k := 28) (Nat.le_of_ble_eq_true rfl) (jx_dc dd_108 8 rfl) w_406) ?_
  refine jx_ac (s_ifne (jx_dc dd_108 9 rfl) rfl) ?_
  refine jx_ac (s_iload_n (jx_dc dd_108 10 rfl) rfl) ?_
  refine jx_ac (s_ifge (jx_dc dd_108 11 rfl) rfl) ?_
  refine jx_ac (s_iconst (jx_dc dd_108 12 rfl) rfl) ?_
  refine jx_ac (s_goto (jx_dc dd_108 13 rfl) rfl) ?_
  refine jx_ac (s_aload_n (jx_dc dd_108 14 rfl) rfl) ?_
  refine jx_ac (s_getf kk_6 (k := 19) (Nat.le_of_ble_eq_true rfl) (jx_dc dd_108 15 rfl) w_390) ?_
  refine jx_ac (s_iload_n (jx_dc dd_108 16 rfl) rfl) ?_
  refine jx_ac (s_iald rfl (jx_dc dd_108 17 rfl)) ?_
  refine jx_ac (s_iret rfl (jx_dc dd_108 18 rfl)) ?_
  exact jx_an
theorem A_108 : jx_All (jx_mk D c0 c1 c2 c3 c4 H0 ga L xs) jx_mt md_108 K_108 :=  A_108_0
def dl_109 : List (Nat × Instr × Nat) := [(0, .aload_n 0, 1), (1, .iconst 0, 1), (2, .putfield 89, 3), (5, .aload_n 0, 1), (6, .iload_n 1, 1), (7, .invokevirtual 188, 3), (10, .istore_n 3, 1), (11, .aload_n 0, 1), (12, .getfield 201, 3), (15, .ifCond .ne 21, 3), (18, .iload_n 3, 1), (19, .ifCond .lt 17, 3), (22, .iload_n 2, 1), (23, .ifCond .lt 13, 3), (26, .iload_n 2, 1), (27, .aload_n 0, 1), (28, .getfield 47, 3), (31, .iload_n 3, 1), (32, .iaload, 1), (33, .if_icmp .lt 5, 3), (36, .iconst 0, 1), (37, .ireturn, 1), (38, .bipush 10, 2), (40, .iload_n 3, 1), (41, .imul, 1), (42, .iload_n 2, 1), (43, .iadd, 1), (44, .istore 4, 2), (46, .aload_n 0, 1), (47, .getfield 50, 3), (50, .iload 4, 2), (52, .iaload, 1), (53, .aload_n 0, 1), (54, .getfield 53, 3), (57, .iload 4, 2), (59, .baload, 1), (60, .ifCond .eq 9, 3), (63, .sipush 128, 3), (66, .goto 4, 3), (69, .iconst 0, 1), (70, .iadd, 1), (71, .sipush 256, 3), (74, .aload_n 0, 1), (75, .getfield 56, 3), (78, .iload 4, 2), (80, .iaload, 1), (81, .imul, 1), (82, .iadd, 1), (83, .sipush 4096, 3), (86, .aload_n 0, 1), (87, .getfield 59, 3), (90, .iload 4, 2), (92, .iaload, 1), (93, .iconst 1, 1), (94, .iadd, 1), (95, .imul, 1), (96, .iadd, 1), (97, .ireturn, 1)]
theorem dd_109 : ∀ q ∈ dl_109, decode prog_9_method_41_code q.1 = .ok q.2 := by decide +kernel
theorem A_109_0 : jx_All (jx_mk D c0 c1 c2 c3 c4 H0 ga L xs) jx_mt md_109 K_109_0 := by
  refine jx_ac (s_aload_n (jx_dc dd_109 0 rfl) rfl) ?_
  refine jx_ac (s_iconst (jx_dc dd_109 1 rfl) rfl) ?_
  refine jx_ac (s_putf kk_6 (k := 0) (Nat.le_of_ble_eq_true rfl) (jx_dc dd_109 2 rfl) (fun _ h => jx_okI_n _ h) rfl w_404) ?_
  refine jx_ac (s_aload_n (jx_dc dd_109 3 rfl) rfl) ?_
  refine jx_ac (s_iload_n (jx_dc dd_109 4 rfl) rfl) ?_
  refine jx_ac (s_callv (ce := 99) kk_6 mc_99 (jx_dc dd_109 5 rfl) w_491 w_492 w_493 ⟨by decide, by decide⟩ np_99) ?_
  refine jx_ac (s_istore_n (jx_dc dd_109 6 rfl) rfl) ?_
  refine jx_ac (s_aload_n (jx_dc dd_109 7 rfl) rfl) ?_
  refine jx_ac (s_getf kk_6 (k := 28) (Nat.le_of_ble_eq_true rfl) (jx_dc dd_109 8 rfl) w_406) ?_
  refine jx_ac (s_ifne (jx_dc dd_109 9 rfl) rfl) ?_
  refine jx_ac (s_iload_n (jx_dc dd_109 10 rfl) rfl) ?_
  refine jx_ac (s_iflt (jx_dc dd_109 11 rfl) rfl) ?_
  refine jx_ac (s_iload_n (jx_dc dd_109 12 rfl) rfl) ?_
  refine jx_ac (s_iflt (jx_dc dd_109 13 rfl) rfl) ?_
  refine jx_ac (s_iload_n (jx_dc dd_109 14 rfl) rfl) ?_
  refine jx_ac (s_aload_n (jx_dc dd_109 15 rfl) rfl) ?_
  refine jx_ac (s_getf kk_6 (k := 19) (Nat.le_of_ble_eq_true rfl) (jx_dc dd_109 16 rfl) w_390) ?_
  refine jx_ac (s_iload_n (jx_dc dd_109 17 rfl) rfl) ?_
  refine jx_ac (s_iald rfl (jx_dc dd_109 18 rfl)) ?_
  refine jx_ac (s_ilt (jx_dc dd_109 19 rfl) rfl) ?_
  refine jx_ac (s_iconst (jx_dc dd_109 20 rfl) rfl) ?_
  refine jx_ac (s_iret rfl (jx_dc dd_109 21 rfl)) ?_
  refine jx_ac (s_bipush (jx_dc dd_109 22 rfl) rfl) ?_
  refine jx_ac (s_iload_n (jx_dc dd_109 23 rfl) rfl) ?_
  refine jx_ac (s_imul (jx_dc dd_109 24 rfl)) ?_
  refine jx_ac (s_iload_n (jx_dc dd_109 25 rfl) rfl) ?_
  refine jx_ac (s_iadd (jx_dc dd_109 26 rfl)) ?_
  refine jx_ac (s_istore (jx_dc dd_109 27 rfl)) ?_
  refine jx_ac (s_aload_n (jx_dc dd_109 28 rfl) rfl) ?_
  refine jx_ac (s_getf kk_6 (k := 20) (Nat.le_of_ble_eq_true rfl) (jx_dc dd_109 29 rfl) w_391) ?_
  refine jx_ac (s_iload (jx_dc dd_109 30 rfl)) ?_
  refine jx_ac (s_iald rfl (jx_dc dd_109 31 rfl)) ?_
  refine jx_ac (s_aload_n (jx_dc dd_109 32 rfl) rfl) ?_
  refine jx_ac (s_getf kk_6 (k := 21) (Nat.le_of_ble_eq_true rfl) (jx_dc dd_109 33 rfl) w_392) ?_
  refine jx_ac (s_iload (jx_dc dd_109 34 rfl)) ?_
  refine jx_ac (s_zald rfl (jx_dc dd_109 35 rfl)) ?_
  refine jx_ac (s_ifeq (jx_dc dd_109 36 rfl) rfl) ?_
  refine jx_ac (s_sipush (jx_dc dd_109 37 rfl) rfl) ?_
  refine jx_ac (s_goto (jx_dc dd_109 38 rfl) rfl) ?_
  refine jx_ac (s_iconst (jx_dc dd_109 39 rfl) rfl) ?_
  exact jx_an
theorem A_109_1 : jx_All (jx_mk D c0 c1 c2 c3 c4 H0 ga L xs) jx_mt md_109 K_109_1 := by
  refine jx_ac (s_iadd (jx_dc dd_109 40 rfl)) ?_
  refine jx_ac (s_sipush (jx_dc dd_109 41 rfl) rfl) ?_
  refine jx_ac (s_aload_n (jx_dc dd_109 42 rfl) rfl) ?_
  refine jx_ac (s_getf kk_6 (k := 22) (Nat.le_of_ble_eq_true rfl) (jx_dc dd_109 43 rfl) w_393) ?_
  refine jx_ac (s_iload (jx_dc dd_109 44 rfl)) ?_
  refine jx_ac (s_iald rfl (jx_dc dd_109 45 rfl)) ?_
  refine jx_ac (s_imul (jx_dc dd_109 46 rfl)) ?_
  refine jx_ac (s_iadd (jx_dc dd_109 47 rfl)) ?_
  refine jx_ac (s_sipush (jx_dc dd_109 48 rfl) rfl) ?_
  refine jx_ac (s_aload_n (jx_dc dd_109 49 rfl) rfl) ?_
  refine jx_ac (s_getf kk_6 (k := 23) (Nat.le_of_ble_eq_true rfl) (jx_dc dd_109 50 rfl) w_394) ?_
  refine jx_ac (s_iload (jx_dc dd_109 51 rfl)) ?_
  refine jx_ac (s_iald rfl (jx_dc dd_109 52 rfl)) ?_
  refine jx_ac (s_iconst (jx_dc dd_109 53 rfl) rfl) ?_
  refine jx_ac (s_iadd (jx_dc dd_109 54 rfl)) ?_
  refine jx_ac (s_imul (jx_dc dd_109 55 rfl)) ?_
  refine jx_ac (s_iadd (jx_dc dd_109 56 rfl)) ?_
  refine jx_ac (s_iret rfl (jx_dc dd_109 57 rfl)) ?_
  exact jx_an
theorem A_109 : jx_All (jx_mk D c0 c1 c2 c3 c4 H0 ga L xs) jx_mt md_109 K_109 := (jx_aa A_109_0 A_109_1)
def dl_110 : List (Nat × Instr × Nat) := [(0, .aload_n 0, 1), (1, .iconst 0, 1), (2, .putfield 89, 3), (5, .aload_n 0, 1), (6, .iload_n 1, 1), (7, .invokevirtual 188, 3), (10, .istore 4, 2), (12, .aload_n 0, 1), (13, .getfield 201, 3), (16, .ifCond .ne 38, 3), (19, .iload 4, 2), (21, .ifCond .lt 33, 3), (24, .iload_n 2, 1), (25, .ifCond .lt 29, 3), (28, .iload_n 2, 1), (29, .aload_n 0, 1), (30, .getfield 47, 3), (33, .iload 4, 2), (35, .iaload, 1), (36, .if_icmp .ge 18, 3), (39, .iload_n 3, 1), (40, .ifCond .lt 14, 3), (43, .iload_n 3, 1), (44, .aload_n 0, 1), (45, .getfield 47, 3), (48, .iload 4, 2), (50, .iaload, 1), (51, .if_icmp .lt 5, 3), (54, .iconst 0, 1), (55, .ireturn, 1), (56, .aload_n 0, 1), (57, .getfield 62, 3), (60, .bipush 100, 2), (62, .iload 4, 2), (64, .imul, 1), (65, .bipush 10, 2), (67, .iload_n 2, 1), (68, .imul, 1), (69, .iadd, 1), (70, .iload_n 3, 1), (71, .iadd, 1), (72, .iaload, 1), (73, .ireturn, 1)]
theorem dd_110 : ∀ q ∈ dl_110, decode prog_9_method_42_code q.1 = .ok q.2 := by decide +kernel
theorem A_110_0 : jx_All (jx_mk D c0 c1 c2 c3 c4 H0 ga L xs) jx_mt md_110 K_110_0 := by
  refine jx_ac (s_aload_n (jx_dc dd_110 0 rfl) rfl) ?_
  refine jx_ac (s_iconst (jx_dc dd_110 1 rfl) rfl) ?_
  refine jx_ac (s_putf kk_6 (k := 0) (Nat.le_of_ble_eq_true rfl) (jx_dc dd_110 2 rfl) (fun _ h => jx_okI_n _ h) rfl w_404) ?_
  refine jx_ac (s_aload_n (jx_dc dd_110 3 rfl) rfl) ?_
  refine jx_ac (s_iload_n (jx_dc dd_110 4 rfl) rfl) ?_
  refine jx_ac (s_callv (ce := 99) kk_6 mc_99 (jx_dc dd_110 5 rfl) w_491 w_492 w_493 ⟨by decide, by decide⟩ np_99) ?_
  refine jx_ac (s_istore (jx_dc dd_110 6 rfl)) ?_
  refine jx_ac (s_aload_n (jx_dc dd_110 7 rfl) rfl) ?_
  refine jx_ac (s_getf kk_6 (k := 28) (Nat.le_of_ble_eq_true rfl) (jx_dc dd_110 8 rfl) w_406) ?_
  refine jx_ac (s_ifne (jx_dc dd_110 9 rfl) rfl) ?_
  refine jx_ac (s_iload (jx_dc dd_110 10 rfl)) ?_
  refine jx_ac (s_iflt (jx_dc dd_110 11 rfl) rfl) ?_
  refine jx_ac (s_iload_n (jx_dc dd_110 12 rfl) rfl) ?_
  refine jx_ac (s_iflt (jx_dc dd_110 13 rfl) rfl) ?_
  refine jx_ac (s_iload_n (jx_dc dd_110 14 rfl) rfl) ?_
  refine jx_ac (s_aload_n (jx_dc dd_110 15 rfl) rfl) ?_
  refine jx_ac (s_getf kk_6 (k := 19) (Nat.le_of_ble_eq_true rfl) (jx_dc dd_110 16 rfl) w_390) ?_
  refine jx_ac (s_iload (jx_dc dd_110 17 rfl)) ?_
  refine jx_ac (s_iald rfl (jx_dc dd_110 18 rfl)) ?_
  refine jx_ac (s_ige (jx_dc dd_110 19 rfl) rfl) ?_
  refine jx_ac (s_iload_n (jx_dc dd_110 20 rfl) rfl) ?_
  refine jx_ac (s_iflt (jx_dc dd_110 21 rfl) rfl) ?_
  refine jx_ac (s_iload_n (jx_dc dd_110 22 rfl) rfl) ?_
  refine jx_ac (s_aload_n (jx_dc dd_110 23 rfl) rfl) ?_
  refine jx_ac (s_getf kk_6 (k := 19) (Nat.le_of_ble_eq_true rfl) (jx_dc dd_110 24 rfl) w_390) ?_
  refine jx_ac (s_iload (jx_dc dd_110 25 rfl)) ?_
  refine jx_ac (s_iald rfl (jx_dc dd_110 26 rfl)) ?_
  refine jx_ac (s_ilt (jx_dc dd_110 27 rfl) rfl) ?_
  refine jx_ac (s_iconst (jx_dc dd_110 28 rfl) rfl) ?_
  refine jx_ac (s_iret rfl (jx_dc dd_110 29 rfl)) ?_
  refine jx_ac (s_aload_n (jx_dc dd_110 30 rfl) rfl) ?_
  refine jx_ac (s_getf kk_6 (k := 24) (Nat.le_of_ble_eq_true rfl) (jx_dc dd_110 31 rfl) w_395) ?_
  refine jx_ac (s_bipush (jx_dc dd_110 32 rfl) rfl) ?_
  refine jx_ac (s_iload (jx_dc dd_110 33 rfl)) ?_
  refine jx_ac (s_imul (jx_dc dd_110 34 rfl)) ?_
  refine jx_ac (s_bipush (jx_dc dd_110 35 rfl) rfl) ?_
  refine jx_ac (s_iload_n (jx_dc dd_110 36 rfl) rfl) ?_
  refine jx_ac (s_imul (jx_dc dd_110 37 rfl)) ?_
  refine jx_ac (s_iadd (jx_dc dd_110 38 rfl)) ?_
  refine jx_ac (s_iload_n (jx_dc dd_110 39 rfl) rfl) ?_
  exact jx_an
theorem A_110_1 : jx_All (jx_mk D c0 c1 c2 c3 c4 H0 ga L xs) jx_mt md_110 K_110_1 := by
  refine jx_ac (s_iadd (jx_dc dd_110 40 rfl)) ?_
  refine jx_ac (s_iald rfl (jx_dc dd_110 41 rfl)) ?_
  refine jx_ac (s_iret rfl (jx_dc dd_110 42 rfl)) ?_
  exact jx_an
theorem A_110 : jx_All (jx_mk D c0 c1 c2 c3 c4 H0 ga L xs) jx_mt md_110 K_110 := (jx_aa A_110_0 A_110_1)
def dl_111 : List (Nat × Instr × Nat) := [(0, .iconst 0, 1), (1, .istore_n 2, 1), (2, .iload_n 2, 1), (3, .aload_n 0, 1), (4, .getfield 9, 3), (7, .if_icmp .ge 71, 3), (10, .aload_n 0, 1), (11, .getfield 15, 3), (14, .iload_n 2, 1), (15, .iaload, 1), (16, .invokestatic 19, 3), (19, .aload_n 0, 1), (20, .iload_n 2, 1), (21, .invokestatic 25, 3), (24, .isub, 1), (25, .istore_n 3, 1), (26, .aload_n 1, 1), (27, .iload_n 2, 1), (28, .iaload, 1), (29, .iconst (-1), 1), (30, .if_icmp .eq 10, 3), (33, .aload_n 1, 1), (34, .iload_n 2, 1), (35, .iaload, 1), (36, .iload_n 3, 1), (37, .if_icmp .ne 7, 3), (40, .iconst 1, 1), (41, .goto 4, 3), (44, .iconst 0, 1), (45, .istore 4, 2), (47, .iload_n 3, 1), (48, .ifCond .lt 8, 3), (51, .iload 4, 2), (53, .ifCond .ne 5, 3), (56, .iconst 0, 1), (57, .ireturn, 1), (58, .aload_n 0, 1), (59, .getfield 15, 3), (62, .iload_n 2, 1), (63, .dup2, 1), (64, .iaload, 1), (65, .sipush 256, 3), (68, .iload_n 3, 1), (69, .imul, 1), (70, .iadd, 1), (71, .iastore, 1), (72, .iinc 2 1, 3), (75, .goto (-73), 3), (78, .aload_n 0, 1), (79, .iconst 0, 1), (80, .aload_n 0, 1), (81, .invokestatic 31, 3), (84, .invokestatic 35, 3), (87, .ireturn, 1)]
theorem dd_111 : ∀ q ∈ dl_111, decode prog_2_method_2_code q.1 = .ok q.2 := by decide +kernel
theorem A_111_0 : jx_All (jx_mk D c0 c1 c2 c3 c4 H0 ga L xs) jx_mt md_111 K_111_0 := by
  refine jx_ac (s_iconst (jx_dc dd_111 0 rfl) rfl) ?_
  refine jx_ac (s_istore_n (jx_dc dd_111 1 rfl) rfl) ?_
  refine jx_ac (s_iload_n (jx_dc dd_111 2 rfl) rfl) ?_
  refine jx_ac (s_aload_n (jx_dc dd_111 3 rfl) rfl) ?_
  refine jx_ac (s_getfN kk_0 (k := 3) (Nat.le_of_ble_eq_true rfl) (jx_dc dd_111 4 rfl) w_497) ?_
  refine jx_ac (s_ige (jx_dc dd_111 5 rfl) rfl) ?_
  refine jx_ac (s_aload_n (jx_dc dd_111 6 rfl) rfl) ?_
  refine jx_ac (s_getfN kk_0 (k := 0) (Nat.le_of_ble_eq_true rfl) (jx_dc dd_111 7 rfl) w_498) ?_
  refine jx_ac (s_iload_n (jx_dc dd_111 8 rfl) rfl) ?_
  refine jx_ac (s_iald rfl (jx_dc dd_111 9 rfl)) ?_
  refine jx_ac (s_calls (ce := 112) mc_112 (jx_dc dd_111 10 rfl) w_499 w_500 w_359 ⟨by decide, by decide⟩ np_112) ?_
  refine jx_ac (s_aload_n (jx_dc dd_111 11 rfl) rfl) ?_
  refine jx_ac (s_iload_n (jx_dc dd_111 12 rfl) rfl) ?_
  refine jx_ac (s_calls (ce := 113) mc_113 (jx_dc dd_111 13 rfl) w_501 w_502 w_359 ⟨by decide, by decide⟩ np_113) ?_
  refine jx_ac (s_isub (jx_dc dd_111 14 rfl)) ?_
  refine jx_ac (s_istore_n (jx_dc dd_111 15 rfl) rfl) ?_
  refine jx_ac (s_aload_n (jx_dc dd_111 16 rfl) rfl) ?_
  refine jx_ac (s_iload_n (jx_dc dd_111 17 rfl) rfl) ?_
  refine jx_ac (s_iald rfl (jx_dc dd_111 18 rfl)) ?_
  refine jx_ac (s_iconst (jx_dc dd_111 19 rfl) rfl) ?_
  refine jx_ac (s_ieq (jx_dc dd_111 20 rfl) rfl) ?_
  refine jx_ac (s_aload_n (jx_dc dd_111 21 rfl) rfl) ?_
  refine jx_ac (s_iload_n (jx_dc dd_111 22 rfl) rfl) ?_
  refine jx_ac (s_iald rfl (jx_dc dd_111 23 rfl)) ?_
  refine jx_ac (s_iload_n (jx_dc dd_111 24 rfl) rfl) ?_
  refine jx_ac (s_ine (jx_dc dd_111 25 rfl) rfl) ?_
  refine jx_ac (s_iconst (jx_dc dd_111 26 rfl) rfl) ?_
  refine jx_ac (s_goto (jx_dc dd_111 27 rfl) rfl) ?_
  refine jx_ac (s_iconst (jx_dc dd_111 28 rfl) rfl) ?_
  refine jx_ac (s_istore (jx_dc dd_111 29 rfl)) ?_
  refine jx_ac (s_iload_n (jx_dc dd_111 30 rfl) rfl) ?_
  refine jx_ac (s_iflt (jx_dc dd_111 31 rfl) rfl) ?_
  refine jx_ac (s_iload (jx_dc dd_111 32 rfl)) ?_
  refine jx_ac (s_ifne (jx_dc dd_111 33 rfl) rfl) ?_
  refine jx_ac (s_iconst (jx_dc dd_111 34 rfl) rfl) ?_
  refine jx_ac (s_zret rfl (jx_dc dd_111 35 rfl)) ?_
  refine jx_ac (s_aload_n (jx_dc dd_111 36 rfl) rfl) ?_
  refine jx_ac (s_getfN kk_0 (k := 0) (Nat.le_of_ble_eq_true rfl) (jx_dc dd_111 37 rfl) w_498) ?_
  refine jx_ac (s_iload_n (jx_dc dd_111 38 rfl) rfl) ?_
  refine jx_ac (s_dup2 (jx_dc dd_111 39 rfl)) ?_
  exact jx_an
theorem A_111_1 : jx_All (jx_mk D c0 c1 c2 c3 c4 H0 ga L xs) jx_mt md_111 K_111_1 := by
  refine jx_ac (s_iald rfl (jx_dc dd_111 40 rfl)) ?_
  refine jx_ac (s_sipush (jx_dc dd_111 41 rfl) rfl) ?_
  refine jx_ac (s_iload_n (jx_dc dd_111 42 rfl) rfl) ?_
  refine jx_ac (s_imul (jx_dc dd_111 43 rfl)) ?_
  refine jx_ac (s_iadd (jx_dc dd_111 44 rfl)) ?_
  refine jx_ac (s_iast rfl (jx_dc dd_111 45 rfl)) ?_
  refine jx_ac (s_iinc (jx_dc dd_111 46 rfl) rfl) ?_
  refine jx_ac (s_goto (jx_dc dd_111 47 rfl) rfl) ?_
  refine jx_ac (s_aload_n (jx_dc dd_111 48 rfl) rfl) ?_
  refine jx_ac (s_iconst (jx_dc dd_111 49 rfl) rfl) ?_
  refine jx_ac (s_aload_n (jx_dc dd_111 50 rfl) rfl) ?_
  refine jx_ac (s_calls (ce := 115) mc_115 (jx_dc dd_111 51 rfl) w_503 w_504 w_359 ⟨by decide, by decide⟩ np_115) ?_
  refine jx_ac (s_calls (ce := 116) mc_116 (jx_dc dd_111 52 rfl) w_505 w_506 w_359 ⟨by decide, by decide⟩ np_116) ?_
  refine jx_ac (s_zret rfl (jx_dc dd_111 53 rfl)) ?_
  exact jx_an
theorem A_111 : jx_All (jx_mk D c0 c1 c2 c3 c4 H0 ga L xs) jx_mt md_111 K_111 := (jx_aa A_111_0 A_111_1)
def dl_112 : List (Nat × Instr × Nat) := [(0, .ldc 39, 2), (2, .iload_n 0, 1), (3, .bipush 127, 2), (5, .iand, 1), (6, .i2c, 1), (7, .invokevirtual 41, 3), (10, .istore_n 1, 1), (11, .iload_n 1, 1), (12, .ifCond .ge 7, 3), (15, .iconst 0, 1), (16, .goto 8, 3), (19, .getstatic 46, 3), (22, .iload_n 1, 1), (23, .iaload, 1), (24, .istore_n 2, 1), (25, .iload_n 0, 1), (26, .sipush 12288, 3), (29, .iand, 1), (30, .istore_n 3, 1), (31, .iload_n 3, 1), (32, .sipush 4096, 3), (35, .if_icmp .ne 5, 3), (38, .iload_n 2, 1), (39, .ireturn, 1), (40, .iload_n 3, 1), (41, .sipush 8192, 3), (44, .if_icmp .ne 18, 3), (47, .iload_n 0, 1), (48, .bipush 127, 2), (50, .iand, 1), (51, .bipush 67, 2), (53, .if_icmp .eq 9, 3), (56, .iload_n 2, 1), (57, .iconst 1, 1), (58, .iadd, 1), (59, .goto 6, 3), (62, .iload_n 2, 1), (63, .iconst 1, 1), (64, .isub, 1), (65, .ireturn, 1)]
theorem dd_112 : ∀ q ∈ dl_112, decode prog_2_method_3_code q.1 = .ok q.2 := by decide +kernel
theorem A_112_0 : jx_All (jx_mk D c0 c1 c2 c3 c4 H0 ga L xs) jx_mt md_112 K_112_0 := by
  refine jx_ac (s_ldcS (jx_dc dd_112 0 rfl) (by decide) (fun s h => h.2.1 ("MoleculeRegistry$Chemistry", 39, "CNOSF", 2) (by decide))) ?_
  refine jx_ac (s_iload_n (jx_dc dd_112 1 rfl) rfl) ?_
  refine jx_ac (s_bipush (jx_dc dd_112 2 rfl) rfl) ?_
  refine jx_ac (s_iand (jx_dc dd_112 3 rfl)) ?_
  refine jx_ac (s_i2c (jx_dc dd_112 4 rfl)) ?_
  refine jx_ac (s_callvS (ce := 125) (Nat.le_of_ble_eq_true rfl) (by decide) gS_obj mc_125 (jx_dc dd_112 5 rfl) w_507 w_151 w_152 ⟨by decide, by decide⟩ np_125) ?_
  refine jx_ac (s_istore_n (jx_dc dd_112 6 rfl) rfl) ?_
  refine jx_ac (s_iload_n (jx_dc dd_112 7 rfl) rfl) ?_
  refine jx_ac (s_ifge (jx_dc dd_112 8 rfl) rfl) ?_
  refine jx_ac (s_iconst (jx_dc dd_112 9 rfl) rfl) ?_
  refine jx_ac (s_goto (jx_dc dd_112 10 rfl) rfl) ?_
  refine jx_ac (s_getsN (v := .ref 1) (jx_dc dd_112 11 rfl) w_508 (fun s h => h.2.2.2.2.1.Z)) ?_
  refine jx_ac (s_iload_n (jx_dc dd_112 12 rfl) rfl) ?_
  refine jx_ac (s_iald rfl (jx_dc dd_112 13 rfl)) ?_
  refine jx_ac (s_istore_n (jx_dc dd_112 14 rfl) rfl) ?_
  refine jx_ac (s_iload_n (jx_dc dd_112 15 rfl) rfl) ?_
  refine jx_ac (s_sipush (jx_dc dd_112 16 rfl) rfl) ?_
  refine jx_ac (s_iand (jx_dc dd_112 17 rfl)) ?_
  refine jx_ac (s_istore_n (jx_dc dd_112 18 rfl) rfl) ?_
  refine jx_ac (s_iload_n (jx_dc dd_112 19 rfl) rfl) ?_
  refine jx_ac (s_sipush (jx_dc dd_112 20 rfl) rfl) ?_
  refine jx_ac (s_ine (jx_dc dd_112 21 rfl) rfl) ?_
  refine jx_ac (s_iload_n (jx_dc dd_112 22 rfl) rfl) ?_
  refine jx_ac (s_iret rfl (jx_dc dd_112 23 rfl)) ?_
  refine jx_ac (s_iload_n (jx_dc dd_112 24 rfl) rfl) ?_
  refine jx_ac (s_sipush (jx_dc dd_112 25 rfl) rfl) ?_
  refine jx_ac (s_ine (jx_dc dd_112 26 rfl) rfl) ?_
  refine jx_ac (s_iload_n (jx_dc dd_112 27 rfl) rfl) ?_
  refine jx_ac (s_bipush (jx_dc dd_112 28 rfl) rfl) ?_
  refine jx_ac (s_iand (jx_dc dd_112 29 rfl)) ?_
  refine jx_ac (s_bipush (jx_dc dd_112 30 rfl) rfl) ?_
  refine jx_ac (s_ieq (jx_dc dd_112 31 rfl) rfl) ?_
  refine jx_ac (s_iload_n (jx_dc dd_112 32 rfl) rfl) ?_
  refine jx_ac (s_iconst (jx_dc dd_112 33 rfl) rfl) ?_
  refine jx_ac (s_iadd (jx_dc dd_112 34 rfl)) ?_
  refine jx_ac (s_goto (jx_dc dd_112 35 rfl) rfl) ?_
  refine jx_ac (s_iload_n (jx_dc dd_112 36 rfl) rfl) ?_
  refine jx_ac (s_iconst (jx_dc dd_112 37 rfl) rfl) ?_
  refine jx_ac (s_isub (jx_dc dd_112 38 rfl)) ?_
  refine jx_ac (s_iret rfl (jx_dc dd_112 39 rfl)) ?_
  exact jx_an
theorem A_112 : jx_All (jx_mk D c0 c1 c2 c3 c4 H0 ga L xs) jx_mt md_112 K_112 :=  A_112_0
def dl_113 : List (Nat × Instr × Nat) := [(0, .aload_n 0, 1), (1, .iload_n 1, 1), (2, .iconst 4, 1), (3, .invokevirtual 49, 3), (6, .istore_n 2, 1), (7, .iload_n 2, 1), (8, .ifCond .le 19, 3), (11, .aload_n 0, 1), (12, .getfield 15, 3), (15, .iload_n 1, 1), (16, .iaload, 1), (17, .invokestatic 53, 3), (20, .ifCond .eq 7, 3), (23, .iconst 1, 1), (24, .goto 4, 3), (27, .iconst 0, 1), (28, .istore_n 3, 1), (29, .aload_n 0, 1), (30, .iload_n 1, 1), (31, .iconst 1, 1), (32, .invokevirtual 49, 3), (35, .iconst 2, 1), (36, .aload_n 0, 1), (37, .iload_n 1, 1), (38, .iconst 2, 1), (39, .invokevirtual 49, 3), (42, .imul, 1), (43, .iadd, 1), (44, .iconst 3, 1), (45, .aload_n 0, 1), (46, .iload_n 1, 1), (47, .iconst 3, 1), (48, .invokevirtual 49, 3), (51, .imul, 1), (52, .iadd, 1), (53, .iload_n 2, 1), (54, .iadd, 1), (55, .iload_n 3, 1), (56, .iadd, 1), (57, .ireturn, 1)]
theorem dd_113 : ∀ q ∈ dl_113, decode prog_2_method_4_code q.1 = .ok q.2 := by decide +kernel
theorem A_113_0 : jx_All (jx_mk D c0 c1 c2 c3 c4 H0 ga L xs) jx_mt md_113 K_113_0 := by
  refine jx_ac (s_aload_n (jx_dc dd_113 0 rfl) rfl) ?_
  refine jx_ac (s_iload_n (jx_dc dd_113 1 rfl) rfl) ?_
  refine jx_ac (s_iconst (jx_dc dd_113 2 rfl) rfl) ?_
  refine jx_ac (s_callv (ce := 9) kk_0 mc_9 (jx_dc dd_113 3 rfl) w_509 w_154 w_155 ⟨by decide, by decide⟩ np_9) ?_
  refine jx_ac (s_istore_n (jx_dc dd_113 4 rfl) rfl) ?_
  refine jx_ac (s_iload_n (jx_dc dd_113 5 rfl) rfl) ?_
  refine jx_ac (s_ifle (jx_dc dd_113 6 rfl) rfl) ?_
  refine jx_ac (s_aload_n (jx_dc dd_113 7 rfl) rfl) ?_
  refine jx_ac (s_getfN kk_0 (k := 0) (Nat.le_of_ble_eq_true rfl) (jx_dc dd_113 8 rfl) w_498) ?_
  refine jx_ac (s_iload_n (jx_dc dd_113 9 rfl) rfl) ?_
  refine jx_ac (s_iald rfl (jx_dc dd_113 10 rfl)) ?_
  refine jx_ac (s_calls (ce := 114) mc_114 (jx_dc dd_113 11 rfl) w_510 w_511 w_359 ⟨by decide, by decide⟩ np_114) ?_
  refine jx_ac (s_ifeq (jx_dc dd_113 12 rfl) rfl) ?_
  refine jx_ac (s_iconst (jx_dc dd_113 13 rfl) rfl) ?_
  refine jx_ac (s_goto (jx_dc dd_113 14 rfl) rfl) ?_
  refine jx_ac (s_iconst (jx_dc dd_113 15 rfl) rfl) ?_
  refine jx_ac (s_istore_n (jx_dc dd_113 16 rfl) rfl) ?_
  refine jx_ac (s_aload_n (jx_dc dd_113 17 rfl) rfl) ?_
  refine jx_ac (s_iload_n (jx_dc dd_113 18 rfl) rfl) ?_
  refine jx_ac (s_iconst (jx_dc dd_113 19 rfl) rfl) ?_
  refine jx_ac (s_callv (ce := 9) kk_0 mc_9 (jx_dc dd_113 20 rfl) w_509 w_154 w_155 ⟨by decide, by decide⟩ np_9) ?_
  refine jx_ac (s_iconst (jx_dc dd_113 21 rfl) rfl) ?_
  refine jx_ac (s_aload_n (jx_dc dd_113 22 rfl) rfl) ?_
  refine jx_ac (s_iload_n (jx_dc dd_113 23 rfl) rfl) ?_
  refine jx_ac (s_iconst (jx_dc dd_113 24 rfl) rfl) ?_
  refine jx_ac (s_callv (ce := 9) kk_0 mc_9 (jx_dc dd_113 25 rfl) w_509 w_154 w_155 ⟨by decide, by decide⟩ np_9) ?_
  refine jx_ac (s_imul (jx_dc dd_113 26 rfl)) ?_
  refine jx_ac (s_iadd (jx_dc dd_113 27 rfl)) ?_
  refine jx_ac (s_iconst (jx_dc dd_113 28 rfl) rfl) ?_
  refine jx_ac (s_aload_n (jx_dc dd_113 29 rfl) rfl) ?_
  refine jx_ac (s_iload_n (jx_dc dd_113 30 rfl) rfl) ?_
  refine jx_ac (s_iconst (jx_dc dd_113 31 rfl) rfl) ?_
  refine jx_ac (s_callv (ce := 9) kk_0 mc_9 (jx_dc dd_113 32 rfl) w_509 w_154 w_155 ⟨by decide, by decide⟩ np_9) ?_
  refine jx_ac (s_imul (jx_dc dd_113 33 rfl)) ?_
  refine jx_ac (s_iadd (jx_dc dd_113 34 rfl)) ?_
  refine jx_ac (s_iload_n (jx_dc dd_113 35 rfl) rfl) ?_
  refine jx_ac (s_iadd (jx_dc dd_113 36 rfl)) ?_
  refine jx_ac (s_iload_n (jx_dc dd_113 37 rfl) rfl) ?_
  refine jx_ac (s_iadd (jx_dc dd_113 38 rfl)) ?_
  refine jx_ac (s_iret rfl (jx_dc dd_113 39 rfl)) ?_
  exact jx_an
theorem A_113 : jx_All (jx_mk D c0 c1 c2 c3 c4 H0 ga L xs) jx_mt md_113 K_113 :=  A_113_0
def dl_114 : List (Nat × Instr × Nat) := [(0, .iload_n 0, 1), (1, .bipush 127, 2), (3, .iand, 1), (4, .istore_n 1, 1), (5, .iload_n 0, 1), (6, .sipush 128, 3), (9, .iand, 1), (10, .ifCond .eq 19, 3), (13, .iload_n 1, 1), (14, .bipush 67, 2), (16, .if_icmp .eq 9, 3), (19, .iload_n 1, 1), (20, .bipush 78, 2), (22, .if_icmp .ne 7, 3), (25, .iconst 1, 1), (26, .goto 4, 3), (29, .iconst 0, 1), (30, .ireturn, 1)]
theorem dd_114 : ∀ q ∈ dl_114, decode prog_2_method_5_code q.1 = .ok q.2 := by decide +kernel
theorem A_114_0 : jx_All (jx_mk D c0 c1 c2 c3 c4 H0 ga L xs) jx_mt md_114 K_114_0 := by
  refine jx_ac (s_iload_n (jx_dc dd_114 0 rfl) rfl) ?_
  refine jx_ac (s_bipush (jx_dc dd_114 1 rfl) rfl) ?_
  refine jx_ac (s_iand (jx_dc dd_114 2 rfl)) ?_
  refine jx_ac (s_istore_n (jx_dc dd_114 3 rfl) rfl) ?_
  refine jx_ac (s_iload_n (jx_dc dd_114 4 rfl) rfl) ?_
  refine jx_ac (s_sipush (jx_dc dd_114 5 rfl) rfl) ?_
  refine jx_ac (s_iand (jx_dc dd_114 6 rfl)) ?_
  refine jx_ac (s_ifeq (jx_dc dd_114 7 rfl) rfl) ?_
  refine jx_ac (s_iload_n (jx_dc dd_114 8 rfl) rfl) ?_
  refine jx_ac (s_bipush (jx_dc dd_114 9 rfl) rfl) ?_
  refine jx_ac (s_ieq (jx_dc dd_114 10 rfl) rfl) ?_
  refine jx_ac (s_iload_n (jx_dc dd_114 11 rfl) rfl) ?_
  refine jx_ac (s_bipush (jx_dc dd_114 12 rfl) rfl) ?_
  refine jx_ac (s_ine (jx_dc dd_114 13 rfl) rfl) ?_
  refine jx_ac (s_iconst (jx_dc dd_114 14 rfl) rfl) ?_
  refine jx_ac (s_goto (jx_dc dd_114 15 rfl) rfl) ?_
  refine jx_ac (s_iconst (jx_dc dd_114 16 rfl) rfl) ?_
  refine jx_ac (s_zret rfl (jx_dc dd_114 17 rfl)) ?_
  exact jx_an
theorem A_114 : jx_All (jx_mk D c0 c1 c2 c3 c4 H0 ga L xs) jx_mt md_114 K_114 :=  A_114_0
def dl_115 : List (Nat × Instr × Nat) := [(0, .iconst 0, 1), (1, .istore_n 1, 1), (2, .iconst 0, 1), (3, .istore_n 2, 1), (4, .iload_n 2, 1), (5, .aload_n 0, 1), (6, .getfield 9, 3), (9, .if_icmp .ge 27, 3), (12, .aload_n 0, 1), (13, .getfield 15, 3), (16, .iload_n 2, 1), (17, .iaload, 1), (18, .invokestatic 53, 3), (21, .ifCond .eq 9, 3), (24, .iload_n 1, 1), (25, .iconst 1, 1), (26, .iload_n 2, 1), (27, .ishl, 1), (28, .ior, 1), (29, .istore_n 1, 1), (30, .iinc 2 1, 3), (33, .goto (-29), 3), (36, .iload_n 1, 1), (37, .ireturn, 1)]
theorem dd_115 : ∀ q ∈ dl_115, decode prog_2_method_6_code q.1 = .ok q.2 := by decide +kernel
theorem A_115_0 : jx_All (jx_mk D c0 c1 c2 c3 c4 H0 ga L xs) jx_mt md_115 K_115_0 := by
  refine jx_ac (s_iconst (jx_dc dd_115 0 rfl) rfl) ?_
  refine jx_ac (s_istore_n (jx_dc dd_115 1 rfl) rfl) ?_
  refine jx_ac (s_iconst (jx_dc dd_115 2 rfl) rfl) ?_
  refine jx_ac (s_istore_n (jx_dc dd_115 3 rfl) rfl) ?_
  refine jx_ac (s_iload_n (jx_dc dd_115 4 rfl) rfl) ?_
  refine jx_ac (s_aload_n (jx_dc dd_115 5 rfl) rfl) ?_
  refine jx_ac (s_getfN kk_0 (k := 3) (Nat.le_of_ble_eq_true rfl) (jx_dc dd_115 6 rfl) w_497) ?_
  refine jx_ac (s_ige (jx_dc dd_115 7 rfl) rfl) ?_
  refine jx_ac (s_aload_n (jx_dc dd_115 8 rfl) rfl) ?_
  refine jx_ac (s_getfN kk_0 (k := 0) (Nat.le_of_ble_eq_true rfl) (jx_dc dd_115 9 rfl) w_498) ?_
  refine jx_ac (s_iload_n (jx_dc dd_115 10 rfl) rfl) ?_
  refine jx_ac (s_iald rfl (jx_dc dd_115 11 rfl)) ?_
  refine jx_ac (s_calls (ce := 114) mc_114 (jx_dc dd_115 12 rfl) w_510 w_511 w_359 ⟨by decide, by decide⟩ np_114) ?_
  refine jx_ac (s_ifeq (jx_dc dd_115 13 rfl) rfl) ?_
  refine jx_ac (s_iload_n (jx_dc dd_115 14 rfl) rfl) ?_
  refine jx_ac (s_iconst (jx_dc dd_115 15 rfl) rfl) ?_
  refine jx_ac (s_iload_n (jx_dc dd_115 16 rfl) rfl) ?_
  refine jx_ac (s_ishl (jx_dc dd_115 17 rfl)) ?_
  refine jx_ac (s_ior (jx_dc dd_115 18 rfl)) ?_
  refine jx_ac (s_istore_n (jx_dc dd_115 19 rfl) rfl) ?_
  refine jx_ac (s_iinc (jx_dc dd_115 20 rfl) rfl) ?_
  refine jx_ac (s_goto (jx_dc dd_115 21 rfl) rfl) ?_
  refine jx_ac (s_iload_n (jx_dc dd_115 22 rfl) rfl) ?_
  refine jx_ac (s_iret rfl (jx_dc dd_115 23 rfl)) ?_
  exact jx_an
theorem A_115 : jx_All (jx_mk D c0 c1 c2 c3 c4 H0 ga L xs) jx_mt md_115 K_115 :=  A_115_0
def dl_116 : List (Nat × Instr × Nat) := [(0, .iload_n 1, 1), (1, .aload_n 0, 1), (2, .getfield 9, 3), (5, .if_icmp .lt 5, 3), (8, .iconst 1, 1), (9, .ireturn, 1), (10, .iload_n 2, 1), (11, .iload_n 1, 1), (12, .ishr, 1), (13, .iconst 1, 1), (14, .iand, 1), (15, .ifCond .ne 12, 3), (18, .aload_n 0, 1), (19, .iload_n 1, 1), (20, .iconst 1, 1), (21, .iadd, 1), (22, .iload_n 2, 1), (23, .invokestatic 35, 3), (26, .ireturn, 1), (27, .iload_n 2, 1), (28, .iconst 1, 1), (29, .iload_n 1, 1), (30, .ishl, 1), (31, .iconst (-1), 1), (32, .ixor, 1), (33, .iand, 1), (34, .istore_n 3, 1), (35, .iload_n 3, 1), (36, .aload_n 0, 1), (37, .iload_n 1, 1), (38, .iconst 4, 1), (39, .invokevirtual 57, 3), (42, .iand, 1), (43, .istore 4, 2), (45, .iload_n 1, 1), (46, .iconst 1, 1), (47, .iadd, 1), (48, .istore 5, 2), (50, .iload 5, 2), (52, .aload_n 0, 1), (53, .getfield 9, 3), (56, .if_icmp .ge 39, 3), (59, .iload 4, 2), (61, .iload 5, 2), (63, .ishr, 1), (64, .iconst 1, 1), (65, .iand, 1), (66, .ifCond .eq 23, 3), (69, .aload_n 0, 1), (70, .iload_n 1, 1), (71, .iconst 1, 1), (72, .iadd, 1), (73, .iload_n 3, 1), (74, .iconst 1, 1), (75, .iload 5, 2), (77, .ishl, 1), (78, .iconst (-1), 1), (79, .ixor, 1), (80, .iand, 1), (81, .invokestatic 35, 3), (84, .ifCond .eq 5, 3), (87, .iconst 1, 1), (88, .ireturn, 1), (89, .iinc 5 1, 3), (92, .goto (-42), 3), (95, .iconst 0, 1), (96, .ireturn, 1)]
theorem dd_116 : ∀ q ∈ dl_116, decode prog_2_method_7_code q.1 = .ok q.2 := by decide +kernel
theorem A_116_0 : jx_All (jx_mk D c0 c1 c2 c3 c4 H0 ga L xs) jx_mt md_116 K_116_0 := by
  refine jx_ac (s_iload_n (jx_dc dd_116 0 rfl) rfl) ?_
  refine jx_ac (s_aload_n (jx_dc dd_116 1 rfl) rfl) ?_
  refine jx_ac (s_getfN kk_0 (k := 3) (Nat.le_of_ble_eq_true rfl) (jx_dc dd_116 2 rfl) w_497) ?_
  refine jx_ac (s_ilt (jx_dc dd_116 3 rfl) rfl) ?_
  refine jx_ac (s_iconst (jx_dc dd_116 4 rfl) rfl) ?_
  refine jx_ac (s_zret rfl (jx_dc dd_116 5 rfl)) ?_
  refine jx_ac (s_iload_n (jx_dc dd_116 6 rfl) rfl) ?_
  refine jx_ac (s_iload_n (jx_dc dd_116 7 rfl) rfl) ?_
  refine jx_ac (s_ishr (jx_dc dd_116 8 rfl)) ?_
  refine jx_ac (s_iconst (jx_dc dd_116 9 rfl) rfl) ?_
  refine jx_ac (s_iand (jx_dc dd_116 10 rfl)) ?_
  refine jx_ac (s_ifne (jx_dc dd_116 11 rfl) rfl) ?_
  refine jx_ac (s_aload_n (jx_dc dd_116 12 rfl) rfl) ?_
  refine jx_ac (s_iload_n (jx_dc dd_116 13 rfl) rfl) ?_
  refine jx_ac (s_iconst (jx_dc dd_116 14 rfl) rfl) ?_
  refine jx_ac (s_iadd (jx_dc dd_116 15 rfl)) ?_
  refine jx_ac (s_iload_n (jx_dc dd_116 16 rfl) rfl) ?_
  refine jx_ac (s_calls (ce := 116) mc_116 (jx_dc dd_116 17 rfl) w_505 w_506 w_359 ⟨by decide, by decide⟩ np_116) ?_
  refine jx_ac (s_zret rfl (jx_dc dd_116 18 rfl)) ?_
  refine jx_ac (s_iload_n (jx_dc dd_116 19 rfl) rfl) ?_
  refine jx_ac (s_iconst (jx_dc dd_116 20 rfl) rfl) ?_
  refine jx_ac (s_iload_n (jx_dc dd_116 21 rfl) rfl) ?_
  refine jx_ac (s_ishl (jx_dc dd_116 22 rfl)) ?_
  refine jx_ac (s_iconst (jx_dc dd_116 23 rfl) rfl) ?_
  refine jx_ac (s_ixor (jx_dc dd_116 24 rfl)) ?_
  refine jx_ac (s_iand (jx_dc dd_116 25 rfl)) ?_
  refine jx_ac (s_istore_n (jx_dc dd_116 26 rfl) rfl) ?_
  refine jx_ac (s_iload_n (jx_dc dd_116 27 rfl) rfl) ?_
  refine jx_ac (s_aload_n (jx_dc dd_116 28 rfl) rfl) ?_
  refine jx_ac (s_iload_n (jx_dc dd_116 29 rfl) rfl) ?_
  refine jx_ac (s_iconst (jx_dc dd_116 30 rfl) rfl) ?_
  refine jx_ac (s_callv (ce := 10) kk_0 mc_10 (jx_dc dd_116 31 rfl) w_512 w_160 w_161 ⟨by decide, by decide⟩ np_10) ?_
  refine jx_ac (s_iand (jx_dc dd_116 32 rfl)) ?_
  refine jx_ac (s_istore (jx_dc dd_116 33 rfl)) ?_
  refine jx_ac (s_iload_n (jx_dc dd_116 34 rfl) rfl) ?_
  refine jx_ac (s_iconst (jx_dc dd_116 35 rfl) rfl) ?_
  refine jx_ac (s_iadd (jx_dc dd_116 36 rfl)) ?_
  refine jx_ac (s_istore (jx_dc dd_116 37 rfl)) ?_
  refine jx_ac (s_iload (jx_dc dd_116 38 rfl)) ?_
  refine jx_ac (s_aload_n (jx_dc dd_116 39 rfl) rfl) ?_
  exact jx_an
theorem A_116_1 : jx_All (jx_mk D c0 c1 c2 c3 c4 H0 ga L xs) jx_mt md_116 K_116_1 := by
  refine jx_ac (s_getfN kk_0 (k := 3) (Nat.le_of_ble_eq_true rfl) (jx_dc dd_116 40 rfl) w_497) ?_
  refine jx_ac (s_ige (jx_dc dd_116 41 rfl) rfl) ?_
  refine jx_ac (s_iload (jx_dc dd_116 42 rfl)) ?_
  refine jx_ac (s_iload (jx_dc dd_116 43 rfl)) ?_
  refine jx_ac (s_ishr (jx_dc dd_116 44 rfl)) ?_
  refine jx_ac (s_iconst (jx_dc dd_116 45 rfl) rfl) ?_
  refine jx_ac (s_iand (jx_dc dd_116 46 rfl)) ?_
  refine jx_ac (s_ifeq (jx_dc dd_116 47 rfl) rfl) ?_
  refine jx_ac (s_aload_n (jx_dc dd_116 48 rfl) rfl) ?_
  refine jx_ac (s_iload_n (jx_dc dd_116 49 rfl) rfl) ?_
  refine jx_ac (s_iconst (jx_dc dd_116 50 rfl) rfl) ?_
  refine jx_ac (s_iadd (jx_dc dd_116 51 rfl)) ?_
  refine jx_ac (s_iload_n (jx_dc dd_116 52 rfl) rfl) ?_
  refine jx_ac (s_iconst (jx_dc dd_116 53 rfl) rfl) ?_
  refine jx_ac (s_iload (jx_dc dd_116 54 rfl)) ?_
  refine jx_ac (s_ishl (jx_dc dd_116 55 rfl)) ?_
  refine jx_ac (s_iconst (jx_dc dd_116 56 rfl) rfl) ?_
  refine jx_ac (s_ixor (jx_dc dd_116 57 rfl)) ?_
  refine jx_ac (s_iand (jx_dc dd_116 58 rfl)) ?_
  refine jx_ac (s_calls (ce := 116) mc_116 (jx_dc dd_116 59 rfl) w_505 w_506 w_359 ⟨by decide, by decide⟩ np_116) ?_
  refine jx_ac (s_ifeq (jx_dc dd_116 60 rfl) rfl) ?_
  refine jx_ac (s_iconst (jx_dc dd_116 61 rfl) rfl) ?_
  refine jx_ac (s_zret rfl (jx_dc dd_116 62 rfl)) ?_
  refine jx_ac (s_iinc (jx_dc dd_116 63 rfl) rfl) ?_
  refine jx_ac (s_goto (jx_dc dd_116 64 rfl) rfl) ?_
  refine jx_ac (s_iconst (jx_dc dd_116 65 rfl) rfl) ?_
  refine jx_ac (s_zret rfl (jx_dc dd_116 66 rfl)) ?_
  exact jx_an
theorem A_116 : jx_All (jx_mk D c0 c1 c2 c3 c4 H0 ga L xs) jx_mt md_116 K_116 := (jx_aa A_116_0 A_116_1)
def dl_117 : List (Nat × Instr × Nat) := [(0, .aload_n 1, 1), (1, .iconst 0, 1), (2, .aload_n 0, 1), (3, .invokevirtual 7, 3), (6, .i2l, 1), (7, .lastore, 1), (8, .goto 18, 3), (11, .astore_n 2, 1), (12, .iconst 1, 1), (13, .ireturn, 1), (14, .astore_n 2, 1), (15, .iconst 2, 1), (16, .ireturn, 1), (17, .astore_n 2, 1), (18, .iconst 3, 1), (19, .ireturn, 1), (20, .astore_n 2, 1), (21, .iconst 4, 1), (22, .ireturn, 1), (23, .astore_n 2, 1), (24, .iconst 5, 1), (25, .ireturn, 1), (26, .iconst 0, 1), (27, .ireturn, 1)]
theorem dd_117 : ∀ q ∈ dl_117, decode method_3_code q.1 = .ok q.2 := by decide +kernel
theorem A_117_0 : jx_All (jx_mk D c0 c1 c2 c3 c4 H0 ga L xs) jx_mt md_117 K_117_0 := by
  refine jx_ac (s_aload_n (jx_dc dd_117 0 rfl) rfl) ?_
  refine jx_ac (s_iconst (jx_dc dd_117 1 rfl) rfl) ?_
  refine jx_ac (s_aload_n (jx_dc dd_117 2 rfl) rfl) ?_
  refine jx_ac (s_callv (ce := 61) kk_5 mc_61 (jx_dc dd_117 3 rfl) w_513 w_514 w_515 ⟨by decide, by decide⟩ np_61) ?_
  refine jx_ac (s_i2l (jx_dc dd_117 4 rfl)) ?_
  refine jx_ac (s_last rfl (jx_dc dd_117 5 rfl)) ?_
  refine jx_ac (s_goto (jx_dc dd_117 6 rfl) rfl) ?_
  refine jx_ac (s_astore_n (jx_dc dd_117 7 rfl) rfl) ?_
  refine jx_ac (s_iconst (jx_dc dd_117 8 rfl) rfl) ?_
  refine jx_ac (s_iret rfl (jx_dc dd_117 9 rfl)) ?_
  refine jx_ac (s_astore_n (jx_dc dd_117 10 rfl) rfl) ?_
  refine jx_ac (s_iconst (jx_dc dd_117 11 rfl) rfl) ?_
  refine jx_ac (s_iret rfl (jx_dc dd_117 12 rfl)) ?_
  refine jx_ac (s_astore_n (jx_dc dd_117 13 rfl) rfl) ?_
  refine jx_ac (s_iconst (jx_dc dd_117 14 rfl) rfl) ?_
  refine jx_ac (s_iret rfl (jx_dc dd_117 15 rfl)) ?_
  refine jx_ac (s_astore_n (jx_dc dd_117 16 rfl) rfl) ?_
  refine jx_ac (s_iconst (jx_dc dd_117 17 rfl) rfl) ?_
  refine jx_ac (s_iret rfl (jx_dc dd_117 18 rfl)) ?_
  refine jx_ac (s_astore_n (jx_dc dd_117 19 rfl) rfl) ?_
  refine jx_ac (s_iconst (jx_dc dd_117 20 rfl) rfl) ?_
  refine jx_ac (s_iret rfl (jx_dc dd_117 21 rfl)) ?_
  refine jx_ac (s_iconst (jx_dc dd_117 22 rfl) rfl) ?_
  refine jx_ac (s_iret rfl (jx_dc dd_117 23 rfl)) ?_
  exact jx_an
theorem A_117 : jx_All (jx_mk D c0 c1 c2 c3 c4 H0 ga L xs) jx_mt md_117 K_117 :=  A_117_0
def dl_118 : List (Nat × Instr × Nat) := [(0, .aload_n 1, 1), (1, .iconst 0, 1), (2, .aload_n 0, 1), (3, .invokevirtual 23, 3), (6, .i2l, 1), (7, .lastore, 1), (8, .goto 15, 3), (11, .astore_n 2, 1), (12, .iconst 1, 1), (13, .ireturn, 1), (14, .astore_n 2, 1), (15, .iconst 2, 1), (16, .ireturn, 1), (17, .astore_n 2, 1), (18, .iconst 3, 1), (19, .ireturn, 1), (20, .astore_n 2, 1), (21, .iconst 4, 1), (22, .ireturn, 1), (23, .iconst 0, 1), (24, .ireturn, 1)]
theorem dd_118 : ∀ q ∈ dl_118, decode method_4_code q.1 = .ok q.2 := by decide +kernel
theorem A_118_0 : jx_All (jx_mk D c0 c1 c2 c3 c4 H0 ga L xs) jx_mt md_118 K_118_0 := by
  refine jx_ac (s_aload_n (jx_dc dd_118 0 rfl) rfl) ?_
  refine jx_ac (s_iconst (jx_dc dd_118 1 rfl) rfl) ?_
  refine jx_ac (s_aload_n (jx_dc dd_118 2 rfl) rfl) ?_
  refine jx_ac (s_callv (ce := 66) kk_5 mc_66 (jx_dc dd_118 3 rfl) w_516 w_517 w_518 ⟨by decide, by decide⟩ np_66) ?_
  refine jx_ac (s_i2l (jx_dc dd_118 4 rfl)) ?_
  refine jx_ac (s_last rfl (jx_dc dd_118 5 rfl)) ?_
  refine jx_ac (s_goto (jx_dc dd_118 6 rfl) rfl) ?_
  refine jx_ac (s_astore_n (jx_dc dd_118 7 rfl) rfl) ?_
  refine jx_ac (s_iconst (jx_dc dd_118 8 rfl) rfl) ?_
  refine jx_ac (s_iret rfl (jx_dc dd_118 9 rfl)) ?_
  refine jx_ac (s_astore_n (jx_dc dd_118 10 rfl) rfl) ?_
  refine jx_ac (s_iconst (jx_dc dd_118 11 rfl) rfl) ?_
  refine jx_ac (s_iret rfl (jx_dc dd_118 12 rfl)) ?_
  refine jx_ac (s_astore_n (jx_dc dd_118 13 rfl) rfl) ?_
  refine jx_ac (s_iconst (jx_dc dd_118 14 rfl) rfl) ?_
  refine jx_ac (s_iret rfl (jx_dc dd_118 15 rfl)) ?_
  refine jx_ac (s_astore_n (jx_dc dd_118 16 rfl) rfl) ?_
  refine jx_ac (s_iconst (jx_dc dd_118 17 rfl) rfl) ?_
  refine jx_ac (s_iret rfl (jx_dc dd_118 18 rfl)) ?_
  refine jx_ac (s_iconst (jx_dc dd_118 19 rfl) rfl) ?_
  refine jx_ac (s_iret rfl (jx_dc dd_118 20 rfl)) ?_
  exact jx_an
theorem A_118 : jx_All (jx_mk D c0 c1 c2 c3 c4 H0 ga L xs) jx_mt md_118 K_118 :=  A_118_0
def dl_119 : List (Nat × Instr × Nat) := [(0, .aload_n 1, 1), (1, .iconst 0, 1), (2, .aload_n 0, 1), (3, .invokevirtual 26, 3), (6, .i2l, 1), (7, .lastore, 1), (8, .goto 12, 3), (11, .astore_n 2, 1), (12, .iconst 1, 1), (13, .ireturn, 1), (14, .astore_n 2, 1), (15, .iconst 2, 1), (16, .ireturn, 1), (17, .astore_n 2, 1), (18, .iconst 3, 1), (19, .ireturn, 1), (20, .iconst 0, 1), (21, .ireturn, 1)]
theorem dd_119 : ∀ q ∈ dl_119, decode method_5_code q.1 = .ok q.2 := by decide +kernel
theorem A_119_0 : jx_All (jx_mk D c0 c1 c2 c3 c4 H0 ga L xs) jx_mt md_119 K_119_0 := by
  refine jx_ac (s_aload_n (jx_dc dd_119 0 rfl) rfl) ?_
  refine jx_ac (s_iconst (jx_dc dd_119 1 rfl) rfl) ?_
  refine jx_ac (s_aload_n (jx_dc dd_119 2 rfl) rfl) ?_
  refine jx_ac (s_callv (ce := 67) kk_5 mc_67 (jx_dc dd_119 3 rfl) w_519 w_520 w_521 ⟨by decide, by decide⟩ np_67) ?_
  refine jx_ac (s_i2l (jx_dc dd_119 4 rfl)) ?_
  refine jx_ac (s_last rfl (jx_dc dd_119 5 rfl)) ?_
  refine jx_ac (s_goto (jx_dc dd_119 6 rfl) rfl) ?_
  refine jx_ac (s_astore_n (jx_dc dd_119 7 rfl) rfl) ?_
  refine jx_ac (s_iconst (jx_dc dd_119 8 rfl) rfl) ?_
  refine jx_ac (s_iret rfl (jx_dc dd_119 9 rfl)) ?_
  refine jx_ac (s_astore_n (jx_dc dd_119 10 rfl) rfl) ?_
  refine jx_ac (s_iconst (jx_dc dd_119 11 rfl) rfl) ?_
  refine jx_ac (s_iret rfl (jx_dc dd_119 12 rfl)) ?_
  refine jx_ac (s_astore_n (jx_dc dd_119 13 rfl) rfl) ?_
  refine jx_ac (s_iconst (jx_dc dd_119 14 rfl) rfl) ?_
  refine jx_ac (s_iret rfl (jx_dc dd_119 15 rfl)) ?_
  refine jx_ac (s_iconst (jx_dc dd_119 16 rfl) rfl) ?_
  refine jx_ac (s_iret rfl (jx_dc dd_119 17 rfl)) ?_
  exact jx_an
theorem A_119 : jx_All (jx_mk D c0 c1 c2 c3 c4 H0 ga L xs) jx_mt md_119 K_119 :=  A_119_0
def dl_120 : List (Nat × Instr × Nat) := [(0, .aload_n 2, 1), (1, .iconst 0, 1), (2, .aload_n 0, 1), (3, .iload_n 1, 1), (4, .invokevirtual 29, 3), (7, .i2l, 1), (8, .lastore, 1), (9, .goto 6, 3), (12, .astore_n 3, 1), (13, .iconst 1, 1), (14, .ireturn, 1), (15, .iconst 0, 1), (16, .ireturn, 1)]
theorem dd_120 : ∀ q ∈ dl_120, decode method_6_code q.1 = .ok q.2 := by decide +kernel
theorem A_120_0 : jx_All (jx_mk D c0 c1 c2 c3 c4 H0 ga L xs) jx_mt md_120 K_120_0 := by
  refine jx_ac (s_aload_n (jx_dc dd_120 0 rfl) rfl) ?_
  refine jx_ac (s_iconst (jx_dc dd_120 1 rfl) rfl) ?_
  refine jx_ac (s_aload_n (jx_dc dd_120 2 rfl) rfl) ?_
  refine jx_ac (s_iload_n (jx_dc dd_120 3 rfl) rfl) ?_
  refine jx_ac (s_callv (ce := 68) kk_5 mc_68 (jx_dc dd_120 4 rfl) w_522 w_523 w_524 ⟨by decide, by decide⟩ np_68) ?_
  refine jx_ac (s_i2l (jx_dc dd_120 5 rfl)) ?_
  refine jx_ac (s_last rfl (jx_dc dd_120 6 rfl)) ?_
  refine jx_ac (s_goto (jx_dc dd_120 7 rfl) rfl) ?_
  refine jx_ac (s_astore_n (jx_dc dd_120 8 rfl) rfl) ?_
  refine jx_ac (s_iconst (jx_dc dd_120 9 rfl) rfl) ?_
  refine jx_ac (s_iret rfl (jx_dc dd_120 10 rfl)) ?_
  refine jx_ac (s_iconst (jx_dc dd_120 11 rfl) rfl) ?_
  refine jx_ac (s_iret rfl (jx_dc dd_120 12 rfl)) ?_
  exact jx_an
theorem A_120 : jx_All (jx_mk D c0 c1 c2 c3 c4 H0 ga L xs) jx_mt md_120 K_120 :=  A_120_0
def dl_121 : List (Nat × Instr × Nat) := [(0, .iload_n 0, 1), (1, .iload_n 1, 1), (2, .if_icmp .gt 7, 3), (5, .iload_n 0, 1), (6, .goto 4, 3), (9, .iload_n 1, 1), (10, .ireturn, 1)]
theorem dd_121 : ∀ q ∈ dl_121, decode prog_17_method_69_code q.1 = .ok q.2 := by decide +kernel
theorem A_121_0 : jx_All (jx_mk D c0 c1 c2 c3 c4 H0 ga L xs) jx_mt md_121 K_121_0 := by
  refine jx_ac (s_iload_n (jx_dc dd_121 0 rfl) rfl) ?_
  refine jx_ac (s_iload_n (jx_dc dd_121 1 rfl) rfl) ?_
  refine jx_ac (s_igt (jx_dc dd_121 2 rfl) rfl) ?_
  refine jx_ac (s_iload_n (jx_dc dd_121 3 rfl) rfl) ?_
  refine jx_ac (s_goto (jx_dc dd_121 4 rfl) rfl) ?_
  refine jx_ac (s_iload_n (jx_dc dd_121 5 rfl) rfl) ?_
  refine jx_ac (s_iret rfl (jx_dc dd_121 6 rfl)) ?_
  exact jx_an
theorem A_121 : jx_All (jx_mk D c0 c1 c2 c3 c4 H0 ga L xs) jx_mt md_121 K_121 :=  A_121_0
def dl_122 : List (Nat × Instr × Nat) := [(0, .iload_n 0, 1), (1, .iload_n 1, 1), (2, .if_icmp .lt 7, 3), (5, .iload_n 0, 1), (6, .goto 4, 3), (9, .iload_n 1, 1), (10, .ireturn, 1)]
theorem dd_122 : ∀ q ∈ dl_122, decode prog_17_method_65_code q.1 = .ok q.2 := by decide +kernel
theorem A_122_0 : jx_All (jx_mk D c0 c1 c2 c3 c4 H0 ga L xs) jx_mt md_122 K_122_0 := by
  refine jx_ac (s_iload_n (jx_dc dd_122 0 rfl) rfl) ?_
  refine jx_ac (s_iload_n (jx_dc dd_122 1 rfl) rfl) ?_
  refine jx_ac (s_ilt (jx_dc dd_122 2 rfl) rfl) ?_
  refine jx_ac (s_iload_n (jx_dc dd_122 3 rfl) rfl) ?_
  refine jx_ac (s_goto (jx_dc dd_122 4 rfl) rfl) ?_
  refine jx_ac (s_iload_n (jx_dc dd_122 5 rfl) rfl) ?_
  refine jx_ac (s_iret rfl (jx_dc dd_122 6 rfl)) ?_
  exact jx_an
theorem A_122 : jx_All (jx_mk D c0 c1 c2 c3 c4 H0 ga L xs) jx_mt md_122 K_122 :=  A_122_0
def dl_123 : List (Nat × Instr × Nat) := [(0, .iconst 0, 1), (1, .istore_n 2, 1), (2, .aload_n 0, 1), (3, .arraylength, 1), (4, .istore_n 3, 1), (5, .iload_n 2, 1), (6, .iload_n 3, 1), (7, .if_icmp .ge 13, 3), (10, .aload_n 0, 1), (11, .iload_n 2, 1), (12, .iload_n 1, 1), (13, .iastore, 1), (14, .iinc 2 1, 3), (17, .goto (-12), 3), (20, .return_, 1)]
theorem dd_123 : ∀ q ∈ dl_123, decode prog_25_method_103_code q.1 = .ok q.2 := by decide +kernel
theorem A_123_0 : jx_All (jx_mk D c0 c1 c2 c3 c4 H0 ga L xs) jx_mt md_123 K_123_0 := by
  refine jx_ac (s_iconst (jx_dc dd_123 0 rfl) rfl) ?_
  refine jx_ac (s_istore_n (jx_dc dd_123 1 rfl) rfl) ?_
  refine jx_ac (s_aload_n (jx_dc dd_123 2 rfl) rfl) ?_
  refine jx_ac (s_alen jx_mk_ty (jx_dc dd_123 3 rfl)) ?_
  refine jx_ac (s_istore_n (jx_dc dd_123 4 rfl) rfl) ?_
  refine jx_ac (s_iload_n (jx_dc dd_123 5 rfl) rfl) ?_
  refine jx_ac (s_iload_n (jx_dc dd_123 6 rfl) rfl) ?_
  refine jx_ac (s_ige (jx_dc dd_123 7 rfl) rfl) ?_
  refine jx_ac (s_aload_n (jx_dc dd_123 8 rfl) rfl) ?_
  refine jx_ac (s_iload_n (jx_dc dd_123 9 rfl) rfl) ?_
  refine jx_ac (s_iload_n (jx_dc dd_123 10 rfl) rfl) ?_
  refine jx_ac (s_iast rfl (jx_dc dd_123 11 rfl)) ?_
  refine jx_ac (s_iinc (jx_dc dd_123 12 rfl) rfl) ?_
  refine jx_ac (s_goto (jx_dc dd_123 13 rfl) rfl) ?_
  refine jx_ac (s_ret rfl (jx_dc dd_123 14 rfl)) ?_
  exact jx_an
theorem A_123 : jx_All (jx_mk D c0 c1 c2 c3 c4 H0 ga L xs) jx_mt md_123 K_123 :=  A_123_0
def dl_124 : List (Nat × Instr × Nat) := [(0, .iload_n 0, 1), (1, .iload_n 0, 1), (2, .iconst 1, 1), (3, .iushr, 1), (4, .ldc_w 265, 3), (7, .iand, 1), (8, .isub, 1), (9, .istore_n 0, 1), (10, .iload_n 0, 1), (11, .ldc_w 266, 3), (14, .iand, 1), (15, .iload_n 0, 1), (16, .iconst 2, 1), (17, .iushr, 1), (18, .ldc_w 266, 3), (21, .iand, 1), (22, .iadd, 1), (23, .istore_n 0, 1), (24, .iload_n 0, 1), (25, .iload_n 0, 1), (26, .iconst 4, 1), (27, .iushr, 1), (28, .iadd, 1), (29, .ldc_w 267, 3), (32, .iand, 1), (33, .istore_n 0, 1), (34, .iload_n 0, 1), (35, .iload_n 0, 1), (36, .bipush 8, 2), (38, .iushr, 1), (39, .iadd, 1), (40, .istore_n 0, 1), (41, .iload_n 0, 1), (42, .iload_n 0, 1), (43, .bipush 16, 2), (45, .iushr, 1), (46, .iadd, 1), (47, .istore_n 0, 1), (48, .iload_n 0, 1), (49, .bipush 63, 2), (51, .iand, 1), (52, .ireturn, 1)]
theorem dd_124 : ∀ q ∈ dl_124, decode prog_16_method_49_code q.1 = .ok q.2 := by decide +kernel
theorem A_124_0 : jx_All (jx_mk D c0 c1 c2 c3 c4 H0 ga L xs) jx_mt md_124 K_124_0 := by
  refine jx_ac (s_iload_n (jx_dc dd_124 0 rfl) rfl) ?_
  refine jx_ac (s_iload_n (jx_dc dd_124 1 rfl) rfl) ?_
  refine jx_ac (s_iconst (jx_dc dd_124 2 rfl) rfl) ?_
  refine jx_ac (s_iushr (jx_dc dd_124 3 rfl)) ?_
  refine jx_ac (s_ldc_w (jx_dc dd_124 4 rfl) w_525) ?_
  refine jx_ac (s_iand (jx_dc dd_124 5 rfl)) ?_
  refine jx_ac (s_isub (jx_dc dd_124 6 rfl)) ?_
  refine jx_ac (s_istore_n (jx_dc dd_124 7 rfl) rfl) ?_
  refine jx_ac (s_iload_n (jx_dc dd_124 8 rfl) rfl) ?_
  refine jx_ac (s_ldc_w (jx_dc dd_124 9 rfl) w_526) ?_
  refine jx_ac (s_iand (jx_dc dd_124 10 rfl)) ?_
  refine jx_ac (s_iload_n (jx_dc dd_124 11 rfl) rfl) ?_
  refine jx_ac (s_iconst (jx_dc dd_124 12 rfl) rfl) ?_
  refine jx_ac (s_iushr (jx_dc dd_124 13 rfl)) ?_
  refine jx_ac (s_ldc_w (jx_dc dd_124 14 rfl) w_526) ?_
  refine jx_ac (s_iand (jx_dc dd_124 15 rfl)) ?_
  refine jx_ac (s_iadd (jx_dc dd_124 16 rfl)) ?_
  refine jx_ac (s_istore_n (jx_dc dd_124 17 rfl) rfl) ?_
  refine jx_ac (s_iload_n (jx_dc dd_124 18 rfl) rfl) ?_
  refine jx_ac (s_iload_n (jx_dc dd_124 19 rfl) rfl) ?_
  refine jx_ac (s_iconst (jx_dc dd_124 20 rfl) rfl) ?_
  refine jx_ac (s_iushr (jx_dc dd_124 21 rfl)) ?_
  refine jx_ac (s_iadd (jx_dc dd_124 22 rfl)) ?_
  refine jx_ac (s_ldc_w (jx_dc dd_124 23 rfl) w_527) ?_
  refine jx_ac (s_iand (jx_dc dd_124 24 rfl)) ?_
  refine jx_ac (s_istore_n (jx_dc dd_124 25 rfl) rfl) ?_
  refine jx_ac (s_iload_n (jx_dc dd_124 26 rfl) rfl) ?_
  refine jx_ac (s_iload_n (jx_dc dd_124 27 rfl) rfl) ?_
  refine jx_ac (s_bipush (jx_dc dd_124 28 rfl) rfl) ?_
  refine jx_ac (s_iushr (jx_dc dd_124 29 rfl)) ?_
  refine jx_ac (s_iadd (jx_dc dd_124 30 rfl)) ?_
  refine jx_ac (s_istore_n (jx_dc dd_124 31 rfl) rfl) ?_
  refine jx_ac (s_iload_n (jx_dc dd_124 32 rfl) rfl) ?_
  refine jx_ac (s_iload_n (jx_dc dd_124 33 rfl) rfl) ?_
  refine jx_ac (s_bipush (jx_dc dd_124 34 rfl) rfl) ?_
  refine jx_ac (s_iushr (jx_dc dd_124 35 rfl)) ?_
  refine jx_ac (s_iadd (jx_dc dd_124 36 rfl)) ?_
  refine jx_ac (s_istore_n (jx_dc dd_124 37 rfl) rfl) ?_
  refine jx_ac (s_iload_n (jx_dc dd_124 38 rfl) rfl) ?_
  refine jx_ac (s_bipush (jx_dc dd_124 39 rfl) rfl) ?_
  exact jx_an
theorem A_124_1 : jx_All (jx_mk D c0 c1 c2 c3 c4 H0 ga L xs) jx_mt md_124 K_124_1 := by
  refine jx_ac (s_iand (jx_dc dd_124 40 rfl)) ?_
  refine jx_ac (s_iret rfl (jx_dc dd_124 41 rfl)) ?_
  exact jx_an
theorem A_124 : jx_All (jx_mk D c0 c1 c2 c3 c4 H0 ga L xs) jx_mt md_124 K_124 := (jx_aa A_124_0 A_124_1)
def dl_125 : List (Nat × Instr × Nat) := [(0, .aload_n 0, 1), (1, .iload_n 1, 1), (2, .iconst 0, 1), (3, .invokevirtual 633, 3), (6, .ireturn, 1)]
theorem dd_125 : ∀ q ∈ dl_125, decode prog_19_method_79_code q.1 = .ok q.2 := by decide +kernel
theorem A_125_0 : jx_All (jx_mk D c0 c1 c2 c3 c4 H0 ga L xs) jx_mt md_125 K_125_0 := by
  refine jx_ac (s_aload_n (jx_dc dd_125 0 rfl) rfl) ?_
  refine jx_ac (s_iload_n (jx_dc dd_125 1 rfl) rfl) ?_
  refine jx_ac (s_iconst (jx_dc dd_125 2 rfl) rfl) ?_
  refine jx_ac (s_callvS (ce := 126) (Nat.le_of_ble_eq_true rfl) (by decide) gS_obj mc_126 (jx_dc dd_125 3 rfl) w_528 w_529 w_530 ⟨by decide, by decide⟩ np_126) ?_
  refine jx_ac (s_iret rfl (jx_dc dd_125 4 rfl)) ?_
  exact jx_an
theorem A_125 : jx_All (jx_mk D c0 c1 c2 c3 c4 H0 ga L xs) jx_mt md_125 K_125 :=  A_125_0
def dl_126 : List (Nat × Instr × Nat) := [(0, .aload_n 0, 1), (1, .invokevirtual 492, 3), (4, .ifCond .eq 19, 3), (7, .aload_n 0, 1), (8, .getfield 9, 3), (11, .iload_n 1, 1), (12, .iload_n 2, 1), (13, .aload_n 0, 1), (14, .invokevirtual 505, 3), (17, .invokestatic 637, 3), (20, .goto 16, 3), (23, .aload_n 0, 1), (24, .getfield 9, 3), (27, .iload_n 1, 1), (28, .iload_n 2, 1), (29, .aload_n 0, 1), (30, .invokevirtual 505, 3), (33, .invokestatic 640, 3), (36, .ireturn, 1)]
theorem dd_126 : ∀ q ∈ dl_126, decode prog_19_method_80_code q.1 = .ok q.2 := by decide +kernel
theorem A_126_0 : jx_All (jx_mk D c0 c1 c2 c3 c4 H0 ga L xs) jx_mt md_126 K_126_0 := by
  refine jx_ac (s_aload_n (jx_dc dd_126 0 rfl) rfl) ?_
  refine jx_ac (s_callvS (ce := 127) (Nat.le_of_ble_eq_true rfl) (by decide) gS_obj mc_127 (jx_dc dd_126 1 rfl) w_531 w_532 w_533 ⟨by decide, by decide⟩ np_127) ?_
  refine jx_ac (s_ifeq (jx_dc dd_126 2 rfl) rfl) ?_
  refine jx_ac (s_aload_n (jx_dc dd_126 3 rfl) rfl) ?_
  refine jx_ac (s_getfS (Nat.le_of_ble_eq_true rfl) (by decide) (jx_dc dd_126 4 rfl) w_534 gS_value) ?_
  refine jx_ac (s_iload_n (jx_dc dd_126 5 rfl) rfl) ?_
  refine jx_ac (s_iload_n (jx_dc dd_126 6 rfl) rfl) ?_
  refine jx_ac (s_aload_n (jx_dc dd_126 7 rfl) rfl) ?_
  refine jx_ac (s_callvS (ce := 128) (Nat.le_of_ble_eq_true rfl) (by decide) gS_obj mc_128 (jx_dc dd_126 8 rfl) w_535 w_536 w_537 ⟨by decide, by decide⟩ np_128) ?_
  refine jx_ac (s_calls (ce := 131) mc_131 (jx_dc dd_126 9 rfl) w_538 w_539 w_540 ⟨by decide, by decide⟩ np_131) ?_
  refine jx_ac (s_goto (jx_dc dd_126 10 rfl) rfl) ?_
  refine jx_ac (s_aload_n (jx_dc dd_126 11 rfl) rfl) ?_
  refine jx_ac (s_getfS (Nat.le_of_ble_eq_true rfl) (by decide) (jx_dc dd_126 12 rfl) w_534 gS_value) ?_
  refine jx_ac (s_iload_n (jx_dc dd_126 13 rfl) rfl) ?_
  refine jx_ac (s_iload_n (jx_dc dd_126 14 rfl) rfl) ?_
  refine jx_ac (s_aload_n (jx_dc dd_126 15 rfl) rfl) ?_
  refine jx_ac (s_callvS (ce := 128) (Nat.le_of_ble_eq_true rfl) (by decide) gS_obj mc_128 (jx_dc dd_126 16 rfl) w_535 w_536 w_537 ⟨by decide, by decide⟩ np_128) ?_
  refine jx_ac (s_iret rfl (jx_dc dd_126 18 rfl)) ?_
  exact jx_an
theorem A_126 : jx_All (jx_mk D c0 c1 c2 c3 c4 H0 ga L xs) jx_mt md_126 K_126 :=  A_126_0
def dl_127 : List (Nat × Instr × Nat) := [(0, .getstatic 38, 3), (3, .ifCond .eq 14, 3), (6, .aload_n 0, 1), (7, .getfield 15, 3), (10, .ifCond .ne 7, 3), (13, .iconst 1, 1), (14, .goto 4, 3), (17, .iconst 0, 1), (18, .ireturn, 1)]
theorem dd_127 : ∀ q ∈ dl_127, decode prog_19_method_154_code q.1 = .ok q.2 := by decide +kernel
theorem A_127_0 : jx_All (jx_mk D c0 c1 c2 c3 c4 H0 ga L xs) jx_mt md_127 K_127_0 := by
  refine jx_ac (s_gets (v := .int 1) (jx_dc dd_127 0 rfl) w_541 (fun s h => h.2.2.2.2.2.1.Z)) ?_
  refine jx_ac (s_ifeq (jx_dc dd_127 1 rfl) rfl) ?_
  refine jx_ac (s_aload_n (jx_dc dd_127 2 rfl) rfl) ?_
  refine jx_ac (s_getfS (Nat.le_of_ble_eq_true rfl) (by decide) (jx_dc dd_127 3 rfl) w_542 gS_coder) ?_
  refine jx_ac (s_ifne (jx_dc dd_127 4 rfl) rfl) ?_
  refine jx_ac (s_iconst (jx_dc dd_127 5 rfl) rfl) ?_
  refine jx_ac (s_goto (jx_dc dd_127 6 rfl) rfl) ?_
  refine jx_ac (s_iconst (jx_dc dd_127 7 rfl) rfl) ?_
  refine jx_ac (s_zret rfl (jx_dc dd_127 8 rfl)) ?_
  exact jx_an
theorem A_127 : jx_All (jx_mk D c0 c1 c2 c3 c4 H0 ga L xs) jx_mt md_127 K_127 :=  A_127_0
def dl_128 : List (Nat × Instr × Nat) := [(0, .aload_n 0, 1), (1, .getfield 9, 3), (4, .arraylength, 1), (5, .aload_n 0, 1), (6, .invokevirtual 335, 3), (9, .ishr, 1), (10, .ireturn, 1)]
theorem dd_128 : ∀ q ∈ dl_128, decode prog_19_method_54_code q.1 = .ok q.2 := by decide +kernel
theorem A_128_0 : jx_All (jx_mk D c0 c1 c2 c3 c4 H0 ga L xs) jx_mt md_128 K_128_0 := by
  refine jx_ac (s_aload_n (jx_dc dd_128 0 rfl) rfl) ?_
  refine jx_ac (s_getfS (Nat.le_of_ble_eq_true rfl) (by decide) (jx_dc dd_128 1 rfl) w_534 gS_value) ?_
  refine jx_ac (s_alen jx_mk_ty (jx_dc dd_128 2 rfl)) ?_
  refine jx_ac (s_aload_n (jx_dc dd_128 3 rfl) rfl) ?_
  refine jx_ac (s_callvS (ce := 129) (Nat.le_of_ble_eq_true rfl) (by decide) gS_obj mc_129 (jx_dc dd_128 4 rfl) w_543 w_544 w_545 ⟨by decide, by decide⟩ np_129) ?_
  refine jx_ac (s_ishr (jx_dc dd_128 5 rfl)) ?_
  refine jx_ac (s_iret rfl (jx_dc dd_128 6 rfl)) ?_
  exact jx_an
theorem A_128 : jx_All (jx_mk D c0 c1 c2 c3 c4 H0 ga L xs) jx_mt md_128 K_128 :=  A_128_0
def dl_129 : List (Nat × Instr × Nat) := [(0, .getstatic 38, 3), (3, .ifCond .eq 10, 3), (6, .aload_n 0, 1), (7, .getfield 15, 3), (10, .goto 4, 3), (13, .iconst 1, 1), (14, .ireturn, 1)]
theorem dd_129 : ∀ q ∈ dl_129, decode prog_19_method_152_code q.1 = .ok q.2 := by decide +kernel
theorem A_129_0 : jx_All (jx_mk D c0 c1 c2 c3 c4 H0 ga L xs) jx_mt md_129 K_129_0 := by
  refine jx_ac (s_gets (v := .int 1) (jx_dc dd_129 0 rfl) w_541 (fun s h => h.2.2.2.2.2.1.Z)) ?_
  refine jx_ac (s_ifeq (jx_dc dd_129 1 rfl) rfl) ?_
  refine jx_ac (s_aload_n (jx_dc dd_129 2 rfl) rfl) ?_
  refine jx_ac (s_getfS (Nat.le_of_ble_eq_true rfl) (by decide) (jx_dc dd_129 3 rfl) w_542 gS_coder) ?_
  refine jx_ac (s_goto (jx_dc dd_129 4 rfl) rfl) ?_
  refine jx_ac (s_iconst (jx_dc dd_129 5 rfl) rfl) ?_
  refine jx_ac (s_bret rfl (jx_dc dd_129 6 rfl)) ?_
  exact jx_an
theorem A_129 : jx_All (jx_mk D c0 c1 c2 c3 c4 H0 ga L xs) jx_mt md_129 K_129 :=  A_129_0
def dl_130 : List (Nat × Instr × Nat) := [(0, .iload_n 0, 1), (1, .ifCond .lt 14, 3), (4, .iload_n 0, 1), (5, .sipush 255, 3), (8, .if_icmp .gt 7, 3), (11, .iconst 1, 1), (12, .goto 4, 3), (15, .iconst 0, 1), (16, .ireturn, 1)]
theorem dd_130 : ∀ q ∈ dl_130, decode prog_20_method_4_code q.1 = .ok q.2 := by decide +kernel
theorem A_130_0 : jx_All (jx_mk D c0 c1 c2 c3 c4 H0 ga L xs) jx_mt md_130 K_130_0 := by
  refine jx_ac (s_iload_n (jx_dc dd_130 0 rfl) rfl) ?_
  refine jx_ac (s_iflt (jx_dc dd_130 1 rfl) rfl) ?_
  refine jx_ac (s_iload_n (jx_dc dd_130 2 rfl) rfl) ?_
  refine jx_ac (s_sipush (jx_dc dd_130 3 rfl) rfl) ?_
  refine jx_ac (s_igt (jx_dc dd_130 4 rfl) rfl) ?_
  refine jx_ac (s_iconst (jx_dc dd_130 5 rfl) rfl) ?_
  refine jx_ac (s_goto (jx_dc dd_130 6 rfl) rfl) ?_
  refine jx_ac (s_iconst (jx_dc dd_130 7 rfl) rfl) ?_
  refine jx_ac (s_zret rfl (jx_dc dd_130 8 rfl)) ?_
  exact jx_an
theorem A_130 : jx_All (jx_mk D c0 c1 c2 c3 c4 H0 ga L xs) jx_mt md_130 K_130 :=  A_130_0
def dl_131 : List (Nat × Instr × Nat) := [(0, .iload_n 1, 1), (1, .invokestatic 88, 3), (4, .ifCond .ne 5, 3), (7, .iconst (-1), 1), (8, .ireturn, 1), (9, .iload_n 2, 1), (10, .iconst 0, 1), (11, .invokestatic 92, 3), (14, .istore_n 2, 1), (15, .iload_n 3, 1), (16, .aload_n 0, 1), (17, .arraylength, 1), (18, .invokestatic 38, 3), (21, .istore_n 3, 1), (22, .iload_n 2, 1), (23, .iload_n 3, 1), (24, .if_icmp .lt 5, 3), (27, .iconst (-1), 1), (28, .ireturn, 1), (29, .aload_n 0, 1), (30, .iload_n 1, 1), (31, .iload_n 2, 1), (32, .iload_n 3, 1), (33, .invokestatic 95, 3), (36, .ireturn, 1)]
theorem dd_131 : ∀ q ∈ dl_131, decode prog_20_method_22_code q.1 = .ok q.2 := by decide +kernel
theorem A_131_0 : jx_All (jx_mk D c0 c1 c2 c3 c4 H0 ga L xs) jx_mt md_131 K_131_0 := by
  refine jx_ac (s_iload_n (jx_dc dd_131 0 rfl) rfl) ?_
  refine jx_ac (s_calls (ce := 130) mc_130 (jx_dc dd_131 1 rfl) w_546 w_547 w_540 ⟨by decide, by decide⟩ np_130) ?_
  refine jx_ac (s_ifne (jx_dc dd_131 2 rfl) rfl) ?_
  refine jx_ac (s_iconst (jx_dc dd_131 3 rfl) rfl) ?_
  refine jx_ac (s_iret rfl (jx_dc dd_131 4 rfl)) ?_
  refine jx_ac (s_iload_n (jx_dc dd_131 5 rfl) rfl) ?_
  refine jx_ac (s_iconst (jx_dc dd_131 6 rfl) rfl) ?_
  refine jx_ac (s_calls (ce := 122) mc_122 (jx_dc dd_131 7 rfl) w_548 w_549 w_175 ⟨by decide, by decide⟩ np_122) ?_
  refine jx_ac (s_istore_n (jx_dc dd_131 8 rfl) rfl) ?_
  refine jx_ac (s_iload_n (jx_dc dd_131 9 rfl) rfl) ?_
  refine jx_ac (s_aload_n (jx_dc dd_131 10 rfl) rfl) ?_
  refine jx_ac (s_alen jx_mk_ty (jx_dc dd_131 11 rfl)) ?_
  refine jx_ac (s_calls (ce := 121) mc_121 (jx_dc dd_131 12 rfl) w_550 w_174 w_175 ⟨by decide, by decide⟩ np_121) ?_
  refine jx_ac (s_istore_n (jx_dc dd_131 13 rfl) rfl) ?_
  refine jx_ac (s_iload_n (jx_dc dd_131 14 rfl) rfl) ?_
  refine jx_ac (s_iload_n (jx_dc dd_131 15 rfl) rfl) ?_
  refine jx_ac (s_ilt (jx_dc dd_131 16 rfl) rfl) ?_
  refine jx_ac (s_iconst (jx_dc dd_131 17 rfl) rfl) ?_
  refine jx_ac (s_iret rfl (jx_dc dd_131 18 rfl)) ?_
  refine jx_ac (s_aload_n (jx_dc dd_131 19 rfl) rfl) ?_
  refine jx_ac (s_iload_n (jx_dc dd_131 20 rfl) rfl) ?_
  refine jx_ac (s_iload_n (jx_dc dd_131 21 rfl) rfl) ?_
  refine jx_ac (s_iload_n (jx_dc dd_131 22 rfl) rfl) ?_
  refine jx_ac (s_calls (ce := 132) mc_132 (jx_dc dd_131 23 rfl) w_551 w_552 w_540 ⟨by decide, by decide⟩ np_132) ?_
  refine jx_ac (s_iret rfl (jx_dc dd_131 24 rfl)) ?_
  exact jx_an
theorem A_131 : jx_All (jx_mk D c0 c1 c2 c3 c4 H0 ga L xs) jx_mt md_131 K_131 :=  A_131_0
def dl_132 : List (Nat × Instr × Nat) := [(0, .iload_n 1, 1), (1, .i2b, 1), (2, .istore 4, 2), (4, .iload_n 2, 1), (5, .istore 5, 2), (7, .iload 5, 2), (9, .iload_n 3, 1), (10, .if_icmp .ge 21, 3), (13, .aload_n 0, 1), (14, .iload 5, 2), (16, .baload, 1), (17, .iload 4, 2), (19, .if_icmp .ne 6, 3), (22, .iload 5, 2), (24, .ireturn, 1), (25, .iinc 5 1, 3), (28, .goto (-21), 3), (31, .iconst (-1), 1), (32, .ireturn, 1)]
theorem dd_132 : ∀ q ∈ dl_132, decode prog_20_method_23_code q.1 = .ok q.2 := by decide +kernel
theorem A_132_0 : jx_All (jx_mk D c0 c1 c2 c3 c4 H0 ga L xs) jx_mt md_132 K_132_0 := by
  refine jx_ac (s_iload_n (jx_dc dd_132 0 rfl) rfl) ?_
  refine jx_ac (s_i2b (jx_dc dd_132 1 rfl)) ?_
  refine jx_ac (s_istore (jx_dc dd_132 2 rfl)) ?_
  refine jx_ac (s_iload_n (jx_dc dd_132 3 rfl) rfl) ?_
  refine jx_ac (s_istore (jx_dc dd_132 4 rfl)) ?_
  refine jx_ac (s_iload (jx_dc dd_132 5 rfl)) ?_
  refine jx_ac (s_iload_n (jx_dc dd_132 6 rfl) rfl) ?_
  refine jx_ac (s_ige (jx_dc dd_132 7 rfl) rfl) ?_
  refine jx_ac (s_aload_n (jx_dc dd_132 8 rfl) rfl) ?_
  refine jx_ac (s_iload (jx_dc dd_132 9 rfl)) ?_
  refine jx_ac (s_bald (jx_dc dd_132 10 rfl)) ?_
  refine jx_ac (s_iload (jx_dc dd_132 11 rfl)) ?_
  refine jx_ac (s_ine (jx_dc dd_132 12 rfl) rfl) ?_
  refine jx_ac (s_iload (jx_dc dd_132 13 rfl)) ?_
  refine jx_ac (s_iret rfl (jx_dc dd_132 14 rfl)) ?_
  refine jx_ac (s_iinc (jx_dc dd_132 15 rfl) rfl) ?_
  refine jx_ac (s_goto (jx_dc dd_132 16 rfl) rfl) ?_
  refine jx_ac (s_iconst (jx_dc dd_132 17 rfl) rfl) ?_
  refine jx_ac (s_iret rfl (jx_dc dd_132 18 rfl)) ?_
  exact jx_an
theorem A_132 : jx_All (jx_mk D c0 c1 c2 c3 c4 H0 ga L xs) jx_mt md_132 K_132 :=  A_132_0
end JT
