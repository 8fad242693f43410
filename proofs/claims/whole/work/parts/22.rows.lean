/-! printed by wip/whole/gen.py: each operation is what its instruction does -/
section JT
variable {D : va_G} {c0 c1 c2 c3 c4 : ClassId} {H0 : Heap} {ga : Nat → Nat} {L : Nat} {xs : Nat → Int32}
def dl_0 : List (Nat × Instr × Nat) := [(0, .new 8, 3), (3, .dup, 1), (4, .invokespecial 33, 3), (7, .astore_n 1, 1), (8, .new 34, 3), (11, .dup, 1), (12, .invokespecial 36, 3), (15, .astore_n 2, 1), (16, .iconst 1, 1), (17, .newarray .long, 2), (19, .astore_n 3, 1), (20, .iconst 0, 1), (21, .istore 4, 2), (23, .iload 4, 2), (25, .aload_n 0, 1), (26, .arraylength, 1), (27, .iconst 4, 1), (28, .isub, 1), (29, .if_icmp .gt 524, 3), (32, .aload_n 0, 1), (33, .iload 4, 2), (35, .iaload, 1), (36, .bipush 15, 2), (38, .iand, 1), (39, .tableswitch 508 0 12 #[65, 122, 133, 177, 221, 265, 290, 346, 371, 384, 397, 422, 459], 65), (104, .aload_n 1, 1), (105, .aload_n 0, 1), (106, .iload 4, 2), (108, .iconst 1, 1), (109, .iadd, 1), (110, .iaload, 1), (111, .i2l, 1), (112, .bipush 32, 2), (114, .lshl, 1), (115, .aload_n 0, 1), (116, .iload 4, 2), (118, .iconst 2, 1), (119, .iadd, 1), (120, .iaload, 1), (121, .i2l, 1), (122, .ldc2_w 37, 3), (125, .land, 1), (126, .lor, 1), (127, .invokevirtual 39, 3), (130, .aload_n 2, 1), (131, .aload_n 0, 1), (132, .iload 4, 2), (134, .iconst 1, 1), (135, .iadd, 1), (136, .iaload, 1), (137, .i2l, 1), (138, .bipush 32, 2), (140, .lshl, 1), (141, .aload_n 0, 1), (142, .iload 4, 2), (144, .iconst 2, 1), (145, .iadd, 1), (146, .iaload, 1), (147, .i2l, 1), (148, .ldc2_w 37, 3), (151, .land, 1), (152, .lor, 1), (153, .invokevirtual 43, 3), (156, .if_icmp .eq 391, 3), (159, .iconst 0, 1), (160, .ireturn, 1), (161, .aload_n 1, 1), (162, .invokevirtual 44, 3), (165, .aload_n 2, 1), (166, .invokevirtual 47, 3), (169, .goto 378, 3), (172, .aload_n 1, 1), (173, .aload_n 3, 1), (174, .invokestatic 48, 3), (177, .istore 5, 2), (179, .aload_n 2, 1), (180, .invokevirtual 53, 3), (183, .istore 6, 2), (185, .aload_n 2, 1), (186, .invokevirtual 54, 3), (189, .iload 5, 2), (191, .if_icmp .eq 5, 3), (194, .iconst 0, 1), (195, .ireturn, 1), (196, .iload 5, 2), (198, .ifCond .ne 15, 3), (201, .aload_n 3, 1), (202, .iconst 0, 1), (203, .laload, 1), (204, .iload 6, 2), (206, .i2l, 1), (207, .lcmp, 1), (208, .ifCond .eq 5, 3), (211, .iconst 0, 1), (212, .ireturn, 1), (213, .goto 334, 3), (216, .aload_n 1, 1), (217, .aload_n 3, 1), (218, .invokestatic 57, 3), (221, .istore 5, 2), (223, .aload_n 2, 1), (224, .invokevirtual 59, 3), (227, .istore 6, 2), (229, .aload_n 2, 1), (230, .invokevirtual 54, 3), (233, .iload 5, 2), (235, .if_icmp .eq 5, 3), (238, .iconst 0, 1), (239, .ireturn, 1), (240, .iload 5, 2), (242, .ifCond .ne 15, 3), (245, .aload_n 3, 1), (246, .iconst 0, 1), (247, .laload, 1), (248, .iload 6, 2), (250, .i2l, 1), (251, .lcmp, 1), (252, .ifCond .eq 5, 3), (255, .iconst 0, 1), (256, .ireturn, 1), (257, .goto 290, 3), (260, .aload_n 1, 1), (261, .aload_n 3, 1), (262, .invokestatic 60, 3), (265, .istore 5, 2), (267, .aload_n 2, 1), (268, .invokevirtual 62, 3), (271, .istore 6, 2), (273, .aload_n 2, 1), (274, .invokevirtual 54, 3), (277, .iload 5, 2), (279, .if_icmp .eq 5, 3), (282, .iconst 0, 1), (283, .ireturn, 1), (284, .iload 5, 2), (286, .ifCond .ne 15, 3), (289, .aload_n 3, 1), (290, .iconst 0, 1), (291, .laload, 1), (292, .iload 6, 2), (294, .i2l, 1), (295, .lcmp, 1), (296, .ifCond .eq 5, 3), (299, .iconst 0, 1), (300, .ireturn, 1), (301, .goto 246, 3), (304, .aload_n 1, 1), (305, .aload_n 0, 1), (306, .iload 4, 2), (308, .iconst 1, 1), (309, .iadd, 1), (310, .iaload, 1), (311, .invokevirtual 63, 3), (314, .aload_n 2, 1), (315, .aload_n 0, 1), (316, .iload 4, 2), (318, .iconst 1, 1), (319, .iadd, 1), (320, .iaload, 1), (321, .invokevirtual 66, 3), (324, .if_icmp .eq 223, 3), (327, .iconst 0, 1), (328, .ireturn, 1), (329, .aload_n 1, 1), (330, .aload_n 0, 1), (331, .iload 4, 2), (333, .iconst 1, 1), (334, .iadd, 1), (335, .iaload, 1), (336, .aload_n 3, 1), (337, .invokestatic 67, 3), (340, .istore 5, 2), (342, .aload_n 2, 1), (343, .aload_n 0, 1), (344, .iload 4, 2), (346, .iconst 1, 1), (347, .iadd, 1), (348, .iaload, 1), (349, .invokevirtual 70, 3), (352, .istore 6, 2), (354, .aload_n 2, 1), (355, .invokevirtual 54, 3), (358, .iload 5, 2), (360, .if_icmp .eq 5, 3), (363, .iconst 0, 1), (364, .ireturn, 1), (365, .iload 5, 2), (367, .ifCond .ne 15, 3), (370, .aload_n 3, 1), (371, .iconst 0, 1), (372, .laload, 1), (373, .iload 6, 2), (375, .i2l, 1), (376, .lcmp, 1), (377, .ifCond .eq 5, 3), (380, .iconst 0, 1), (381, .ireturn, 1), (382, .goto 165, 3), (385, .aload_n 1, 1), (386, .aload_n 0, 1), (387, .iload 4, 2), (389, .iconst 1, 1), (390, .iadd, 1), (391, .iaload, 1), (392, .invokevirtual 71, 3), (395, .aload_n 2, 1), (396, .aload_n 0, 1), (397, .iload 4, 2), (399, .iconst 1, 1), (400, .iadd, 1), (401, .iaload, 1), (402, .invokevirtual 75, 3), (405, .if_icmp .eq 142, 3), (408, .iconst 0, 1), (409, .ireturn, 1), (410, .aload_n 1, 1), (411, .invokevirtual 76, 3), (414, .aload_n 2, 1), (415, .invokevirtual 79, 3), (418, .if_icmp .eq 129, 3), (421, .iconst 0, 1), (422, .ireturn, 1), (423, .aload_n 1, 1), (424, .invokevirtual 80, 3), (427, .aload_n 2, 1), (428, .invokevirtual 83, 3), (431, .if_icmp .eq 116, 3), (434, .iconst 0, 1), (435, .ireturn, 1), (436, .aload_n 1, 1), (437, .aload_n 0, 1), (438, .iload 4, 2), (440, .iconst 1, 1), (441, .iadd, 1), (442, .iaload, 1), (443, .invokevirtual 84, 3), (446, .aload_n 2, 1), (447, .aload_n 0, 1), (448, .iload 4, 2), (450, .iconst 1, 1), (451, .iadd, 1), (452, .iaload, 1), (453, .invokevirtual 87, 3), (456, .if_icmp .eq 91, 3), (459, .iconst 0, 1), (460, .ireturn, 1), (461, .aload_n 1, 1), (462, .aload_n 0, 1), (463, .iload 4, 2), (465, .iconst 1, 1), (466, .iadd, 1), (467, .iaload, 1), (468, .aload_n 0, 1), (469, .iload 4, 2), (471, .iconst 2, 1), (472, .iadd, 1), (473, .iaload, 1), (474, .invokevirtual 88, 3), (477, .aload_n 2, 1), (478, .aload_n 0, 1), (479, .iload 4, 2), (481, .iconst 1, 1), (482, .iadd, 1), (483, .iaload, 1), (484, .aload_n 0, 1), (485, .iload 4, 2), (487, .iconst 2, 1), (488, .iadd, 1), (489, .iaload, 1), (490, .invokevirtual 92, 3), (493, .if_icmp .eq 54, 3), (496, .iconst 0, 1), (497, .ireturn, 1), (498, .aload_n 1, 1), (499, .aload_n 0, 1), (500, .iload 4, 2), (502, .iconst 1, 1), (503, .iadd, 1), (504, .iaload, 1), (505, .aload_n 0, 1), (506, .iload 4, 2), (508, .iconst 2, 1), (509, .iadd, 1), (510, .iaload, 1), (511, .aload_n 0, 1), (512, .iload 4, 2), (514, .iconst 3, 1), (515, .iadd, 1), (516, .iaload, 1), (517, .invokevirtual 93, 3), (520, .aload_n 2, 1), (521, .aload_n 0, 1), (522, .iload 4, 2), (524, .iconst 1, 1), (525, .iadd, 1), (526, .iaload, 1), (527, .aload_n 0, 1), (528, .iload 4, 2), (530, .iconst 2, 1), (531, .iadd, 1), (532, .iaload, 1), (533, .aload_n 0, 1), (534, .iload 4, 2), (536, .iconst 3, 1), (537, .iadd, 1), (538, .iaload, 1), (539, .invokevirtual 97, 3), (542, .if_icmp .eq 5, 3), (545, .iconst 0, 1), (546, .ireturn, 1), (547, .iinc 4 4, 3), (550, .goto (-527), 3), (553, .iconst 1, 1), (554, .ireturn, 1)]
theorem dd_0 : ∀ q ∈ dl_0, decode code q.1 = .ok q.2 := by decide +kernel
theorem A_0_0 : jx_All (jx_mk D c0 c1 c2 c3 c4 H0 ga L xs) jx_mt md_0 K_0_0 := by
  refine jx_ac (s_new kk_5 (jx_dc dd_0 0 rfl) w_0 w_1 w_2 rfl) ?_
  refine jx_ac (s_dup (jx_dc dd_0 1 rfl)) ?_
  refine jx_ac (s_calli (ce := 47) mc_47 w_4 (jx_dc dd_0 2 rfl) w_3 w_5 rfl ⟨by decide, by decide⟩ np_47) ?_
  refine jx_ac (s_astore_n (jx_dc dd_0 3 rfl) rfl) ?_
  refine jx_ac (s_new kk_6 (jx_dc dd_0 4 rfl) w_6 w_7 w_8 rfl) ?_
  refine jx_ac (s_dup (jx_dc dd_0 5 rfl)) ?_
  refine jx_ac (s_calli (ce := 69) mc_69 w_10 (jx_dc dd_0 6 rfl) w_9 w_11 rfl ⟨by decide, by decide⟩ np_69) ?_
  refine jx_ac (s_astore_n (jx_dc dd_0 7 rfl) rfl) ?_
  refine jx_ac (s_iconst (jx_dc dd_0 8 rfl) rfl) ?_
  refine jx_ac (s_newa (t := 3) (z := jx_zl) rfl rfl (Nat.le_of_ble_eq_true rfl) (jx_dc dd_0 9 rfl) w_12 (fun _ _ => rfl) (fun _ => rfl) (by decide) (fun _ _ h => h)) ?_
  refine jx_ac (s_astore_n (jx_dc dd_0 10 rfl) rfl) ?_
  refine jx_ac (s_iconst (jx_dc dd_0 11 rfl) rfl) ?_
  refine jx_ac (s_istore (jx_dc dd_0 12 rfl)) ?_
  refine jx_ac (s_iload (jx_dc dd_0 13 rfl)) ?_
  refine jx_ac (s_aload_n (jx_dc dd_0 14 rfl) rfl) ?_
  refine jx_ac (s_alen jx_mk_ty (jx_dc dd_0 15 rfl)) ?_
  refine jx_ac (s_iconst (jx_dc dd_0 16 rfl) rfl) ?_
  refine jx_ac (s_isub (jx_dc dd_0 17 rfl)) ?_
  refine jx_ac (s_igt (jx_dc dd_0 18 rfl) rfl) ?_
  refine jx_ac (s_aload_n (jx_dc dd_0 19 rfl) rfl) ?_
  refine jx_ac (s_iload (jx_dc dd_0 20 rfl)) ?_
  refine jx_ac (s_iald rfl (jx_dc dd_0 21 rfl)) ?_
  refine jx_ac (s_bipush (jx_dc dd_0 22 rfl) rfl) ?_
  refine jx_ac (s_iand (jx_dc dd_0 23 rfl)) ?_
  refine jx_ac (s_table (jx_dc dd_0 24 rfl) rfl rfl rfl rfl) ?_
  refine jx_ac (s_aload_n (jx_dc dd_0 25 rfl) rfl) ?_
  refine jx_ac (s_aload_n (jx_dc dd_0 26 rfl) rfl) ?_
  refine jx_ac (s_iload (jx_dc dd_0 27 rfl)) ?_
  refine jx_ac (s_iconst (jx_dc dd_0 28 rfl) rfl) ?_
  refine jx_ac (s_iadd (jx_dc dd_0 29 rfl)) ?_
  refine jx_ac (s_iald rfl (jx_dc dd_0 30 rfl)) ?_
  refine jx_ac (s_i2l (jx_dc dd_0 31 rfl)) ?_
  refine jx_ac (s_bipush (jx_dc dd_0 32 rfl) rfl) ?_
  refine jx_ac (s_lshl (jx_dc dd_0 33 rfl)) ?_
  refine jx_ac (s_aload_n (jx_dc dd_0 34 rfl) rfl) ?_
  refine jx_ac (s_iload (jx_dc dd_0 35 rfl)) ?_
  refine jx_ac (s_iconst (jx_dc dd_0 36 rfl) rfl) ?_
  refine jx_ac (s_iadd (jx_dc dd_0 37 rfl)) ?_
  refine jx_ac (s_iald rfl (jx_dc dd_0 38 rfl)) ?_
  refine jx_ac (s_i2l (jx_dc dd_0 39 rfl)) ?_
  exact jx_an
theorem A_0_1 : jx_All (jx_mk D c0 c1 c2 c3 c4 H0 ga L xs) jx_mt md_0 K_0_1 := by
  refine jx_ac (s_ldc2 (jx_dc dd_0 40 rfl) w_13) ?_
  refine jx_ac (s_land (jx_dc dd_0 41 rfl)) ?_
  refine jx_ac (s_lor (jx_dc dd_0 42 rfl)) ?_
  refine jx_ac (s_callv (ce := 48) kk_5 mc_48 (jx_dc dd_0 43 rfl) w_14 w_15 w_16 ⟨by decide, by decide⟩ np_48) ?_
  refine jx_ac (s_aload_n (jx_dc dd_0 44 rfl) rfl) ?_
  refine jx_ac (s_aload_n (jx_dc dd_0 45 rfl) rfl) ?_
  refine jx_ac (s_iload (jx_dc dd_0 46 rfl)) ?_
  refine jx_ac (s_iconst (jx_dc dd_0 47 rfl) rfl) ?_
  refine jx_ac (s_iadd (jx_dc dd_0 48 rfl)) ?_
  refine jx_ac (s_iald rfl (jx_dc dd_0 49 rfl)) ?_
  refine jx_ac (s_i2l (jx_dc dd_0 50 rfl)) ?_
  refine jx_ac (s_bipush (jx_dc dd_0 51 rfl) rfl) ?_
  refine jx_ac (s_lshl (jx_dc dd_0 52 rfl)) ?_
  refine jx_ac (s_aload_n (jx_dc dd_0 53 rfl) rfl) ?_
  refine jx_ac (s_iload (jx_dc dd_0 54 rfl)) ?_
  refine jx_ac (s_iconst (jx_dc dd_0 55 rfl) rfl) ?_
  refine jx_ac (s_iadd (jx_dc dd_0 56 rfl)) ?_
  refine jx_ac (s_iald rfl (jx_dc dd_0 57 rfl)) ?_
  refine jx_ac (s_i2l (jx_dc dd_0 58 rfl)) ?_
  refine jx_ac (s_ldc2 (jx_dc dd_0 59 rfl) w_13) ?_
  refine jx_ac (s_land (jx_dc dd_0 60 rfl)) ?_
  refine jx_ac (s_lor (jx_dc dd_0 61 rfl)) ?_
  refine jx_ac (s_callv (ce := 71) kk_6 mc_71 (jx_dc dd_0 62 rfl) w_17 w_18 w_19 ⟨by decide, by decide⟩ np_71) ?_
  refine jx_ac (s_ieq (jx_dc dd_0 63 rfl) rfl) ?_
  refine jx_ac (s_iconst (jx_dc dd_0 64 rfl) rfl) ?_
  refine jx_ac (s_zret rfl (jx_dc dd_0 65 rfl)) ?_
  refine jx_ac (s_aload_n (jx_dc dd_0 66 rfl) rfl) ?_
  refine jx_ac (s_callv (ce := 51) kk_5 mc_51 (jx_dc dd_0 67 rfl) w_20 w_21 w_22 ⟨by decide, by decide⟩ np_51) ?_
  refine jx_ac (s_aload_n (jx_dc dd_0 68 rfl) rfl) ?_
  refine jx_ac (s_callv (ce := 72) kk_6 mc_72 (jx_dc dd_0 69 rfl) w_23 w_24 w_25 ⟨by decide, by decide⟩ np_72) ?_
  refine jx_ac (s_goto (jx_dc dd_0 70 rfl) rfl) ?_
  refine jx_ac (s_aload_n (jx_dc dd_0 71 rfl) rfl) ?_
  refine jx_ac (s_aload_n (jx_dc dd_0 72 rfl) rfl) ?_
  refine jx_ac (s_calls (ce := 117) mc_117 (jx_dc dd_0 73 rfl) w_26 w_27 w_28 ⟨by decide, by decide⟩ np_117) ?_
  refine jx_ac (s_istore (jx_dc dd_0 74 rfl)) ?_
  refine jx_ac (s_aload_n (jx_dc dd_0 75 rfl) rfl) ?_
  refine jx_ac (s_callv (ce := 73) kk_6 mc_73 (jx_dc dd_0 76 rfl) w_29 w_30 w_31 ⟨by decide, by decide⟩ np_73) ?_
  refine jx_ac (s_istore (jx_dc dd_0 77 rfl)) ?_
  refine jx_ac (s_aload_n (jx_dc dd_0 78 rfl) rfl) ?_
  refine jx_ac (s_callv (ce := 70) kk_6 mc_70 (jx_dc dd_0 79 rfl) w_32 w_33 w_34 ⟨by decide, by decide⟩ np_70) ?_
  exact jx_an
theorem A_0_2 : jx_All (jx_mk D c0 c1 c2 c3 c4 H0 ga L xs) jx_mt md_0 K_0_2 := by
  refine jx_ac (s_iload (jx_dc dd_0 80 rfl)) ?_
  refine jx_ac (s_ieq (jx_dc dd_0 81 rfl) rfl) ?_
  refine jx_ac (s_iconst (jx_dc dd_0 82 rfl) rfl) ?_
  refine jx_ac (s_zret rfl (jx_dc dd_0 83 rfl)) ?_
  refine jx_ac (s_iload (jx_dc dd_0 84 rfl)) ?_
  refine jx_ac (s_ifne (jx_dc dd_0 85 rfl) rfl) ?_
  refine jx_ac (s_aload_n (jx_dc dd_0 86 rfl) rfl) ?_
  refine jx_ac (s_iconst (jx_dc dd_0 87 rfl) rfl) ?_
  refine jx_ac (s_lald rfl (jx_dc dd_0 88 rfl)) ?_
  refine jx_ac (s_iload (jx_dc dd_0 89 rfl)) ?_
  refine jx_ac (s_i2l (jx_dc dd_0 90 rfl)) ?_
  refine jx_ac (s_lcmp (jx_dc dd_0 91 rfl)) ?_
  refine jx_ac (s_ifeq (jx_dc dd_0 92 rfl) rfl) ?_
  refine jx_ac (s_iconst (jx_dc dd_0 93 rfl) rfl) ?_
  refine jx_ac (s_zret rfl (jx_dc dd_0 94 rfl)) ?_
  refine jx_ac (s_goto (jx_dc dd_0 95 rfl) rfl) ?_
  refine jx_ac (s_aload_n (jx_dc dd_0 96 rfl) rfl) ?_
  refine jx_ac (s_aload_n (jx_dc dd_0 97 rfl) rfl) ?_
  refine jx_ac (s_calls (ce := 118) mc_118 (jx_dc dd_0 98 rfl) w_35 w_36 w_28 ⟨by decide, by decide⟩ np_118) ?_
  refine jx_ac (s_istore (jx_dc dd_0 99 rfl)) ?_
  refine jx_ac (s_aload_n (jx_dc dd_0 100 rfl) rfl) ?_
  refine jx_ac (s_callv (ce := 101) kk_6 mc_101 (jx_dc dd_0 101 rfl) w_37 w_38 w_39 ⟨by decide, by decide⟩ np_101) ?_
  refine jx_ac (s_istore (jx_dc dd_0 102 rfl)) ?_
  refine jx_ac (s_aload_n (jx_dc dd_0 103 rfl) rfl) ?_
  refine jx_ac (s_callv (ce := 70) kk_6 mc_70 (jx_dc dd_0 104 rfl) w_32 w_33 w_34 ⟨by decide, by decide⟩ np_70) ?_
  refine jx_ac (s_iload (jx_dc dd_0 105 rfl)) ?_
  refine jx_ac (s_ieq (jx_dc dd_0 106 rfl) rfl) ?_
  refine jx_ac (s_iconst (jx_dc dd_0 107 rfl) rfl) ?_
  refine jx_ac (s_zret rfl (jx_dc dd_0 108 rfl)) ?_
  refine jx_ac (s_iload (jx_dc dd_0 109 rfl)) ?_
  refine jx_ac (s_ifne (jx_dc dd_0 110 rfl) rfl) ?_
  refine jx_ac (s_aload_n (jx_dc dd_0 111 rfl) rfl) ?_
  refine jx_ac (s_iconst (jx_dc dd_0 112 rfl) rfl) ?_
  refine jx_ac (s_lald rfl (jx_dc dd_0 113 rfl)) ?_
  refine jx_ac (s_iload (jx_dc dd_0 114 rfl)) ?_
  refine jx_ac (s_i2l (jx_dc dd_0 115 rfl)) ?_
  refine jx_ac (s_lcmp (jx_dc dd_0 116 rfl)) ?_
  refine jx_ac (s_ifeq (jx_dc dd_0 117 rfl) rfl) ?_
  refine jx_ac (s_iconst (jx_dc dd_0 118 rfl) rfl) ?_
  refine jx_ac (s_zret rfl (jx_dc dd_0 119 rfl)) ?_
  exact jx_an
theorem A_0_3 : jx_All (jx_mk D c0 c1 c2 c3 c4 H0 ga L xs) jx_mt md_0 K_0_3 := by
  refine jx_ac (s_goto (jx_dc dd_0 120 rfl) rfl) ?_
  refine jx_ac (s_aload_n (jx_dc dd_0 121 rfl) rfl) ?_
  refine jx_ac (s_aload_n (jx_dc dd_0 122 rfl) rfl) ?_
  refine jx_ac (s_calls (ce := 119) mc_119 (jx_dc dd_0 123 rfl) w_40 w_41 w_28 ⟨by decide, by decide⟩ np_119) ?_
  refine jx_ac (s_istore (jx_dc dd_0 124 rfl)) ?_
  refine jx_ac (s_aload_n (jx_dc dd_0 125 rfl) rfl) ?_
  refine jx_ac (s_callv (ce := 102) kk_6 mc_102 (jx_dc dd_0 126 rfl) w_42 w_43 w_44 ⟨by decide, by decide⟩ np_102) ?_
  refine jx_ac (s_istore (jx_dc dd_0 127 rfl)) ?_
  refine jx_ac (s_aload_n (jx_dc dd_0 128 rfl) rfl) ?_
  refine jx_ac (s_callv (ce := 70) kk_6 mc_70 (jx_dc dd_0 129 rfl) w_32 w_33 w_34 ⟨by decide, by decide⟩ np_70) ?_
  refine jx_ac (s_iload (jx_dc dd_0 130 rfl)) ?_
  refine jx_ac (s_ieq (jx_dc dd_0 131 rfl) rfl) ?_
  refine jx_ac (s_iconst (jx_dc dd_0 132 rfl) rfl) ?_
  refine jx_ac (s_zret rfl (jx_dc dd_0 133 rfl)) ?_
  refine jx_ac (s_iload (jx_dc dd_0 134 rfl)) ?_
  refine jx_ac (s_ifne (jx_dc dd_0 135 rfl) rfl) ?_
  refine jx_ac (s_aload_n (jx_dc dd_0 136 rfl) rfl) ?_
  refine jx_ac (s_iconst (jx_dc dd_0 137 rfl) rfl) ?_
  refine jx_ac (s_lald rfl (jx_dc dd_0 138 rfl)) ?_
  refine jx_ac (s_iload (jx_dc dd_0 139 rfl)) ?_
  refine jx_ac (s_i2l (jx_dc dd_0 140 rfl)) ?_
  refine jx_ac (s_lcmp (jx_dc dd_0 141 rfl)) ?_
  refine jx_ac (s_ifeq (jx_dc dd_0 142 rfl) rfl) ?_
  refine jx_ac (s_iconst (jx_dc dd_0 143 rfl) rfl) ?_
  refine jx_ac (s_zret rfl (jx_dc dd_0 144 rfl)) ?_
  refine jx_ac (s_goto (jx_dc dd_0 145 rfl) rfl) ?_
  refine jx_ac (s_aload_n (jx_dc dd_0 146 rfl) rfl) ?_
  refine jx_ac (s_aload_n (jx_dc dd_0 147 rfl) rfl) ?_
  refine jx_ac (s_iload (jx_dc dd_0 148 rfl)) ?_
  refine jx_ac (s_iconst (jx_dc dd_0 149 rfl) rfl) ?_
  refine jx_ac (s_iadd (jx_dc dd_0 150 rfl)) ?_
  refine jx_ac (s_iald rfl (jx_dc dd_0 151 rfl)) ?_
  refine jx_ac (s_callv (ce := 52) kk_5 mc_52 (jx_dc dd_0 152 rfl) w_45 w_46 w_47 ⟨by decide, by decide⟩ np_52) ?_
  refine jx_ac (s_aload_n (jx_dc dd_0 153 rfl) rfl) ?_
  refine jx_ac (s_aload_n (jx_dc dd_0 154 rfl) rfl) ?_
  refine jx_ac (s_iload (jx_dc dd_0 155 rfl)) ?_
  refine jx_ac (s_iconst (jx_dc dd_0 156 rfl) rfl) ?_
  refine jx_ac (s_iadd (jx_dc dd_0 157 rfl)) ?_
  refine jx_ac (s_iald rfl (jx_dc dd_0 158 rfl)) ?_
  refine jx_ac (s_callv (ce := 103) kk_6 mc_103 (jx_dc dd_0 159 rfl) w_48 w_49 w_50 ⟨by decide, by decide⟩ np_103) ?_
  exact jx_an
theorem A_0_4 : jx_All (jx_mk D c0 c1 c2 c3 c4 H0 ga L xs) jx_mt md_0 K_0_4 := by
  refine jx_ac (s_ieq (jx_dc dd_0 160 rfl) rfl) ?_
  refine jx_ac (s_iconst (jx_dc dd_0 161 rfl) rfl) ?_
  refine jx_ac (s_zret rfl (jx_dc dd_0 162 rfl)) ?_
  refine jx_ac (s_aload_n (jx_dc dd_0 163 rfl) rfl) ?_
  refine jx_ac (s_aload_n (jx_dc dd_0 164 rfl) rfl) ?_
  refine jx_ac (s_iload (jx_dc dd_0 165 rfl)) ?_
  refine jx_ac (s_iconst (jx_dc dd_0 166 rfl) rfl) ?_
  refine jx_ac (s_iadd (jx_dc dd_0 167 rfl)) ?_
  refine jx_ac (s_iald rfl (jx_dc dd_0 168 rfl)) ?_
  refine jx_ac (s_aload_n (jx_dc dd_0 169 rfl) rfl) ?_
  refine jx_ac (s_calls (ce := 120) mc_120 (jx_dc dd_0 170 rfl) w_51 w_52 w_28 ⟨by decide, by decide⟩ np_120) ?_
  refine jx_ac (s_istore (jx_dc dd_0 171 rfl)) ?_
  refine jx_ac (s_aload_n (jx_dc dd_0 172 rfl) rfl) ?_
  refine jx_ac (s_aload_n (jx_dc dd_0 173 rfl) rfl) ?_
  refine jx_ac (s_iload (jx_dc dd_0 174 rfl)) ?_
  refine jx_ac (s_iconst (jx_dc dd_0 175 rfl) rfl) ?_
  refine jx_ac (s_iadd (jx_dc dd_0 176 rfl)) ?_
  refine jx_ac (s_iald rfl (jx_dc dd_0 177 rfl)) ?_
  refine jx_ac (s_callv (ce := 104) kk_6 mc_104 (jx_dc dd_0 178 rfl) w_53 w_54 w_55 ⟨by decide, by decide⟩ np_104) ?_
  refine jx_ac (s_istore (jx_dc dd_0 179 rfl)) ?_
  refine jx_ac (s_aload_n (jx_dc dd_0 180 rfl) rfl) ?_
  refine jx_ac (s_callv (ce := 70) kk_6 mc_70 (jx_dc dd_0 181 rfl) w_32 w_33 w_34 ⟨by decide, by decide⟩ np_70) ?_
  refine jx_ac (s_iload (jx_dc dd_0 182 rfl)) ?_
  refine jx_ac (s_ieq (jx_dc dd_0 183 rfl) rfl) ?_
  refine jx_ac (s_iconst (jx_dc dd_0 184 rfl) rfl) ?_
  refine jx_ac (s_zret rfl (jx_dc dd_0 185 rfl)) ?_
  refine jx_ac (s_iload (jx_dc dd_0 186 rfl)) ?_
  refine jx_ac (s_ifne (jx_dc dd_0 187 rfl) rfl) ?_
  refine jx_ac (s_aload_n (jx_dc dd_0 188 rfl) rfl) ?_
  refine jx_ac (s_iconst (jx_dc dd_0 189 rfl) rfl) ?_
  refine jx_ac (s_lald rfl (jx_dc dd_0 190 rfl)) ?_
  refine jx_ac (s_iload (jx_dc dd_0 191 rfl)) ?_
  refine jx_ac (s_i2l (jx_dc dd_0 192 rfl)) ?_
  refine jx_ac (s_lcmp (jx_dc dd_0 193 rfl)) ?_
  refine jx_ac (s_ifeq (jx_dc dd_0 194 rfl) rfl) ?_
  refine jx_ac (s_iconst (jx_dc dd_0 195 rfl) rfl) ?_
  refine jx_ac (s_zret rfl (jx_dc dd_0 196 rfl)) ?_
  refine jx_ac (s_goto (jx_dc dd_0 197 rfl) rfl) ?_
  refine jx_ac (s_aload_n (jx_dc dd_0 198 rfl) rfl) ?_
  refine jx_ac (s_aload_n (jx_dc dd_0 199 rfl) rfl) ?_
  exact jx_an
theorem A_0_5 : jx_All (jx_mk D c0 c1 c2 c3 c4 H0 ga L xs) jx_mt md_0 K_0_5 := by
  refine jx_ac (s_iload (jx_dc dd_0 200 rfl)) ?_
  refine jx_ac (s_iconst (jx_dc dd_0 201 rfl) rfl) ?_
  refine jx_ac (s_iadd (jx_dc dd_0 202 rfl)) ?_
  refine jx_ac (s_iald rfl (jx_dc dd_0 203 rfl)) ?_
  refine jx_ac (s_callv (ce := 53) kk_5 mc_53 (jx_dc dd_0 204 rfl) w_56 w_57 w_58 ⟨by decide, by decide⟩ np_53) ?_
  refine jx_ac (s_aload_n (jx_dc dd_0 205 rfl) rfl) ?_
  refine jx_ac (s_aload_n (jx_dc dd_0 206 rfl) rfl) ?_
  refine jx_ac (s_iload (jx_dc dd_0 207 rfl)) ?_
  refine jx_ac (s_iconst (jx_dc dd_0 208 rfl) rfl) ?_
  refine jx_ac (s_iadd (jx_dc dd_0 209 rfl)) ?_
  refine jx_ac (s_iald rfl (jx_dc dd_0 210 rfl)) ?_
  refine jx_ac (s_callv (ce := 105) kk_6 mc_105 (jx_dc dd_0 211 rfl) w_59 w_60 w_61 ⟨by decide, by decide⟩ np_105) ?_
  refine jx_ac (s_ieq (jx_dc dd_0 212 rfl) rfl) ?_
  refine jx_ac (s_iconst (jx_dc dd_0 213 rfl) rfl) ?_
  refine jx_ac (s_zret rfl (jx_dc dd_0 214 rfl)) ?_
  refine jx_ac (s_aload_n (jx_dc dd_0 215 rfl) rfl) ?_
  refine jx_ac (s_callv (ce := 54) kk_5 mc_54 (jx_dc dd_0 216 rfl) w_62 w_63 w_64 ⟨by decide, by decide⟩ np_54) ?_
  refine jx_ac (s_aload_n (jx_dc dd_0 217 rfl) rfl) ?_
  refine jx_ac (s_callv (ce := 106) kk_6 mc_106 (jx_dc dd_0 218 rfl) w_65 w_66 w_67 ⟨by decide, by decide⟩ np_106) ?_
  refine jx_ac (s_ieq (jx_dc dd_0 219 rfl) rfl) ?_
  refine jx_ac (s_iconst (jx_dc dd_0 220 rfl) rfl) ?_
  refine jx_ac (s_zret rfl (jx_dc dd_0 221 rfl)) ?_
  refine jx_ac (s_aload_n (jx_dc dd_0 222 rfl) rfl) ?_
  refine jx_ac (s_callv (ce := 56) kk_5 mc_56 (jx_dc dd_0 223 rfl) w_68 w_69 w_70 ⟨by decide, by decide⟩ np_56) ?_
  refine jx_ac (s_aload_n (jx_dc dd_0 224 rfl) rfl) ?_
  refine jx_ac (s_callv (ce := 107) kk_6 mc_107 (jx_dc dd_0 225 rfl) w_71 w_72 w_73 ⟨by decide, by decide⟩ np_107) ?_
  refine jx_ac (s_ieq (jx_dc dd_0 226 rfl) rfl) ?_
  refine jx_ac (s_iconst (jx_dc dd_0 227 rfl) rfl) ?_
  refine jx_ac (s_zret rfl (jx_dc dd_0 228 rfl)) ?_
  refine jx_ac (s_aload_n (jx_dc dd_0 229 rfl) rfl) ?_
  refine jx_ac (s_aload_n (jx_dc dd_0 230 rfl) rfl) ?_
  refine jx_ac (s_iload (jx_dc dd_0 231 rfl)) ?_
  refine jx_ac (s_iconst (jx_dc dd_0 232 rfl) rfl) ?_
  refine jx_ac (s_iadd (jx_dc dd_0 233 rfl)) ?_
  refine jx_ac (s_iald rfl (jx_dc dd_0 234 rfl)) ?_
  refine jx_ac (s_callv (ce := 57) kk_5 mc_57 (jx_dc dd_0 235 rfl) w_74 w_75 w_76 ⟨by decide, by decide⟩ np_57) ?_
  refine jx_ac (s_aload_n (jx_dc dd_0 236 rfl) rfl) ?_
  refine jx_ac (s_aload_n (jx_dc dd_0 237 rfl) rfl) ?_
  refine jx_ac (s_iload (jx_dc dd_0 238 rfl)) ?_
  refine jx_ac (s_iconst (jx_dc dd_0 239 rfl) rfl) ?_
  exact jx_an
theorem A_0_6 : jx_All (jx_mk D c0 c1 c2 c3 c4 H0 ga L xs) jx_mt md_0 K_0_6 := by
  refine jx_ac (s_iadd (jx_dc dd_0 240 rfl)) ?_
  refine jx_ac (s_iald rfl (jx_dc dd_0 241 rfl)) ?_
  refine jx_ac (s_callv (ce := 108) kk_6 mc_108 (jx_dc dd_0 242 rfl) w_77 w_78 w_79 ⟨by decide, by decide⟩ np_108) ?_
  refine jx_ac (s_ieq (jx_dc dd_0 243 rfl) rfl) ?_
  refine jx_ac (s_iconst (jx_dc dd_0 244 rfl) rfl) ?_
  refine jx_ac (s_zret rfl (jx_dc dd_0 245 rfl)) ?_
  refine jx_ac (s_aload_n (jx_dc dd_0 246 rfl) rfl) ?_
  refine jx_ac (s_aload_n (jx_dc dd_0 247 rfl) rfl) ?_
  refine jx_ac (s_iload (jx_dc dd_0 248 rfl)) ?_
  refine jx_ac (s_iconst (jx_dc dd_0 249 rfl) rfl) ?_
  refine jx_ac (s_iadd (jx_dc dd_0 250 rfl)) ?_
  refine jx_ac (s_iald rfl (jx_dc dd_0 251 rfl)) ?_
  refine jx_ac (s_aload_n (jx_dc dd_0 252 rfl) rfl) ?_
  refine jx_ac (s_iload (jx_dc dd_0 253 rfl)) ?_
  refine jx_ac (s_iconst (jx_dc dd_0 254 rfl) rfl) ?_
  refine jx_ac (s_iadd (jx_dc dd_0 255 rfl)) ?_
  refine jx_ac (s_iald rfl (jx_dc dd_0 256 rfl)) ?_
  refine jx_ac (s_callv (ce := 59) kk_5 mc_59 (jx_dc dd_0 257 rfl) w_80 w_81 w_82 ⟨by decide, by decide⟩ np_59) ?_
  refine jx_ac (s_aload_n (jx_dc dd_0 258 rfl) rfl) ?_
  refine jx_ac (s_aload_n (jx_dc dd_0 259 rfl) rfl) ?_
  refine jx_ac (s_iload (jx_dc dd_0 260 rfl)) ?_
  refine jx_ac (s_iconst (jx_dc dd_0 261 rfl) rfl) ?_
  refine jx_ac (s_iadd (jx_dc dd_0 262 rfl)) ?_
  refine jx_ac (s_iald rfl (jx_dc dd_0 263 rfl)) ?_
  refine jx_ac (s_aload_n (jx_dc dd_0 264 rfl) rfl) ?_
  refine jx_ac (s_iload (jx_dc dd_0 265 rfl)) ?_
  refine jx_ac (s_iconst (jx_dc dd_0 266 rfl) rfl) ?_
  refine jx_ac (s_iadd (jx_dc dd_0 267 rfl)) ?_
  refine jx_ac (s_iald rfl (jx_dc dd_0 268 rfl)) ?_
  refine jx_ac (s_callv (ce := 109) kk_6 mc_109 (jx_dc dd_0 269 rfl) w_83 w_84 w_85 ⟨by decide, by decide⟩ np_109) ?_
  refine jx_ac (s_ieq (jx_dc dd_0 270 rfl) rfl) ?_
  refine jx_ac (s_iconst (jx_dc dd_0 271 rfl) rfl) ?_
  refine jx_ac (s_zret rfl (jx_dc dd_0 272 rfl)) ?_
  refine jx_ac (s_aload_n (jx_dc dd_0 273 rfl) rfl) ?_
  refine jx_ac (s_aload_n (jx_dc dd_0 274 rfl) rfl) ?_
  refine jx_ac (s_iload (jx_dc dd_0 275 rfl)) ?_
  refine jx_ac (s_iconst (jx_dc dd_0 276 rfl) rfl) ?_
  refine jx_ac (s_iadd (jx_dc dd_0 277 rfl)) ?_
  refine jx_ac (s_iald rfl (jx_dc dd_0 278 rfl)) ?_
  refine jx_ac (s_aload_n (jx_dc dd_0 279 rfl) rfl) ?_
  exact jx_an
theorem A_0_7 : jx_All (jx_mk D c0 c1 c2 c3 c4 H0 ga L xs) jx_mt md_0 K_0_7 := by
  refine jx_ac (s_iload (jx_dc dd_0 280 rfl)) ?_
  refine jx_ac (s_iconst (jx_dc dd_0 281 rfl) rfl) ?_
  refine jx_ac (s_iadd (jx_dc dd_0 282 rfl)) ?_
  refine jx_ac (s_iald rfl (jx_dc dd_0 283 rfl)) ?_
  refine jx_ac (s_aload_n (jx_dc dd_0 284 rfl) rfl) ?_
  refine jx_ac (s_iload (jx_dc dd_0 285 rfl)) ?_
  refine jx_ac (s_iconst (jx_dc dd_0 286 rfl) rfl) ?_
  refine jx_ac (s_iadd (jx_dc dd_0 287 rfl)) ?_
  refine jx_ac (s_iald rfl (jx_dc dd_0 288 rfl)) ?_
  refine jx_ac (s_callv (ce := 60) kk_5 mc_60 (jx_dc dd_0 289 rfl) w_86 w_87 w_88 ⟨by decide, by decide⟩ np_60) ?_
  refine jx_ac (s_aload_n (jx_dc dd_0 290 rfl) rfl) ?_
  refine jx_ac (s_aload_n (jx_dc dd_0 291 rfl) rfl) ?_
  refine jx_ac (s_iload (jx_dc dd_0 292 rfl)) ?_
  refine jx_ac (s_iconst (jx_dc dd_0 293 rfl) rfl) ?_
  refine jx_ac (s_iadd (jx_dc dd_0 294 rfl)) ?_
  refine jx_ac (s_iald rfl (jx_dc dd_0 295 rfl)) ?_
  refine jx_ac (s_aload_n (jx_dc dd_0 296 rfl) rfl) ?_
  refine jx_ac (s_iload (jx_dc dd_0 297 rfl)) ?_
  refine jx_ac (s_iconst (jx_dc dd_0 298 rfl) rfl) ?_
  refine jx_ac (s_iadd (jx_dc dd_0 299 rfl)) ?_
  refine jx_ac (s_iald rfl (jx_dc dd_0 300 rfl)) ?_
  refine jx_ac (s_aload_n (jx_dc dd_0 301 rfl) rfl) ?_
  refine jx_ac (s_iload (jx_dc dd_0 302 rfl)) ?_
  refine jx_ac (s_iconst (jx_dc dd_0 303 rfl) rfl) ?_
  refine jx_ac (s_iadd (jx_dc dd_0 304 rfl)) ?_
  refine jx_ac (s_iald rfl (jx_dc dd_0 305 rfl)) ?_
  refine jx_ac (s_callv (ce := 110) kk_6 mc_110 (jx_dc dd_0 306 rfl) w_89 w_90 w_91 ⟨by decide, by decide⟩ np_110) ?_
  refine jx_ac (s_ieq (jx_dc dd_0 307 rfl) rfl) ?_
  refine jx_ac (s_iconst (jx_dc dd_0 308 rfl) rfl) ?_
  refine jx_ac (s_zret rfl (jx_dc dd_0 309 rfl)) ?_
  refine jx_ac (s_iinc (jx_dc dd_0 310 rfl) rfl) ?_
  refine jx_ac (s_goto (jx_dc dd_0 311 rfl) rfl) ?_
  refine jx_ac (s_iconst (jx_dc dd_0 312 rfl) rfl) ?_
  refine jx_ac (s_zret rfl (jx_dc dd_0 313 rfl)) ?_
  exact jx_an
theorem A_0 : jx_All (jx_mk D c0 c1 c2 c3 c4 H0 ga L xs) jx_mt md_0 K_0 := (jx_aa A_0_0 (jx_aa A_0_1 (jx_aa A_0_2 (jx_aa A_0_3 (jx_aa A_0_4 (jx_aa A_0_5 (jx_aa A_0_6 A_0_7)))))))
def dl_1 : List (Nat × Instr × Nat) := [(0, .aload_n 0, 1), (1, .invokespecial 3, 3), (4, .aload_n 0, 1), (5, .bipush 10, 2), (7, .newarray .int, 2), (9, .putfield 9, 3), (12, .aload_n 0, 1), (13, .bipush 100, 2), (15, .newarray .int, 2), (17, .putfield 15, 3), (20, .aload_n 0, 1), (21, .bipush 60, 2), (23, .newarray .int, 2), (25, .putfield 18, 3), (28, .return_, 1)]
theorem dd_1 : ∀ q ∈ dl_1, decode prog_3_method_1_code q.1 = .ok q.2 := by decide +kernel
theorem A_1_0 : jx_All (jx_mk D c0 c1 c2 c3 c4 H0 ga L xs) jx_mt md_1 K_1_0 := by
  refine jx_ac (s_aload_n (jx_dc dd_1 0 rfl) rfl) ?_
  refine jx_ac (s_oinit (jx_dc dd_1 1 rfl) w_92 w_93 w_94) ?_
  refine jx_ac (s_aload_n (jx_dc dd_1 2 rfl) rfl) ?_
  refine jx_ac (s_bipush (jx_dc dd_1 3 rfl) rfl) ?_
  refine jx_ac (s_newa (t := 0) (z := jx_zi) rfl rfl (Nat.le_of_ble_eq_true rfl) (jx_dc dd_1 4 rfl) w_95 (fun _ _ => rfl) (fun _ => rfl) (by decide) (fun _ _ h => h)) ?_
  refine jx_ac (s_putfF kk_0 (k := 0) (Nat.le_of_ble_eq_true rfl) (jx_dc dd_1 5 rfl) (fun _ h => jx_okA_n _ _ h) rfl rfl rfl w_96) ?_
  refine jx_ac (s_aload_n (jx_dc dd_1 6 rfl) rfl) ?_
  refine jx_ac (s_bipush (jx_dc dd_1 7 rfl) rfl) ?_
  refine jx_ac (s_newa (t := 0) (z := jx_zi) rfl rfl (Nat.le_of_ble_eq_true rfl) (jx_dc dd_1 8 rfl) w_95 (fun _ _ => rfl) (fun _ => rfl) (by decide) (fun _ _ h => h)) ?_
  refine jx_ac (s_putfF kk_0 (k := 1) (Nat.le_of_ble_eq_true rfl) (jx_dc dd_1 9 rfl) (fun _ h => jx_okA_n _ _ h) rfl rfl rfl w_97) ?_
  refine jx_ac (s_aload_n (jx_dc dd_1 10 rfl) rfl) ?_
  refine jx_ac (s_bipush (jx_dc dd_1 11 rfl) rfl) ?_
  refine jx_ac (s_newa (t := 0) (z := jx_zi) rfl rfl (Nat.le_of_ble_eq_true rfl) (jx_dc dd_1 12 rfl) w_95 (fun _ _ => rfl) (fun _ => rfl) (by decide) (fun _ _ h => h)) ?_
  refine jx_ac (s_putfF kk_0 (k := 2) (Nat.le_of_ble_eq_true rfl) (jx_dc dd_1 13 rfl) (fun _ h => jx_okA_n _ _ h) rfl rfl rfl w_98) ?_
  refine jx_ac (s_ret rfl (jx_dc dd_1 14 rfl)) ?_
  exact jx_an
theorem A_1 : jx_All (jx_mk D c0 c1 c2 c3 c4 H0 ga L xs) jx_mt md_1 K_1 :=  A_1_0
def dl_2 : List (Nat × Instr × Nat) := [(0, .aload_n 1, 1), (1, .getfield 9, 3), (4, .iconst 0, 1), (5, .aload_n 0, 1), (6, .getfield 9, 3), (9, .iconst 0, 1), (10, .aload_n 0, 1), (11, .getfield 9, 3), (14, .arraylength, 1), (15, .invokestatic 34, 3), (18, .aload_n 1, 1), (19, .getfield 15, 3), (22, .iconst 0, 1), (23, .aload_n 0, 1), (24, .getfield 15, 3), (27, .iconst 0, 1), (28, .aload_n 0, 1), (29, .getfield 15, 3), (32, .arraylength, 1), (33, .invokestatic 34, 3), (36, .aload_n 1, 1), (37, .getfield 18, 3), (40, .iconst 0, 1), (41, .aload_n 0, 1), (42, .getfield 18, 3), (45, .iconst 0, 1), (46, .aload_n 0, 1), (47, .getfield 18, 3), (50, .arraylength, 1), (51, .invokestatic 34, 3), (54, .aload_n 0, 1), (55, .aload_n 1, 1), (56, .getfield 27, 3), (59, .putfield 27, 3), (62, .aload_n 0, 1), (63, .aload_n 1, 1), (64, .getfield 31, 3), (67, .putfield 31, 3), (70, .return_, 1)]
theorem dd_2 : ∀ q ∈ dl_2, decode prog_3_method_3_code q.1 = .ok q.2 := by decide +kernel
theorem A_2_0 : jx_All (jx_mk D c0 c1 c2 c3 c4 H0 ga L xs) jx_mt md_2 K_2_0 := by
  refine jx_ac (s_aload_n (jx_dc dd_2 0 rfl) rfl) ?_
  refine jx_ac (s_getf kk_0 (k := 0) (Nat.le_of_ble_eq_true rfl) (jx_dc dd_2 1 rfl) w_96) ?_
  refine jx_ac (s_iconst (jx_dc dd_2 2 rfl) rfl) ?_
  refine jx_ac (s_aload_n (jx_dc dd_2 3 rfl) rfl) ?_
  refine jx_ac (s_getf kk_0 (k := 0) (Nat.le_of_ble_eq_true rfl) (jx_dc dd_2 4 rfl) w_96) ?_
  refine jx_ac (s_iconst (jx_dc dd_2 5 rfl) rfl) ?_
  refine jx_ac (s_aload_n (jx_dc dd_2 6 rfl) rfl) ?_
  refine jx_ac (s_getf kk_0 (k := 0) (Nat.le_of_ble_eq_true rfl) (jx_dc dd_2 7 rfl) w_96) ?_
  refine jx_ac (s_alen jx_mk_ty (jx_dc dd_2 8 rfl)) ?_
  refine jx_ac (s_copy rfl rfl (jx_dc dd_2 9 rfl) w_99 w_100 w_101 w_102) ?_
  refine jx_ac (s_aload_n (jx_dc dd_2 10 rfl) rfl) ?_
  refine jx_ac (s_getf kk_0 (k := 1) (Nat.le_of_ble_eq_true rfl) (jx_dc dd_2 11 rfl) w_97) ?_
  refine jx_ac (s_iconst (jx_dc dd_2 12 rfl) rfl) ?_
  refine jx_ac (s_aload_n (jx_dc dd_2 13 rfl) rfl) ?_
  refine jx_ac (s_getf kk_0 (k := 1) (Nat.le_of_ble_eq_true rfl) (jx_dc dd_2 14 rfl) w_97) ?_
  refine jx_ac (s_iconst (jx_dc dd_2 15 rfl) rfl) ?_
  refine jx_ac (s_aload_n (jx_dc dd_2 16 rfl) rfl) ?_
  refine jx_ac (s_getf kk_0 (k := 1) (Nat.le_of_ble_eq_true rfl) (jx_dc dd_2 17 rfl) w_97) ?_
  refine jx_ac (s_alen jx_mk_ty (jx_dc dd_2 18 rfl)) ?_
  refine jx_ac (s_copy rfl rfl (jx_dc dd_2 19 rfl) w_99 w_100 w_101 w_102) ?_
  refine jx_ac (s_aload_n (jx_dc dd_2 20 rfl) rfl) ?_
  refine jx_ac (s_getf kk_0 (k := 2) (Nat.le_of_ble_eq_true rfl) (jx_dc dd_2 21 rfl) w_98) ?_
  refine jx_ac (s_iconst (jx_dc dd_2 22 rfl) rfl) ?_
  refine jx_ac (s_aload_n (jx_dc dd_2 23 rfl) rfl) ?_
  refine jx_ac (s_getf kk_0 (k := 2) (Nat.le_of_ble_eq_true rfl) (jx_dc dd_2 24 rfl) w_98) ?_
  refine jx_ac (s_iconst (jx_dc dd_2 25 rfl) rfl) ?_
  refine jx_ac (s_aload_n (jx_dc dd_2 26 rfl) rfl) ?_
  refine jx_ac (s_getf kk_0 (k := 2) (Nat.le_of_ble_eq_true rfl) (jx_dc dd_2 27 rfl) w_98) ?_
  refine jx_ac (s_alen jx_mk_ty (jx_dc dd_2 28 rfl)) ?_
  refine jx_ac (s_copy rfl rfl (jx_dc dd_2 29 rfl) w_99 w_100 w_101 w_102) ?_
  refine jx_ac (s_aload_n (jx_dc dd_2 30 rfl) rfl) ?_
  refine jx_ac (s_aload_n (jx_dc dd_2 31 rfl) rfl) ?_
  refine jx_ac (s_getf kk_0 (k := 3) (Nat.le_of_ble_eq_true rfl) (jx_dc dd_2 32 rfl) w_103) ?_
  refine jx_ac (s_putf kk_0 (k := 3) (Nat.le_of_ble_eq_true rfl) (jx_dc dd_2 33 rfl) (fun _ h => jx_okI_n _ h) rfl w_103) ?_
  refine jx_ac (s_aload_n (jx_dc dd_2 34 rfl) rfl) ?_
  refine jx_ac (s_aload_n (jx_dc dd_2 35 rfl) rfl) ?_
  refine jx_ac (s_getf kk_0 (k := 4) (Nat.le_of_ble_eq_true rfl) (jx_dc dd_2 36 rfl) w_104) ?_
  refine jx_ac (s_putf kk_0 (k := 4) (Nat.le_of_ble_eq_true rfl) (jx_dc dd_2 37 rfl) (fun _ h => jx_okI_n _ h) rfl w_104) ?_
  refine jx_ac (s_ret rfl (jx_dc dd_2 38 rfl)) ?_
  exact jx_an
theorem A_2 : jx_All (jx_mk D c0 c1 c2 c3 c4 H0 ga L xs) jx_mt md_2 K_2 :=  A_2_0
def dl_3 : List (Nat × Instr × Nat) := [(0, .iload_n 1, 1), (1, .ifCond .lt 15, 3), (4, .iload_n 1, 1), (5, .aload_n 0, 1), (6, .getfield 27, 3), (9, .if_icmp .ge 7, 3), (12, .iconst 1, 1), (13, .goto 4, 3), (16, .iconst 0, 1), (17, .ireturn, 1)]
theorem dd_3 : ∀ q ∈ dl_3, decode prog_3_method_7_code q.1 = .ok q.2 := by decide +kernel
theorem A_3_0 : jx_All (jx_mk D c0 c1 c2 c3 c4 H0 ga L xs) jx_mt md_3 K_3_0 := by
  refine jx_ac (s_iload_n (jx_dc dd_3 0 rfl) rfl) ?_
  refine jx_ac (s_iflt (jx_dc dd_3 1 rfl) rfl) ?_
  refine jx_ac (s_iload_n (jx_dc dd_3 2 rfl) rfl) ?_
  refine jx_ac (s_aload_n (jx_dc dd_3 3 rfl) rfl) ?_
  refine jx_ac (s_getf kk_0 (k := 3) (Nat.le_of_ble_eq_true rfl) (jx_dc dd_3 4 rfl) w_103) ?_
  refine jx_ac (s_ige (jx_dc dd_3 5 rfl) rfl) ?_
  refine jx_ac (s_iconst (jx_dc dd_3 6 rfl) rfl) ?_
  refine jx_ac (s_goto (jx_dc dd_3 7 rfl) rfl) ?_
  refine jx_ac (s_iconst (jx_dc dd_3 8 rfl) rfl) ?_
  refine jx_ac (s_zret rfl (jx_dc dd_3 9 rfl)) ?_
  exact jx_an
theorem A_3 : jx_All (jx_mk D c0 c1 c2 c3 c4 H0 ga L xs) jx_mt md_3 K_3 :=  A_3_0
def dl_4 : List (Nat × Instr × Nat) := [(0, .aload_n 0, 1), (1, .getfield 15, 3), (4, .iload_n 1, 1), (5, .bipush 10, 2), (7, .imul, 1), (8, .iload_n 2, 1), (9, .iadd, 1), (10, .iaload, 1), (11, .ireturn, 1)]
theorem dd_4 : ∀ q ∈ dl_4, decode prog_3_method_8_code q.1 = .ok q.2 := by decide +kernel
theorem A_4_0 : jx_All (jx_mk D c0 c1 c2 c3 c4 H0 ga L xs) jx_mt md_4 K_4_0 := by
  refine jx_ac (s_aload_n (jx_dc dd_4 0 rfl) rfl) ?_
  refine jx_ac (s_getf kk_0 (k := 1) (Nat.le_of_ble_eq_true rfl) (jx_dc dd_4 1 rfl) w_97) ?_
  refine jx_ac (s_iload_n (jx_dc dd_4 2 rfl) rfl) ?_
  refine jx_ac (s_bipush (jx_dc dd_4 3 rfl) rfl) ?_
  refine jx_ac (s_imul (jx_dc dd_4 4 rfl)) ?_
  refine jx_ac (s_iload_n (jx_dc dd_4 5 rfl) rfl) ?_
  refine jx_ac (s_iadd (jx_dc dd_4 6 rfl)) ?_
  refine jx_ac (s_iald rfl (jx_dc dd_4 7 rfl)) ?_
  refine jx_ac (s_iret rfl (jx_dc dd_4 8 rfl)) ?_
  exact jx_an
theorem A_4 : jx_All (jx_mk D c0 c1 c2 c3 c4 H0 ga L xs) jx_mt md_4 K_4 :=  A_4_0
def dl_5 : List (Nat × Instr × Nat) := [(0, .aload_n 0, 1), (1, .getfield 9, 3), (4, .iconst 0, 1), (5, .invokestatic 21, 3), (8, .aload_n 0, 1), (9, .getfield 15, 3), (12, .iconst 0, 1), (13, .invokestatic 21, 3), (16, .aload_n 0, 1), (17, .getfield 18, 3), (20, .iconst 0, 1), (21, .invokestatic 21, 3), (24, .aload_n 0, 1), (25, .iconst 0, 1), (26, .putfield 27, 3), (29, .aload_n 0, 1), (30, .iconst 0, 1), (31, .putfield 31, 3), (34, .return_, 1)]
theorem dd_5 : ∀ q ∈ dl_5, decode prog_3_method_2_code q.1 = .ok q.2 := by decide +kernel
theorem A_5_0 : jx_All (jx_mk D c0 c1 c2 c3 c4 H0 ga L xs) jx_mt md_5 K_5_0 := by
  refine jx_ac (s_aload_n (jx_dc dd_5 0 rfl) rfl) ?_
  refine jx_ac (s_getf kk_0 (k := 0) (Nat.le_of_ble_eq_true rfl) (jx_dc dd_5 1 rfl) w_96) ?_
  refine jx_ac (s_iconst (jx_dc dd_5 2 rfl) rfl) ?_
  refine jx_ac (s_calls (ce := 123) mc_123 (jx_dc dd_5 3 rfl) w_105 w_106 w_107 ⟨by decide, by decide⟩ np_123) ?_
  refine jx_ac (s_aload_n (jx_dc dd_5 4 rfl) rfl) ?_
  refine jx_ac (s_getf kk_0 (k := 1) (Nat.le_of_ble_eq_true rfl) (jx_dc dd_5 5 rfl) w_97) ?_
  refine jx_ac (s_iconst (jx_dc dd_5 6 rfl) rfl) ?_
  refine jx_ac (s_calls (ce := 123) mc_123 (jx_dc dd_5 7 rfl) w_105 w_106 w_107 ⟨by decide, by decide⟩ np_123) ?_
  refine jx_ac (s_aload_n (jx_dc dd_5 8 rfl) rfl) ?_
  refine jx_ac (s_getf kk_0 (k := 2) (Nat.le_of_ble_eq_true rfl) (jx_dc dd_5 9 rfl) w_98) ?_
  refine jx_ac (s_iconst (jx_dc dd_5 10 rfl) rfl) ?_
  refine jx_ac (s_calls (ce := 123) mc_123 (jx_dc dd_5 11 rfl) w_105 w_106 w_107 ⟨by decide, by decide⟩ np_123) ?_
  refine jx_ac (s_aload_n (jx_dc dd_5 12 rfl) rfl) ?_
  refine jx_ac (s_iconst (jx_dc dd_5 13 rfl) rfl) ?_
  refine jx_ac (s_putf kk_0 (k := 3) (Nat.le_of_ble_eq_true rfl) (jx_dc dd_5 14 rfl) (fun _ h => jx_okI_n _ h) rfl w_103) ?_
  refine jx_ac (s_aload_n (jx_dc dd_5 15 rfl) rfl) ?_
  refine jx_ac (s_iconst (jx_dc dd_5 16 rfl) rfl) ?_
  refine jx_ac (s_putf kk_0 (k := 4) (Nat.le_of_ble_eq_true rfl) (jx_dc dd_5 17 rfl) (fun _ h => jx_okI_n _ h) rfl w_104) ?_
  refine jx_ac (s_ret rfl (jx_dc dd_5 18 rfl)) ?_
  exact jx_an
theorem A_5 : jx_All (jx_mk D c0 c1 c2 c3 c4 H0 ga L xs) jx_mt md_5 K_5 :=  A_5_0
def dl_6 : List (Nat × Instr × Nat) := [(0, .aload_n 0, 1), (1, .getfield 27, 3), (4, .bipush 10, 2), (6, .if_icmp .ge 23, 3), (9, .aload_n 0, 1), (10, .getfield 9, 3), (13, .aload_n 0, 1), (14, .getfield 27, 3), (17, .iload_n 1, 1), (18, .iastore, 1), (19, .aload_n 0, 1), (20, .dup, 1), (21, .getfield 27, 3), (24, .iconst 1, 1), (25, .iadd, 1), (26, .putfield 27, 3), (29, .return_, 1)]
theorem dd_6 : ∀ q ∈ dl_6, decode prog_3_method_4_code q.1 = .ok q.2 := by decide +kernel
theorem A_6_0 : jx_All (jx_mk D c0 c1 c2 c3 c4 H0 ga L xs) jx_mt md_6 K_6_0 := by
  refine jx_ac (s_aload_n (jx_dc dd_6 0 rfl) rfl) ?_
  refine jx_ac (s_getf kk_0 (k := 3) (Nat.le_of_ble_eq_true rfl) (jx_dc dd_6 1 rfl) w_103) ?_
  refine jx_ac (s_bipush (jx_dc dd_6 2 rfl) rfl) ?_
  refine jx_ac (s_ige (jx_dc dd_6 3 rfl) rfl) ?_
  refine jx_ac (s_aload_n (jx_dc dd_6 4 rfl) rfl) ?_
  refine jx_ac (s_getf kk_0 (k := 0) (Nat.le_of_ble_eq_true rfl) (jx_dc dd_6 5 rfl) w_96) ?_
  refine jx_ac (s_aload_n (jx_dc dd_6 6 rfl) rfl) ?_
  refine jx_ac (s_getf kk_0 (k := 3) (Nat.le_of_ble_eq_true rfl) (jx_dc dd_6 7 rfl) w_103) ?_
  refine jx_ac (s_iload_n (jx_dc dd_6 8 rfl) rfl) ?_
  refine jx_ac (s_iast rfl (jx_dc dd_6 9 rfl)) ?_
  refine jx_ac (s_aload_n (jx_dc dd_6 10 rfl) rfl) ?_
  refine jx_ac (s_dup (jx_dc dd_6 11 rfl)) ?_
  refine jx_ac (s_getf kk_0 (k := 3) (Nat.le_of_ble_eq_true rfl) (jx_dc dd_6 12 rfl) w_103) ?_
  refine jx_ac (s_iconst (jx_dc dd_6 13 rfl) rfl) ?_
  refine jx_ac (s_iadd (jx_dc dd_6 14 rfl)) ?_
  refine jx_ac (s_putf kk_0 (k := 3) (Nat.le_of_ble_eq_true rfl) (jx_dc dd_6 15 rfl) (fun _ h => jx_okI_n _ h) rfl w_103) ?_
  refine jx_ac (s_ret rfl (jx_dc dd_6 16 rfl)) ?_
  exact jx_an
theorem A_6 : jx_All (jx_mk D c0 c1 c2 c3 c4 H0 ga L xs) jx_mt md_6 K_6 :=  A_6_0
def dl_7 : List (Nat × Instr × Nat) := [(0, .aload_n 0, 1), (1, .iload_n 1, 1), (2, .invokevirtual 40, 3), (5, .ifCond .eq 35, 3), (8, .aload_n 0, 1), (9, .iload_n 2, 1), (10, .invokevirtual 40, 3), (13, .ifCond .eq 27, 3), (16, .aload_n 0, 1), (17, .iload_n 1, 1), (18, .iload_n 2, 1), (19, .iload_n 3, 1), (20, .invokevirtual 44, 3), (23, .aload_n 0, 1), (24, .iload_n 2, 1), (25, .iload_n 1, 1), (26, .iload_n 3, 1), (27, .invokevirtual 44, 3), (30, .aload_n 0, 1), (31, .dup, 1), (32, .getfield 31, 3), (35, .iconst 1, 1), (36, .iadd, 1), (37, .putfield 31, 3), (40, .return_, 1)]
theorem dd_7 : ∀ q ∈ dl_7, decode prog_3_method_5_code q.1 = .ok q.2 := by decide +kernel
theorem A_7_0 : jx_All (jx_mk D c0 c1 c2 c3 c4 H0 ga L xs) jx_mt md_7 K_7_0 := by
  refine jx_ac (s_aload_n (jx_dc dd_7 0 rfl) rfl) ?_
  refine jx_ac (s_iload_n (jx_dc dd_7 1 rfl) rfl) ?_
  refine jx_ac (s_callv (ce := 3) kk_0 mc_3 (jx_dc dd_7 2 rfl) w_108 w_109 w_110 ⟨by decide, by decide⟩ np_3) ?_
  refine jx_ac (s_ifeq (jx_dc dd_7 3 rfl) rfl) ?_
  refine jx_ac (s_aload_n (jx_dc dd_7 4 rfl) rfl) ?_
  refine jx_ac (s_iload_n (jx_dc dd_7 5 rfl) rfl) ?_
  refine jx_ac (s_callv (ce := 3) kk_0 mc_3 (jx_dc dd_7 6 rfl) w_108 w_109 w_110 ⟨by decide, by decide⟩ np_3) ?_
  refine jx_ac (s_ifeq (jx_dc dd_7 7 rfl) rfl) ?_
  refine jx_ac (s_aload_n (jx_dc dd_7 8 rfl) rfl) ?_
  refine jx_ac (s_iload_n (jx_dc dd_7 9 rfl) rfl) ?_
  refine jx_ac (s_iload_n (jx_dc dd_7 10 rfl) rfl) ?_
  refine jx_ac (s_iload_n (jx_dc dd_7 11 rfl) rfl) ?_
  refine jx_ac (s_callv (ce := 8) kk_0 mc_8 (jx_dc dd_7 12 rfl) w_111 w_112 w_113 ⟨by decide, by decide⟩ np_8) ?_
  refine jx_ac (s_aload_n (jx_dc dd_7 13 rfl) rfl) ?_
  refine jx_ac (s_iload_n (jx_dc dd_7 14 rfl) rfl) ?_
  refine jx_ac (s_iload_n (jx_dc dd_7 15 rfl) rfl) ?_
  refine jx_ac (s_iload_n (jx_dc dd_7 16 rfl) rfl) ?_
  refine jx_ac (s_callv (ce := 8) kk_0 mc_8 (jx_dc dd_7 17 rfl) w_111 w_112 w_113 ⟨by decide, by decide⟩ np_8) ?_
  refine jx_ac (s_aload_n (jx_dc dd_7 18 rfl) rfl) ?_
  refine jx_ac (s_dup (jx_dc dd_7 19 rfl)) ?_
  refine jx_ac (s_getf kk_0 (k := 4) (Nat.le_of_ble_eq_true rfl) (jx_dc dd_7 20 rfl) w_104) ?_
  refine jx_ac (s_iconst (jx_dc dd_7 21 rfl) rfl) ?_
  refine jx_ac (s_iadd (jx_dc dd_7 22 rfl)) ?_
  refine jx_ac (s_putf kk_0 (k := 4) (Nat.le_of_ble_eq_true rfl) (jx_dc dd_7 23 rfl) (fun _ h => jx_okI_n _ h) rfl w_104) ?_
  refine jx_ac (s_ret rfl (jx_dc dd_7 24 rfl)) ?_
  exact jx_an
theorem A_7 : jx_All (jx_mk D c0 c1 c2 c3 c4 H0 ga L xs) jx_mt md_7 K_7 :=  A_7_0
def dl_8 : List (Nat × Instr × Nat) := [(0, .aload_n 0, 1), (1, .getfield 15, 3), (4, .iload_n 1, 1), (5, .bipush 10, 2), (7, .imul, 1), (8, .iload_n 2, 1), (9, .iadd, 1), (10, .iload_n 3, 1), (11, .iastore, 1), (12, .aload_n 0, 1), (13, .getfield 18, 3), (16, .iload_n 3, 1), (17, .bipush 10, 2), (19, .imul, 1), (20, .iload_n 1, 1), (21, .iadd, 1), (22, .dup2, 1), (23, .iaload, 1), (24, .iconst 1, 1), (25, .iload_n 2, 1), (26, .ishl, 1), (27, .ior, 1), (28, .iastore, 1), (29, .aload_n 0, 1), (30, .getfield 18, 3), (33, .bipush 50, 2), (35, .iload_n 1, 1), (36, .iadd, 1), (37, .dup2, 1), (38, .iaload, 1), (39, .iconst 1, 1), (40, .iload_n 2, 1), (41, .ishl, 1), (42, .ior, 1), (43, .iastore, 1), (44, .return_, 1)]
theorem dd_8 : ∀ q ∈ dl_8, decode prog_3_method_6_code q.1 = .ok q.2 := by decide +kernel
theorem A_8_0 : jx_All (jx_mk D c0 c1 c2 c3 c4 H0 ga L xs) jx_mt md_8 K_8_0 := by
  refine jx_ac (s_aload_n (jx_dc dd_8 0 rfl) rfl) ?_
  refine jx_ac (s_getf kk_0 (k := 1) (Nat.le_of_ble_eq_true rfl) (jx_dc dd_8 1 rfl) w_97) ?_
  refine jx_ac (s_iload_n (jx_dc dd_8 2 rfl) rfl) ?_
  refine jx_ac (s_bipush (jx_dc dd_8 3 rfl) rfl) ?_
  refine jx_ac (s_imul (jx_dc dd_8 4 rfl)) ?_
  refine jx_ac (s_iload_n (jx_dc dd_8 5 rfl) rfl) ?_
  refine jx_ac (s_iadd (jx_dc dd_8 6 rfl)) ?_
  refine jx_ac (s_iload_n (jx_dc dd_8 7 rfl) rfl) ?_
  refine jx_ac (s_iast rfl (jx_dc dd_8 8 rfl)) ?_
  refine jx_ac (s_aload_n (jx_dc dd_8 9 rfl) rfl) ?_
  refine jx_ac (s_getf kk_0 (k := 2) (Nat.le_of_ble_eq_true rfl) (jx_dc dd_8 10 rfl) w_98) ?_
  refine jx_ac (s_iload_n (jx_dc dd_8 11 rfl) rfl) ?_
  refine jx_ac (s_bipush (jx_dc dd_8 12 rfl) rfl) ?_
  refine jx_ac (s_imul (jx_dc dd_8 13 rfl)) ?_
  refine jx_ac (s_iload_n (jx_dc dd_8 14 rfl) rfl) ?_
  refine jx_ac (s_iadd (jx_dc dd_8 15 rfl)) ?_
  refine jx_ac (s_dup2 (jx_dc dd_8 16 rfl)) ?_
  refine jx_ac (s_iald rfl (jx_dc dd_8 17 rfl)) ?_
  refine jx_ac (s_iconst (jx_dc dd_8 18 rfl) rfl) ?_
  refine jx_ac (s_iload_n (jx_dc dd_8 19 rfl) rfl) ?_
  refine jx_ac (s_ishl (jx_dc dd_8 20 rfl)) ?_
  refine jx_ac (s_ior (jx_dc dd_8 21 rfl)) ?_
  refine jx_ac (s_iast rfl (jx_dc dd_8 22 rfl)) ?_
  refine jx_ac (s_aload_n (jx_dc dd_8 23 rfl) rfl) ?_
  refine jx_ac (s_getf kk_0 (k := 2) (Nat.le_of_ble_eq_true rfl) (jx_dc dd_8 24 rfl) w_98) ?_
  refine jx_ac (s_bipush (jx_dc dd_8 25 rfl) rfl) ?_
  refine jx_ac (s_iload_n (jx_dc dd_8 26 rfl) rfl) ?_
  refine jx_ac (s_iadd (jx_dc dd_8 27 rfl)) ?_
  refine jx_ac (s_dup2 (jx_dc dd_8 28 rfl)) ?_
  refine jx_ac (s_iald rfl (jx_dc dd_8 29 rfl)) ?_
  refine jx_ac (s_iconst (jx_dc dd_8 30 rfl) rfl) ?_
  refine jx_ac (s_iload_n (jx_dc dd_8 31 rfl) rfl) ?_
  refine jx_ac (s_ishl (jx_dc dd_8 32 rfl)) ?_
  refine jx_ac (s_ior (jx_dc dd_8 33 rfl)) ?_
  refine jx_ac (s_iast rfl (jx_dc dd_8 34 rfl)) ?_
  refine jx_ac (s_ret rfl (jx_dc dd_8 35 rfl)) ?_
  exact jx_an
theorem A_8 : jx_All (jx_mk D c0 c1 c2 c3 c4 H0 ga L xs) jx_mt md_8 K_8 :=  A_8_0
def dl_9 : List (Nat × Instr × Nat) := [(0, .aload_n 0, 1), (1, .getfield 18, 3), (4, .iload_n 2, 1), (5, .bipush 10, 2), (7, .imul, 1), (8, .iload_n 1, 1), (9, .iadd, 1), (10, .iaload, 1), (11, .invokestatic 48, 3), (14, .ireturn, 1)]
theorem dd_9 : ∀ q ∈ dl_9, decode prog_3_method_10_code q.1 = .ok q.2 := by decide +kernel
theorem A_9_0 : jx_All (jx_mk D c0 c1 c2 c3 c4 H0 ga L xs) jx_mt md_9 K_9_0 := by
  refine jx_ac (s_aload_n (jx_dc dd_9 0 rfl) rfl) ?_
  refine jx_ac (s_getf kk_0 (k := 2) (Nat.le_of_ble_eq_true rfl) (jx_dc dd_9 1 rfl) w_98) ?_
  refine jx_ac (s_iload_n (jx_dc dd_9 2 rfl) rfl) ?_
  refine jx_ac (s_bipush (jx_dc dd_9 3 rfl) rfl) ?_
  refine jx_ac (s_imul (jx_dc dd_9 4 rfl)) ?_
  refine jx_ac (s_iload_n (jx_dc dd_9 5 rfl) rfl) ?_
  refine jx_ac (s_iadd (jx_dc dd_9 6 rfl)) ?_
  refine jx_ac (s_iald rfl (jx_dc dd_9 7 rfl)) ?_
  refine jx_ac (s_calls (ce := 124) mc_124 (jx_dc dd_9 8 rfl) w_114 w_115 w_116 ⟨by decide, by decide⟩ np_124) ?_
  refine jx_ac (s_iret rfl (jx_dc dd_9 9 rfl)) ?_
  exact jx_an
theorem A_9 : jx_All (jx_mk D c0 c1 c2 c3 c4 H0 ga L xs) jx_mt md_9 K_9 :=  A_9_0
def dl_10 : List (Nat × Instr × Nat) := [(0, .aload_n 0, 1), (1, .getfield 18, 3), (4, .iload_n 2, 1), (5, .bipush 10, 2), (7, .imul, 1), (8, .iload_n 1, 1), (9, .iadd, 1), (10, .iaload, 1), (11, .ireturn, 1)]
theorem dd_10 : ∀ q ∈ dl_10, decode prog_3_method_9_code q.1 = .ok q.2 := by decide +kernel
theorem A_10_0 : jx_All (jx_mk D c0 c1 c2 c3 c4 H0 ga L xs) jx_mt md_10 K_10_0 := by
  refine jx_ac (s_aload_n (jx_dc dd_10 0 rfl) rfl) ?_
  refine jx_ac (s_getf kk_0 (k := 2) (Nat.le_of_ble_eq_true rfl) (jx_dc dd_10 1 rfl) w_98) ?_
  refine jx_ac (s_iload_n (jx_dc dd_10 2 rfl) rfl) ?_
  refine jx_ac (s_bipush (jx_dc dd_10 3 rfl) rfl) ?_
  refine jx_ac (s_imul (jx_dc dd_10 4 rfl)) ?_
  refine jx_ac (s_iload_n (jx_dc dd_10 5 rfl) rfl) ?_
  refine jx_ac (s_iadd (jx_dc dd_10 6 rfl)) ?_
  refine jx_ac (s_iald rfl (jx_dc dd_10 7 rfl)) ?_
  refine jx_ac (s_iret rfl (jx_dc dd_10 8 rfl)) ?_
  exact jx_an
theorem A_10 : jx_All (jx_mk D c0 c1 c2 c3 c4 H0 ga L xs) jx_mt md_10 K_10 :=  A_10_0
def dl_11 : List (Nat × Instr × Nat) := [(0, .aload_n 0, 1), (1, .invokespecial 1, 3), (4, .aload_n 0, 1), (5, .new 7, 3), (8, .dup, 1), (9, .invokespecial 9, 3), (12, .putfield 10, 3), (15, .return_, 1)]
theorem dd_11 : ∀ q ∈ dl_11, decode prog_4_method_1_code q.1 = .ok q.2 := by decide +kernel
theorem A_11_0 : jx_All (jx_mk D c0 c1 c2 c3 c4 H0 ga L xs) jx_mt md_11 K_11_0 := by
  refine jx_ac (s_aload_n (jx_dc dd_11 0 rfl) rfl) ?_
  refine jx_ac (s_oinit (jx_dc dd_11 1 rfl) w_117 w_93 w_94) ?_
  refine jx_ac (s_aload_n (jx_dc dd_11 2 rfl) rfl) ?_
  refine jx_ac (s_new kk_0 (jx_dc dd_11 3 rfl) w_118 w_119 w_120 rfl) ?_
  refine jx_ac (s_dup (jx_dc dd_11 4 rfl)) ?_
  refine jx_ac (s_calliN (ce := 1) mc_1 w_122 (jx_dc dd_11 5 rfl) w_121 w_123 rfl ⟨by decide, by decide⟩ np_1) ?_
  refine jx_ac (s_putfF kk_1 (k := 3) (Nat.le_of_ble_eq_true rfl) (jx_dc dd_11 6 rfl) (fun _ h => jx_okR_n _ _ h) rfl rfl rfl w_124) ?_
  refine jx_ac (s_ret rfl (jx_dc dd_11 7 rfl)) ?_
  exact jx_an
theorem A_11 : jx_All (jx_mk D c0 c1 c2 c3 c4 H0 ga L xs) jx_mt md_11 K_11 :=  A_11_0
def dl_12 : List (Nat × Instr × Nat) := [(0, .aload_n 0, 1), (1, .iconst 0, 1), (2, .putfield 28, 3), (5, .aload_n 0, 1), (6, .iconst 0, 1), (7, .putfield 16, 3), (10, .aload_n 0, 1), (11, .iconst 0, 1), (12, .putfield 20, 3), (15, .return_, 1)]
theorem dd_12 : ∀ q ∈ dl_12, decode prog_4_method_3_code q.1 = .ok q.2 := by decide +kernel
theorem A_12_0 : jx_All (jx_mk D c0 c1 c2 c3 c4 H0 ga L xs) jx_mt md_12 K_12_0 := by
  refine jx_ac (s_aload_n (jx_dc dd_12 0 rfl) rfl) ?_
  refine jx_ac (s_iconst (jx_dc dd_12 1 rfl) rfl) ?_
  refine jx_ac (s_putf kk_1 (k := 0) (Nat.le_of_ble_eq_true rfl) (jx_dc dd_12 2 rfl) (fun _ h => jx_okZ_n _ h) rfl w_125) ?_
  refine jx_ac (s_aload_n (jx_dc dd_12 3 rfl) rfl) ?_
  refine jx_ac (s_iconst (jx_dc dd_12 4 rfl) rfl) ?_
  refine jx_ac (s_putf kk_1 (k := 1) (Nat.le_of_ble_eq_true rfl) (jx_dc dd_12 5 rfl) (fun _ h => jx_okZ_n _ h) rfl w_126) ?_
  refine jx_ac (s_aload_n (jx_dc dd_12 6 rfl) rfl) ?_
  refine jx_ac (s_iconst (jx_dc dd_12 7 rfl) rfl) ?_
  refine jx_ac (s_putf kk_1 (k := 2) (Nat.le_of_ble_eq_true rfl) (jx_dc dd_12 8 rfl) (fun _ h => jx_okI_n _ h) rfl w_127) ?_
  refine jx_ac (s_ret rfl (jx_dc dd_12 9 rfl)) ?_
  exact jx_an
theorem A_12 : jx_All (jx_mk D c0 c1 c2 c3 c4 H0 ga L xs) jx_mt md_12 K_12 :=  A_12_0
def dl_13 : List (Nat × Instr × Nat) := [(0, .aload_n 0, 1), (1, .iload_n 1, 1), (2, .putfield 16, 3), (5, .aload_n 0, 1), (6, .iload_n 2, 1), (7, .putfield 20, 3), (10, .aload_n 0, 1), (11, .getfield 16, 3), (14, .ifCond .ne 11, 3), (17, .aload_n 0, 1), (18, .getfield 10, 3), (21, .aload_n 3, 1), (22, .invokevirtual 24, 3), (25, .return_, 1)]
theorem dd_13 : ∀ q ∈ dl_13, decode prog_4_method_2_code q.1 = .ok q.2 := by decide +kernel
theorem A_13_0 : jx_All (jx_mk D c0 c1 c2 c3 c4 H0 ga L xs) jx_mt md_13 K_13_0 := by
  refine jx_ac (s_aload_n (jx_dc dd_13 0 rfl) rfl) ?_
  refine jx_ac (s_iload_n (jx_dc dd_13 1 rfl) rfl) ?_
  refine jx_ac (s_putf kk_1 (k := 1) (Nat.le_of_ble_eq_true rfl) (jx_dc dd_13 2 rfl) (fun _ h => jx_okZ_n _ h) rfl w_126) ?_
  refine jx_ac (s_aload_n (jx_dc dd_13 3 rfl) rfl) ?_
  refine jx_ac (s_iload_n (jx_dc dd_13 4 rfl) rfl) ?_
  refine jx_ac (s_putf kk_1 (k := 2) (Nat.le_of_ble_eq_true rfl) (jx_dc dd_13 5 rfl) (fun _ h => jx_okI_n _ h) rfl w_127) ?_
  refine jx_ac (s_aload_n (jx_dc dd_13 6 rfl) rfl) ?_
  refine jx_ac (s_getf kk_1 (k := 1) (Nat.le_of_ble_eq_true rfl) (jx_dc dd_13 7 rfl) w_126) ?_
  refine jx_ac (s_ifne (jx_dc dd_13 8 rfl) rfl) ?_
  refine jx_ac (s_aload_n (jx_dc dd_13 9 rfl) rfl) ?_
  refine jx_ac (s_getf kk_1 (k := 3) (Nat.le_of_ble_eq_true rfl) (jx_dc dd_13 10 rfl) w_124) ?_
  refine jx_ac (s_aload_n (jx_dc dd_13 11 rfl) rfl) ?_
  refine jx_ac (s_callv (ce := 2) kk_0 mc_2 (jx_dc dd_13 12 rfl) w_128 w_129 w_130 ⟨by decide, by decide⟩ np_2) ?_
  refine jx_ac (s_ret rfl (jx_dc dd_13 13 rfl)) ?_
  exact jx_an
theorem A_13 : jx_All (jx_mk D c0 c1 c2 c3 c4 H0 ga L xs) jx_mt md_13 K_13 :=  A_13_0
def dl_14 : List (Nat × Instr × Nat) := [(0, .aload_n 0, 1), (1, .invokespecial 3, 3), (4, .aload_n 0, 1), (5, .bipush 10, 2), (7, .newarray .int, 2), (9, .putfield 9, 3), (12, .aload_n 0, 1), (13, .bipush 10, 2), (15, .newarray .int, 2), (17, .putfield 15, 3), (20, .return_, 1)]
theorem dd_14 : ∀ q ∈ dl_14, decode prog_5_method_1_code q.1 = .ok q.2 := by decide +kernel
theorem A_14_0 : jx_All (jx_mk D c0 c1 c2 c3 c4 H0 ga L xs) jx_mt md_14 K_14_0 := by
  refine jx_ac (s_aload_n (jx_dc dd_14 0 rfl) rfl) ?_
  refine jx_ac (s_oinit (jx_dc dd_14 1 rfl) w_131 w_93 w_94) ?_
  refine jx_ac (s_aload_n (jx_dc dd_14 2 rfl) rfl) ?_
  refine jx_ac (s_bipush (jx_dc dd_14 3 rfl) rfl) ?_
  refine jx_ac (s_newa (t := 0) (z := jx_zi) rfl rfl (Nat.le_of_ble_eq_true rfl) (jx_dc dd_14 4 rfl) w_95 (fun _ _ => rfl) (fun _ => rfl) (by decide) (fun _ _ h => h)) ?_
  refine jx_ac (s_putfF kk_2 (k := 0) (Nat.le_of_ble_eq_true rfl) (jx_dc dd_14 5 rfl) (fun _ h => jx_okA_n _ _ h) rfl rfl rfl w_132) ?_
  refine jx_ac (s_aload_n (jx_dc dd_14 6 rfl) rfl) ?_
  refine jx_ac (s_bipush (jx_dc dd_14 7 rfl) rfl) ?_
  refine jx_ac (s_newa (t := 0) (z := jx_zi) rfl rfl (Nat.le_of_ble_eq_true rfl) (jx_dc dd_14 8 rfl) w_95 (fun _ _ => rfl) (fun _ => rfl) (by decide) (fun _ _ h => h)) ?_
  refine jx_ac (s_putfF kk_2 (k := 1) (Nat.le_of_ble_eq_true rfl) (jx_dc dd_14 9 rfl) (fun _ h => jx_okA_n _ _ h) rfl rfl rfl w_133) ?_
  refine jx_ac (s_ret rfl (jx_dc dd_14 10 rfl)) ?_
  exact jx_an
theorem A_14 : jx_All (jx_mk D c0 c1 c2 c3 c4 H0 ga L xs) jx_mt md_14 K_14 :=  A_14_0
def dl_15 : List (Nat × Instr × Nat) := [(0, .aload_n 1, 1), (1, .getfield 18, 3), (4, .aload_n 2, 1), (5, .getfield 18, 3), (8, .if_icmp .ne 42, 3), (11, .aload_n 1, 1), (12, .getfield 24, 3), (15, .aload_n 2, 1), (16, .getfield 24, 3), (19, .if_icmp .ne 31, 3), (22, .aload_n 0, 1), (23, .aload_n 1, 1), (24, .aload_n 2, 1), (25, .iconst 0, 1), (26, .invokevirtual 27, 3), (29, .ifCond .eq 21, 3), (32, .aload_n 0, 1), (33, .aload_n 1, 1), (34, .aload_n 2, 1), (35, .iconst 0, 1), (36, .aload_n 2, 1), (37, .invokestatic 31, 3), (40, .invokevirtual 35, 3), (43, .ifCond .eq 7, 3), (46, .iconst 1, 1), (47, .goto 4, 3), (50, .iconst 0, 1), (51, .ireturn, 1)]
theorem dd_15 : ∀ q ∈ dl_15, decode prog_5_method_2_code q.1 = .ok q.2 := by decide +kernel
theorem A_15_0 : jx_All (jx_mk D c0 c1 c2 c3 c4 H0 ga L xs) jx_mt md_15 K_15_0 := by
  refine jx_ac (s_aload_n (jx_dc dd_15 0 rfl) rfl) ?_
  refine jx_ac (s_getfN kk_0 (k := 3) (Nat.le_of_ble_eq_true rfl) (jx_dc dd_15 1 rfl) w_134) ?_
  refine jx_ac (s_aload_n (jx_dc dd_15 2 rfl) rfl) ?_
  refine jx_ac (s_getfN kk_0 (k := 3) (Nat.le_of_ble_eq_true rfl) (jx_dc dd_15 3 rfl) w_134) ?_
  refine jx_ac (s_ine (jx_dc dd_15 4 rfl) rfl) ?_
  refine jx_ac (s_aload_n (jx_dc dd_15 5 rfl) rfl) ?_
  refine jx_ac (s_getfN kk_0 (k := 4) (Nat.le_of_ble_eq_true rfl) (jx_dc dd_15 6 rfl) w_135) ?_
  refine jx_ac (s_aload_n (jx_dc dd_15 7 rfl) rfl) ?_
  refine jx_ac (s_getfN kk_0 (k := 4) (Nat.le_of_ble_eq_true rfl) (jx_dc dd_15 8 rfl) w_135) ?_
  refine jx_ac (s_ine (jx_dc dd_15 9 rfl) rfl) ?_
  refine jx_ac (s_aload_n (jx_dc dd_15 10 rfl) rfl) ?_
  refine jx_ac (s_aload_n (jx_dc dd_15 11 rfl) rfl) ?_
  refine jx_ac (s_aload_n (jx_dc dd_15 12 rfl) rfl) ?_
  refine jx_ac (s_iconst (jx_dc dd_15 13 rfl) rfl) ?_
  refine jx_ac (s_callv (ce := 16) kk_2 mc_16 (jx_dc dd_15 14 rfl) w_136 w_137 w_138 ⟨by decide, by decide⟩ np_16) ?_
  refine jx_ac (s_ifeq (jx_dc dd_15 15 rfl) rfl) ?_
  refine jx_ac (s_aload_n (jx_dc dd_15 16 rfl) rfl) ?_
  refine jx_ac (s_aload_n (jx_dc dd_15 17 rfl) rfl) ?_
  refine jx_ac (s_aload_n (jx_dc dd_15 18 rfl) rfl) ?_
  refine jx_ac (s_iconst (jx_dc dd_15 19 rfl) rfl) ?_
  refine jx_ac (s_aload_n (jx_dc dd_15 20 rfl) rfl) ?_
  refine jx_ac (s_calls (ce := 19) mc_19 (jx_dc dd_15 21 rfl) w_139 w_140 w_141 ⟨by decide, by decide⟩ np_19) ?_
  refine jx_ac (s_callv (ce := 20) kk_2 mc_20 (jx_dc dd_15 22 rfl) w_142 w_143 w_144 ⟨by decide, by decide⟩ np_20) ?_
  refine jx_ac (s_ifeq (jx_dc dd_15 23 rfl) rfl) ?_
  refine jx_ac (s_iconst (jx_dc dd_15 24 rfl) rfl) ?_
  refine jx_ac (s_goto (jx_dc dd_15 25 rfl) rfl) ?_
  refine jx_ac (s_iconst (jx_dc dd_15 26 rfl) rfl) ?_
  refine jx_ac (s_zret rfl (jx_dc dd_15 27 rfl)) ?_
  exact jx_an
theorem A_15 : jx_All (jx_mk D c0 c1 c2 c3 c4 H0 ga L xs) jx_mt md_15 K_15 :=  A_15_0
def dl_16 : List (Nat × Instr × Nat) := [(0, .iconst 0, 1), (1, .istore 4, 2), (3, .iload 4, 2), (5, .aload_n 1, 1), (6, .getfield 18, 3), (9, .if_icmp .ge 97, 3), (12, .aload_n 0, 1), (13, .getfield 9, 3), (16, .iload 4, 2), (18, .iconst 0, 1), (19, .iastore, 1), (20, .iconst 0, 1), (21, .istore 5, 2), (23, .iload 5, 2), (25, .aload_n 2, 1), (26, .getfield 18, 3), (29, .if_icmp .ge 59, 3), (32, .aload_n 1, 1), (33, .getfield 39, 3), (36, .iload 4, 2), (38, .iaload, 1), (39, .aload_n 2, 1), (40, .getfield 39, 3), (43, .iload 5, 2), (45, .iaload, 1), (46, .iload_n 3, 1), (47, .iconst (-1), 1), (48, .ixor, 1), (49, .iand, 1), (50, .invokestatic 42, 3), (53, .ifCond .eq 29, 3), (56, .aload_n 1, 1), (57, .iload 4, 2), (59, .aload_n 2, 1), (60, .iload 5, 2), (62, .invokestatic 46, 3), (65, .ifCond .eq 17, 3), (68, .aload_n 0, 1), (69, .getfield 9, 3), (72, .iload 4, 2), (74, .dup2, 1), (75, .iaload, 1), (76, .iconst 1, 1), (77, .iload 5, 2), (79, .ishl, 1), (80, .ior, 1), (81, .iastore, 1), (82, .iinc 5 1, 3), (85, .goto (-62), 3), (88, .aload_n 0, 1), (89, .getfield 9, 3), (92, .iload 4, 2), (94, .iaload, 1), (95, .ifCond .ne 5, 3), (98, .iconst 0, 1), (99, .ireturn, 1), (100, .iinc 4 1, 3), (103, .goto (-100), 3), (106, .iconst 1, 1), (107, .ireturn, 1)]
theorem dd_16 : ∀ q ∈ dl_16, decode prog_5_method_5_code q.1 = .ok q.2 := by decide +kernel
theorem A_16_0 : jx_All (jx_mk D c0 c1 c2 c3 c4 H0 ga L xs) jx_mt md_16 K_16_0 := by
  refine jx_ac (s_iconst (jx_dc dd_16 0 rfl) rfl) ?_
  refine jx_ac (s_istore (jx_dc dd_16 1 rfl)) ?_
  refine jx_ac (s_iload (jx_dc dd_16 2 rfl)) ?_
  refine jx_ac (s_aload_n (jx_dc dd_16 3 rfl) rfl) ?_
  refine jx_ac (s_getfN kk_0 (k := 3) (Nat.le_of_ble_eq_true rfl) (jx_dc dd_16 4 rfl) w_134) ?_
  refine jx_ac (s_ige (jx_dc dd_16 5 rfl) rfl) ?_
  refine jx_ac (s_aload_n (jx_dc dd_16 6 rfl) rfl) ?_
  refine jx_ac (s_getf kk_2 (k := 0) (Nat.le_of_ble_eq_true rfl) (jx_dc dd_16 7 rfl) w_132) ?_
  refine jx_ac (s_iload (jx_dc dd_16 8 rfl)) ?_
  refine jx_ac (s_iconst (jx_dc dd_16 9 rfl) rfl) ?_
  refine jx_ac (s_iast rfl (jx_dc dd_16 10 rfl)) ?_
  refine jx_ac (s_iconst (jx_dc dd_16 11 rfl) rfl) ?_
  refine jx_ac (s_istore (jx_dc dd_16 12 rfl)) ?_
  refine jx_ac (s_iload (jx_dc dd_16 13 rfl)) ?_
  refine jx_ac (s_aload_n (jx_dc dd_16 14 rfl) rfl) ?_
  refine jx_ac (s_getfN kk_0 (k := 3) (Nat.le_of_ble_eq_true rfl) (jx_dc dd_16 15 rfl) w_134) ?_
  refine jx_ac (s_ige (jx_dc dd_16 16 rfl) rfl) ?_
  refine jx_ac (s_aload_n (jx_dc dd_16 17 rfl) rfl) ?_
  refine jx_ac (s_getfN kk_0 (k := 0) (Nat.le_of_ble_eq_true rfl) (jx_dc dd_16 18 rfl) w_145) ?_
  refine jx_ac (s_iload (jx_dc dd_16 19 rfl)) ?_
  refine jx_ac (s_iald rfl (jx_dc dd_16 20 rfl)) ?_
  refine jx_ac (s_aload_n (jx_dc dd_16 21 rfl) rfl) ?_
  refine jx_ac (s_getfN kk_0 (k := 0) (Nat.le_of_ble_eq_true rfl) (jx_dc dd_16 22 rfl) w_145) ?_
  refine jx_ac (s_iload (jx_dc dd_16 23 rfl)) ?_
  refine jx_ac (s_iald rfl (jx_dc dd_16 24 rfl)) ?_
  refine jx_ac (s_iload_n (jx_dc dd_16 25 rfl) rfl) ?_
  refine jx_ac (s_iconst (jx_dc dd_16 26 rfl) rfl) ?_
  refine jx_ac (s_ixor (jx_dc dd_16 27 rfl)) ?_
  refine jx_ac (s_iand (jx_dc dd_16 28 rfl)) ?_
  refine jx_ac (s_calls (ce := 17) mc_17 (jx_dc dd_16 29 rfl) w_146 w_147 w_141 ⟨by decide, by decide⟩ np_17) ?_
  refine jx_ac (s_ifeq (jx_dc dd_16 30 rfl) rfl) ?_
  refine jx_ac (s_aload_n (jx_dc dd_16 31 rfl) rfl) ?_
  refine jx_ac (s_iload (jx_dc dd_16 32 rfl)) ?_
  refine jx_ac (s_aload_n (jx_dc dd_16 33 rfl) rfl) ?_
  refine jx_ac (s_iload (jx_dc dd_16 34 rfl)) ?_
  refine jx_ac (s_calls (ce := 18) mc_18 (jx_dc dd_16 35 rfl) w_148 w_149 w_141 ⟨by decide, by decide⟩ np_18) ?_
  refine jx_ac (s_ifeq (jx_dc dd_16 36 rfl) rfl) ?_
  refine jx_ac (s_aload_n (jx_dc dd_16 37 rfl) rfl) ?_
  refine jx_ac (s_getf kk_2 (k := 0) (Nat.le_of_ble_eq_true rfl) (jx_dc dd_16 38 rfl) w_132) ?_
  refine jx_ac (s_iload (jx_dc dd_16 39 rfl)) ?_
  exact jx_an
theorem A_16_1 : jx_All (jx_mk D c0 c1 c2 c3 c4 H0 ga L xs) jx_mt md_16 K_16_1 := by
  refine jx_ac (s_dup2 (jx_dc dd_16 40 rfl)) ?_
  refine jx_ac (s_iald rfl (jx_dc dd_16 41 rfl)) ?_
  refine jx_ac (s_iconst (jx_dc dd_16 42 rfl) rfl) ?_
  refine jx_ac (s_iload (jx_dc dd_16 43 rfl)) ?_
  refine jx_ac (s_ishl (jx_dc dd_16 44 rfl)) ?_
  refine jx_ac (s_ior (jx_dc dd_16 45 rfl)) ?_
  refine jx_ac (s_iast rfl (jx_dc dd_16 46 rfl)) ?_
  refine jx_ac (s_iinc (jx_dc dd_16 47 rfl) rfl) ?_
  refine jx_ac (s_goto (jx_dc dd_16 48 rfl) rfl) ?_
  refine jx_ac (s_aload_n (jx_dc dd_16 49 rfl) rfl) ?_
  refine jx_ac (s_getf kk_2 (k := 0) (Nat.le_of_ble_eq_true rfl) (jx_dc dd_16 50 rfl) w_132) ?_
  refine jx_ac (s_iload (jx_dc dd_16 51 rfl)) ?_
  refine jx_ac (s_iald rfl (jx_dc dd_16 52 rfl)) ?_
  refine jx_ac (s_ifne (jx_dc dd_16 53 rfl) rfl) ?_
  refine jx_ac (s_iconst (jx_dc dd_16 54 rfl) rfl) ?_
  refine jx_ac (s_zret rfl (jx_dc dd_16 55 rfl)) ?_
  refine jx_ac (s_iinc (jx_dc dd_16 56 rfl) rfl) ?_
  refine jx_ac (s_goto (jx_dc dd_16 57 rfl) rfl) ?_
  refine jx_ac (s_iconst (jx_dc dd_16 58 rfl) rfl) ?_
  refine jx_ac (s_zret rfl (jx_dc dd_16 59 rfl)) ?_
  exact jx_an
theorem A_16 : jx_All (jx_mk D c0 c1 c2 c3 c4 H0 ga L xs) jx_mt md_16 K_16 := (jx_aa A_16_0 A_16_1)
def dl_17 : List (Nat × Instr × Nat) := [(0, .iload_n 0, 1), (1, .sipush 16384, 3), (4, .iand, 1), (5, .ifCond .ne 14, 3), (8, .iload_n 0, 1), (9, .iload_n 1, 1), (10, .if_icmp .ne 7, 3), (13, .iconst 1, 1), (14, .goto 4, 3), (17, .iconst 0, 1), (18, .ireturn, 1), (19, .ldc 50, 2), (21, .iload_n 1, 1), (22, .bipush 127, 2), (24, .iand, 1), (25, .i2c, 1), (26, .invokevirtual 52, 3), (29, .istore_n 2, 1), (30, .iload_n 2, 1), (31, .ifCond .lt 15, 3), (34, .iload_n 0, 1), (35, .iload_n 2, 1), (36, .ishr, 1), (37, .iconst 1, 1), (38, .iand, 1), (39, .ifCond .eq 7, 3), (42, .iconst 1, 1), (43, .goto 4, 3), (46, .iconst 0, 1), (47, .ireturn, 1)]
theorem dd_17 : ∀ q ∈ dl_17, decode prog_5_method_6_code q.1 = .ok q.2 := by decide +kernel
theorem A_17_0 : jx_All (jx_mk D c0 c1 c2 c3 c4 H0 ga L xs) jx_mt md_17 K_17_0 := by
  refine jx_ac (s_iload_n (jx_dc dd_17 0 rfl) rfl) ?_
  refine jx_ac (s_sipush (jx_dc dd_17 1 rfl) rfl) ?_
  refine jx_ac (s_iand (jx_dc dd_17 2 rfl)) ?_
  refine jx_ac (s_ifne (jx_dc dd_17 3 rfl) rfl) ?_
  refine jx_ac (s_iload_n (jx_dc dd_17 4 rfl) rfl) ?_
  refine jx_ac (s_iload_n (jx_dc dd_17 5 rfl) rfl) ?_
  refine jx_ac (s_ine (jx_dc dd_17 6 rfl) rfl) ?_
  refine jx_ac (s_iconst (jx_dc dd_17 7 rfl) rfl) ?_
  refine jx_ac (s_goto (jx_dc dd_17 8 rfl) rfl) ?_
  refine jx_ac (s_iconst (jx_dc dd_17 9 rfl) rfl) ?_
  refine jx_ac (s_zret rfl (jx_dc dd_17 10 rfl)) ?_
  refine jx_ac (s_ldcS (jx_dc dd_17 11 rfl) (by decide) (fun s h => h.2.1 ("MoleculeRegistry$Matcher", 50, "CNOSF", 2) (by decide))) ?_
  refine jx_ac (s_iload_n (jx_dc dd_17 12 rfl) rfl) ?_
  refine jx_ac (s_bipush (jx_dc dd_17 13 rfl) rfl) ?_
  refine jx_ac (s_iand (jx_dc dd_17 14 rfl)) ?_
  refine jx_ac (s_i2c (jx_dc dd_17 15 rfl)) ?_
  refine jx_ac (s_callvS (ce := 125) (Nat.le_of_ble_eq_true rfl) (by decide) gS_obj mc_125 (jx_dc dd_17 16 rfl) w_150 w_151 w_152 ⟨by decide, by decide⟩ np_125) ?_
  refine jx_ac (s_istore_n (jx_dc dd_17 17 rfl) rfl) ?_
  refine jx_ac (s_iload_n (jx_dc dd_17 18 rfl) rfl) ?_
  refine jx_ac (s_iflt (jx_dc dd_17 19 rfl) rfl) ?_
  refine jx_ac (s_iload_n (jx_dc dd_17 20 rfl) rfl) ?_
  refine jx_ac (s_iload_n (jx_dc dd_17 21 rfl) rfl) ?_
  refine jx_ac (s_ishr (jx_dc dd_17 22 rfl)) ?_
  refine jx_ac (s_iconst (jx_dc dd_17 23 rfl) rfl) ?_
  refine jx_ac (s_iand (jx_dc dd_17 24 rfl)) ?_
  refine jx_ac (s_ifeq (jx_dc dd_17 25 rfl) rfl) ?_
  refine jx_ac (s_iconst (jx_dc dd_17 26 rfl) rfl) ?_
  refine jx_ac (s_goto (jx_dc dd_17 27 rfl) rfl) ?_
  refine jx_ac (s_iconst (jx_dc dd_17 28 rfl) rfl) ?_
  refine jx_ac (s_zret rfl (jx_dc dd_17 29 rfl)) ?_
  exact jx_an
theorem A_17 : jx_All (jx_mk D c0 c1 c2 c3 c4 H0 ga L xs) jx_mt md_17 K_17 :=  A_17_0
def dl_18 : List (Nat × Instr × Nat) := [(0, .iconst 1, 1), (1, .istore 4, 2), (3, .iload 4, 2), (5, .iconst 5, 1), (6, .if_icmp .gt 28, 3), (9, .aload_n 0, 1), (10, .iload_n 1, 1), (11, .iload 4, 2), (13, .invokevirtual 58, 3), (16, .aload_n 2, 1), (17, .iload_n 3, 1), (18, .iload 4, 2), (20, .invokevirtual 58, 3), (23, .if_icmp .le 5, 3), (26, .iconst 0, 1), (27, .ireturn, 1), (28, .iinc 4 1, 3), (31, .goto (-28), 3), (34, .iconst 1, 1), (35, .ireturn, 1)]
theorem dd_18 : ∀ q ∈ dl_18, decode prog_5_method_7_code q.1 = .ok q.2 := by decide +kernel
theorem A_18_0 : jx_All (jx_mk D c0 c1 c2 c3 c4 H0 ga L xs) jx_mt md_18 K_18_0 := by
  refine jx_ac (s_iconst (jx_dc dd_18 0 rfl) rfl) ?_
  refine jx_ac (s_istore (jx_dc dd_18 1 rfl)) ?_
  refine jx_ac (s_iload (jx_dc dd_18 2 rfl)) ?_
  refine jx_ac (s_iconst (jx_dc dd_18 3 rfl) rfl) ?_
  refine jx_ac (s_igt (jx_dc dd_18 4 rfl) rfl) ?_
  refine jx_ac (s_aload_n (jx_dc dd_18 5 rfl) rfl) ?_
  refine jx_ac (s_iload_n (jx_dc dd_18 6 rfl) rfl) ?_
  refine jx_ac (s_iload (jx_dc dd_18 7 rfl)) ?_
  refine jx_ac (s_callv (ce := 9) kk_0 mc_9 (jx_dc dd_18 8 rfl) w_153 w_154 w_155 ⟨by decide, by decide⟩ np_9) ?_
  refine jx_ac (s_aload_n (jx_dc dd_18 9 rfl) rfl) ?_
  refine jx_ac (s_iload_n (jx_dc dd_18 10 rfl) rfl) ?_
  refine jx_ac (s_iload (jx_dc dd_18 11 rfl)) ?_
  refine jx_ac (s_callv (ce := 9) kk_0 mc_9 (jx_dc dd_18 12 rfl) w_153 w_154 w_155 ⟨by decide, by decide⟩ np_9) ?_
  refine jx_ac (s_ile (jx_dc dd_18 13 rfl) rfl) ?_
  refine jx_ac (s_iconst (jx_dc dd_18 14 rfl) rfl) ?_
  refine jx_ac (s_zret rfl (jx_dc dd_18 15 rfl)) ?_
  refine jx_ac (s_iinc (jx_dc dd_18 16 rfl) rfl) ?_
  refine jx_ac (s_goto (jx_dc dd_18 17 rfl) rfl) ?_
  refine jx_ac (s_iconst (jx_dc dd_18 18 rfl) rfl) ?_
  refine jx_ac (s_zret rfl (jx_dc dd_18 19 rfl)) ?_
  exact jx_an
theorem A_18 : jx_All (jx_mk D c0 c1 c2 c3 c4 H0 ga L xs) jx_mt md_18 K_18 :=  A_18_0
def dl_19 : List (Nat × Instr × Nat) := [(0, .iconst 1, 1), (1, .aload_n 0, 1), (2, .getfield 18, 3), (5, .ishl, 1), (6, .iconst 1, 1), (7, .isub, 1), (8, .ireturn, 1)]
theorem dd_19 : ∀ q ∈ dl_19, decode prog_5_method_4_code q.1 = .ok q.2 := by decide +kernel
theorem A_19_0 : jx_All (jx_mk D c0 c1 c2 c3 c4 H0 ga L xs) jx_mt md_19 K_19_0 := by
  refine jx_ac (s_iconst (jx_dc dd_19 0 rfl) rfl) ?_
  refine jx_ac (s_aload_n (jx_dc dd_19 1 rfl) rfl) ?_
  refine jx_ac (s_getfN kk_0 (k := 3) (Nat.le_of_ble_eq_true rfl) (jx_dc dd_19 2 rfl) w_134) ?_
  refine jx_ac (s_ishl (jx_dc dd_19 3 rfl)) ?_
  refine jx_ac (s_iconst (jx_dc dd_19 4 rfl) rfl) ?_
  refine jx_ac (s_isub (jx_dc dd_19 5 rfl)) ?_
  refine jx_ac (s_iret rfl (jx_dc dd_19 6 rfl)) ?_
  exact jx_an
theorem A_19 : jx_All (jx_mk D c0 c1 c2 c3 c4 H0 ga L xs) jx_mt md_19 K_19 :=  A_19_0
def dl_20 : List (Nat × Instr × Nat) := [(0, .iload_n 3, 1), (1, .aload_n 1, 1), (2, .getfield 18, 3), (5, .if_icmp .lt 5, 3), (8, .iconst 1, 1), (9, .ireturn, 1), (10, .aload_n 0, 1), (11, .getfield 9, 3), (14, .iload_n 3, 1), (15, .iaload, 1), (16, .iload 4, 2), (18, .iand, 1), (19, .istore 5, 2), (21, .iconst 0, 1), (22, .istore 6, 2), (24, .iload 6, 2), (26, .iload_n 3, 1), (27, .if_icmp .ge 41, 3), (30, .aload_n 1, 1), (31, .iload_n 3, 1), (32, .iload 6, 2), (34, .invokevirtual 62, 3), (37, .istore 7, 2), (39, .iload 7, 2), (41, .ifCond .eq 21, 3), (44, .iload 5, 2), (46, .aload_n 2, 1), (47, .aload_n 0, 1), (48, .getfield 15, 3), (51, .iload 6, 2), (53, .iaload, 1), (54, .iload 7, 2), (56, .invokevirtual 65, 3), (59, .iand, 1), (60, .istore 5, 2), (62, .iinc 6 1, 3), (65, .goto (-41), 3), (68, .iconst 0, 1), (69, .istore 6, 2), (71, .iload 6, 2), (73, .aload_n 2, 1), (74, .getfield 18, 3), (77, .if_icmp .ge 50, 3), (80, .iload 5, 2), (82, .iload 6, 2), (84, .ishr, 1), (85, .iconst 1, 1), (86, .iand, 1), (87, .ifCond .eq 34, 3), (90, .aload_n 0, 1), (91, .getfield 15, 3), (94, .iload_n 3, 1), (95, .iload 6, 2), (97, .iastore, 1), (98, .aload_n 0, 1), (99, .aload_n 1, 1), (100, .aload_n 2, 1), (101, .iload_n 3, 1), (102, .iconst 1, 1), (103, .iadd, 1), (104, .iload 4, 2), (106, .iconst 1, 1), (107, .iload 6, 2), (109, .ishl, 1), (110, .iconst (-1), 1), (111, .ixor, 1), (112, .iand, 1), (113, .invokevirtual 35, 3), (116, .ifCond .eq 5, 3), (119, .iconst 1, 1), (120, .ireturn, 1), (121, .iinc 6 1, 3), (124, .goto (-53), 3), (127, .iconst 0, 1), (128, .ireturn, 1)]
theorem dd_20 : ∀ q ∈ dl_20, decode prog_5_method_8_code q.1 = .ok q.2 := by decide +kernel
theorem A_20_0 : jx_All (jx_mk D c0 c1 c2 c3 c4 H0 ga L xs) jx_mt md_20 K_20_0 := by
  refine jx_ac (s_iload_n (jx_dc dd_20 0 rfl) rfl) ?_
  refine jx_ac (s_aload_n (jx_dc dd_20 1 rfl) rfl) ?_
  refine jx_ac (s_getfN kk_0 (k := 3) (Nat.le_of_ble_eq_true rfl) (jx_dc dd_20 2 rfl) w_134) ?_
  refine jx_ac (s_ilt (jx_dc dd_20 3 rfl) rfl) ?_
  refine jx_ac (s_iconst (jx_dc dd_20 4 rfl) rfl) ?_
  refine jx_ac (s_zret rfl (jx_dc dd_20 5 rfl)) ?_
  refine jx_ac (s_aload_n (jx_dc dd_20 6 rfl) rfl) ?_
  refine jx_ac (s_getf kk_2 (k := 0) (Nat.le_of_ble_eq_true rfl) (jx_dc dd_20 7 rfl) w_132) ?_
  refine jx_ac (s_iload_n (jx_dc dd_20 8 rfl) rfl) ?_
  refine jx_ac (s_iald rfl (jx_dc dd_20 9 rfl)) ?_
  refine jx_ac (s_iload (jx_dc dd_20 10 rfl)) ?_
  refine jx_ac (s_iand (jx_dc dd_20 11 rfl)) ?_
  refine jx_ac (s_istore (jx_dc dd_20 12 rfl)) ?_
  refine jx_ac (s_iconst (jx_dc dd_20 13 rfl) rfl) ?_
  refine jx_ac (s_istore (jx_dc dd_20 14 rfl)) ?_
  refine jx_ac (s_iload (jx_dc dd_20 15 rfl)) ?_
  refine jx_ac (s_iload_n (jx_dc dd_20 16 rfl) rfl) ?_
  refine jx_ac (s_ige (jx_dc dd_20 17 rfl) rfl) ?_
  refine jx_ac (s_aload_n (jx_dc dd_20 18 rfl) rfl) ?_
  refine jx_ac (s_iload_n (jx_dc dd_20 19 rfl) rfl) ?_
  refine jx_ac (s_iload (jx_dc dd_20 20 rfl)) ?_
  refine jx_ac (s_callv (ce := 4) kk_0 mc_4 (jx_dc dd_20 21 rfl) w_156 w_157 w_158 ⟨by decide, by decide⟩ np_4) ?_
  refine jx_ac (s_istore (jx_dc dd_20 22 rfl)) ?_
  refine jx_ac (s_iload (jx_dc dd_20 23 rfl)) ?_
  refine jx_ac (s_ifeq (jx_dc dd_20 24 rfl) rfl) ?_
  refine jx_ac (s_iload (jx_dc dd_20 25 rfl)) ?_
  refine jx_ac (s_aload_n (jx_dc dd_20 26 rfl) rfl) ?_
  refine jx_ac (s_aload_n (jx_dc dd_20 27 rfl) rfl) ?_
  refine jx_ac (s_getf kk_2 (k := 1) (Nat.le_of_ble_eq_true rfl) (jx_dc dd_20 28 rfl) w_133) ?_
  refine jx_ac (s_iload (jx_dc dd_20 29 rfl)) ?_
  refine jx_ac (s_iald rfl (jx_dc dd_20 30 rfl)) ?_
  refine jx_ac (s_iload (jx_dc dd_20 31 rfl)) ?_
  refine jx_ac (s_callv (ce := 10) kk_0 mc_10 (jx_dc dd_20 32 rfl) w_159 w_160 w_161 ⟨by decide, by decide⟩ np_10) ?_
  refine jx_ac (s_iand (jx_dc dd_20 33 rfl)) ?_
  refine jx_ac (s_istore (jx_dc dd_20 34 rfl)) ?_
  refine jx_ac (s_iinc (jx_dc dd_20 35 rfl) rfl) ?_
  refine jx_ac (s_goto (jx_dc dd_20 36 rfl) rfl) ?_
  refine jx_ac (s_iconst (jx_dc dd_20 37 rfl) rfl) ?_
  refine jx_ac (s_istore (jx_dc dd_20 38 rfl)) ?_
  refine jx_ac (s_iload (jx_dc dd_20 39 rfl)) ?_
  exact jx_an
theorem A_20_1 : jx_All (jx_mk D c0 c1 c2 c3 c4 H0 ga L xs) jx_mt md_20 K_20_1 := by
  refine jx_ac (s_aload_n (jx_dc dd_20 40 rfl) rfl) ?_
  refine jx_ac (s_getfN kk_0 (k := 3) (Nat.le_of_ble_eq_true rfl) (jx_dc dd_20 41 rfl) w_134) ?_
  refine jx_ac (s_ige (jx_dc dd_20 42 rfl) rfl) ?_
  refine jx_ac (s_iload (jx_dc dd_20 43 rfl)) ?_
  refine jx_ac (s_iload (jx_dc dd_20 44 rfl)) ?_
  refine jx_ac (s_ishr (jx_dc dd_20 45 rfl)) ?_
  refine jx_ac (s_iconst (jx_dc dd_20 46 rfl) rfl) ?_
  refine jx_ac (s_iand (jx_dc dd_20 47 rfl)) ?_
  refine jx_ac (s_ifeq (jx_dc dd_20 48 rfl) rfl) ?_
  refine jx_ac (s_aload_n (jx_dc dd_20 49 rfl) rfl) ?_
  refine jx_ac (s_getf kk_2 (k := 1) (Nat.le_of_ble_eq_true rfl) (jx_dc dd_20 50 rfl) w_133) ?_
  refine jx_ac (s_iload_n (jx_dc dd_20 51 rfl) rfl) ?_
  refine jx_ac (s_iload (jx_dc dd_20 52 rfl)) ?_
  refine jx_ac (s_iast rfl (jx_dc dd_20 53 rfl)) ?_
  refine jx_ac (s_aload_n (jx_dc dd_20 54 rfl) rfl) ?_
  refine jx_ac (s_aload_n (jx_dc dd_20 55 rfl) rfl) ?_
  refine jx_ac (s_aload_n (jx_dc dd_20 56 rfl) rfl) ?_
  refine jx_ac (s_iload_n (jx_dc dd_20 57 rfl) rfl) ?_
  refine jx_ac (s_iconst (jx_dc dd_20 58 rfl) rfl) ?_
  refine jx_ac (s_iadd (jx_dc dd_20 59 rfl)) ?_
  refine jx_ac (s_iload (jx_dc dd_20 60 rfl)) ?_
  refine jx_ac (s_iconst (jx_dc dd_20 61 rfl) rfl) ?_
  refine jx_ac (s_iload (jx_dc dd_20 62 rfl)) ?_
  refine jx_ac (s_ishl (jx_dc dd_20 63 rfl)) ?_
  refine jx_ac (s_iconst (jx_dc dd_20 64 rfl) rfl) ?_
  refine jx_ac (s_ixor (jx_dc dd_20 65 rfl)) ?_
  refine jx_ac (s_iand (jx_dc dd_20 66 rfl)) ?_
  refine jx_ac (s_callv (ce := 20) kk_2 mc_20 (jx_dc dd_20 67 rfl) w_142 w_143 w_144 ⟨by decide, by decide⟩ np_20) ?_
  refine jx_ac (s_ifeq (jx_dc dd_20 68 rfl) rfl) ?_
  refine jx_ac (s_iconst (jx_dc dd_20 69 rfl) rfl) ?_
  refine jx_ac (s_zret rfl (jx_dc dd_20 70 rfl)) ?_
  refine jx_ac (s_iinc (jx_dc dd_20 71 rfl) rfl) ?_
  refine jx_ac (s_goto (jx_dc dd_20 72 rfl) rfl) ?_
  refine jx_ac (s_iconst (jx_dc dd_20 73 rfl) rfl) ?_
  refine jx_ac (s_zret rfl (jx_dc dd_20 74 rfl)) ?_
  exact jx_an
theorem A_20 : jx_All (jx_mk D c0 c1 c2 c3 c4 H0 ga L xs) jx_mt md_20 K_20 := (jx_aa A_20_0 A_20_1)
end JT
