/-! THE REFERENCE: brackets, lists, atoms; printed by wip/whole/p65.py -/
theorem c_79_0 : jx_cd 79 0 = some (o_ald 0 1) := rfl
theorem c_79_1 : jx_cd 79 1 = some (o_ald 0 1) := rfl
theorem c_79_2 : jx_cd 79 2 = some (o_getf 6 3) := rfl
theorem c_79_5 : jx_cd 79 5 = some (o_callv 6 77 1) := rfl
theorem c_79_8 : jx_cd 79 8 = some (o_ist 2 1) := rfl
theorem c_79_9 : jx_cd 79 9 = some (o_ild 2 1) := rfl
theorem c_79_10 : jx_cd 79 10 = some (o_call 80 1) := rfl
theorem c_79_13 : jx_cd 79 13 = some (o_iflt 34) := rfl
theorem c_79_16 : jx_cd 79 16 = some (o_ald 0 1) := rfl
theorem c_79_17 : jx_cd 79 17 = some (o_ild 2 1) := rfl
theorem c_79_18 : jx_cd 79 18 = some (o_push (.int 0) 1) := rfl
theorem c_79_19 : jx_cd 79 19 = some (o_callv 6 81 2) := rfl
theorem c_79_22 : jx_cd 79 22 = some (o_ald 0 1) := rfl
theorem c_79_23 : jx_cd 79 23 = some (o_dup) := rfl
theorem c_79_24 : jx_cd 79 24 = some (o_getf 6 3) := rfl
theorem c_79_27 : jx_cd 79 27 = some (o_push (.int 1) 1) := rfl
theorem c_79_28 : jx_cd 79 28 = some (o_bin fun x y => x + y) := rfl
theorem c_79_29 : jx_cd 79 29 = some (o_putf 6 3 jx_okI) := rfl
theorem c_79_32 : jx_cd 79 32 = some (o_push (.int 1) 1) := rfl
theorem c_79_33 : jx_cd 79 33 = some (o_zret) := rfl
theorem c_79_34 : jx_cd 79 34 = some (o_ild 2 1) := rfl
theorem c_79_35 : jx_cd 79 35 = some (o_push (.int 99) 2) := rfl
theorem c_79_37 : jx_cd 79 37 = some (o_ieq 58) := rfl
theorem c_79_40 : jx_cd 79 40 = some (o_ild 2 1) := rfl
theorem c_79_41 : jx_cd 79 41 = some (o_push (.int 110) 2) := rfl
theorem c_79_43 : jx_cd 79 43 = some (o_ieq 58) := rfl
theorem c_79_46 : jx_cd 79 46 = some (o_ild 2 1) := rfl
theorem c_79_47 : jx_cd 79 47 = some (o_push (.int 111) 2) := rfl
theorem c_79_49 : jx_cd 79 49 = some (o_ieq 58) := rfl
theorem c_79_52 : jx_cd 79 52 = some (o_ild 2 1) := rfl
theorem c_79_53 : jx_cd 79 53 = some (o_push (.int 115) 2) := rfl
theorem c_79_55 : jx_cd 79 55 = some (o_ine 79) := rfl
theorem c_79_58 : jx_cd 79 58 = some (o_ald 0 1) := rfl
theorem c_79_59 : jx_cd 79 59 = some (o_ild 2 1) := rfl
theorem c_79_60 : jx_cd 79 60 = some (o_push (.int 32) 2) := rfl
theorem c_79_62 : jx_cd 79 62 = some (o_bin fun x y => x - y) := rfl
theorem c_79_63 : jx_cd 79 63 = some (o_push (.int 1) 1) := rfl
theorem c_79_64 : jx_cd 79 64 = some (o_callv 6 81 2) := rfl
theorem c_79_67 : jx_cd 79 67 = some (o_ald 0 1) := rfl
theorem c_79_68 : jx_cd 79 68 = some (o_dup) := rfl
theorem c_79_69 : jx_cd 79 69 = some (o_getf 6 3) := rfl
theorem c_79_72 : jx_cd 79 72 = some (o_push (.int 1) 1) := rfl
theorem c_79_73 : jx_cd 79 73 = some (o_bin fun x y => x + y) := rfl
theorem c_79_74 : jx_cd 79 74 = some (o_putf 6 3 jx_okI) := rfl
theorem c_79_77 : jx_cd 79 77 = some (o_push (.int 1) 1) := rfl
theorem c_79_78 : jx_cd 79 78 = some (o_zret) := rfl
theorem c_79_79 : jx_cd 79 79 = some (o_ild 2 1) := rfl
theorem c_79_80 : jx_cd 79 80 = some (o_push (.int 42) 2) := rfl
theorem c_79_82 : jx_cd 79 82 = some (o_ine 121) := rfl
theorem c_79_85 : jx_cd 79 85 = some (o_ild 1 1) := rfl
theorem c_79_86 : jx_cd 79 86 = some (o_ifeq 121) := rfl
theorem c_79_89 : jx_cd 79 89 = some (o_ald 0 1) := rfl
theorem c_79_90 : jx_cd 79 90 = some (o_push (.int 42) 2) := rfl
theorem c_79_92 : jx_cd 79 92 = some (o_push (.int 0) 1) := rfl
theorem c_79_93 : jx_cd 79 93 = some (o_callv 6 81 2) := rfl
theorem c_79_96 : jx_cd 79 96 = some (o_ald 0 1) := rfl
theorem c_79_97 : jx_cd 79 97 = some (o_getf 6 10) := rfl
theorem c_79_100 : jx_cd 79 100 = some (o_ald 0 1) := rfl
theorem c_79_101 : jx_cd 79 101 = some (o_getf 6 4) := rfl
theorem c_79_104 : jx_cd 79 104 = some (o_push (.int 1) 1) := rfl
theorem c_79_105 : jx_cd 79 105 = some (o_bin fun x y => x - y) := rfl
theorem c_79_106 : jx_cd 79 106 = some (o_push (.int 63) 2) := rfl
theorem c_79_108 : jx_cd 79 108 = some (o_iast) := rfl
theorem c_79_109 : jx_cd 79 109 = some (o_ald 0 1) := rfl
theorem c_79_110 : jx_cd 79 110 = some (o_dup) := rfl
theorem c_79_111 : jx_cd 79 111 = some (o_getf 6 3) := rfl
theorem c_79_114 : jx_cd 79 114 = some (o_push (.int 1) 1) := rfl
theorem c_79_115 : jx_cd 79 115 = some (o_bin fun x y => x + y) := rfl
theorem c_79_116 : jx_cd 79 116 = some (o_putf 6 3 jx_okI) := rfl
theorem c_79_119 : jx_cd 79 119 = some (o_push (.int 1) 1) := rfl
theorem c_79_120 : jx_cd 79 120 = some (o_zret) := rfl
theorem c_79_121 : jx_cd 79 121 = some (o_ild 2 1) := rfl
theorem c_79_122 : jx_cd 79 122 = some (o_push (.int 91) 2) := rfl
theorem c_79_124 : jx_cd 79 124 = some (o_ine 183) := rfl
theorem c_79_127 : jx_cd 79 127 = some (o_ald 0 1) := rfl
theorem c_79_128 : jx_cd 79 128 = some (o_ald 0 1) := rfl
theorem c_79_129 : jx_cd 79 129 = some (o_getf 6 3) := rfl
theorem c_79_132 : jx_cd 79 132 = some (o_push (.int 1) 1) := rfl
theorem c_79_133 : jx_cd 79 133 = some (o_bin fun x y => x + y) := rfl
theorem c_79_134 : jx_cd 79 134 = some (o_callv 6 77 1) := rfl
theorem c_79_137 : jx_cd 79 137 = some (o_call 80 1) := rfl
theorem c_79_140 : jx_cd 79 140 = some (o_iflt 183) := rfl
theorem c_79_143 : jx_cd 79 143 = some (o_ild 1 1) := rfl
theorem c_79_144 : jx_cd 79 144 = some (o_ifeq 172) := rfl
theorem c_79_147 : jx_cd 79 147 = some (o_ald 0 1) := rfl
theorem c_79_148 : jx_cd 79 148 = some (o_ald 0 1) := rfl
theorem c_79_149 : jx_cd 79 149 = some (o_getf 6 3) := rfl
theorem c_79_152 : jx_cd 79 152 = some (o_push (.int 2) 1) := rfl
theorem c_79_153 : jx_cd 79 153 = some (o_bin fun x y => x + y) := rfl
theorem c_79_154 : jx_cd 79 154 = some (o_callv 6 77 1) := rfl
theorem c_79_157 : jx_cd 79 157 = some (o_push (.int 44) 2) := rfl
theorem c_79_159 : jx_cd 79 159 = some (o_ine 172) := rfl
theorem c_79_162 : jx_cd 79 162 = some (o_ald 0 1) := rfl
theorem c_79_163 : jx_cd 79 163 = some (o_callv 6 82 0) := rfl
theorem c_79_166 : jx_cd 79 166 = some (o_ifeq 183) := rfl
theorem c_79_169 : jx_cd 79 169 = some (o_goto 179) := rfl
theorem c_79_172 : jx_cd 79 172 = some (o_ald 0 1) := rfl
theorem c_79_173 : jx_cd 79 173 = some (o_callv 6 83 0) := rfl
theorem c_79_176 : jx_cd 79 176 = some (o_ifeq 183) := rfl
theorem c_79_179 : jx_cd 79 179 = some (o_push (.int 1) 1) := rfl
theorem c_79_180 : jx_cd 79 180 = some (o_goto 184) := rfl
theorem c_79_183 : jx_cd 79 183 = some (o_push (.int 0) 1) := rfl
theorem c_79_184 : jx_cd 79 184 = some (o_zret) := rfl
theorem c_82_0 : jx_cd 82 0 = some (o_ald 0 1) := rfl
theorem c_82_1 : jx_cd 82 1 = some (o_push (.int 42) 2) := rfl
theorem c_82_3 : jx_cd 82 3 = some (o_push (.int 0) 1) := rfl
theorem c_82_4 : jx_cd 82 4 = some (o_callv 6 81 2) := rfl
theorem c_82_7 : jx_cd 82 7 = some (o_ald 0 1) := rfl
theorem c_82_8 : jx_cd 82 8 = some (o_getf 6 3) := rfl
theorem c_82_11 : jx_cd 82 11 = some (o_push (.int 1) 1) := rfl
theorem c_82_12 : jx_cd 82 12 = some (o_bin fun x y => x + y) := rfl
theorem c_82_13 : jx_cd 82 13 = some (o_ist 1 1) := rfl
theorem c_82_14 : jx_cd 82 14 = some (o_push (.int 1) 1) := rfl
theorem c_82_15 : jx_cd 82 15 = some (o_ist 2 1) := rfl
theorem c_82_16 : jx_cd 82 16 = some (o_push (.int 1) 1) := rfl
theorem c_82_17 : jx_cd 82 17 = some (o_ald 0 1) := rfl
theorem c_82_18 : jx_cd 82 18 = some (o_ild 1 1) := rfl
theorem c_82_19 : jx_cd 82 19 = some (o_callv 6 77 1) := rfl
theorem c_82_22 : jx_cd 82 22 = some (o_call 80 1) := rfl
theorem c_82_25 : jx_cd 82 25 = some (o_bin fun x y => x <<< (y &&& 31)) := rfl
theorem c_82_26 : jx_cd 82 26 = some (o_ist 3 1) := rfl
theorem c_82_27 : jx_cd 82 27 = some (o_iinc 1 1) := rfl
theorem c_82_30 : jx_cd 82 30 = some (o_ald 0 1) := rfl
theorem c_82_31 : jx_cd 82 31 = some (o_ild 1 1) := rfl
theorem c_82_32 : jx_cd 82 32 = some (o_callv 6 77 1) := rfl
theorem c_82_35 : jx_cd 82 35 = some (o_push (.int 44) 2) := rfl
theorem c_82_37 : jx_cd 82 37 = some (o_ine 77) := rfl
theorem c_82_40 : jx_cd 82 40 = some (o_ald 0 1) := rfl
theorem c_82_41 : jx_cd 82 41 = some (o_ild 1 1) := rfl
theorem c_82_42 : jx_cd 82 42 = some (o_push (.int 1) 1) := rfl
theorem c_82_43 : jx_cd 82 43 = some (o_bin fun x y => x + y) := rfl
theorem c_82_44 : jx_cd 82 44 = some (o_callv 6 77 1) := rfl
theorem c_82_47 : jx_cd 82 47 = some (o_call 80 1) := rfl
theorem c_82_50 : jx_cd 82 50 = some (o_iflt 77) := rfl
theorem c_82_53 : jx_cd 82 53 = some (o_ild 3 1) := rfl
theorem c_82_54 : jx_cd 82 54 = some (o_push (.int 1) 1) := rfl
theorem c_82_55 : jx_cd 82 55 = some (o_ald 0 1) := rfl
theorem c_82_56 : jx_cd 82 56 = some (o_ild 1 1) := rfl
theorem c_82_57 : jx_cd 82 57 = some (o_push (.int 1) 1) := rfl
theorem c_82_58 : jx_cd 82 58 = some (o_bin fun x y => x + y) := rfl
theorem c_82_59 : jx_cd 82 59 = some (o_callv 6 77 1) := rfl
theorem c_82_62 : jx_cd 82 62 = some (o_call 80 1) := rfl
theorem c_82_65 : jx_cd 82 65 = some (o_bin fun x y => x <<< (y &&& 31)) := rfl
theorem c_82_66 : jx_cd 82 66 = some (o_bin fun x y => x ||| y) := rfl
theorem c_82_67 : jx_cd 82 67 = some (o_ist 3 1) := rfl
theorem c_82_68 : jx_cd 82 68 = some (o_iinc 1 2) := rfl
theorem c_82_71 : jx_cd 82 71 = some (o_iinc 2 1) := rfl
theorem c_82_74 : jx_cd 82 74 = some (o_goto 30) := rfl
theorem c_82_77 : jx_cd 82 77 = some (o_ald 0 1) := rfl
theorem c_82_78 : jx_cd 82 78 = some (o_getf 6 10) := rfl
theorem c_82_81 : jx_cd 82 81 = some (o_ald 0 1) := rfl
theorem c_82_82 : jx_cd 82 82 = some (o_getf 6 4) := rfl
theorem c_82_85 : jx_cd 82 85 = some (o_push (.int 1) 1) := rfl
theorem c_82_86 : jx_cd 82 86 = some (o_bin fun x y => x - y) := rfl
theorem c_82_87 : jx_cd 82 87 = some (o_ild 3 1) := rfl
theorem c_82_88 : jx_cd 82 88 = some (o_iast) := rfl
theorem c_82_89 : jx_cd 82 89 = some (o_ald 0 1) := rfl
theorem c_82_90 : jx_cd 82 90 = some (o_ild 1 1) := rfl
theorem c_82_91 : jx_cd 82 91 = some (o_push (.int 1) 1) := rfl
theorem c_82_92 : jx_cd 82 92 = some (o_bin fun x y => x + y) := rfl
theorem c_82_93 : jx_cd 82 93 = some (o_putf 6 3 jx_okI) := rfl
theorem c_82_96 : jx_cd 82 96 = some (o_ald 0 1) := rfl
theorem c_82_97 : jx_cd 82 97 = some (o_ild 1 1) := rfl
theorem c_82_98 : jx_cd 82 98 = some (o_callv 6 77 1) := rfl
theorem c_82_101 : jx_cd 82 101 = some (o_push (.int 93) 2) := rfl
theorem c_82_103 : jx_cd 82 103 = some (o_ine 115) := rfl
theorem c_82_106 : jx_cd 82 106 = some (o_ild 2 1) := rfl
theorem c_82_107 : jx_cd 82 107 = some (o_push (.int 4) 1) := rfl
theorem c_82_108 : jx_cd 82 108 = some (o_igt 115) := rfl
theorem c_82_111 : jx_cd 82 111 = some (o_push (.int 1) 1) := rfl
theorem c_82_112 : jx_cd 82 112 = some (o_goto 116) := rfl
theorem c_82_115 : jx_cd 82 115 = some (o_push (.int 0) 1) := rfl
theorem c_82_116 : jx_cd 82 116 = some (o_zret) := rfl
theorem c_83_0 : jx_cd 83 0 = some (o_ald 0 1) := rfl
theorem c_83_1 : jx_cd 83 1 = some (o_ald 0 1) := rfl
theorem c_83_2 : jx_cd 83 2 = some (o_ald 0 1) := rfl
theorem c_83_3 : jx_cd 83 3 = some (o_getf 6 3) := rfl
theorem c_83_6 : jx_cd 83 6 = some (o_push (.int 1) 1) := rfl
theorem c_83_7 : jx_cd 83 7 = some (o_bin fun x y => x + y) := rfl
theorem c_83_8 : jx_cd 83 8 = some (o_callv 6 77 1) := rfl
theorem c_83_11 : jx_cd 83 11 = some (o_push (.int 0) 1) := rfl
theorem c_83_12 : jx_cd 83 12 = some (o_callv 6 81 2) := rfl
theorem c_83_15 : jx_cd 83 15 = some (o_ald 0 1) := rfl
theorem c_83_16 : jx_cd 83 16 = some (o_getf 6 3) := rfl
theorem c_83_19 : jx_cd 83 19 = some (o_push (.int 2) 1) := rfl
theorem c_83_20 : jx_cd 83 20 = some (o_bin fun x y => x + y) := rfl
theorem c_83_21 : jx_cd 83 21 = some (o_ist 1 1) := rfl
theorem c_83_22 : jx_cd 83 22 = some (o_ald 0 1) := rfl
theorem c_83_23 : jx_cd 83 23 = some (o_getf 6 9) := rfl
theorem c_83_26 : jx_cd 83 26 = some (o_ald 0 1) := rfl
theorem c_83_27 : jx_cd 83 27 = some (o_getf 6 4) := rfl
theorem c_83_30 : jx_cd 83 30 = some (o_push (.int 1) 1) := rfl
theorem c_83_31 : jx_cd 83 31 = some (o_bin fun x y => x - y) := rfl
theorem c_83_32 : jx_cd 83 32 = some (o_push (.int 1) 1) := rfl
theorem c_83_33 : jx_cd 83 33 = some (o_zast) := rfl
theorem c_83_34 : jx_cd 83 34 = some (o_ald 0 1) := rfl
theorem c_83_35 : jx_cd 83 35 = some (o_ild 1 1) := rfl
theorem c_83_36 : jx_cd 83 36 = some (o_callv 6 77 1) := rfl
theorem c_83_39 : jx_cd 83 39 = some (o_push (.int 72) 2) := rfl
theorem c_83_41 : jx_cd 83 41 = some (o_ine 101) := rfl
theorem c_83_44 : jx_cd 83 44 = some (o_ald 0 1) := rfl
theorem c_83_45 : jx_cd 83 45 = some (o_getf 6 7) := rfl
theorem c_83_48 : jx_cd 83 48 = some (o_ald 0 1) := rfl
theorem c_83_49 : jx_cd 83 49 = some (o_getf 6 4) := rfl
theorem c_83_52 : jx_cd 83 52 = some (o_push (.int 1) 1) := rfl
theorem c_83_53 : jx_cd 83 53 = some (o_bin fun x y => x - y) := rfl
theorem c_83_54 : jx_cd 83 54 = some (o_push (.int 1) 1) := rfl
theorem c_83_55 : jx_cd 83 55 = some (o_iast) := rfl
theorem c_83_56 : jx_cd 83 56 = some (o_iinc 1 1) := rfl
theorem c_83_59 : jx_cd 83 59 = some (o_ald 0 1) := rfl
theorem c_83_60 : jx_cd 83 60 = some (o_ild 1 1) := rfl
theorem c_83_61 : jx_cd 83 61 = some (o_callv 6 77 1) := rfl
theorem c_83_64 : jx_cd 83 64 = some (o_push (.int 50) 2) := rfl
theorem c_83_66 : jx_cd 83 66 = some (o_ilt 101) := rfl
theorem c_83_69 : jx_cd 83 69 = some (o_ald 0 1) := rfl
theorem c_83_70 : jx_cd 83 70 = some (o_ild 1 1) := rfl
theorem c_83_71 : jx_cd 83 71 = some (o_callv 6 77 1) := rfl
theorem c_83_74 : jx_cd 83 74 = some (o_push (.int 52) 2) := rfl
theorem c_83_76 : jx_cd 83 76 = some (o_igt 101) := rfl
theorem c_83_79 : jx_cd 83 79 = some (o_ald 0 1) := rfl
theorem c_83_80 : jx_cd 83 80 = some (o_getf 6 7) := rfl
theorem c_83_83 : jx_cd 83 83 = some (o_ald 0 1) := rfl
theorem c_83_84 : jx_cd 83 84 = some (o_getf 6 4) := rfl
theorem c_83_87 : jx_cd 83 87 = some (o_push (.int 1) 1) := rfl
theorem c_83_88 : jx_cd 83 88 = some (o_bin fun x y => x - y) := rfl
theorem c_83_89 : jx_cd 83 89 = some (o_ald 0 1) := rfl
theorem c_83_90 : jx_cd 83 90 = some (o_ild 1 1) := rfl
theorem c_83_91 : jx_cd 83 91 = some (o_callv 6 77 1) := rfl
theorem c_83_94 : jx_cd 83 94 = some (o_push (.int 48) 2) := rfl
theorem c_83_96 : jx_cd 83 96 = some (o_bin fun x y => x - y) := rfl
theorem c_83_97 : jx_cd 83 97 = some (o_iast) := rfl
theorem c_83_98 : jx_cd 83 98 = some (o_iinc 1 1) := rfl
theorem c_83_101 : jx_cd 83 101 = some (o_ald 0 1) := rfl
theorem c_83_102 : jx_cd 83 102 = some (o_ild 1 1) := rfl
theorem c_83_103 : jx_cd 83 103 = some (o_callv 6 77 1) := rfl
theorem c_83_106 : jx_cd 83 106 = some (o_push (.int 43) 2) := rfl
theorem c_83_108 : jx_cd 83 108 = some (o_ieq 121) := rfl
theorem c_83_111 : jx_cd 83 111 = some (o_ald 0 1) := rfl
theorem c_83_112 : jx_cd 83 112 = some (o_ild 1 1) := rfl
theorem c_83_113 : jx_cd 83 113 = some (o_callv 6 77 1) := rfl
theorem c_83_116 : jx_cd 83 116 = some (o_push (.int 45) 2) := rfl
theorem c_83_118 : jx_cd 83 118 = some (o_ine 150) := rfl
theorem c_83_121 : jx_cd 83 121 = some (o_ald 0 1) := rfl
theorem c_83_122 : jx_cd 83 122 = some (o_getf 6 8) := rfl
theorem c_83_125 : jx_cd 83 125 = some (o_ald 0 1) := rfl
theorem c_83_126 : jx_cd 83 126 = some (o_getf 6 4) := rfl
theorem c_83_129 : jx_cd 83 129 = some (o_push (.int 1) 1) := rfl
theorem c_83_130 : jx_cd 83 130 = some (o_bin fun x y => x - y) := rfl
theorem c_83_131 : jx_cd 83 131 = some (o_ald 0 1) := rfl
theorem c_83_132 : jx_cd 83 132 = some (o_ild 1 1) := rfl
theorem c_83_133 : jx_cd 83 133 = some (o_callv 6 77 1) := rfl
theorem c_83_136 : jx_cd 83 136 = some (o_push (.int 43) 2) := rfl
theorem c_83_138 : jx_cd 83 138 = some (o_ine 145) := rfl
theorem c_83_141 : jx_cd 83 141 = some (o_push (.int 1) 1) := rfl
theorem c_83_142 : jx_cd 83 142 = some (o_goto 146) := rfl
theorem c_83_145 : jx_cd 83 145 = some (o_push (.int (-1)) 1) := rfl
theorem c_83_146 : jx_cd 83 146 = some (o_iast) := rfl
theorem c_83_147 : jx_cd 83 147 = some (o_iinc 1 1) := rfl
theorem c_83_150 : jx_cd 83 150 = some (o_ald 0 1) := rfl
theorem c_83_151 : jx_cd 83 151 = some (o_ild 1 1) := rfl
theorem c_83_152 : jx_cd 83 152 = some (o_push (.int 1) 1) := rfl
theorem c_83_153 : jx_cd 83 153 = some (o_bin fun x y => x + y) := rfl
theorem c_83_154 : jx_cd 83 154 = some (o_putf 6 3 jx_okI) := rfl
theorem c_83_157 : jx_cd 83 157 = some (o_ald 0 1) := rfl
theorem c_83_158 : jx_cd 83 158 = some (o_ild 1 1) := rfl
theorem c_83_159 : jx_cd 83 159 = some (o_callv 6 77 1) := rfl
theorem c_83_162 : jx_cd 83 162 = some (o_push (.int 93) 2) := rfl
theorem c_83_164 : jx_cd 83 164 = some (o_ine 171) := rfl
theorem c_83_167 : jx_cd 83 167 = some (o_push (.int 1) 1) := rfl
theorem c_83_168 : jx_cd 83 168 = some (o_goto 172) := rfl
theorem c_83_171 : jx_cd 83 171 = some (o_push (.int 0) 1) := rfl
theorem c_83_172 : jx_cd 83 172 = some (o_zret) := rfl
theorem mA_nu {M : jx_M} {A : Nat → MA} {n : Nat} {m : MA} : mA M (nu A n m) = (M.1 94 = .inl (0, 40, .inl (ja (nu (aE A) n m.1))) ∧ M.1 95 = .inl (2, 40, .inl (jab (nu (aR A) n m.2.1))) ∧ M.1 96 = .inl (0, 40, .inl (ja (nu (aH A) n m.2.2.1))) ∧ M.1 97 = .inl (0, 40, .inl (jao (nu (aQ A) n m.2.2.2.1))) ∧ M.1 98 = .inl (2, 40, .inl (jab (nu (aB A) n m.2.2.2.2.1))) ∧ M.1 99 = .inl (0, 40, .inl (ja (nu (aL A) n m.2.2.2.2.2)))) := by unfold mA; rw [aE_nu, aR_nu, aH_nu, aQ_nu, aB_nu, aL_nu]
/-- an atom read, or not -/
def jMA (M : jx_M) (w : MW) (tx : Nat → Nat) (ln n : Nat) (gd : Bool) (A : Nat → MA) (bm bk : Nat → Nat) (oa : Nat → Option Nat) (ol : Nat → Nat) (o : Option (MA × Nat)) : jx_R → jx_M → Prop := match o with
  | none => jV (some (.int (jb false))) fun M' => mSh M' w tx ln ∧ sm 92 103 M M'
  | some (m, q) => jV (some (.int (jb true))) fun M' => mRd M' w tx ln q (n + 1) gd (nu A n m) (sm_zb bm n) bk oa ol ∧ sm 92 103 M M'
theorem jMA_b {M : jx_M} {w : MW} {tx : Nat → Nat} {ln n : Nat} {gd : Bool} {A : Nat → MA} {bm bk : Nat → Nat} {oa : Nat → Option Nat} {ol : Nat → Nat} {o : Option (MA × Nat)} {r : jx_R} {M' : jx_M} (h : jMA M w tx ln n gd A bm bk oa ol o r M') : ∃ b, r = .inl (some (.int (jb b))) := by
  cases o with
  | none => exact ⟨false, h.1⟩
  | some x => exact ⟨true, h.1⟩
theorem sp_here_128 {tx : Nat → Nat} {ln p : Nat} (ht : ∀ j, tx j < 127) : sp_here tx ln p < 127 := by
  unfold sp_here
  split
  · exact ht p
  · decide
theorem t_sev_l {d : Nat} {w : MW} {tx : Nat → Nat} {ln at_ mn : Nat} {gd : Bool} {M : jx_M} {post : jx_R → jx_M → Prop} (hl : ln ≤ 40) (ht : ∀ j, tx j < 127) (h92 : M.1 92 = mW w ln at_ mn gd) (h93 : M.1 93 = .inl (0, 40, .inl (ja tx))) : ∀ {k p s c : Nat}, ln ≤ p + k → p ≤ 100 → c ≤ p → jZ (d + 1) 82 77 [some (.ref 92), some (.int (jn (sm_sl tx ln k p s c).1)), some (.int (jn (sm_sl tx ln k p s c).2.2)), some (.int (jn (sm_sl tx ln k p s c).2.1))] [] M post → jZ (d + 1) 82 30 [some (.ref 92), some (.int (jn p)), some (.int (jn c)), some (.int (jn s))] [] M post := by
  intro k
  induction k with
  | zero =>
    intro p s c hk0 hp hcp hk
    refine z_go 31 _ [.ref 92] _ c_82_30 rfl ?_
    refine z_go 32 _ [.int (jn p), .ref 92] _ c_82_31 rfl ?_
    refine z_callv 35 6 77 1 92 c_82_32 rfl ⟨Nat.le_of_ble_eq_true rfl, Nat.le_of_ble_eq_true rfl⟩ rfl h92 [.ref 92, .int (jn p)] rfl rfl [some (.ref 92), some (.int (jn p))] rfl rfl (t_mch h92 h93 hl (by omega)) ?_
    show jZ _ _ _ _ [.int (jn (sp_here tx ln (p)))] _ _
    have hc1 := sp_here_128 (tx := tx) (ln := ln) (p := p) ht
    refine z_go 37 _ [.int (jn 44), .int (jn (sp_here tx ln (p)))] _ c_82_35 rfl ?_
    refine z_ine 77 40 c_82_37 rfl (jn_inj (by omega) (by omega)) (fun h44 => ?_) (fun h44 => ?_)
    · rw [here_ge (by omega)] at h44
      cases h44
    · exact hk
  | succ k ih =>
    intro p s c hk0 hp hcp hk
    have hc1 := sp_here_128 (tx := tx) (ln := ln) (p := p) ht
    have hc2 := sp_here_128 (tx := tx) (ln := ln) (p := p + 1) ht
    refine z_go 31 _ [.ref 92] _ c_82_30 rfl ?_
    refine z_go 32 _ [.int (jn p), .ref 92] _ c_82_31 rfl ?_
    refine z_callv 35 6 77 1 92 c_82_32 rfl ⟨Nat.le_of_ble_eq_true rfl, Nat.le_of_ble_eq_true rfl⟩ rfl h92 [.ref 92, .int (jn p)] rfl rfl [some (.ref 92), some (.int (jn p))] rfl rfl (t_mch h92 h93 hl (by omega)) ?_
    show jZ _ _ _ _ [.int (jn (sp_here tx ln (p)))] _ _
    refine z_go 37 _ [.int (jn 44), .int (jn (sp_here tx ln (p)))] _ c_82_35 rfl ?_
    refine z_ine 77 40 c_82_37 rfl (jn_inj (by omega) (by omega)) (fun h44 => ?_) (fun h44 => ?_)
    · have hlt := here_pos (tx := tx) (ln := ln) (p := p) (by omega)
      refine z_go 41 _ [.ref 92] _ c_82_40 rfl ?_
      refine z_go 42 _ [.int (jn p), .ref 92] _ c_82_41 rfl ?_
      refine z_go 43 _ [.int (jn 1), .int (jn p), .ref 92] _ c_82_42 rfl ?_
      refine z_go 44 _ [.int ((jn p) + (jn 1)), .ref 92] _ c_82_43 rfl ?_
      refine z_v (jn_add _ _) ?_
      refine z_callv 47 6 77 1 92 c_82_44 rfl ⟨Nat.le_of_ble_eq_true rfl, Nat.le_of_ble_eq_true rfl⟩ rfl h92 [.ref 92, .int (jn (p + 1))] rfl rfl [some (.ref 92), some (.int (jn (p + 1)))] rfl rfl (t_mch h92 h93 hl (by omega)) ?_
      show jZ _ _ _ _ [.int (jn (sp_here tx ln (p + 1)))] _ _
      refine z_call 50 80 1 c_82_47 rfl ⟨Nat.le_of_ble_eq_true rfl, Nat.le_of_ble_eq_true rfl⟩ [.int (jn (sp_here tx ln (p + 1)))] rfl rfl [some (.int (jn (sp_here tx ln (p + 1))))] rfl rfl (t_mpo (by omega)) ?_
      show jZ _ _ _ _ [.int (jo (sp_el (sp_here tx ln (p + 1))))] _ _
      cases he : sp_el (sp_here tx ln (p + 1)) with
      | none =>
        show jZ _ _ _ _ [.int (jo none)] _ _
        refine z_iflt 77 53 c_82_50 rfl (jo_lt (by intro k q; cases q)) (fun hz => ?_) (fun hz => ?_)
        · rw [show sm_sl tx ln (k + 1) p s c = (p, s, c) by rw [sm_sl, if_pos h44, he]] at hk
          exact hk
        · exact absurd rfl hz
      | some x =>
        have h5 := (sp_el_lt5 he).1
        show jZ _ _ _ _ [.int (jn x)] _ _
        refine z_iflt 77 53 c_82_50 rfl (jn_nl (by omega)) (fun hz => ?_) (fun hz => ?_)
        · exact hz.elim
        · refine z_go 54 _ [.int (jn s)] _ c_82_53 rfl ?_
          refine z_go 55 _ [.int (jn 1), .int (jn s)] _ c_82_54 rfl ?_
          refine z_go 56 _ [.ref 92, .int (jn 1), .int (jn s)] _ c_82_55 rfl ?_
          refine z_go 57 _ [.int (jn p), .ref 92, .int (jn 1), .int (jn s)] _ c_82_56 rfl ?_
          refine z_go 58 _ [.int (jn 1), .int (jn p), .ref 92, .int (jn 1), .int (jn s)] _ c_82_57 rfl ?_
          refine z_go 59 _ [.int ((jn p) + (jn 1)), .ref 92, .int (jn 1), .int (jn s)] _ c_82_58 rfl ?_
          refine z_v (jn_add _ _) ?_
          refine z_callv 62 6 77 1 92 c_82_59 rfl ⟨Nat.le_of_ble_eq_true rfl, Nat.le_of_ble_eq_true rfl⟩ rfl h92 [.ref 92, .int (jn (p + 1))] rfl rfl [some (.ref 92), some (.int (jn (p + 1)))] rfl rfl (t_mch h92 h93 hl (by omega)) ?_
          show jZ _ _ _ _ [.int (jn (sp_here tx ln (p + 1))), .int (jn 1), .int (jn s)] _ _
          refine z_call 65 80 1 c_82_62 rfl ⟨Nat.le_of_ble_eq_true rfl, Nat.le_of_ble_eq_true rfl⟩ [.int (jn (sp_here tx ln (p + 1)))] rfl rfl [some (.int (jn (sp_here tx ln (p + 1))))] rfl rfl (t_mpo (by omega)) ?_
          show jZ _ _ _ _ [.int (jo (sp_el (sp_here tx ln (p + 1)))), .int (jn 1), .int (jn s)] _ _
          rw [he]
          show jZ _ _ _ _ [.int (jo (some x)), .int (jn 1), .int (jn s)] _ _
          refine z_go 66 _ [.int ((fun x y : Int32 => x <<< (y &&& 31)) (jn 1) (jo (some x))), .int (jn s)] _ c_82_65 rfl ?_
          refine z_v (jn_sh x h5) ?_
          refine z_go 67 _ [.int ((jn s) ||| (jn (2 ^ x)))] _ c_82_66 rfl ?_
          refine z_v (jn_or _ _) ?_
          refine z_go 68 [some (.ref 92), some (.int (jn p)), some (.int (jn c)), some (.int (jn (s ||| (2 ^ x))))] [] _ c_82_67 rfl ?_
          refine z_iinc 71 [some (.ref 92), some (.int (jn (p + 2))), some (.int (jn c)), some (.int (jn (s ||| (2 ^ x))))] c_82_68 rfl rfl (jn_add _ _) rfl ?_
          refine z_iinc 74 [some (.ref 92), some (.int (jn (p + 2))), some (.int (jn (c + 1))), some (.int (jn (s ||| (2 ^ x))))] c_82_71 rfl rfl (jn_add _ _) rfl ?_
          refine z_go 30 _ [] _ c_82_74 rfl ?_
          rw [show sm_sl tx ln (k + 1) p s c = sm_sl tx ln k (p + 2) (s ||| 2 ^ x) (c + 1) by rw [sm_sl, if_pos h44, he]] at hk
          exact ih (by omega) (by omega) (by omega) hk
    · rw [show sm_sl tx ln (k + 1) p s c = (p, s, c) by rw [sm_sl, if_neg h44]] at hk
      exact hk
theorem sm_sl_b {tx : Nat → Nat} {ln : Nat} : ∀ {k p s c : Nat}, p ≤ 100 → c ≤ 100 → (sm_sl tx ln k p s c).1 ≤ 100 + 2 * k ∧ (sm_sl tx ln k p s c).2.2 ≤ 100 + k := by
  intro k
  have key : ∀ {k p s c : Nat}, (sm_sl tx ln k p s c).1 ≤ p + 2 * k ∧ (sm_sl tx ln k p s c).2.2 ≤ c + k := by
    intro k
    induction k with
    | zero => intro p s c; exact ⟨Nat.le_refl _, Nat.le_refl _⟩
    | succ k ih =>
      intro p s c
      rw [sm_sl]
      split
      · split
        · exact ⟨by dsimp only; omega, by dsimp only; omega⟩
        · rename_i e _
          obtain ⟨h1, h2⟩ := ih (p := p + 2) (s := s ||| 2 ^ e) (c := c + 1)
          exact ⟨by omega, by omega⟩
      · exact ⟨by dsimp only; omega, by dsimp only; omega⟩
  intro p s c h1 h2
  obtain ⟨h3, h4⟩ := key (k := k) (p := p) (s := s) (c := c)
  exact ⟨by omega, by omega⟩
theorem t_sev {d : Nat} {w : MW} {tx : Nat → Nat} {ln at_ n : Nat} {gd : Bool} {A : Nat → MA} {bm bk : Nat → Nat} {oa : Nat → Option Nat} {ol : Nat → Nat} {M : jx_M} {x : Nat} (H : mRd M w tx ln at_ n gd A bm bk oa ol) (hn : n < 40) (hl : ln ≤ 40) (ht : ∀ j, tx j < 127) (hat : at_ ≤ 50) (hx : sp_el (sp_here tx ln (at_ + 1)) = some x) : jZ (d + 2) 82 0 [some (.ref 92), none, none, none] [] M (jMA M w tx ln n gd A bm bk oa ol (sm_sev tx ln at_ x)) := by
  have H0 := H
  obtain ⟨h92, h93, ⟨h94, h95, h96, h97, h98, h99⟩, h100, h101, h102, h103⟩ := H
  have h5 := (sp_el_lt5 hx).1
  have hc1 := sp_here_128 (tx := tx) (ln := ln) (p := at_ + 1) ht
  refine z_go 1 _ [.ref 92] _ c_82_0 rfl ?_
  refine z_go 3 _ [.int (jn 42), .ref 92] _ c_82_1 rfl ?_
  refine z_go 4 _ [.int (jn 0), .int (jn 42), .ref 92] _ c_82_3 rfl ?_
  refine z_callvV 7 6 81 2 92 c_82_4 rfl ⟨Nat.le_of_ble_eq_true rfl, Nat.le_of_ble_eq_true rfl⟩ rfl h92 [.ref 92, .int (jn 42), .int (jb false)] rfl rfl [some (.ref 92), some (.int (jn 42)), some (.int (jb false)), none] rfl rfl (t_na (d := d + 1) H0 hn) ?_
  intro M1 ⟨hQ, qs⟩
  obtain ⟨q92, q93, qA, q100, q101, q102, q103⟩ := hQ
  rw [mA_nu] at qA
  obtain ⟨q94, q95, q96, q97, q98, q99⟩ := qA
  show jZ _ _ _ _ [] _ _
  refine z_go 8 _ [.ref 92] _ c_82_7 rfl ?_
  refine z_getf (v := .int (jn at_)) 11 c_82_8 rfl q92 rfl ?_
  refine z_go 12 _ [.int (jn 1), .int (jn at_)] _ c_82_11 rfl ?_
  refine z_go 13 _ [.int ((jn at_) + (jn 1))] _ c_82_12 rfl ?_
  refine z_v (jn_add _ _) ?_
  refine z_go 14 [some (.ref 92), some (.int (jn (at_ + 1))), none, none] [] _ c_82_13 rfl ?_
  refine z_go 15 _ [.int (jn 1)] _ c_82_14 rfl ?_
  refine z_go 16 [some (.ref 92), some (.int (jn (at_ + 1))), some (.int (jn 1)), none] [] _ c_82_15 rfl ?_
  refine z_go 17 _ [.int (jn 1)] _ c_82_16 rfl ?_
  refine z_go 18 _ [.ref 92, .int (jn 1)] _ c_82_17 rfl ?_
  refine z_go 19 _ [.int (jn (at_ + 1)), .ref 92, .int (jn 1)] _ c_82_18 rfl ?_
  refine z_callv 22 6 77 1 92 c_82_19 rfl ⟨Nat.le_of_ble_eq_true rfl, Nat.le_of_ble_eq_true rfl⟩ rfl q92 [.ref 92, .int (jn (at_ + 1))] rfl rfl [some (.ref 92), some (.int (jn (at_ + 1)))] rfl rfl (t_mch q92 q93 hl (by omega)) ?_
  show jZ _ _ _ _ [.int (jn (sp_here tx ln (at_ + 1))), .int (jn 1)] _ _
  refine z_call 25 80 1 c_82_22 rfl ⟨Nat.le_of_ble_eq_true rfl, Nat.le_of_ble_eq_true rfl⟩ [.int (jn (sp_here tx ln (at_ + 1)))] rfl rfl [some (.int (jn (sp_here tx ln (at_ + 1))))] rfl rfl (t_mpo (by omega)) ?_
  show jZ _ _ _ _ [.int (jo (sp_el (sp_here tx ln (at_ + 1)))), .int (jn 1)] _ _
  rw [hx]
  show jZ _ _ _ _ [.int (jo (some x)), .int (jn 1)] _ _
  refine z_go 26 _ [.int ((fun x y : Int32 => x <<< (y &&& 31)) (jn 1) (jo (some x)))] _ c_82_25 rfl ?_
  refine z_v (jn_sh x h5) ?_
  refine z_go 27 [some (.ref 92), some (.int (jn (at_ + 1))), some (.int (jn 1)), some (.int (jn (2 ^ x)))] [] _ c_82_26 rfl ?_
  refine z_iinc 30 [some (.ref 92), some (.int (jn (at_ + 1 + 1))), some (.int (jn 1)), some (.int (jn (2 ^ x)))] c_82_27 rfl rfl (jn_add _ _) rfl ?_
  refine t_sev_l (k := 40) hl ht q92 q93 (by omega) (by omega) (by omega) ?_
  have hb := sm_sl_b (tx := tx) (ln := ln) (k := 40) (p := at_ + 2) (s := 2 ^ x) (c := 1) (by omega) (by decide)
  show jZ _ 82 77 [some (.ref 92), some (.int (jn (sm_sl tx ln 40 (at_ + 2) (2 ^ x) 1).1)), some (.int (jn (sm_sl tx ln 40 (at_ + 2) (2 ^ x) 1).2.2)), some (.int (jn (sm_sl tx ln 40 (at_ + 2) (2 ^ x) 1).2.1))] [] M1 _
  have eS : sm_sev tx ln at_ x = if sp_here tx ln (sm_sl tx ln 40 (at_ + 2) (2 ^ x) 1).1 = 93 ∧ (sm_sl tx ln 40 (at_ + 2) (2 ^ x) 1).2.2 ≤ 4 then some ((42, false, 0, some 0, false, (sm_sl tx ln 40 (at_ + 2) (2 ^ x) 1).2.1), (sm_sl tx ln 40 (at_ + 2) (2 ^ x) 1).1 + 1) else none := rfl
  generalize sm_sl tx ln 40 (at_ + 2) (2 ^ x) 1 = S at *
  have hc2 := sp_here_128 (tx := tx) (ln := ln) (p := S.1) ht
  refine z_go 78 _ [.ref 92] _ c_82_77 rfl ?_
  refine z_getf (v := .ref 99) 81 c_82_78 rfl q92 rfl ?_
  refine z_go 82 _ [.ref 92, .ref 99] _ c_82_81 rfl ?_
  refine z_getf (v := .int (jn (n + 1))) 85 c_82_82 rfl q92 rfl ?_
  refine z_go 86 _ [.int (jn 1), .int (jn (n + 1)), .ref 99] _ c_82_85 rfl ?_
  refine z_go 87 _ [.int ((jn (n + 1)) - (jn 1)), .ref 99] _ c_82_86 rfl ?_
  refine z_v (jn_sub (by omega)) ?_
  refine z_v (by rw [Nat.add_sub_cancel]) ?_
  refine z_go 88 _ [.int (jn S.2.1), .int (jn n), .ref 99] _ c_82_87 rfl ?_
  refine z_iast (M' := jm [(99, .inl (0, 40, .inl (ja (nu (nu (aL A) n 0) n S.2.1))))] M1) 89 c_82_88 rfl q99 (by omega) (by omega) (by rw [ja_upd]; exact rfl) ?_
  refine z_go 90 _ [.ref 92] _ c_82_89 rfl ?_
  refine z_go 91 _ [.int (jn S.1), .ref 92] _ c_82_90 rfl ?_
  refine z_go 92 _ [.int (jn 1), .int (jn S.1), .ref 92] _ c_82_91 rfl ?_
  refine z_go 93 _ [.int ((jn S.1) + (jn 1)), .ref 92] _ c_82_92 rfl ?_
  refine z_v (jn_add _ _) ?_
  refine z_putf (M' := jm [(92, mW w ln (S.1 + 1) (n + 1) gd), (99, .inl (0, 40, .inl (ja (nu (nu (aL A) n 0) n S.2.1))))] M1) 96 c_82_93 rfl q92 (rfl) (Nat.le_of_ble_eq_true rfl) rfl ?_
  refine z_go 97 _ [.ref 92] _ c_82_96 rfl ?_
  refine z_go 98 _ [.int (jn S.1), .ref 92] _ c_82_97 rfl ?_
  refine z_callv 101 6 77 1 92 c_82_98 rfl ⟨Nat.le_of_ble_eq_true rfl, Nat.le_of_ble_eq_true rfl⟩ rfl rfl [.ref 92, .int (jn S.1)] rfl rfl [some (.ref 92), some (.int (jn S.1))] rfl rfl (t_mch (at_ := S.1 + 1) rfl q93 hl (by omega)) ?_
  show jZ _ _ _ _ [.int (jn (sp_here tx ln (S.1)))] _ _
  refine z_go 103 _ [.int (jn 93), .int (jn (sp_here tx ln (S.1)))] _ c_82_101 rfl ?_
  refine z_ine 115 106 c_82_103 rfl (jn_inj (by omega) (by omega)) (fun h93 => ?_) (fun h93 => ?_)
  · refine z_go 107 _ [.int (jn S.2.2)] _ c_82_106 rfl ?_
    refine z_go 108 _ [.int (jn 4), .int (jn S.2.2)] _ c_82_107 rfl ?_
    refine z_igt 115 111 c_82_108 rfl (by omega) (by omega) (fun h4 => ?_) (fun h4 => ?_)
    · refine z_go 116 _ [.int (jn 0)] _ c_82_115 rfl ?_
      refine z_zret (b := false) c_82_116 ?_
      rw [eS, if_neg (fun q => by omega)]
      refine ⟨rfl, ⟨_, _, _, (nu A n (42, false, 0, some 0, false, S.2.1)), _, _, _, _, rfl, q93, ?_, q100, q101, q102, q103⟩, qs.tr (sm_jm rfl)⟩
      rw [mA_nu]
      refine ⟨q94, q95, q96, q97, q98, ?_⟩
      first | rfl | exact (show (jm [(92, mW w ln (S.1 + 1) (n + 1) gd), (99, .inl (0, 40, .inl (ja (nu (nu (aL A) n 0) n S.2.1))))] M1).1 99 = .inl (0, 40, .inl (ja (nu (nu (aL A) n 0) n S.2.1))) from rfl).trans (by simp only [nu_nu])
    · refine z_go 112 _ [.int (jn 1)] _ c_82_111 rfl ?_
      refine z_go 116 _ [.int (jn 1)] _ c_82_112 rfl ?_
      refine z_zret (b := true) c_82_116 ?_
      rw [eS, if_pos ⟨h93, by omega⟩]
      refine ⟨rfl, ⟨rfl, q93, ?_, q100, q101, q102, q103⟩, qs.tr (sm_jm rfl)⟩
      rw [mA_nu]
      refine ⟨?_, ?_, ?_, ?_, ?_, ?_⟩
      · exact q94
      · exact q95
      · exact q96
      · exact q97
      · exact q98
      · first | rfl | exact (show (jm [(92, mW w ln (S.1 + 1) (n + 1) gd), (99, .inl (0, 40, .inl (ja (nu (nu (aL A) n 0) n S.2.1))))] M1).1 99 = .inl (0, 40, .inl (ja (nu (nu (aL A) n 0) n S.2.1))) from rfl).trans (by simp only [nu_nu])
  · refine z_go 116 _ [.int (jn 0)] _ c_82_115 rfl ?_
    refine z_zret (b := false) c_82_116 ?_
    rw [eS, if_neg (fun q => h93 q.1)]
    refine ⟨rfl, ⟨_, _, _, (nu A n (42, false, 0, some 0, false, S.2.1)), _, _, _, _, rfl, q93, ?_, q100, q101, q102, q103⟩, qs.tr (sm_jm rfl)⟩
    rw [mA_nu]
    refine ⟨q94, q95, q96, q97, q98, ?_⟩
    first | rfl | exact (show (jm [(92, mW w ln (S.1 + 1) (n + 1) gd), (99, .inl (0, 40, .inl (ja (nu (nu (aL A) n 0) n S.2.1))))] M1).1 99 = .inl (0, 40, .inl (ja (nu (nu (aL A) n 0) n S.2.1))) from rfl).trans (by simp only [nu_nu])
theorem t_one {d : Nat} {w : MW} {tx : Nat → Nat} {ln at_ n : Nat} {gd : Bool} {A : Nat → MA} {bm bk : Nat → Nat} {oa : Nat → Option Nat} {ol : Nat → Nat} {M : jx_M} (H : mRd M w tx ln at_ n gd A bm bk oa ol) (hn : n < 40) (hl : ln ≤ 40) (ht : ∀ j, tx j < 127) (hat : at_ ≤ 50) : jZ (d + 2) 83 0 [some (.ref 92), none] [] M (jMA M w tx ln n gd A bm bk oa ol (sm_one tx ln at_)) := by
  have H0 := H
  obtain ⟨h92, h93, ⟨h94, h95, h96, h97, h98, h99⟩, h100, h101, h102, h103⟩ := H
  have hc1 := sp_here_128 (tx := tx) (ln := ln) (p := at_ + 1) ht
  have hc2 := sp_here_128 (tx := tx) (ln := ln) (p := at_ + 2) ht
  have hc3 := sp_here_128 (tx := tx) (ln := ln) (p := at_ + 3) ht
  have hc4 := sp_here_128 (tx := tx) (ln := ln) (p := at_ + 4) ht
  have hc5 := sp_here_128 (tx := tx) (ln := ln) (p := at_ + 5) ht
  refine z_go 1 _ [.ref 92] _ c_83_0 rfl ?_
  refine z_go 2 _ [.ref 92, .ref 92] _ c_83_1 rfl ?_
  refine z_go 3 _ [.ref 92, .ref 92, .ref 92] _ c_83_2 rfl ?_
  refine z_getf (v := .int (jn at_)) 6 c_83_3 rfl h92 rfl ?_
  refine z_go 7 _ [.int (jn 1), .int (jn at_), .ref 92, .ref 92] _ c_83_6 rfl ?_
  refine z_go 8 _ [.int ((jn at_) + (jn 1)), .ref 92, .ref 92] _ c_83_7 rfl ?_
  refine z_v (jn_add _ _) ?_
  refine z_callv 11 6 77 1 92 c_83_8 rfl ⟨Nat.le_of_ble_eq_true rfl, Nat.le_of_ble_eq_true rfl⟩ rfl h92 [.ref 92, .int (jn (at_ + 1))] rfl rfl [some (.ref 92), some (.int (jn (at_ + 1)))] rfl rfl (t_mch h92 h93 hl (by omega)) ?_
  show jZ _ _ _ _ [.int (jn (sp_here tx ln (at_ + 1))), .ref 92] _ _
  refine z_go 12 _ [.int (jn 0), .int (jn (sp_here tx ln (at_ + 1))), .ref 92] _ c_83_11 rfl ?_
  refine z_callvV 15 6 81 2 92 c_83_12 rfl ⟨Nat.le_of_ble_eq_true rfl, Nat.le_of_ble_eq_true rfl⟩ rfl h92 [.ref 92, .int (jn (sp_here tx ln (at_ + 1))), .int (jb false)] rfl rfl [some (.ref 92), some (.int (jn (sp_here tx ln (at_ + 1)))), some (.int (jb false)), none] rfl rfl (t_na (d := d + 1) H0 hn) ?_
  intro M1 ⟨hQ, qs⟩
  obtain ⟨q92, q93, qA, q100, q101, q102, q103⟩ := hQ
  rw [mA_nu] at qA
  obtain ⟨q94, q95, q96, q97, q98, q99⟩ := qA
  show jZ _ _ _ _ [] _ _
  refine z_go 16 _ [.ref 92] _ c_83_15 rfl ?_
  refine z_getf (v := .int (jn at_)) 19 c_83_16 rfl q92 rfl ?_
  refine z_go 20 _ [.int (jn 2), .int (jn at_)] _ c_83_19 rfl ?_
  refine z_go 21 _ [.int ((jn at_) + (jn 2))] _ c_83_20 rfl ?_
  refine z_v (jn_add _ _) ?_
  refine z_go 22 [some (.ref 92), some (.int (jn (at_ + 2)))] [] _ c_83_21 rfl ?_
  refine z_go 23 _ [.ref 92] _ c_83_22 rfl ?_
  refine z_getf (v := .ref 98) 26 c_83_23 rfl q92 rfl ?_
  refine z_go 27 _ [.ref 92, .ref 98] _ c_83_26 rfl ?_
  refine z_getf (v := .int (jn (n + 1))) 30 c_83_27 rfl q92 rfl ?_
  refine z_go 31 _ [.int (jn 1), .int (jn (n + 1)), .ref 98] _ c_83_30 rfl ?_
  refine z_go 32 _ [.int ((jn (n + 1)) - (jn 1)), .ref 98] _ c_83_31 rfl ?_
  refine z_v (jn_sub (by omega)) ?_
  refine z_v (by rw [Nat.add_sub_cancel]) ?_
  refine z_go 33 _ [.int (jn 1), .int (jn n), .ref 98] _ c_83_32 rfl ?_
  refine z_zast (M' := jm [(98, .inl (2, 40, .inl (jab (nu (nu (aB A) n false) n true))))] M1) 34 c_83_33 rfl q98 (by omega) (by omega) (show vp_nar .boolean (jn 1) = jb true by decide) (by rw [jab_upd]; exact rfl) ?_
  refine z_go 35 _ [.ref 92] _ c_83_34 rfl ?_
  refine z_go 36 _ [.int (jn (at_ + 2)), .ref 92] _ c_83_35 rfl ?_
  refine z_callv 39 6 77 1 92 c_83_36 rfl ⟨Nat.le_of_ble_eq_true rfl, Nat.le_of_ble_eq_true rfl⟩ rfl q92 [.ref 92, .int (jn (at_ + 2))] rfl rfl [some (.ref 92), some (.int (jn (at_ + 2)))] rfl rfl (t_mch q92 q93 hl (by omega)) ?_
  show jZ _ _ _ _ [.int (jn (sp_here tx ln (at_ + 2)))] _ _
  refine z_go 41 _ [.int (jn 72), .int (jn (sp_here tx ln (at_ + 2)))] _ c_83_39 rfl ?_
  refine z_ine 101 44 c_83_41 rfl (jn_inj (by omega) (by omega)) (fun hH => ?_) (fun hH => ?_)
  · refine z_go 45 _ [.ref 92] _ c_83_44 rfl ?_
    refine z_getf (v := .ref 96) 48 c_83_45 rfl q92 rfl ?_
    refine z_go 49 _ [.ref 92, .ref 96] _ c_83_48 rfl ?_
    refine z_getf (v := .int (jn (n + 1))) 52 c_83_49 rfl q92 rfl ?_
    refine z_go 53 _ [.int (jn 1), .int (jn (n + 1)), .ref 96] _ c_83_52 rfl ?_
    refine z_go 54 _ [.int ((jn (n + 1)) - (jn 1)), .ref 96] _ c_83_53 rfl ?_
    refine z_v (jn_sub (by omega)) ?_
    refine z_v (by rw [Nat.add_sub_cancel]) ?_
    refine z_go 55 _ [.int (jn 1), .int (jn n), .ref 96] _ c_83_54 rfl ?_
    refine z_iast (M' := jm [(96, .inl (0, 40, .inl (ja (nu (nu (aH A) n 0) n 1)))), (98, .inl (2, 40, .inl (jab (nu (nu (aB A) n false) n true))))] M1) 56 c_83_55 rfl q96 (by omega) (by omega) (by rw [ja_upd]; exact rfl) ?_
    refine z_iinc 59 [some (.ref 92), some (.int (jn (at_ + 2 + 1)))] c_83_56 rfl rfl (jn_add _ _) rfl ?_
    show jZ _ _ _ [some (.ref 92), some (.int (jn (at_ + 3)))] _ _ _
    refine z_go 60 _ [.ref 92] _ c_83_59 rfl ?_
    refine z_go 61 _ [.int (jn (at_ + 3)), .ref 92] _ c_83_60 rfl ?_
    refine z_callv 64 6 77 1 92 c_83_61 rfl ⟨Nat.le_of_ble_eq_true rfl, Nat.le_of_ble_eq_true rfl⟩ rfl q92 [.ref 92, .int (jn (at_ + 3))] rfl rfl [some (.ref 92), some (.int (jn (at_ + 3)))] rfl rfl (t_mch q92 q93 hl (by omega)) ?_
    show jZ _ _ _ _ [.int (jn (sp_here tx ln (at_ + 3)))] _ _
    refine z_go 66 _ [.int (jn 50), .int (jn (sp_here tx ln (at_ + 3)))] _ c_83_64 rfl ?_
    refine z_ilt 101 69 c_83_66 rfl (by omega) (by omega) (fun h50 => ?_) (fun h50 => ?_)
    · have e1 : sm_p1 tx ln at_ = at_ + 3 := by unfold sm_p1 sp_hyp; rw [if_pos hH, if_neg (fun q => by omega)]
      have hd : sp_hyd (sp_here tx ln (at_ + 2)) (sp_here tx ln (at_ + 3)) = 1 := by unfold sp_hyd; rw [if_pos hH, if_neg (fun q => by omega)]
      refine z_go 102 _ [.ref 92] _ c_83_101 rfl ?_
      refine z_go 103 _ [.int (jn (at_ + 3)), .ref 92] _ c_83_102 rfl ?_
      refine z_callv 106 6 77 1 92 c_83_103 rfl ⟨Nat.le_of_ble_eq_true rfl, Nat.le_of_ble_eq_true rfl⟩ rfl q92 [.ref 92, .int (jn (at_ + 3))] rfl rfl [some (.ref 92), some (.int (jn (at_ + 3)))] rfl rfl (t_mch q92 q93 hl (by omega)) ?_
      show jZ _ _ _ _ [.int (jn (sp_here tx ln (at_ + 3)))] _ _
      refine z_go 108 _ [.int (jn 43), .int (jn (sp_here tx ln (at_ + 3)))] _ c_83_106 rfl ?_
      refine z_ieq 121 111 c_83_108 rfl (jn_inj (by omega) (by omega)) (fun hp => ?_) (fun hp => ?_)
      · refine z_go 122 _ [.ref 92] _ c_83_121 rfl ?_
        refine z_getf (v := .ref 97) 125 c_83_122 rfl q92 rfl ?_
        refine z_go 126 _ [.ref 92, .ref 97] _ c_83_125 rfl ?_
        refine z_getf (v := .int (jn (n + 1))) 129 c_83_126 rfl q92 rfl ?_
        refine z_go 130 _ [.int (jn 1), .int (jn (n + 1)), .ref 97] _ c_83_129 rfl ?_
        refine z_go 131 _ [.int ((jn (n + 1)) - (jn 1)), .ref 97] _ c_83_130 rfl ?_
        refine z_v (jn_sub (by omega)) ?_
        refine z_v (by rw [Nat.add_sub_cancel]) ?_
        refine z_go 132 _ [.ref 92, .int (jn n), .ref 97] _ c_83_131 rfl ?_
        refine z_go 133 _ [.int (jn (at_ + 3)), .ref 92, .int (jn n), .ref 97] _ c_83_132 rfl ?_
        refine z_callv 136 6 77 1 92 c_83_133 rfl ⟨Nat.le_of_ble_eq_true rfl, Nat.le_of_ble_eq_true rfl⟩ rfl q92 [.ref 92, .int (jn (at_ + 3))] rfl rfl [some (.ref 92), some (.int (jn (at_ + 3)))] rfl rfl (t_mch q92 q93 hl (by omega)) ?_
        show jZ _ _ _ _ [.int (jn (sp_here tx ln (at_ + 3))), .int (jn n), .ref 97] _ _
        refine z_go 138 _ [.int (jn 43), .int (jn (sp_here tx ln (at_ + 3))), .int (jn n), .ref 97] _ c_83_136 rfl ?_
        refine z_ine 145 141 c_83_138 rfl (jn_inj (by omega) (by omega)) (fun hp2 => ?_) (fun hp2 => ?_)
        · refine z_go 142 _ [.int (jn 1), .int (jn n), .ref 97] _ c_83_141 rfl ?_
          refine z_go 146 _ [.int (jn 1), .int (jn n), .ref 97] _ c_83_142 rfl ?_
          refine z_iast (M' := jm [(97, .inl (0, 40, .inl (jao (nu (nu (aQ A) n (some 0)) n (some 1))))), (96, .inl (0, 40, .inl (ja (nu (nu (aH A) n 0) n 1)))), (98, .inl (2, 40, .inl (jab (nu (nu (aB A) n false) n true))))] M1) 147 c_83_146 rfl q97 (by omega) (by omega) ((congrArg (fun f => jx_st _ 97 (.inl (0, 40, .inl f))) (jao_upd (f := nu (aQ A) n (some 0)) (k := n) (x := some 1))).trans rfl) ?_
          refine z_iinc 150 [some (.ref 92), some (.int (jn (at_ + 3 + 1)))] c_83_147 rfl rfl (jn_add _ _) rfl ?_
          show jZ _ _ _ [some (.ref 92), some (.int (jn (at_ + 4)))] _ _ _
          have e2 : sm_p2 tx ln at_ = at_ + 4 := by unfold sm_p2 sp_chp; rw [e1, if_pos (Or.inl hp)]
          have hcg : sm_chg (sp_here tx ln (at_ + 3)) = some 1 := by unfold sm_chg; rw [if_pos hp]
          have hcl := sp_here_128 (tx := tx) (ln := ln) (p := at_ + 4) ht
          refine z_go 151 _ [.ref 92] _ c_83_150 rfl ?_
          refine z_go 152 _ [.int (jn (at_ + 4)), .ref 92] _ c_83_151 rfl ?_
          refine z_go 153 _ [.int (jn 1), .int (jn (at_ + 4)), .ref 92] _ c_83_152 rfl ?_
          refine z_go 154 _ [.int ((jn (at_ + 4)) + (jn 1)), .ref 92] _ c_83_153 rfl ?_
          refine z_v (jn_add _ _) ?_
          refine z_putf (M' := jm [(92, mW w ln ((at_ + 4) + 1) (n + 1) gd), (97, .inl (0, 40, .inl (jao (nu (nu (aQ A) n (some 0)) n (some 1))))), (96, .inl (0, 40, .inl (ja (nu (nu (aH A) n 0) n 1)))), (98, .inl (2, 40, .inl (jab (nu (nu (aB A) n false) n true))))] M1) 157 c_83_154 rfl q92 (rfl) (Nat.le_of_ble_eq_true rfl) rfl ?_
          refine z_go 158 _ [.ref 92] _ c_83_157 rfl ?_
          refine z_go 159 _ [.int (jn (at_ + 4)), .ref 92] _ c_83_158 rfl ?_
          refine z_callv 162 6 77 1 92 c_83_159 rfl ⟨Nat.le_of_ble_eq_true rfl, Nat.le_of_ble_eq_true rfl⟩ rfl rfl [.ref 92, .int (jn (at_ + 4))] rfl rfl [some (.ref 92), some (.int (jn (at_ + 4)))] rfl rfl (t_mch (at_ := at_ + 4 + 1) rfl q93 hl (by omega)) ?_
          show jZ _ _ _ _ [.int (jn (sp_here tx ln (at_ + 4)))] _ _
          refine z_go 164 _ [.int (jn 93), .int (jn (sp_here tx ln (at_ + 4)))] _ c_83_162 rfl ?_
          refine z_ine 171 167 c_83_164 rfl (jn_inj (by omega) (by omega)) (fun h93 => ?_) (fun h93 => ?_)
          · refine z_go 168 _ [.int (jn 1)] _ c_83_167 rfl ?_
            refine z_go 172 _ [.int (jn 1)] _ c_83_168 rfl ?_
            refine z_zret (b := true) c_83_172 ?_
            rw [show sm_one tx ln at_ = some ((sp_here tx ln (at_ + 1), false, 1, some 1, true, 0), at_ + 4 + 1) by unfold sm_one; rw [e2, if_pos h93, e1, hd, hcg]]
            refine ⟨rfl, ⟨rfl, q93, ?_, q100, q101, q102, q103⟩, qs.tr (sm_jm rfl)⟩
            rw [mA_nu]
            refine ⟨?_, ?_, ?_, ?_, ?_, ?_⟩
            · exact q94
            · exact q95
            · first | rfl | exact (show (jm [(92, mW w ln ((at_ + 4) + 1) (n + 1) gd), (97, .inl (0, 40, .inl (jao (nu (nu (aQ A) n (some 0)) n (some 1))))), (96, .inl (0, 40, .inl (ja (nu (nu (aH A) n 0) n 1)))), (98, .inl (2, 40, .inl (jab (nu (nu (aB A) n false) n true))))] M1).1 96 = .inl (0, 40, .inl (ja (nu (nu (aH A) n 0) n 1))) from rfl).trans (by simp only [nu_nu])
            · first | rfl | exact (show (jm [(92, mW w ln ((at_ + 4) + 1) (n + 1) gd), (97, .inl (0, 40, .inl (jao (nu (nu (aQ A) n (some 0)) n (some 1))))), (96, .inl (0, 40, .inl (ja (nu (nu (aH A) n 0) n 1)))), (98, .inl (2, 40, .inl (jab (nu (nu (aB A) n false) n true))))] M1).1 97 = .inl (0, 40, .inl (jao (nu (nu (aQ A) n (some 0)) n (some 1)))) from rfl).trans (by simp only [nu_nu])
            · first | rfl | exact (show (jm [(92, mW w ln ((at_ + 4) + 1) (n + 1) gd), (97, .inl (0, 40, .inl (jao (nu (nu (aQ A) n (some 0)) n (some 1))))), (96, .inl (0, 40, .inl (ja (nu (nu (aH A) n 0) n 1)))), (98, .inl (2, 40, .inl (jab (nu (nu (aB A) n false) n true))))] M1).1 98 = .inl (2, 40, .inl (jab (nu (nu (aB A) n false) n true))) from rfl).trans (by simp only [nu_nu])
            · exact q99
          · refine z_go 172 _ [.int (jn 0)] _ c_83_171 rfl ?_
            refine z_zret (b := false) c_83_172 ?_
            rw [show sm_one tx ln at_ = none by unfold sm_one; rw [e2, if_neg h93]]
            refine ⟨rfl, ⟨_, _, _, (nu A n (sp_here tx ln (at_ + 1), false, 1, some 1, true, 0)), _, _, _, _, rfl, q93, ?_, q100, q101, q102, q103⟩, qs.tr (sm_jm rfl)⟩
            rw [mA_nu]
            refine ⟨?_, ?_, ?_, ?_, ?_, ?_⟩
            · exact q94
            · exact q95
            · first | rfl | exact (show (jm [(92, mW w ln ((at_ + 4) + 1) (n + 1) gd), (97, .inl (0, 40, .inl (jao (nu (nu (aQ A) n (some 0)) n (some 1))))), (96, .inl (0, 40, .inl (ja (nu (nu (aH A) n 0) n 1)))), (98, .inl (2, 40, .inl (jab (nu (nu (aB A) n false) n true))))] M1).1 96 = .inl (0, 40, .inl (ja (nu (nu (aH A) n 0) n 1))) from rfl).trans (by simp only [nu_nu])
            · first | rfl | exact (show (jm [(92, mW w ln ((at_ + 4) + 1) (n + 1) gd), (97, .inl (0, 40, .inl (jao (nu (nu (aQ A) n (some 0)) n (some 1))))), (96, .inl (0, 40, .inl (ja (nu (nu (aH A) n 0) n 1)))), (98, .inl (2, 40, .inl (jab (nu (nu (aB A) n false) n true))))] M1).1 97 = .inl (0, 40, .inl (jao (nu (nu (aQ A) n (some 0)) n (some 1)))) from rfl).trans (by simp only [nu_nu])
            · first | rfl | exact (show (jm [(92, mW w ln ((at_ + 4) + 1) (n + 1) gd), (97, .inl (0, 40, .inl (jao (nu (nu (aQ A) n (some 0)) n (some 1))))), (96, .inl (0, 40, .inl (ja (nu (nu (aH A) n 0) n 1)))), (98, .inl (2, 40, .inl (jab (nu (nu (aB A) n false) n true))))] M1).1 98 = .inl (2, 40, .inl (jab (nu (nu (aB A) n false) n true))) from rfl).trans (by simp only [nu_nu])
            · exact q99
        · exact absurd hp hp2
      · refine z_go 112 _ [.ref 92] _ c_83_111 rfl ?_
        refine z_go 113 _ [.int (jn (at_ + 3)), .ref 92] _ c_83_112 rfl ?_
        refine z_callv 116 6 77 1 92 c_83_113 rfl ⟨Nat.le_of_ble_eq_true rfl, Nat.le_of_ble_eq_true rfl⟩ rfl q92 [.ref 92, .int (jn (at_ + 3))] rfl rfl [some (.ref 92), some (.int (jn (at_ + 3)))] rfl rfl (t_mch q92 q93 hl (by omega)) ?_
        show jZ _ _ _ _ [.int (jn (sp_here tx ln (at_ + 3)))] _ _
        refine z_go 118 _ [.int (jn 45), .int (jn (sp_here tx ln (at_ + 3)))] _ c_83_116 rfl ?_
        refine z_ine 150 121 c_83_118 rfl (jn_inj (by omega) (by omega)) (fun hm => ?_) (fun hm => ?_)
        · refine z_go 122 _ [.ref 92] _ c_83_121 rfl ?_
          refine z_getf (v := .ref 97) 125 c_83_122 rfl q92 rfl ?_
          refine z_go 126 _ [.ref 92, .ref 97] _ c_83_125 rfl ?_
          refine z_getf (v := .int (jn (n + 1))) 129 c_83_126 rfl q92 rfl ?_
          refine z_go 130 _ [.int (jn 1), .int (jn (n + 1)), .ref 97] _ c_83_129 rfl ?_
          refine z_go 131 _ [.int ((jn (n + 1)) - (jn 1)), .ref 97] _ c_83_130 rfl ?_
          refine z_v (jn_sub (by omega)) ?_
          refine z_v (by rw [Nat.add_sub_cancel]) ?_
          refine z_go 132 _ [.ref 92, .int (jn n), .ref 97] _ c_83_131 rfl ?_
          refine z_go 133 _ [.int (jn (at_ + 3)), .ref 92, .int (jn n), .ref 97] _ c_83_132 rfl ?_
          refine z_callv 136 6 77 1 92 c_83_133 rfl ⟨Nat.le_of_ble_eq_true rfl, Nat.le_of_ble_eq_true rfl⟩ rfl q92 [.ref 92, .int (jn (at_ + 3))] rfl rfl [some (.ref 92), some (.int (jn (at_ + 3)))] rfl rfl (t_mch q92 q93 hl (by omega)) ?_
          show jZ _ _ _ _ [.int (jn (sp_here tx ln (at_ + 3))), .int (jn n), .ref 97] _ _
          refine z_go 138 _ [.int (jn 43), .int (jn (sp_here tx ln (at_ + 3))), .int (jn n), .ref 97] _ c_83_136 rfl ?_
          refine z_ine 145 141 c_83_138 rfl (jn_inj (by omega) (by omega)) (fun hp2 => ?_) (fun hp2 => ?_)
          · exact absurd hp2 hp
          · refine z_go 146 _ [.int (jo none), .int (jn n), .ref 97] _ c_83_145 rfl ?_
            refine z_iast (M' := jm [(97, .inl (0, 40, .inl (jao (nu (nu (aQ A) n (some 0)) n none)))), (96, .inl (0, 40, .inl (ja (nu (nu (aH A) n 0) n 1)))), (98, .inl (2, 40, .inl (jab (nu (nu (aB A) n false) n true))))] M1) 147 c_83_146 rfl q97 (by omega) (by omega) ((congrArg (fun f => jx_st _ 97 (.inl (0, 40, .inl f))) (jao_upd (f := nu (aQ A) n (some 0)) (k := n) (x := none))).trans rfl) ?_
            refine z_iinc 150 [some (.ref 92), some (.int (jn (at_ + 3 + 1)))] c_83_147 rfl rfl (jn_add _ _) rfl ?_
            show jZ _ _ _ [some (.ref 92), some (.int (jn (at_ + 4)))] _ _ _
            have e2 : sm_p2 tx ln at_ = at_ + 4 := by unfold sm_p2 sp_chp; rw [e1, if_pos (Or.inr hm)]
            have hcg : sm_chg (sp_here tx ln (at_ + 3)) = none := by unfold sm_chg; rw [if_neg hp, if_pos hm]
            have hcl := sp_here_128 (tx := tx) (ln := ln) (p := at_ + 4) ht
            refine z_go 151 _ [.ref 92] _ c_83_150 rfl ?_
            refine z_go 152 _ [.int (jn (at_ + 4)), .ref 92] _ c_83_151 rfl ?_
            refine z_go 153 _ [.int (jn 1), .int (jn (at_ + 4)), .ref 92] _ c_83_152 rfl ?_
            refine z_go 154 _ [.int ((jn (at_ + 4)) + (jn 1)), .ref 92] _ c_83_153 rfl ?_
            refine z_v (jn_add _ _) ?_
            refine z_putf (M' := jm [(92, mW w ln ((at_ + 4) + 1) (n + 1) gd), (97, .inl (0, 40, .inl (jao (nu (nu (aQ A) n (some 0)) n none)))), (96, .inl (0, 40, .inl (ja (nu (nu (aH A) n 0) n 1)))), (98, .inl (2, 40, .inl (jab (nu (nu (aB A) n false) n true))))] M1) 157 c_83_154 rfl q92 (rfl) (Nat.le_of_ble_eq_true rfl) rfl ?_
            refine z_go 158 _ [.ref 92] _ c_83_157 rfl ?_
            refine z_go 159 _ [.int (jn (at_ + 4)), .ref 92] _ c_83_158 rfl ?_
            refine z_callv 162 6 77 1 92 c_83_159 rfl ⟨Nat.le_of_ble_eq_true rfl, Nat.le_of_ble_eq_true rfl⟩ rfl rfl [.ref 92, .int (jn (at_ + 4))] rfl rfl [some (.ref 92), some (.int (jn (at_ + 4)))] rfl rfl (t_mch (at_ := at_ + 4 + 1) rfl q93 hl (by omega)) ?_
            show jZ _ _ _ _ [.int (jn (sp_here tx ln (at_ + 4)))] _ _
            refine z_go 164 _ [.int (jn 93), .int (jn (sp_here tx ln (at_ + 4)))] _ c_83_162 rfl ?_
            refine z_ine 171 167 c_83_164 rfl (jn_inj (by omega) (by omega)) (fun h93 => ?_) (fun h93 => ?_)
            · refine z_go 168 _ [.int (jn 1)] _ c_83_167 rfl ?_
              refine z_go 172 _ [.int (jn 1)] _ c_83_168 rfl ?_
              refine z_zret (b := true) c_83_172 ?_
              rw [show sm_one tx ln at_ = some ((sp_here tx ln (at_ + 1), false, 1, none, true, 0), at_ + 4 + 1) by unfold sm_one; rw [e2, if_pos h93, e1, hd, hcg]]
              refine ⟨rfl, ⟨rfl, q93, ?_, q100, q101, q102, q103⟩, qs.tr (sm_jm rfl)⟩
              rw [mA_nu]
              refine ⟨?_, ?_, ?_, ?_, ?_, ?_⟩
              · exact q94
              · exact q95
              · first | rfl | exact (show (jm [(92, mW w ln ((at_ + 4) + 1) (n + 1) gd), (97, .inl (0, 40, .inl (jao (nu (nu (aQ A) n (some 0)) n none)))), (96, .inl (0, 40, .inl (ja (nu (nu (aH A) n 0) n 1)))), (98, .inl (2, 40, .inl (jab (nu (nu (aB A) n false) n true))))] M1).1 96 = .inl (0, 40, .inl (ja (nu (nu (aH A) n 0) n 1))) from rfl).trans (by simp only [nu_nu])
              · first | rfl | exact (show (jm [(92, mW w ln ((at_ + 4) + 1) (n + 1) gd), (97, .inl (0, 40, .inl (jao (nu (nu (aQ A) n (some 0)) n none)))), (96, .inl (0, 40, .inl (ja (nu (nu (aH A) n 0) n 1)))), (98, .inl (2, 40, .inl (jab (nu (nu (aB A) n false) n true))))] M1).1 97 = .inl (0, 40, .inl (jao (nu (nu (aQ A) n (some 0)) n none))) from rfl).trans (by simp only [nu_nu])
              · first | rfl | exact (show (jm [(92, mW w ln ((at_ + 4) + 1) (n + 1) gd), (97, .inl (0, 40, .inl (jao (nu (nu (aQ A) n (some 0)) n none)))), (96, .inl (0, 40, .inl (ja (nu (nu (aH A) n 0) n 1)))), (98, .inl (2, 40, .inl (jab (nu (nu (aB A) n false) n true))))] M1).1 98 = .inl (2, 40, .inl (jab (nu (nu (aB A) n false) n true))) from rfl).trans (by simp only [nu_nu])
              · exact q99
            · refine z_go 172 _ [.int (jn 0)] _ c_83_171 rfl ?_
              refine z_zret (b := false) c_83_172 ?_
              rw [show sm_one tx ln at_ = none by unfold sm_one; rw [e2, if_neg h93]]
              refine ⟨rfl, ⟨_, _, _, (nu A n (sp_here tx ln (at_ + 1), false, 1, none, true, 0)), _, _, _, _, rfl, q93, ?_, q100, q101, q102, q103⟩, qs.tr (sm_jm rfl)⟩
              rw [mA_nu]
              refine ⟨?_, ?_, ?_, ?_, ?_, ?_⟩
              · exact q94
              · exact q95
              · first | rfl | exact (show (jm [(92, mW w ln ((at_ + 4) + 1) (n + 1) gd), (97, .inl (0, 40, .inl (jao (nu (nu (aQ A) n (some 0)) n none)))), (96, .inl (0, 40, .inl (ja (nu (nu (aH A) n 0) n 1)))), (98, .inl (2, 40, .inl (jab (nu (nu (aB A) n false) n true))))] M1).1 96 = .inl (0, 40, .inl (ja (nu (nu (aH A) n 0) n 1))) from rfl).trans (by simp only [nu_nu])
              · first | rfl | exact (show (jm [(92, mW w ln ((at_ + 4) + 1) (n + 1) gd), (97, .inl (0, 40, .inl (jao (nu (nu (aQ A) n (some 0)) n none)))), (96, .inl (0, 40, .inl (ja (nu (nu (aH A) n 0) n 1)))), (98, .inl (2, 40, .inl (jab (nu (nu (aB A) n false) n true))))] M1).1 97 = .inl (0, 40, .inl (jao (nu (nu (aQ A) n (some 0)) n none))) from rfl).trans (by simp only [nu_nu])
              · first | rfl | exact (show (jm [(92, mW w ln ((at_ + 4) + 1) (n + 1) gd), (97, .inl (0, 40, .inl (jao (nu (nu (aQ A) n (some 0)) n none)))), (96, .inl (0, 40, .inl (ja (nu (nu (aH A) n 0) n 1)))), (98, .inl (2, 40, .inl (jab (nu (nu (aB A) n false) n true))))] M1).1 98 = .inl (2, 40, .inl (jab (nu (nu (aB A) n false) n true))) from rfl).trans (by simp only [nu_nu])
              · exact q99
        · have e2 : sm_p2 tx ln at_ = at_ + 3 := by unfold sm_p2 sp_chp; rw [e1, if_neg (by omega), Nat.add_zero]
          have hcg : sm_chg (sp_here tx ln (at_ + 3)) = some 0 := by unfold sm_chg; rw [if_neg hp, if_neg hm]
          have hcl := sp_here_128 (tx := tx) (ln := ln) (p := at_ + 3) ht
          refine z_go 151 _ [.ref 92] _ c_83_150 rfl ?_
          refine z_go 152 _ [.int (jn (at_ + 3)), .ref 92] _ c_83_151 rfl ?_
          refine z_go 153 _ [.int (jn 1), .int (jn (at_ + 3)), .ref 92] _ c_83_152 rfl ?_
          refine z_go 154 _ [.int ((jn (at_ + 3)) + (jn 1)), .ref 92] _ c_83_153 rfl ?_
          refine z_v (jn_add _ _) ?_
          refine z_putf (M' := jm [(92, mW w ln ((at_ + 3) + 1) (n + 1) gd), (96, .inl (0, 40, .inl (ja (nu (nu (aH A) n 0) n 1)))), (98, .inl (2, 40, .inl (jab (nu (nu (aB A) n false) n true))))] M1) 157 c_83_154 rfl q92 (rfl) (Nat.le_of_ble_eq_true rfl) rfl ?_
          refine z_go 158 _ [.ref 92] _ c_83_157 rfl ?_
          refine z_go 159 _ [.int (jn (at_ + 3)), .ref 92] _ c_83_158 rfl ?_
          refine z_callv 162 6 77 1 92 c_83_159 rfl ⟨Nat.le_of_ble_eq_true rfl, Nat.le_of_ble_eq_true rfl⟩ rfl rfl [.ref 92, .int (jn (at_ + 3))] rfl rfl [some (.ref 92), some (.int (jn (at_ + 3)))] rfl rfl (t_mch (at_ := at_ + 3 + 1) rfl q93 hl (by omega)) ?_
          show jZ _ _ _ _ [.int (jn (sp_here tx ln (at_ + 3)))] _ _
          refine z_go 164 _ [.int (jn 93), .int (jn (sp_here tx ln (at_ + 3)))] _ c_83_162 rfl ?_
          refine z_ine 171 167 c_83_164 rfl (jn_inj (by omega) (by omega)) (fun h93 => ?_) (fun h93 => ?_)
          · refine z_go 168 _ [.int (jn 1)] _ c_83_167 rfl ?_
            refine z_go 172 _ [.int (jn 1)] _ c_83_168 rfl ?_
            refine z_zret (b := true) c_83_172 ?_
            rw [show sm_one tx ln at_ = some ((sp_here tx ln (at_ + 1), false, 1, some 0, true, 0), at_ + 3 + 1) by unfold sm_one; rw [e2, if_pos h93, e1, hd, hcg]]
            refine ⟨rfl, ⟨rfl, q93, ?_, q100, q101, q102, q103⟩, qs.tr (sm_jm rfl)⟩
            rw [mA_nu]
            refine ⟨?_, ?_, ?_, ?_, ?_, ?_⟩
            · exact q94
            · exact q95
            · first | rfl | exact (show (jm [(92, mW w ln ((at_ + 3) + 1) (n + 1) gd), (96, .inl (0, 40, .inl (ja (nu (nu (aH A) n 0) n 1)))), (98, .inl (2, 40, .inl (jab (nu (nu (aB A) n false) n true))))] M1).1 96 = .inl (0, 40, .inl (ja (nu (nu (aH A) n 0) n 1))) from rfl).trans (by simp only [nu_nu])
            · exact q97
            · first | rfl | exact (show (jm [(92, mW w ln ((at_ + 3) + 1) (n + 1) gd), (96, .inl (0, 40, .inl (ja (nu (nu (aH A) n 0) n 1)))), (98, .inl (2, 40, .inl (jab (nu (nu (aB A) n false) n true))))] M1).1 98 = .inl (2, 40, .inl (jab (nu (nu (aB A) n false) n true))) from rfl).trans (by simp only [nu_nu])
            · exact q99
          · refine z_go 172 _ [.int (jn 0)] _ c_83_171 rfl ?_
            refine z_zret (b := false) c_83_172 ?_
            rw [show sm_one tx ln at_ = none by unfold sm_one; rw [e2, if_neg h93]]
            refine ⟨rfl, ⟨_, _, _, (nu A n (sp_here tx ln (at_ + 1), false, 1, some 0, true, 0)), _, _, _, _, rfl, q93, ?_, q100, q101, q102, q103⟩, qs.tr (sm_jm rfl)⟩
            rw [mA_nu]
            refine ⟨?_, ?_, ?_, ?_, ?_, ?_⟩
            · exact q94
            · exact q95
            · first | rfl | exact (show (jm [(92, mW w ln ((at_ + 3) + 1) (n + 1) gd), (96, .inl (0, 40, .inl (ja (nu (nu (aH A) n 0) n 1)))), (98, .inl (2, 40, .inl (jab (nu (nu (aB A) n false) n true))))] M1).1 96 = .inl (0, 40, .inl (ja (nu (nu (aH A) n 0) n 1))) from rfl).trans (by simp only [nu_nu])
            · exact q97
            · first | rfl | exact (show (jm [(92, mW w ln ((at_ + 3) + 1) (n + 1) gd), (96, .inl (0, 40, .inl (ja (nu (nu (aH A) n 0) n 1)))), (98, .inl (2, 40, .inl (jab (nu (nu (aB A) n false) n true))))] M1).1 98 = .inl (2, 40, .inl (jab (nu (nu (aB A) n false) n true))) from rfl).trans (by simp only [nu_nu])
            · exact q99
    · refine z_go 70 _ [.ref 92] _ c_83_69 rfl ?_
      refine z_go 71 _ [.int (jn (at_ + 3)), .ref 92] _ c_83_70 rfl ?_
      refine z_callv 74 6 77 1 92 c_83_71 rfl ⟨Nat.le_of_ble_eq_true rfl, Nat.le_of_ble_eq_true rfl⟩ rfl q92 [.ref 92, .int (jn (at_ + 3))] rfl rfl [some (.ref 92), some (.int (jn (at_ + 3)))] rfl rfl (t_mch q92 q93 hl (by omega)) ?_
      show jZ _ _ _ _ [.int (jn (sp_here tx ln (at_ + 3)))] _ _
      refine z_go 76 _ [.int (jn 52), .int (jn (sp_here tx ln (at_ + 3)))] _ c_83_74 rfl ?_
      refine z_igt 101 79 c_83_76 rfl (by omega) (by omega) (fun h52 => ?_) (fun h52 => ?_)
      · have e1 : sm_p1 tx ln at_ = at_ + 3 := by unfold sm_p1 sp_hyp; rw [if_pos hH, if_neg (fun q => by omega)]
        have hd : sp_hyd (sp_here tx ln (at_ + 2)) (sp_here tx ln (at_ + 3)) = 1 := by unfold sp_hyd; rw [if_pos hH, if_neg (fun q => by omega)]
        refine z_go 102 _ [.ref 92] _ c_83_101 rfl ?_
        refine z_go 103 _ [.int (jn (at_ + 3)), .ref 92] _ c_83_102 rfl ?_
        refine z_callv 106 6 77 1 92 c_83_103 rfl ⟨Nat.le_of_ble_eq_true rfl, Nat.le_of_ble_eq_true rfl⟩ rfl q92 [.ref 92, .int (jn (at_ + 3))] rfl rfl [some (.ref 92), some (.int (jn (at_ + 3)))] rfl rfl (t_mch q92 q93 hl (by omega)) ?_
        show jZ _ _ _ _ [.int (jn (sp_here tx ln (at_ + 3)))] _ _
        refine z_go 108 _ [.int (jn 43), .int (jn (sp_here tx ln (at_ + 3)))] _ c_83_106 rfl ?_
        refine z_ieq 121 111 c_83_108 rfl (jn_inj (by omega) (by omega)) (fun hp => ?_) (fun hp => ?_)
        · refine z_go 122 _ [.ref 92] _ c_83_121 rfl ?_
          refine z_getf (v := .ref 97) 125 c_83_122 rfl q92 rfl ?_
          refine z_go 126 _ [.ref 92, .ref 97] _ c_83_125 rfl ?_
          refine z_getf (v := .int (jn (n + 1))) 129 c_83_126 rfl q92 rfl ?_
          refine z_go 130 _ [.int (jn 1), .int (jn (n + 1)), .ref 97] _ c_83_129 rfl ?_
          refine z_go 131 _ [.int ((jn (n + 1)) - (jn 1)), .ref 97] _ c_83_130 rfl ?_
          refine z_v (jn_sub (by omega)) ?_
          refine z_v (by rw [Nat.add_sub_cancel]) ?_
          refine z_go 132 _ [.ref 92, .int (jn n), .ref 97] _ c_83_131 rfl ?_
          refine z_go 133 _ [.int (jn (at_ + 3)), .ref 92, .int (jn n), .ref 97] _ c_83_132 rfl ?_
          refine z_callv 136 6 77 1 92 c_83_133 rfl ⟨Nat.le_of_ble_eq_true rfl, Nat.le_of_ble_eq_true rfl⟩ rfl q92 [.ref 92, .int (jn (at_ + 3))] rfl rfl [some (.ref 92), some (.int (jn (at_ + 3)))] rfl rfl (t_mch q92 q93 hl (by omega)) ?_
          show jZ _ _ _ _ [.int (jn (sp_here tx ln (at_ + 3))), .int (jn n), .ref 97] _ _
          refine z_go 138 _ [.int (jn 43), .int (jn (sp_here tx ln (at_ + 3))), .int (jn n), .ref 97] _ c_83_136 rfl ?_
          refine z_ine 145 141 c_83_138 rfl (jn_inj (by omega) (by omega)) (fun hp2 => ?_) (fun hp2 => ?_)
          · refine z_go 142 _ [.int (jn 1), .int (jn n), .ref 97] _ c_83_141 rfl ?_
            refine z_go 146 _ [.int (jn 1), .int (jn n), .ref 97] _ c_83_142 rfl ?_
            refine z_iast (M' := jm [(97, .inl (0, 40, .inl (jao (nu (nu (aQ A) n (some 0)) n (some 1))))), (96, .inl (0, 40, .inl (ja (nu (nu (aH A) n 0) n 1)))), (98, .inl (2, 40, .inl (jab (nu (nu (aB A) n false) n true))))] M1) 147 c_83_146 rfl q97 (by omega) (by omega) ((congrArg (fun f => jx_st _ 97 (.inl (0, 40, .inl f))) (jao_upd (f := nu (aQ A) n (some 0)) (k := n) (x := some 1))).trans rfl) ?_
            refine z_iinc 150 [some (.ref 92), some (.int (jn (at_ + 3 + 1)))] c_83_147 rfl rfl (jn_add _ _) rfl ?_
            show jZ _ _ _ [some (.ref 92), some (.int (jn (at_ + 4)))] _ _ _
            have e2 : sm_p2 tx ln at_ = at_ + 4 := by unfold sm_p2 sp_chp; rw [e1, if_pos (Or.inl hp)]
            have hcg : sm_chg (sp_here tx ln (at_ + 3)) = some 1 := by unfold sm_chg; rw [if_pos hp]
            have hcl := sp_here_128 (tx := tx) (ln := ln) (p := at_ + 4) ht
            refine z_go 151 _ [.ref 92] _ c_83_150 rfl ?_
            refine z_go 152 _ [.int (jn (at_ + 4)), .ref 92] _ c_83_151 rfl ?_
            refine z_go 153 _ [.int (jn 1), .int (jn (at_ + 4)), .ref 92] _ c_83_152 rfl ?_
            refine z_go 154 _ [.int ((jn (at_ + 4)) + (jn 1)), .ref 92] _ c_83_153 rfl ?_
            refine z_v (jn_add _ _) ?_
            refine z_putf (M' := jm [(92, mW w ln ((at_ + 4) + 1) (n + 1) gd), (97, .inl (0, 40, .inl (jao (nu (nu (aQ A) n (some 0)) n (some 1))))), (96, .inl (0, 40, .inl (ja (nu (nu (aH A) n 0) n 1)))), (98, .inl (2, 40, .inl (jab (nu (nu (aB A) n false) n true))))] M1) 157 c_83_154 rfl q92 (rfl) (Nat.le_of_ble_eq_true rfl) rfl ?_
            refine z_go 158 _ [.ref 92] _ c_83_157 rfl ?_
            refine z_go 159 _ [.int (jn (at_ + 4)), .ref 92] _ c_83_158 rfl ?_
            refine z_callv 162 6 77 1 92 c_83_159 rfl ⟨Nat.le_of_ble_eq_true rfl, Nat.le_of_ble_eq_true rfl⟩ rfl rfl [.ref 92, .int (jn (at_ + 4))] rfl rfl [some (.ref 92), some (.int (jn (at_ + 4)))] rfl rfl (t_mch (at_ := at_ + 4 + 1) rfl q93 hl (by omega)) ?_
            show jZ _ _ _ _ [.int (jn (sp_here tx ln (at_ + 4)))] _ _
            refine z_go 164 _ [.int (jn 93), .int (jn (sp_here tx ln (at_ + 4)))] _ c_83_162 rfl ?_
            refine z_ine 171 167 c_83_164 rfl (jn_inj (by omega) (by omega)) (fun h93 => ?_) (fun h93 => ?_)
            · refine z_go 168 _ [.int (jn 1)] _ c_83_167 rfl ?_
              refine z_go 172 _ [.int (jn 1)] _ c_83_168 rfl ?_
              refine z_zret (b := true) c_83_172 ?_
              rw [show sm_one tx ln at_ = some ((sp_here tx ln (at_ + 1), false, 1, some 1, true, 0), at_ + 4 + 1) by unfold sm_one; rw [e2, if_pos h93, e1, hd, hcg]]
              refine ⟨rfl, ⟨rfl, q93, ?_, q100, q101, q102, q103⟩, qs.tr (sm_jm rfl)⟩
              rw [mA_nu]
              refine ⟨?_, ?_, ?_, ?_, ?_, ?_⟩
              · exact q94
              · exact q95
              · first | rfl | exact (show (jm [(92, mW w ln ((at_ + 4) + 1) (n + 1) gd), (97, .inl (0, 40, .inl (jao (nu (nu (aQ A) n (some 0)) n (some 1))))), (96, .inl (0, 40, .inl (ja (nu (nu (aH A) n 0) n 1)))), (98, .inl (2, 40, .inl (jab (nu (nu (aB A) n false) n true))))] M1).1 96 = .inl (0, 40, .inl (ja (nu (nu (aH A) n 0) n 1))) from rfl).trans (by simp only [nu_nu])
              · first | rfl | exact (show (jm [(92, mW w ln ((at_ + 4) + 1) (n + 1) gd), (97, .inl (0, 40, .inl (jao (nu (nu (aQ A) n (some 0)) n (some 1))))), (96, .inl (0, 40, .inl (ja (nu (nu (aH A) n 0) n 1)))), (98, .inl (2, 40, .inl (jab (nu (nu (aB A) n false) n true))))] M1).1 97 = .inl (0, 40, .inl (jao (nu (nu (aQ A) n (some 0)) n (some 1)))) from rfl).trans (by simp only [nu_nu])
              · first | rfl | exact (show (jm [(92, mW w ln ((at_ + 4) + 1) (n + 1) gd), (97, .inl (0, 40, .inl (jao (nu (nu (aQ A) n (some 0)) n (some 1))))), (96, .inl (0, 40, .inl (ja (nu (nu (aH A) n 0) n 1)))), (98, .inl (2, 40, .inl (jab (nu (nu (aB A) n false) n true))))] M1).1 98 = .inl (2, 40, .inl (jab (nu (nu (aB A) n false) n true))) from rfl).trans (by simp only [nu_nu])
              · exact q99
            · refine z_go 172 _ [.int (jn 0)] _ c_83_171 rfl ?_
              refine z_zret (b := false) c_83_172 ?_
              rw [show sm_one tx ln at_ = none by unfold sm_one; rw [e2, if_neg h93]]
              refine ⟨rfl, ⟨_, _, _, (nu A n (sp_here tx ln (at_ + 1), false, 1, some 1, true, 0)), _, _, _, _, rfl, q93, ?_, q100, q101, q102, q103⟩, qs.tr (sm_jm rfl)⟩
              rw [mA_nu]
              refine ⟨?_, ?_, ?_, ?_, ?_, ?_⟩
              · exact q94
              · exact q95
              · first | rfl | exact (show (jm [(92, mW w ln ((at_ + 4) + 1) (n + 1) gd), (97, .inl (0, 40, .inl (jao (nu (nu (aQ A) n (some 0)) n (some 1))))), (96, .inl (0, 40, .inl (ja (nu (nu (aH A) n 0) n 1)))), (98, .inl (2, 40, .inl (jab (nu (nu (aB A) n false) n true))))] M1).1 96 = .inl (0, 40, .inl (ja (nu (nu (aH A) n 0) n 1))) from rfl).trans (by simp only [nu_nu])
              · first | rfl | exact (show (jm [(92, mW w ln ((at_ + 4) + 1) (n + 1) gd), (97, .inl (0, 40, .inl (jao (nu (nu (aQ A) n (some 0)) n (some 1))))), (96, .inl (0, 40, .inl (ja (nu (nu (aH A) n 0) n 1)))), (98, .inl (2, 40, .inl (jab (nu (nu (aB A) n false) n true))))] M1).1 97 = .inl (0, 40, .inl (jao (nu (nu (aQ A) n (some 0)) n (some 1)))) from rfl).trans (by simp only [nu_nu])
              · first | rfl | exact (show (jm [(92, mW w ln ((at_ + 4) + 1) (n + 1) gd), (97, .inl (0, 40, .inl (jao (nu (nu (aQ A) n (some 0)) n (some 1))))), (96, .inl (0, 40, .inl (ja (nu (nu (aH A) n 0) n 1)))), (98, .inl (2, 40, .inl (jab (nu (nu (aB A) n false) n true))))] M1).1 98 = .inl (2, 40, .inl (jab (nu (nu (aB A) n false) n true))) from rfl).trans (by simp only [nu_nu])
              · exact q99
          · exact absurd hp hp2
        · refine z_go 112 _ [.ref 92] _ c_83_111 rfl ?_
          refine z_go 113 _ [.int (jn (at_ + 3)), .ref 92] _ c_83_112 rfl ?_
          refine z_callv 116 6 77 1 92 c_83_113 rfl ⟨Nat.le_of_ble_eq_true rfl, Nat.le_of_ble_eq_true rfl⟩ rfl q92 [.ref 92, .int (jn (at_ + 3))] rfl rfl [some (.ref 92), some (.int (jn (at_ + 3)))] rfl rfl (t_mch q92 q93 hl (by omega)) ?_
          show jZ _ _ _ _ [.int (jn (sp_here tx ln (at_ + 3)))] _ _
          refine z_go 118 _ [.int (jn 45), .int (jn (sp_here tx ln (at_ + 3)))] _ c_83_116 rfl ?_
          refine z_ine 150 121 c_83_118 rfl (jn_inj (by omega) (by omega)) (fun hm => ?_) (fun hm => ?_)
          · refine z_go 122 _ [.ref 92] _ c_83_121 rfl ?_
            refine z_getf (v := .ref 97) 125 c_83_122 rfl q92 rfl ?_
            refine z_go 126 _ [.ref 92, .ref 97] _ c_83_125 rfl ?_
            refine z_getf (v := .int (jn (n + 1))) 129 c_83_126 rfl q92 rfl ?_
            refine z_go 130 _ [.int (jn 1), .int (jn (n + 1)), .ref 97] _ c_83_129 rfl ?_
            refine z_go 131 _ [.int ((jn (n + 1)) - (jn 1)), .ref 97] _ c_83_130 rfl ?_
            refine z_v (jn_sub (by omega)) ?_
            refine z_v (by rw [Nat.add_sub_cancel]) ?_
            refine z_go 132 _ [.ref 92, .int (jn n), .ref 97] _ c_83_131 rfl ?_
            refine z_go 133 _ [.int (jn (at_ + 3)), .ref 92, .int (jn n), .ref 97] _ c_83_132 rfl ?_
            refine z_callv 136 6 77 1 92 c_83_133 rfl ⟨Nat.le_of_ble_eq_true rfl, Nat.le_of_ble_eq_true rfl⟩ rfl q92 [.ref 92, .int (jn (at_ + 3))] rfl rfl [some (.ref 92), some (.int (jn (at_ + 3)))] rfl rfl (t_mch q92 q93 hl (by omega)) ?_
            show jZ _ _ _ _ [.int (jn (sp_here tx ln (at_ + 3))), .int (jn n), .ref 97] _ _
            refine z_go 138 _ [.int (jn 43), .int (jn (sp_here tx ln (at_ + 3))), .int (jn n), .ref 97] _ c_83_136 rfl ?_
            refine z_ine 145 141 c_83_138 rfl (jn_inj (by omega) (by omega)) (fun hp2 => ?_) (fun hp2 => ?_)
            · exact absurd hp2 hp
            · refine z_go 146 _ [.int (jo none), .int (jn n), .ref 97] _ c_83_145 rfl ?_
              refine z_iast (M' := jm [(97, .inl (0, 40, .inl (jao (nu (nu (aQ A) n (some 0)) n none)))), (96, .inl (0, 40, .inl (ja (nu (nu (aH A) n 0) n 1)))), (98, .inl (2, 40, .inl (jab (nu (nu (aB A) n false) n true))))] M1) 147 c_83_146 rfl q97 (by omega) (by omega) ((congrArg (fun f => jx_st _ 97 (.inl (0, 40, .inl f))) (jao_upd (f := nu (aQ A) n (some 0)) (k := n) (x := none))).trans rfl) ?_
              refine z_iinc 150 [some (.ref 92), some (.int (jn (at_ + 3 + 1)))] c_83_147 rfl rfl (jn_add _ _) rfl ?_
              show jZ _ _ _ [some (.ref 92), some (.int (jn (at_ + 4)))] _ _ _
              have e2 : sm_p2 tx ln at_ = at_ + 4 := by unfold sm_p2 sp_chp; rw [e1, if_pos (Or.inr hm)]
              have hcg : sm_chg (sp_here tx ln (at_ + 3)) = none := by unfold sm_chg; rw [if_neg hp, if_pos hm]
              have hcl := sp_here_128 (tx := tx) (ln := ln) (p := at_ + 4) ht
              refine z_go 151 _ [.ref 92] _ c_83_150 rfl ?_
              refine z_go 152 _ [.int (jn (at_ + 4)), .ref 92] _ c_83_151 rfl ?_
              refine z_go 153 _ [.int (jn 1), .int (jn (at_ + 4)), .ref 92] _ c_83_152 rfl ?_
              refine z_go 154 _ [.int ((jn (at_ + 4)) + (jn 1)), .ref 92] _ c_83_153 rfl ?_
              refine z_v (jn_add _ _) ?_
              refine z_putf (M' := jm [(92, mW w ln ((at_ + 4) + 1) (n + 1) gd), (97, .inl (0, 40, .inl (jao (nu (nu (aQ A) n (some 0)) n none)))), (96, .inl (0, 40, .inl (ja (nu (nu (aH A) n 0) n 1)))), (98, .inl (2, 40, .inl (jab (nu (nu (aB A) n false) n true))))] M1) 157 c_83_154 rfl q92 (rfl) (Nat.le_of_ble_eq_true rfl) rfl ?_
              refine z_go 158 _ [.ref 92] _ c_83_157 rfl ?_
              refine z_go 159 _ [.int (jn (at_ + 4)), .ref 92] _ c_83_158 rfl ?_
              refine z_callv 162 6 77 1 92 c_83_159 rfl ⟨Nat.le_of_ble_eq_true rfl, Nat.le_of_ble_eq_true rfl⟩ rfl rfl [.ref 92, .int (jn (at_ + 4))] rfl rfl [some (.ref 92), some (.int (jn (at_ + 4)))] rfl rfl (t_mch (at_ := at_ + 4 + 1) rfl q93 hl (by omega)) ?_
              show jZ _ _ _ _ [.int (jn (sp_here tx ln (at_ + 4)))] _ _
              refine z_go 164 _ [.int (jn 93), .int (jn (sp_here tx ln (at_ + 4)))] _ c_83_162 rfl ?_
              refine z_ine 171 167 c_83_164 rfl (jn_inj (by omega) (by omega)) (fun h93 => ?_) (fun h93 => ?_)
              · refine z_go 168 _ [.int (jn 1)] _ c_83_167 rfl ?_
                refine z_go 172 _ [.int (jn 1)] _ c_83_168 rfl ?_
                refine z_zret (b := true) c_83_172 ?_
                rw [show sm_one tx ln at_ = some ((sp_here tx ln (at_ + 1), false, 1, none, true, 0), at_ + 4 + 1) by unfold sm_one; rw [e2, if_pos h93, e1, hd, hcg]]
                refine ⟨rfl, ⟨rfl, q93, ?_, q100, q101, q102, q103⟩, qs.tr (sm_jm rfl)⟩
                rw [mA_nu]
                refine ⟨?_, ?_, ?_, ?_, ?_, ?_⟩
                · exact q94
                · exact q95
                · first | rfl | exact (show (jm [(92, mW w ln ((at_ + 4) + 1) (n + 1) gd), (97, .inl (0, 40, .inl (jao (nu (nu (aQ A) n (some 0)) n none)))), (96, .inl (0, 40, .inl (ja (nu (nu (aH A) n 0) n 1)))), (98, .inl (2, 40, .inl (jab (nu (nu (aB A) n false) n true))))] M1).1 96 = .inl (0, 40, .inl (ja (nu (nu (aH A) n 0) n 1))) from rfl).trans (by simp only [nu_nu])
                · first | rfl | exact (show (jm [(92, mW w ln ((at_ + 4) + 1) (n + 1) gd), (97, .inl (0, 40, .inl (jao (nu (nu (aQ A) n (some 0)) n none)))), (96, .inl (0, 40, .inl (ja (nu (nu (aH A) n 0) n 1)))), (98, .inl (2, 40, .inl (jab (nu (nu (aB A) n false) n true))))] M1).1 97 = .inl (0, 40, .inl (jao (nu (nu (aQ A) n (some 0)) n none))) from rfl).trans (by simp only [nu_nu])
                · first | rfl | exact (show (jm [(92, mW w ln ((at_ + 4) + 1) (n + 1) gd), (97, .inl (0, 40, .inl (jao (nu (nu (aQ A) n (some 0)) n none)))), (96, .inl (0, 40, .inl (ja (nu (nu (aH A) n 0) n 1)))), (98, .inl (2, 40, .inl (jab (nu (nu (aB A) n false) n true))))] M1).1 98 = .inl (2, 40, .inl (jab (nu (nu (aB A) n false) n true))) from rfl).trans (by simp only [nu_nu])
                · exact q99
              · refine z_go 172 _ [.int (jn 0)] _ c_83_171 rfl ?_
                refine z_zret (b := false) c_83_172 ?_
                rw [show sm_one tx ln at_ = none by unfold sm_one; rw [e2, if_neg h93]]
                refine ⟨rfl, ⟨_, _, _, (nu A n (sp_here tx ln (at_ + 1), false, 1, none, true, 0)), _, _, _, _, rfl, q93, ?_, q100, q101, q102, q103⟩, qs.tr (sm_jm rfl)⟩
                rw [mA_nu]
                refine ⟨?_, ?_, ?_, ?_, ?_, ?_⟩
                · exact q94
                · exact q95
                · first | rfl | exact (show (jm [(92, mW w ln ((at_ + 4) + 1) (n + 1) gd), (97, .inl (0, 40, .inl (jao (nu (nu (aQ A) n (some 0)) n none)))), (96, .inl (0, 40, .inl (ja (nu (nu (aH A) n 0) n 1)))), (98, .inl (2, 40, .inl (jab (nu (nu (aB A) n false) n true))))] M1).1 96 = .inl (0, 40, .inl (ja (nu (nu (aH A) n 0) n 1))) from rfl).trans (by simp only [nu_nu])
                · first | rfl | exact (show (jm [(92, mW w ln ((at_ + 4) + 1) (n + 1) gd), (97, .inl (0, 40, .inl (jao (nu (nu (aQ A) n (some 0)) n none)))), (96, .inl (0, 40, .inl (ja (nu (nu (aH A) n 0) n 1)))), (98, .inl (2, 40, .inl (jab (nu (nu (aB A) n false) n true))))] M1).1 97 = .inl (0, 40, .inl (jao (nu (nu (aQ A) n (some 0)) n none))) from rfl).trans (by simp only [nu_nu])
                · first | rfl | exact (show (jm [(92, mW w ln ((at_ + 4) + 1) (n + 1) gd), (97, .inl (0, 40, .inl (jao (nu (nu (aQ A) n (some 0)) n none)))), (96, .inl (0, 40, .inl (ja (nu (nu (aH A) n 0) n 1)))), (98, .inl (2, 40, .inl (jab (nu (nu (aB A) n false) n true))))] M1).1 98 = .inl (2, 40, .inl (jab (nu (nu (aB A) n false) n true))) from rfl).trans (by simp only [nu_nu])
                · exact q99
          · have e2 : sm_p2 tx ln at_ = at_ + 3 := by unfold sm_p2 sp_chp; rw [e1, if_neg (by omega), Nat.add_zero]
            have hcg : sm_chg (sp_here tx ln (at_ + 3)) = some 0 := by unfold sm_chg; rw [if_neg hp, if_neg hm]
            have hcl := sp_here_128 (tx := tx) (ln := ln) (p := at_ + 3) ht
            refine z_go 151 _ [.ref 92] _ c_83_150 rfl ?_
            refine z_go 152 _ [.int (jn (at_ + 3)), .ref 92] _ c_83_151 rfl ?_
            refine z_go 153 _ [.int (jn 1), .int (jn (at_ + 3)), .ref 92] _ c_83_152 rfl ?_
            refine z_go 154 _ [.int ((jn (at_ + 3)) + (jn 1)), .ref 92] _ c_83_153 rfl ?_
            refine z_v (jn_add _ _) ?_
            refine z_putf (M' := jm [(92, mW w ln ((at_ + 3) + 1) (n + 1) gd), (96, .inl (0, 40, .inl (ja (nu (nu (aH A) n 0) n 1)))), (98, .inl (2, 40, .inl (jab (nu (nu (aB A) n false) n true))))] M1) 157 c_83_154 rfl q92 (rfl) (Nat.le_of_ble_eq_true rfl) rfl ?_
            refine z_go 158 _ [.ref 92] _ c_83_157 rfl ?_
            refine z_go 159 _ [.int (jn (at_ + 3)), .ref 92] _ c_83_158 rfl ?_
            refine z_callv 162 6 77 1 92 c_83_159 rfl ⟨Nat.le_of_ble_eq_true rfl, Nat.le_of_ble_eq_true rfl⟩ rfl rfl [.ref 92, .int (jn (at_ + 3))] rfl rfl [some (.ref 92), some (.int (jn (at_ + 3)))] rfl rfl (t_mch (at_ := at_ + 3 + 1) rfl q93 hl (by omega)) ?_
            show jZ _ _ _ _ [.int (jn (sp_here tx ln (at_ + 3)))] _ _
            refine z_go 164 _ [.int (jn 93), .int (jn (sp_here tx ln (at_ + 3)))] _ c_83_162 rfl ?_
            refine z_ine 171 167 c_83_164 rfl (jn_inj (by omega) (by omega)) (fun h93 => ?_) (fun h93 => ?_)
            · refine z_go 168 _ [.int (jn 1)] _ c_83_167 rfl ?_
              refine z_go 172 _ [.int (jn 1)] _ c_83_168 rfl ?_
              refine z_zret (b := true) c_83_172 ?_
              rw [show sm_one tx ln at_ = some ((sp_here tx ln (at_ + 1), false, 1, some 0, true, 0), at_ + 3 + 1) by unfold sm_one; rw [e2, if_pos h93, e1, hd, hcg]]
              refine ⟨rfl, ⟨rfl, q93, ?_, q100, q101, q102, q103⟩, qs.tr (sm_jm rfl)⟩
              rw [mA_nu]
              refine ⟨?_, ?_, ?_, ?_, ?_, ?_⟩
              · exact q94
              · exact q95
              · first | rfl | exact (show (jm [(92, mW w ln ((at_ + 3) + 1) (n + 1) gd), (96, .inl (0, 40, .inl (ja (nu (nu (aH A) n 0) n 1)))), (98, .inl (2, 40, .inl (jab (nu (nu (aB A) n false) n true))))] M1).1 96 = .inl (0, 40, .inl (ja (nu (nu (aH A) n 0) n 1))) from rfl).trans (by simp only [nu_nu])
              · exact q97
              · first | rfl | exact (show (jm [(92, mW w ln ((at_ + 3) + 1) (n + 1) gd), (96, .inl (0, 40, .inl (ja (nu (nu (aH A) n 0) n 1)))), (98, .inl (2, 40, .inl (jab (nu (nu (aB A) n false) n true))))] M1).1 98 = .inl (2, 40, .inl (jab (nu (nu (aB A) n false) n true))) from rfl).trans (by simp only [nu_nu])
              · exact q99
            · refine z_go 172 _ [.int (jn 0)] _ c_83_171 rfl ?_
              refine z_zret (b := false) c_83_172 ?_
              rw [show sm_one tx ln at_ = none by unfold sm_one; rw [e2, if_neg h93]]
              refine ⟨rfl, ⟨_, _, _, (nu A n (sp_here tx ln (at_ + 1), false, 1, some 0, true, 0)), _, _, _, _, rfl, q93, ?_, q100, q101, q102, q103⟩, qs.tr (sm_jm rfl)⟩
              rw [mA_nu]
              refine ⟨?_, ?_, ?_, ?_, ?_, ?_⟩
              · exact q94
              · exact q95
              · first | rfl | exact (show (jm [(92, mW w ln ((at_ + 3) + 1) (n + 1) gd), (96, .inl (0, 40, .inl (ja (nu (nu (aH A) n 0) n 1)))), (98, .inl (2, 40, .inl (jab (nu (nu (aB A) n false) n true))))] M1).1 96 = .inl (0, 40, .inl (ja (nu (nu (aH A) n 0) n 1))) from rfl).trans (by simp only [nu_nu])
              · exact q97
              · first | rfl | exact (show (jm [(92, mW w ln ((at_ + 3) + 1) (n + 1) gd), (96, .inl (0, 40, .inl (ja (nu (nu (aH A) n 0) n 1)))), (98, .inl (2, 40, .inl (jab (nu (nu (aB A) n false) n true))))] M1).1 98 = .inl (2, 40, .inl (jab (nu (nu (aB A) n false) n true))) from rfl).trans (by simp only [nu_nu])
              · exact q99
      · refine z_go 80 _ [.ref 92] _ c_83_79 rfl ?_
        refine z_getf (v := .ref 96) 83 c_83_80 rfl q92 rfl ?_
        refine z_go 84 _ [.ref 92, .ref 96] _ c_83_83 rfl ?_
        refine z_getf (v := .int (jn (n + 1))) 87 c_83_84 rfl q92 rfl ?_
        refine z_go 88 _ [.int (jn 1), .int (jn (n + 1)), .ref 96] _ c_83_87 rfl ?_
        refine z_go 89 _ [.int ((jn (n + 1)) - (jn 1)), .ref 96] _ c_83_88 rfl ?_
        refine z_v (jn_sub (by omega)) ?_
        refine z_v (by rw [Nat.add_sub_cancel]) ?_
        refine z_go 90 _ [.ref 92, .int (jn n), .ref 96] _ c_83_89 rfl ?_
        refine z_go 91 _ [.int (jn (at_ + 3)), .ref 92, .int (jn n), .ref 96] _ c_83_90 rfl ?_
        refine z_callv 94 6 77 1 92 c_83_91 rfl ⟨Nat.le_of_ble_eq_true rfl, Nat.le_of_ble_eq_true rfl⟩ rfl q92 [.ref 92, .int (jn (at_ + 3))] rfl rfl [some (.ref 92), some (.int (jn (at_ + 3)))] rfl rfl (t_mch q92 q93 hl (by omega)) ?_
        show jZ _ _ _ _ [.int (jn (sp_here tx ln (at_ + 3))), .int (jn n), .ref 96] _ _
        refine z_go 96 _ [.int (jn 48), .int (jn (sp_here tx ln (at_ + 3))), .int (jn n), .ref 96] _ c_83_94 rfl ?_
        refine z_go 97 _ [.int ((jn (sp_here tx ln (at_ + 3))) - (jn 48)), .int (jn n), .ref 96] _ c_83_96 rfl ?_
        refine z_v (jn_sub (by omega)) ?_
        refine z_iast (M' := jm [(96, .inl (0, 40, .inl (ja (nu (nu (nu (aH A) n 0) n 1) n ((sp_here tx ln (at_ + 3)) - 48))))), (98, .inl (2, 40, .inl (jab (nu (nu (aB A) n false) n true))))] M1) 98 c_83_97 rfl rfl (by omega) (by omega) (by rw [ja_upd]; exact (jm_w rfl)) ?_
        refine z_iinc 101 [some (.ref 92), some (.int (jn (at_ + 3 + 1)))] c_83_98 rfl rfl (jn_add _ _) rfl ?_
        show jZ _ _ _ [some (.ref 92), some (.int (jn (at_ + 4)))] _ _ _
        have e1 : sm_p1 tx ln at_ = at_ + 4 := by unfold sm_p1 sp_hyp; rw [if_pos hH, if_pos ⟨by omega, by omega⟩]
        have hd : sp_hyd (sp_here tx ln (at_ + 2)) (sp_here tx ln (at_ + 3)) = sp_here tx ln (at_ + 3) - 48 := by unfold sp_hyd; rw [if_pos hH, if_pos ⟨by omega, by omega⟩]
        refine z_go 102 _ [.ref 92] _ c_83_101 rfl ?_
        refine z_go 103 _ [.int (jn (at_ + 4)), .ref 92] _ c_83_102 rfl ?_
        refine z_callv 106 6 77 1 92 c_83_103 rfl ⟨Nat.le_of_ble_eq_true rfl, Nat.le_of_ble_eq_true rfl⟩ rfl q92 [.ref 92, .int (jn (at_ + 4))] rfl rfl [some (.ref 92), some (.int (jn (at_ + 4)))] rfl rfl (t_mch q92 q93 hl (by omega)) ?_
        show jZ _ _ _ _ [.int (jn (sp_here tx ln (at_ + 4)))] _ _
        refine z_go 108 _ [.int (jn 43), .int (jn (sp_here tx ln (at_ + 4)))] _ c_83_106 rfl ?_
        refine z_ieq 121 111 c_83_108 rfl (jn_inj (by omega) (by omega)) (fun hp => ?_) (fun hp => ?_)
        · refine z_go 122 _ [.ref 92] _ c_83_121 rfl ?_
          refine z_getf (v := .ref 97) 125 c_83_122 rfl q92 rfl ?_
          refine z_go 126 _ [.ref 92, .ref 97] _ c_83_125 rfl ?_
          refine z_getf (v := .int (jn (n + 1))) 129 c_83_126 rfl q92 rfl ?_
          refine z_go 130 _ [.int (jn 1), .int (jn (n + 1)), .ref 97] _ c_83_129 rfl ?_
          refine z_go 131 _ [.int ((jn (n + 1)) - (jn 1)), .ref 97] _ c_83_130 rfl ?_
          refine z_v (jn_sub (by omega)) ?_
          refine z_v (by rw [Nat.add_sub_cancel]) ?_
          refine z_go 132 _ [.ref 92, .int (jn n), .ref 97] _ c_83_131 rfl ?_
          refine z_go 133 _ [.int (jn (at_ + 4)), .ref 92, .int (jn n), .ref 97] _ c_83_132 rfl ?_
          refine z_callv 136 6 77 1 92 c_83_133 rfl ⟨Nat.le_of_ble_eq_true rfl, Nat.le_of_ble_eq_true rfl⟩ rfl q92 [.ref 92, .int (jn (at_ + 4))] rfl rfl [some (.ref 92), some (.int (jn (at_ + 4)))] rfl rfl (t_mch q92 q93 hl (by omega)) ?_
          show jZ _ _ _ _ [.int (jn (sp_here tx ln (at_ + 4))), .int (jn n), .ref 97] _ _
          refine z_go 138 _ [.int (jn 43), .int (jn (sp_here tx ln (at_ + 4))), .int (jn n), .ref 97] _ c_83_136 rfl ?_
          refine z_ine 145 141 c_83_138 rfl (jn_inj (by omega) (by omega)) (fun hp2 => ?_) (fun hp2 => ?_)
          · refine z_go 142 _ [.int (jn 1), .int (jn n), .ref 97] _ c_83_141 rfl ?_
            refine z_go 146 _ [.int (jn 1), .int (jn n), .ref 97] _ c_83_142 rfl ?_
            refine z_iast (M' := jm [(97, .inl (0, 40, .inl (jao (nu (nu (aQ A) n (some 0)) n (some 1))))), (96, .inl (0, 40, .inl (ja (nu (nu (nu (aH A) n 0) n 1) n ((sp_here tx ln (at_ + 3)) - 48))))), (98, .inl (2, 40, .inl (jab (nu (nu (aB A) n false) n true))))] M1) 147 c_83_146 rfl q97 (by omega) (by omega) ((congrArg (fun f => jx_st _ 97 (.inl (0, 40, .inl f))) (jao_upd (f := nu (aQ A) n (some 0)) (k := n) (x := some 1))).trans rfl) ?_
            refine z_iinc 150 [some (.ref 92), some (.int (jn (at_ + 4 + 1)))] c_83_147 rfl rfl (jn_add _ _) rfl ?_
            show jZ _ _ _ [some (.ref 92), some (.int (jn (at_ + 5)))] _ _ _
            have e2 : sm_p2 tx ln at_ = at_ + 5 := by unfold sm_p2 sp_chp; rw [e1, if_pos (Or.inl hp)]
            have hcg : sm_chg (sp_here tx ln (at_ + 4)) = some 1 := by unfold sm_chg; rw [if_pos hp]
            have hcl := sp_here_128 (tx := tx) (ln := ln) (p := at_ + 5) ht
            refine z_go 151 _ [.ref 92] _ c_83_150 rfl ?_
            refine z_go 152 _ [.int (jn (at_ + 5)), .ref 92] _ c_83_151 rfl ?_
            refine z_go 153 _ [.int (jn 1), .int (jn (at_ + 5)), .ref 92] _ c_83_152 rfl ?_
            refine z_go 154 _ [.int ((jn (at_ + 5)) + (jn 1)), .ref 92] _ c_83_153 rfl ?_
            refine z_v (jn_add _ _) ?_
            refine z_putf (M' := jm [(92, mW w ln ((at_ + 5) + 1) (n + 1) gd), (97, .inl (0, 40, .inl (jao (nu (nu (aQ A) n (some 0)) n (some 1))))), (96, .inl (0, 40, .inl (ja (nu (nu (nu (aH A) n 0) n 1) n ((sp_here tx ln (at_ + 3)) - 48))))), (98, .inl (2, 40, .inl (jab (nu (nu (aB A) n false) n true))))] M1) 157 c_83_154 rfl q92 (rfl) (Nat.le_of_ble_eq_true rfl) rfl ?_
            refine z_go 158 _ [.ref 92] _ c_83_157 rfl ?_
            refine z_go 159 _ [.int (jn (at_ + 5)), .ref 92] _ c_83_158 rfl ?_
            refine z_callv 162 6 77 1 92 c_83_159 rfl ⟨Nat.le_of_ble_eq_true rfl, Nat.le_of_ble_eq_true rfl⟩ rfl rfl [.ref 92, .int (jn (at_ + 5))] rfl rfl [some (.ref 92), some (.int (jn (at_ + 5)))] rfl rfl (t_mch (at_ := at_ + 5 + 1) rfl q93 hl (by omega)) ?_
            show jZ _ _ _ _ [.int (jn (sp_here tx ln (at_ + 5)))] _ _
            refine z_go 164 _ [.int (jn 93), .int (jn (sp_here tx ln (at_ + 5)))] _ c_83_162 rfl ?_
            refine z_ine 171 167 c_83_164 rfl (jn_inj (by omega) (by omega)) (fun h93 => ?_) (fun h93 => ?_)
            · refine z_go 168 _ [.int (jn 1)] _ c_83_167 rfl ?_
              refine z_go 172 _ [.int (jn 1)] _ c_83_168 rfl ?_
              refine z_zret (b := true) c_83_172 ?_
              rw [show sm_one tx ln at_ = some ((sp_here tx ln (at_ + 1), false, sp_here tx ln (at_ + 3) - 48, some 1, true, 0), at_ + 5 + 1) by unfold sm_one; rw [e2, if_pos h93, e1, hd, hcg]]
              refine ⟨rfl, ⟨rfl, q93, ?_, q100, q101, q102, q103⟩, qs.tr (sm_jm rfl)⟩
              rw [mA_nu]
              refine ⟨?_, ?_, ?_, ?_, ?_, ?_⟩
              · exact q94
              · exact q95
              · first | rfl | exact (show (jm [(92, mW w ln ((at_ + 5) + 1) (n + 1) gd), (97, .inl (0, 40, .inl (jao (nu (nu (aQ A) n (some 0)) n (some 1))))), (96, .inl (0, 40, .inl (ja (nu (nu (nu (aH A) n 0) n 1) n ((sp_here tx ln (at_ + 3)) - 48))))), (98, .inl (2, 40, .inl (jab (nu (nu (aB A) n false) n true))))] M1).1 96 = .inl (0, 40, .inl (ja (nu (nu (nu (aH A) n 0) n 1) n ((sp_here tx ln (at_ + 3)) - 48)))) from rfl).trans (by simp only [nu_nu])
              · first | rfl | exact (show (jm [(92, mW w ln ((at_ + 5) + 1) (n + 1) gd), (97, .inl (0, 40, .inl (jao (nu (nu (aQ A) n (some 0)) n (some 1))))), (96, .inl (0, 40, .inl (ja (nu (nu (nu (aH A) n 0) n 1) n ((sp_here tx ln (at_ + 3)) - 48))))), (98, .inl (2, 40, .inl (jab (nu (nu (aB A) n false) n true))))] M1).1 97 = .inl (0, 40, .inl (jao (nu (nu (aQ A) n (some 0)) n (some 1)))) from rfl).trans (by simp only [nu_nu])
              · first | rfl | exact (show (jm [(92, mW w ln ((at_ + 5) + 1) (n + 1) gd), (97, .inl (0, 40, .inl (jao (nu (nu (aQ A) n (some 0)) n (some 1))))), (96, .inl (0, 40, .inl (ja (nu (nu (nu (aH A) n 0) n 1) n ((sp_here tx ln (at_ + 3)) - 48))))), (98, .inl (2, 40, .inl (jab (nu (nu (aB A) n false) n true))))] M1).1 98 = .inl (2, 40, .inl (jab (nu (nu (aB A) n false) n true))) from rfl).trans (by simp only [nu_nu])
              · exact q99
            · refine z_go 172 _ [.int (jn 0)] _ c_83_171 rfl ?_
              refine z_zret (b := false) c_83_172 ?_
              rw [show sm_one tx ln at_ = none by unfold sm_one; rw [e2, if_neg h93]]
              refine ⟨rfl, ⟨_, _, _, (nu A n (sp_here tx ln (at_ + 1), false, sp_here tx ln (at_ + 3) - 48, some 1, true, 0)), _, _, _, _, rfl, q93, ?_, q100, q101, q102, q103⟩, qs.tr (sm_jm rfl)⟩
              rw [mA_nu]
              refine ⟨?_, ?_, ?_, ?_, ?_, ?_⟩
              · exact q94
              · exact q95
              · first | rfl | exact (show (jm [(92, mW w ln ((at_ + 5) + 1) (n + 1) gd), (97, .inl (0, 40, .inl (jao (nu (nu (aQ A) n (some 0)) n (some 1))))), (96, .inl (0, 40, .inl (ja (nu (nu (nu (aH A) n 0) n 1) n ((sp_here tx ln (at_ + 3)) - 48))))), (98, .inl (2, 40, .inl (jab (nu (nu (aB A) n false) n true))))] M1).1 96 = .inl (0, 40, .inl (ja (nu (nu (nu (aH A) n 0) n 1) n ((sp_here tx ln (at_ + 3)) - 48)))) from rfl).trans (by simp only [nu_nu])
              · first | rfl | exact (show (jm [(92, mW w ln ((at_ + 5) + 1) (n + 1) gd), (97, .inl (0, 40, .inl (jao (nu (nu (aQ A) n (some 0)) n (some 1))))), (96, .inl (0, 40, .inl (ja (nu (nu (nu (aH A) n 0) n 1) n ((sp_here tx ln (at_ + 3)) - 48))))), (98, .inl (2, 40, .inl (jab (nu (nu (aB A) n false) n true))))] M1).1 97 = .inl (0, 40, .inl (jao (nu (nu (aQ A) n (some 0)) n (some 1)))) from rfl).trans (by simp only [nu_nu])
              · first | rfl | exact (show (jm [(92, mW w ln ((at_ + 5) + 1) (n + 1) gd), (97, .inl (0, 40, .inl (jao (nu (nu (aQ A) n (some 0)) n (some 1))))), (96, .inl (0, 40, .inl (ja (nu (nu (nu (aH A) n 0) n 1) n ((sp_here tx ln (at_ + 3)) - 48))))), (98, .inl (2, 40, .inl (jab (nu (nu (aB A) n false) n true))))] M1).1 98 = .inl (2, 40, .inl (jab (nu (nu (aB A) n false) n true))) from rfl).trans (by simp only [nu_nu])
              · exact q99
          · exact absurd hp hp2
        · refine z_go 112 _ [.ref 92] _ c_83_111 rfl ?_
          refine z_go 113 _ [.int (jn (at_ + 4)), .ref 92] _ c_83_112 rfl ?_
          refine z_callv 116 6 77 1 92 c_83_113 rfl ⟨Nat.le_of_ble_eq_true rfl, Nat.le_of_ble_eq_true rfl⟩ rfl q92 [.ref 92, .int (jn (at_ + 4))] rfl rfl [some (.ref 92), some (.int (jn (at_ + 4)))] rfl rfl (t_mch q92 q93 hl (by omega)) ?_
          show jZ _ _ _ _ [.int (jn (sp_here tx ln (at_ + 4)))] _ _
          refine z_go 118 _ [.int (jn 45), .int (jn (sp_here tx ln (at_ + 4)))] _ c_83_116 rfl ?_
          refine z_ine 150 121 c_83_118 rfl (jn_inj (by omega) (by omega)) (fun hm => ?_) (fun hm => ?_)
          · refine z_go 122 _ [.ref 92] _ c_83_121 rfl ?_
            refine z_getf (v := .ref 97) 125 c_83_122 rfl q92 rfl ?_
            refine z_go 126 _ [.ref 92, .ref 97] _ c_83_125 rfl ?_
            refine z_getf (v := .int (jn (n + 1))) 129 c_83_126 rfl q92 rfl ?_
            refine z_go 130 _ [.int (jn 1), .int (jn (n + 1)), .ref 97] _ c_83_129 rfl ?_
            refine z_go 131 _ [.int ((jn (n + 1)) - (jn 1)), .ref 97] _ c_83_130 rfl ?_
            refine z_v (jn_sub (by omega)) ?_
            refine z_v (by rw [Nat.add_sub_cancel]) ?_
            refine z_go 132 _ [.ref 92, .int (jn n), .ref 97] _ c_83_131 rfl ?_
            refine z_go 133 _ [.int (jn (at_ + 4)), .ref 92, .int (jn n), .ref 97] _ c_83_132 rfl ?_
            refine z_callv 136 6 77 1 92 c_83_133 rfl ⟨Nat.le_of_ble_eq_true rfl, Nat.le_of_ble_eq_true rfl⟩ rfl q92 [.ref 92, .int (jn (at_ + 4))] rfl rfl [some (.ref 92), some (.int (jn (at_ + 4)))] rfl rfl (t_mch q92 q93 hl (by omega)) ?_
            show jZ _ _ _ _ [.int (jn (sp_here tx ln (at_ + 4))), .int (jn n), .ref 97] _ _
            refine z_go 138 _ [.int (jn 43), .int (jn (sp_here tx ln (at_ + 4))), .int (jn n), .ref 97] _ c_83_136 rfl ?_
            refine z_ine 145 141 c_83_138 rfl (jn_inj (by omega) (by omega)) (fun hp2 => ?_) (fun hp2 => ?_)
            · exact absurd hp2 hp
            · refine z_go 146 _ [.int (jo none), .int (jn n), .ref 97] _ c_83_145 rfl ?_
              refine z_iast (M' := jm [(97, .inl (0, 40, .inl (jao (nu (nu (aQ A) n (some 0)) n none)))), (96, .inl (0, 40, .inl (ja (nu (nu (nu (aH A) n 0) n 1) n ((sp_here tx ln (at_ + 3)) - 48))))), (98, .inl (2, 40, .inl (jab (nu (nu (aB A) n false) n true))))] M1) 147 c_83_146 rfl q97 (by omega) (by omega) ((congrArg (fun f => jx_st _ 97 (.inl (0, 40, .inl f))) (jao_upd (f := nu (aQ A) n (some 0)) (k := n) (x := none))).trans rfl) ?_
              refine z_iinc 150 [some (.ref 92), some (.int (jn (at_ + 4 + 1)))] c_83_147 rfl rfl (jn_add _ _) rfl ?_
              show jZ _ _ _ [some (.ref 92), some (.int (jn (at_ + 5)))] _ _ _
              have e2 : sm_p2 tx ln at_ = at_ + 5 := by unfold sm_p2 sp_chp; rw [e1, if_pos (Or.inr hm)]
              have hcg : sm_chg (sp_here tx ln (at_ + 4)) = none := by unfold sm_chg; rw [if_neg hp, if_pos hm]
              have hcl := sp_here_128 (tx := tx) (ln := ln) (p := at_ + 5) ht
              refine z_go 151 _ [.ref 92] _ c_83_150 rfl ?_
              refine z_go 152 _ [.int (jn (at_ + 5)), .ref 92] _ c_83_151 rfl ?_
              refine z_go 153 _ [.int (jn 1), .int (jn (at_ + 5)), .ref 92] _ c_83_152 rfl ?_
              refine z_go 154 _ [.int ((jn (at_ + 5)) + (jn 1)), .ref 92] _ c_83_153 rfl ?_
              refine z_v (jn_add _ _) ?_
              refine z_putf (M' := jm [(92, mW w ln ((at_ + 5) + 1) (n + 1) gd), (97, .inl (0, 40, .inl (jao (nu (nu (aQ A) n (some 0)) n none)))), (96, .inl (0, 40, .inl (ja (nu (nu (nu (aH A) n 0) n 1) n ((sp_here tx ln (at_ + 3)) - 48))))), (98, .inl (2, 40, .inl (jab (nu (nu (aB A) n false) n true))))] M1) 157 c_83_154 rfl q92 (rfl) (Nat.le_of_ble_eq_true rfl) rfl ?_
              refine z_go 158 _ [.ref 92] _ c_83_157 rfl ?_
              refine z_go 159 _ [.int (jn (at_ + 5)), .ref 92] _ c_83_158 rfl ?_
              refine z_callv 162 6 77 1 92 c_83_159 rfl ⟨Nat.le_of_ble_eq_true rfl, Nat.le_of_ble_eq_true rfl⟩ rfl rfl [.ref 92, .int (jn (at_ + 5))] rfl rfl [some (.ref 92), some (.int (jn (at_ + 5)))] rfl rfl (t_mch (at_ := at_ + 5 + 1) rfl q93 hl (by omega)) ?_
              show jZ _ _ _ _ [.int (jn (sp_here tx ln (at_ + 5)))] _ _
              refine z_go 164 _ [.int (jn 93), .int (jn (sp_here tx ln (at_ + 5)))] _ c_83_162 rfl ?_
              refine z_ine 171 167 c_83_164 rfl (jn_inj (by omega) (by omega)) (fun h93 => ?_) (fun h93 => ?_)
              · refine z_go 168 _ [.int (jn 1)] _ c_83_167 rfl ?_
                refine z_go 172 _ [.int (jn 1)] _ c_83_168 rfl ?_
                refine z_zret (b := true) c_83_172 ?_
                rw [show sm_one tx ln at_ = some ((sp_here tx ln (at_ + 1), false, sp_here tx ln (at_ + 3) - 48, none, true, 0), at_ + 5 + 1) by unfold sm_one; rw [e2, if_pos h93, e1, hd, hcg]]
                refine ⟨rfl, ⟨rfl, q93, ?_, q100, q101, q102, q103⟩, qs.tr (sm_jm rfl)⟩
                rw [mA_nu]
                refine ⟨?_, ?_, ?_, ?_, ?_, ?_⟩
                · exact q94
                · exact q95
                · first | rfl | exact (show (jm [(92, mW w ln ((at_ + 5) + 1) (n + 1) gd), (97, .inl (0, 40, .inl (jao (nu (nu (aQ A) n (some 0)) n none)))), (96, .inl (0, 40, .inl (ja (nu (nu (nu (aH A) n 0) n 1) n ((sp_here tx ln (at_ + 3)) - 48))))), (98, .inl (2, 40, .inl (jab (nu (nu (aB A) n false) n true))))] M1).1 96 = .inl (0, 40, .inl (ja (nu (nu (nu (aH A) n 0) n 1) n ((sp_here tx ln (at_ + 3)) - 48)))) from rfl).trans (by simp only [nu_nu])
                · first | rfl | exact (show (jm [(92, mW w ln ((at_ + 5) + 1) (n + 1) gd), (97, .inl (0, 40, .inl (jao (nu (nu (aQ A) n (some 0)) n none)))), (96, .inl (0, 40, .inl (ja (nu (nu (nu (aH A) n 0) n 1) n ((sp_here tx ln (at_ + 3)) - 48))))), (98, .inl (2, 40, .inl (jab (nu (nu (aB A) n false) n true))))] M1).1 97 = .inl (0, 40, .inl (jao (nu (nu (aQ A) n (some 0)) n none))) from rfl).trans (by simp only [nu_nu])
                · first | rfl | exact (show (jm [(92, mW w ln ((at_ + 5) + 1) (n + 1) gd), (97, .inl (0, 40, .inl (jao (nu (nu (aQ A) n (some 0)) n none)))), (96, .inl (0, 40, .inl (ja (nu (nu (nu (aH A) n 0) n 1) n ((sp_here tx ln (at_ + 3)) - 48))))), (98, .inl (2, 40, .inl (jab (nu (nu (aB A) n false) n true))))] M1).1 98 = .inl (2, 40, .inl (jab (nu (nu (aB A) n false) n true))) from rfl).trans (by simp only [nu_nu])
                · exact q99
              · refine z_go 172 _ [.int (jn 0)] _ c_83_171 rfl ?_
                refine z_zret (b := false) c_83_172 ?_
                rw [show sm_one tx ln at_ = none by unfold sm_one; rw [e2, if_neg h93]]
                refine ⟨rfl, ⟨_, _, _, (nu A n (sp_here tx ln (at_ + 1), false, sp_here tx ln (at_ + 3) - 48, none, true, 0)), _, _, _, _, rfl, q93, ?_, q100, q101, q102, q103⟩, qs.tr (sm_jm rfl)⟩
                rw [mA_nu]
                refine ⟨?_, ?_, ?_, ?_, ?_, ?_⟩
                · exact q94
                · exact q95
                · first | rfl | exact (show (jm [(92, mW w ln ((at_ + 5) + 1) (n + 1) gd), (97, .inl (0, 40, .inl (jao (nu (nu (aQ A) n (some 0)) n none)))), (96, .inl (0, 40, .inl (ja (nu (nu (nu (aH A) n 0) n 1) n ((sp_here tx ln (at_ + 3)) - 48))))), (98, .inl (2, 40, .inl (jab (nu (nu (aB A) n false) n true))))] M1).1 96 = .inl (0, 40, .inl (ja (nu (nu (nu (aH A) n 0) n 1) n ((sp_here tx ln (at_ + 3)) - 48)))) from rfl).trans (by simp only [nu_nu])
                · first | rfl | exact (show (jm [(92, mW w ln ((at_ + 5) + 1) (n + 1) gd), (97, .inl (0, 40, .inl (jao (nu (nu (aQ A) n (some 0)) n none)))), (96, .inl (0, 40, .inl (ja (nu (nu (nu (aH A) n 0) n 1) n ((sp_here tx ln (at_ + 3)) - 48))))), (98, .inl (2, 40, .inl (jab (nu (nu (aB A) n false) n true))))] M1).1 97 = .inl (0, 40, .inl (jao (nu (nu (aQ A) n (some 0)) n none))) from rfl).trans (by simp only [nu_nu])
                · first | rfl | exact (show (jm [(92, mW w ln ((at_ + 5) + 1) (n + 1) gd), (97, .inl (0, 40, .inl (jao (nu (nu (aQ A) n (some 0)) n none)))), (96, .inl (0, 40, .inl (ja (nu (nu (nu (aH A) n 0) n 1) n ((sp_here tx ln (at_ + 3)) - 48))))), (98, .inl (2, 40, .inl (jab (nu (nu (aB A) n false) n true))))] M1).1 98 = .inl (2, 40, .inl (jab (nu (nu (aB A) n false) n true))) from rfl).trans (by simp only [nu_nu])
                · exact q99
          · have e2 : sm_p2 tx ln at_ = at_ + 4 := by unfold sm_p2 sp_chp; rw [e1, if_neg (by omega), Nat.add_zero]
            have hcg : sm_chg (sp_here tx ln (at_ + 4)) = some 0 := by unfold sm_chg; rw [if_neg hp, if_neg hm]
            have hcl := sp_here_128 (tx := tx) (ln := ln) (p := at_ + 4) ht
            refine z_go 151 _ [.ref 92] _ c_83_150 rfl ?_
            refine z_go 152 _ [.int (jn (at_ + 4)), .ref 92] _ c_83_151 rfl ?_
            refine z_go 153 _ [.int (jn 1), .int (jn (at_ + 4)), .ref 92] _ c_83_152 rfl ?_
            refine z_go 154 _ [.int ((jn (at_ + 4)) + (jn 1)), .ref 92] _ c_83_153 rfl ?_
            refine z_v (jn_add _ _) ?_
            refine z_putf (M' := jm [(92, mW w ln ((at_ + 4) + 1) (n + 1) gd), (96, .inl (0, 40, .inl (ja (nu (nu (nu (aH A) n 0) n 1) n ((sp_here tx ln (at_ + 3)) - 48))))), (98, .inl (2, 40, .inl (jab (nu (nu (aB A) n false) n true))))] M1) 157 c_83_154 rfl q92 (rfl) (Nat.le_of_ble_eq_true rfl) rfl ?_
            refine z_go 158 _ [.ref 92] _ c_83_157 rfl ?_
            refine z_go 159 _ [.int (jn (at_ + 4)), .ref 92] _ c_83_158 rfl ?_
            refine z_callv 162 6 77 1 92 c_83_159 rfl ⟨Nat.le_of_ble_eq_true rfl, Nat.le_of_ble_eq_true rfl⟩ rfl rfl [.ref 92, .int (jn (at_ + 4))] rfl rfl [some (.ref 92), some (.int (jn (at_ + 4)))] rfl rfl (t_mch (at_ := at_ + 4 + 1) rfl q93 hl (by omega)) ?_
            show jZ _ _ _ _ [.int (jn (sp_here tx ln (at_ + 4)))] _ _
            refine z_go 164 _ [.int (jn 93), .int (jn (sp_here tx ln (at_ + 4)))] _ c_83_162 rfl ?_
            refine z_ine 171 167 c_83_164 rfl (jn_inj (by omega) (by omega)) (fun h93 => ?_) (fun h93 => ?_)
            · refine z_go 168 _ [.int (jn 1)] _ c_83_167 rfl ?_
              refine z_go 172 _ [.int (jn 1)] _ c_83_168 rfl ?_
              refine z_zret (b := true) c_83_172 ?_
              rw [show sm_one tx ln at_ = some ((sp_here tx ln (at_ + 1), false, sp_here tx ln (at_ + 3) - 48, some 0, true, 0), at_ + 4 + 1) by unfold sm_one; rw [e2, if_pos h93, e1, hd, hcg]]
              refine ⟨rfl, ⟨rfl, q93, ?_, q100, q101, q102, q103⟩, qs.tr (sm_jm rfl)⟩
              rw [mA_nu]
              refine ⟨?_, ?_, ?_, ?_, ?_, ?_⟩
              · exact q94
              · exact q95
              · first | rfl | exact (show (jm [(92, mW w ln ((at_ + 4) + 1) (n + 1) gd), (96, .inl (0, 40, .inl (ja (nu (nu (nu (aH A) n 0) n 1) n ((sp_here tx ln (at_ + 3)) - 48))))), (98, .inl (2, 40, .inl (jab (nu (nu (aB A) n false) n true))))] M1).1 96 = .inl (0, 40, .inl (ja (nu (nu (nu (aH A) n 0) n 1) n ((sp_here tx ln (at_ + 3)) - 48)))) from rfl).trans (by simp only [nu_nu])
              · exact q97
              · first | rfl | exact (show (jm [(92, mW w ln ((at_ + 4) + 1) (n + 1) gd), (96, .inl (0, 40, .inl (ja (nu (nu (nu (aH A) n 0) n 1) n ((sp_here tx ln (at_ + 3)) - 48))))), (98, .inl (2, 40, .inl (jab (nu (nu (aB A) n false) n true))))] M1).1 98 = .inl (2, 40, .inl (jab (nu (nu (aB A) n false) n true))) from rfl).trans (by simp only [nu_nu])
              · exact q99
            · refine z_go 172 _ [.int (jn 0)] _ c_83_171 rfl ?_
              refine z_zret (b := false) c_83_172 ?_
              rw [show sm_one tx ln at_ = none by unfold sm_one; rw [e2, if_neg h93]]
              refine ⟨rfl, ⟨_, _, _, (nu A n (sp_here tx ln (at_ + 1), false, sp_here tx ln (at_ + 3) - 48, some 0, true, 0)), _, _, _, _, rfl, q93, ?_, q100, q101, q102, q103⟩, qs.tr (sm_jm rfl)⟩
              rw [mA_nu]
              refine ⟨?_, ?_, ?_, ?_, ?_, ?_⟩
              · exact q94
              · exact q95
              · first | rfl | exact (show (jm [(92, mW w ln ((at_ + 4) + 1) (n + 1) gd), (96, .inl (0, 40, .inl (ja (nu (nu (nu (aH A) n 0) n 1) n ((sp_here tx ln (at_ + 3)) - 48))))), (98, .inl (2, 40, .inl (jab (nu (nu (aB A) n false) n true))))] M1).1 96 = .inl (0, 40, .inl (ja (nu (nu (nu (aH A) n 0) n 1) n ((sp_here tx ln (at_ + 3)) - 48)))) from rfl).trans (by simp only [nu_nu])
              · exact q97
              · first | rfl | exact (show (jm [(92, mW w ln ((at_ + 4) + 1) (n + 1) gd), (96, .inl (0, 40, .inl (ja (nu (nu (nu (aH A) n 0) n 1) n ((sp_here tx ln (at_ + 3)) - 48))))), (98, .inl (2, 40, .inl (jab (nu (nu (aB A) n false) n true))))] M1).1 98 = .inl (2, 40, .inl (jab (nu (nu (aB A) n false) n true))) from rfl).trans (by simp only [nu_nu])
              · exact q99
  · have e1 : sm_p1 tx ln at_ = at_ + 2 := by unfold sm_p1 sp_hyp; rw [if_neg hH]
    have hd : sp_hyd (sp_here tx ln (at_ + 2)) (sp_here tx ln (at_ + 3)) = 0 := by unfold sp_hyd; rw [if_neg hH]
    refine z_go 102 _ [.ref 92] _ c_83_101 rfl ?_
    refine z_go 103 _ [.int (jn (at_ + 2)), .ref 92] _ c_83_102 rfl ?_
    refine z_callv 106 6 77 1 92 c_83_103 rfl ⟨Nat.le_of_ble_eq_true rfl, Nat.le_of_ble_eq_true rfl⟩ rfl q92 [.ref 92, .int (jn (at_ + 2))] rfl rfl [some (.ref 92), some (.int (jn (at_ + 2)))] rfl rfl (t_mch q92 q93 hl (by omega)) ?_
    show jZ _ _ _ _ [.int (jn (sp_here tx ln (at_ + 2)))] _ _
    refine z_go 108 _ [.int (jn 43), .int (jn (sp_here tx ln (at_ + 2)))] _ c_83_106 rfl ?_
    refine z_ieq 121 111 c_83_108 rfl (jn_inj (by omega) (by omega)) (fun hp => ?_) (fun hp => ?_)
    · refine z_go 122 _ [.ref 92] _ c_83_121 rfl ?_
      refine z_getf (v := .ref 97) 125 c_83_122 rfl q92 rfl ?_
      refine z_go 126 _ [.ref 92, .ref 97] _ c_83_125 rfl ?_
      refine z_getf (v := .int (jn (n + 1))) 129 c_83_126 rfl q92 rfl ?_
      refine z_go 130 _ [.int (jn 1), .int (jn (n + 1)), .ref 97] _ c_83_129 rfl ?_
      refine z_go 131 _ [.int ((jn (n + 1)) - (jn 1)), .ref 97] _ c_83_130 rfl ?_
      refine z_v (jn_sub (by omega)) ?_
      refine z_v (by rw [Nat.add_sub_cancel]) ?_
      refine z_go 132 _ [.ref 92, .int (jn n), .ref 97] _ c_83_131 rfl ?_
      refine z_go 133 _ [.int (jn (at_ + 2)), .ref 92, .int (jn n), .ref 97] _ c_83_132 rfl ?_
      refine z_callv 136 6 77 1 92 c_83_133 rfl ⟨Nat.le_of_ble_eq_true rfl, Nat.le_of_ble_eq_true rfl⟩ rfl q92 [.ref 92, .int (jn (at_ + 2))] rfl rfl [some (.ref 92), some (.int (jn (at_ + 2)))] rfl rfl (t_mch q92 q93 hl (by omega)) ?_
      show jZ _ _ _ _ [.int (jn (sp_here tx ln (at_ + 2))), .int (jn n), .ref 97] _ _
      refine z_go 138 _ [.int (jn 43), .int (jn (sp_here tx ln (at_ + 2))), .int (jn n), .ref 97] _ c_83_136 rfl ?_
      refine z_ine 145 141 c_83_138 rfl (jn_inj (by omega) (by omega)) (fun hp2 => ?_) (fun hp2 => ?_)
      · refine z_go 142 _ [.int (jn 1), .int (jn n), .ref 97] _ c_83_141 rfl ?_
        refine z_go 146 _ [.int (jn 1), .int (jn n), .ref 97] _ c_83_142 rfl ?_
        refine z_iast (M' := jm [(97, .inl (0, 40, .inl (jao (nu (nu (aQ A) n (some 0)) n (some 1))))), (98, .inl (2, 40, .inl (jab (nu (nu (aB A) n false) n true))))] M1) 147 c_83_146 rfl q97 (by omega) (by omega) ((congrArg (fun f => jx_st _ 97 (.inl (0, 40, .inl f))) (jao_upd (f := nu (aQ A) n (some 0)) (k := n) (x := some 1))).trans rfl) ?_
        refine z_iinc 150 [some (.ref 92), some (.int (jn (at_ + 2 + 1)))] c_83_147 rfl rfl (jn_add _ _) rfl ?_
        show jZ _ _ _ [some (.ref 92), some (.int (jn (at_ + 3)))] _ _ _
        have e2 : sm_p2 tx ln at_ = at_ + 3 := by unfold sm_p2 sp_chp; rw [e1, if_pos (Or.inl hp)]
        have hcg : sm_chg (sp_here tx ln (at_ + 2)) = some 1 := by unfold sm_chg; rw [if_pos hp]
        have hcl := sp_here_128 (tx := tx) (ln := ln) (p := at_ + 3) ht
        refine z_go 151 _ [.ref 92] _ c_83_150 rfl ?_
        refine z_go 152 _ [.int (jn (at_ + 3)), .ref 92] _ c_83_151 rfl ?_
        refine z_go 153 _ [.int (jn 1), .int (jn (at_ + 3)), .ref 92] _ c_83_152 rfl ?_
        refine z_go 154 _ [.int ((jn (at_ + 3)) + (jn 1)), .ref 92] _ c_83_153 rfl ?_
        refine z_v (jn_add _ _) ?_
        refine z_putf (M' := jm [(92, mW w ln ((at_ + 3) + 1) (n + 1) gd), (97, .inl (0, 40, .inl (jao (nu (nu (aQ A) n (some 0)) n (some 1))))), (98, .inl (2, 40, .inl (jab (nu (nu (aB A) n false) n true))))] M1) 157 c_83_154 rfl q92 (rfl) (Nat.le_of_ble_eq_true rfl) rfl ?_
        refine z_go 158 _ [.ref 92] _ c_83_157 rfl ?_
        refine z_go 159 _ [.int (jn (at_ + 3)), .ref 92] _ c_83_158 rfl ?_
        refine z_callv 162 6 77 1 92 c_83_159 rfl ⟨Nat.le_of_ble_eq_true rfl, Nat.le_of_ble_eq_true rfl⟩ rfl rfl [.ref 92, .int (jn (at_ + 3))] rfl rfl [some (.ref 92), some (.int (jn (at_ + 3)))] rfl rfl (t_mch (at_ := at_ + 3 + 1) rfl q93 hl (by omega)) ?_
        show jZ _ _ _ _ [.int (jn (sp_here tx ln (at_ + 3)))] _ _
        refine z_go 164 _ [.int (jn 93), .int (jn (sp_here tx ln (at_ + 3)))] _ c_83_162 rfl ?_
        refine z_ine 171 167 c_83_164 rfl (jn_inj (by omega) (by omega)) (fun h93 => ?_) (fun h93 => ?_)
        · refine z_go 168 _ [.int (jn 1)] _ c_83_167 rfl ?_
          refine z_go 172 _ [.int (jn 1)] _ c_83_168 rfl ?_
          refine z_zret (b := true) c_83_172 ?_
          rw [show sm_one tx ln at_ = some ((sp_here tx ln (at_ + 1), false, 0, some 1, true, 0), at_ + 3 + 1) by unfold sm_one; rw [e2, if_pos h93, e1, hd, hcg]]
          refine ⟨rfl, ⟨rfl, q93, ?_, q100, q101, q102, q103⟩, qs.tr (sm_jm rfl)⟩
          rw [mA_nu]
          refine ⟨?_, ?_, ?_, ?_, ?_, ?_⟩
          · exact q94
          · exact q95
          · exact q96
          · first | rfl | exact (show (jm [(92, mW w ln ((at_ + 3) + 1) (n + 1) gd), (97, .inl (0, 40, .inl (jao (nu (nu (aQ A) n (some 0)) n (some 1))))), (98, .inl (2, 40, .inl (jab (nu (nu (aB A) n false) n true))))] M1).1 97 = .inl (0, 40, .inl (jao (nu (nu (aQ A) n (some 0)) n (some 1)))) from rfl).trans (by simp only [nu_nu])
          · first | rfl | exact (show (jm [(92, mW w ln ((at_ + 3) + 1) (n + 1) gd), (97, .inl (0, 40, .inl (jao (nu (nu (aQ A) n (some 0)) n (some 1))))), (98, .inl (2, 40, .inl (jab (nu (nu (aB A) n false) n true))))] M1).1 98 = .inl (2, 40, .inl (jab (nu (nu (aB A) n false) n true))) from rfl).trans (by simp only [nu_nu])
          · exact q99
        · refine z_go 172 _ [.int (jn 0)] _ c_83_171 rfl ?_
          refine z_zret (b := false) c_83_172 ?_
          rw [show sm_one tx ln at_ = none by unfold sm_one; rw [e2, if_neg h93]]
          refine ⟨rfl, ⟨_, _, _, (nu A n (sp_here tx ln (at_ + 1), false, 0, some 1, true, 0)), _, _, _, _, rfl, q93, ?_, q100, q101, q102, q103⟩, qs.tr (sm_jm rfl)⟩
          rw [mA_nu]
          refine ⟨?_, ?_, ?_, ?_, ?_, ?_⟩
          · exact q94
          · exact q95
          · exact q96
          · first | rfl | exact (show (jm [(92, mW w ln ((at_ + 3) + 1) (n + 1) gd), (97, .inl (0, 40, .inl (jao (nu (nu (aQ A) n (some 0)) n (some 1))))), (98, .inl (2, 40, .inl (jab (nu (nu (aB A) n false) n true))))] M1).1 97 = .inl (0, 40, .inl (jao (nu (nu (aQ A) n (some 0)) n (some 1)))) from rfl).trans (by simp only [nu_nu])
          · first | rfl | exact (show (jm [(92, mW w ln ((at_ + 3) + 1) (n + 1) gd), (97, .inl (0, 40, .inl (jao (nu (nu (aQ A) n (some 0)) n (some 1))))), (98, .inl (2, 40, .inl (jab (nu (nu (aB A) n false) n true))))] M1).1 98 = .inl (2, 40, .inl (jab (nu (nu (aB A) n false) n true))) from rfl).trans (by simp only [nu_nu])
          · exact q99
      · exact absurd hp hp2
    · refine z_go 112 _ [.ref 92] _ c_83_111 rfl ?_
      refine z_go 113 _ [.int (jn (at_ + 2)), .ref 92] _ c_83_112 rfl ?_
      refine z_callv 116 6 77 1 92 c_83_113 rfl ⟨Nat.le_of_ble_eq_true rfl, Nat.le_of_ble_eq_true rfl⟩ rfl q92 [.ref 92, .int (jn (at_ + 2))] rfl rfl [some (.ref 92), some (.int (jn (at_ + 2)))] rfl rfl (t_mch q92 q93 hl (by omega)) ?_
      show jZ _ _ _ _ [.int (jn (sp_here tx ln (at_ + 2)))] _ _
      refine z_go 118 _ [.int (jn 45), .int (jn (sp_here tx ln (at_ + 2)))] _ c_83_116 rfl ?_
      refine z_ine 150 121 c_83_118 rfl (jn_inj (by omega) (by omega)) (fun hm => ?_) (fun hm => ?_)
      · refine z_go 122 _ [.ref 92] _ c_83_121 rfl ?_
        refine z_getf (v := .ref 97) 125 c_83_122 rfl q92 rfl ?_
        refine z_go 126 _ [.ref 92, .ref 97] _ c_83_125 rfl ?_
        refine z_getf (v := .int (jn (n + 1))) 129 c_83_126 rfl q92 rfl ?_
        refine z_go 130 _ [.int (jn 1), .int (jn (n + 1)), .ref 97] _ c_83_129 rfl ?_
        refine z_go 131 _ [.int ((jn (n + 1)) - (jn 1)), .ref 97] _ c_83_130 rfl ?_
        refine z_v (jn_sub (by omega)) ?_
        refine z_v (by rw [Nat.add_sub_cancel]) ?_
        refine z_go 132 _ [.ref 92, .int (jn n), .ref 97] _ c_83_131 rfl ?_
        refine z_go 133 _ [.int (jn (at_ + 2)), .ref 92, .int (jn n), .ref 97] _ c_83_132 rfl ?_
        refine z_callv 136 6 77 1 92 c_83_133 rfl ⟨Nat.le_of_ble_eq_true rfl, Nat.le_of_ble_eq_true rfl⟩ rfl q92 [.ref 92, .int (jn (at_ + 2))] rfl rfl [some (.ref 92), some (.int (jn (at_ + 2)))] rfl rfl (t_mch q92 q93 hl (by omega)) ?_
        show jZ _ _ _ _ [.int (jn (sp_here tx ln (at_ + 2))), .int (jn n), .ref 97] _ _
        refine z_go 138 _ [.int (jn 43), .int (jn (sp_here tx ln (at_ + 2))), .int (jn n), .ref 97] _ c_83_136 rfl ?_
        refine z_ine 145 141 c_83_138 rfl (jn_inj (by omega) (by omega)) (fun hp2 => ?_) (fun hp2 => ?_)
        · exact absurd hp2 hp
        · refine z_go 146 _ [.int (jo none), .int (jn n), .ref 97] _ c_83_145 rfl ?_
          refine z_iast (M' := jm [(97, .inl (0, 40, .inl (jao (nu (nu (aQ A) n (some 0)) n none)))), (98, .inl (2, 40, .inl (jab (nu (nu (aB A) n false) n true))))] M1) 147 c_83_146 rfl q97 (by omega) (by omega) ((congrArg (fun f => jx_st _ 97 (.inl (0, 40, .inl f))) (jao_upd (f := nu (aQ A) n (some 0)) (k := n) (x := none))).trans rfl) ?_
          refine z_iinc 150 [some (.ref 92), some (.int (jn (at_ + 2 + 1)))] c_83_147 rfl rfl (jn_add _ _) rfl ?_
          show jZ _ _ _ [some (.ref 92), some (.int (jn (at_ + 3)))] _ _ _
          have e2 : sm_p2 tx ln at_ = at_ + 3 := by unfold sm_p2 sp_chp; rw [e1, if_pos (Or.inr hm)]
          have hcg : sm_chg (sp_here tx ln (at_ + 2)) = none := by unfold sm_chg; rw [if_neg hp, if_pos hm]
          have hcl := sp_here_128 (tx := tx) (ln := ln) (p := at_ + 3) ht
          refine z_go 151 _ [.ref 92] _ c_83_150 rfl ?_
          refine z_go 152 _ [.int (jn (at_ + 3)), .ref 92] _ c_83_151 rfl ?_
          refine z_go 153 _ [.int (jn 1), .int (jn (at_ + 3)), .ref 92] _ c_83_152 rfl ?_
          refine z_go 154 _ [.int ((jn (at_ + 3)) + (jn 1)), .ref 92] _ c_83_153 rfl ?_
          refine z_v (jn_add _ _) ?_
          refine z_putf (M' := jm [(92, mW w ln ((at_ + 3) + 1) (n + 1) gd), (97, .inl (0, 40, .inl (jao (nu (nu (aQ A) n (some 0)) n none)))), (98, .inl (2, 40, .inl (jab (nu (nu (aB A) n false) n true))))] M1) 157 c_83_154 rfl q92 (rfl) (Nat.le_of_ble_eq_true rfl) rfl ?_
          refine z_go 158 _ [.ref 92] _ c_83_157 rfl ?_
          refine z_go 159 _ [.int (jn (at_ + 3)), .ref 92] _ c_83_158 rfl ?_
          refine z_callv 162 6 77 1 92 c_83_159 rfl ⟨Nat.le_of_ble_eq_true rfl, Nat.le_of_ble_eq_true rfl⟩ rfl rfl [.ref 92, .int (jn (at_ + 3))] rfl rfl [some (.ref 92), some (.int (jn (at_ + 3)))] rfl rfl (t_mch (at_ := at_ + 3 + 1) rfl q93 hl (by omega)) ?_
          show jZ _ _ _ _ [.int (jn (sp_here tx ln (at_ + 3)))] _ _
          refine z_go 164 _ [.int (jn 93), .int (jn (sp_here tx ln (at_ + 3)))] _ c_83_162 rfl ?_
          refine z_ine 171 167 c_83_164 rfl (jn_inj (by omega) (by omega)) (fun h93 => ?_) (fun h93 => ?_)
          · refine z_go 168 _ [.int (jn 1)] _ c_83_167 rfl ?_
            refine z_go 172 _ [.int (jn 1)] _ c_83_168 rfl ?_
            refine z_zret (b := true) c_83_172 ?_
            rw [show sm_one tx ln at_ = some ((sp_here tx ln (at_ + 1), false, 0, none, true, 0), at_ + 3 + 1) by unfold sm_one; rw [e2, if_pos h93, e1, hd, hcg]]
            refine ⟨rfl, ⟨rfl, q93, ?_, q100, q101, q102, q103⟩, qs.tr (sm_jm rfl)⟩
            rw [mA_nu]
            refine ⟨?_, ?_, ?_, ?_, ?_, ?_⟩
            · exact q94
            · exact q95
            · exact q96
            · first | rfl | exact (show (jm [(92, mW w ln ((at_ + 3) + 1) (n + 1) gd), (97, .inl (0, 40, .inl (jao (nu (nu (aQ A) n (some 0)) n none)))), (98, .inl (2, 40, .inl (jab (nu (nu (aB A) n false) n true))))] M1).1 97 = .inl (0, 40, .inl (jao (nu (nu (aQ A) n (some 0)) n none))) from rfl).trans (by simp only [nu_nu])
            · first | rfl | exact (show (jm [(92, mW w ln ((at_ + 3) + 1) (n + 1) gd), (97, .inl (0, 40, .inl (jao (nu (nu (aQ A) n (some 0)) n none)))), (98, .inl (2, 40, .inl (jab (nu (nu (aB A) n false) n true))))] M1).1 98 = .inl (2, 40, .inl (jab (nu (nu (aB A) n false) n true))) from rfl).trans (by simp only [nu_nu])
            · exact q99
          · refine z_go 172 _ [.int (jn 0)] _ c_83_171 rfl ?_
            refine z_zret (b := false) c_83_172 ?_
            rw [show sm_one tx ln at_ = none by unfold sm_one; rw [e2, if_neg h93]]
            refine ⟨rfl, ⟨_, _, _, (nu A n (sp_here tx ln (at_ + 1), false, 0, none, true, 0)), _, _, _, _, rfl, q93, ?_, q100, q101, q102, q103⟩, qs.tr (sm_jm rfl)⟩
            rw [mA_nu]
            refine ⟨?_, ?_, ?_, ?_, ?_, ?_⟩
            · exact q94
            · exact q95
            · exact q96
            · first | rfl | exact (show (jm [(92, mW w ln ((at_ + 3) + 1) (n + 1) gd), (97, .inl (0, 40, .inl (jao (nu (nu (aQ A) n (some 0)) n none)))), (98, .inl (2, 40, .inl (jab (nu (nu (aB A) n false) n true))))] M1).1 97 = .inl (0, 40, .inl (jao (nu (nu (aQ A) n (some 0)) n none))) from rfl).trans (by simp only [nu_nu])
            · first | rfl | exact (show (jm [(92, mW w ln ((at_ + 3) + 1) (n + 1) gd), (97, .inl (0, 40, .inl (jao (nu (nu (aQ A) n (some 0)) n none)))), (98, .inl (2, 40, .inl (jab (nu (nu (aB A) n false) n true))))] M1).1 98 = .inl (2, 40, .inl (jab (nu (nu (aB A) n false) n true))) from rfl).trans (by simp only [nu_nu])
            · exact q99
      · have e2 : sm_p2 tx ln at_ = at_ + 2 := by unfold sm_p2 sp_chp; rw [e1, if_neg (by omega), Nat.add_zero]
        have hcg : sm_chg (sp_here tx ln (at_ + 2)) = some 0 := by unfold sm_chg; rw [if_neg hp, if_neg hm]
        have hcl := sp_here_128 (tx := tx) (ln := ln) (p := at_ + 2) ht
        refine z_go 151 _ [.ref 92] _ c_83_150 rfl ?_
        refine z_go 152 _ [.int (jn (at_ + 2)), .ref 92] _ c_83_151 rfl ?_
        refine z_go 153 _ [.int (jn 1), .int (jn (at_ + 2)), .ref 92] _ c_83_152 rfl ?_
        refine z_go 154 _ [.int ((jn (at_ + 2)) + (jn 1)), .ref 92] _ c_83_153 rfl ?_
        refine z_v (jn_add _ _) ?_
        refine z_putf (M' := jm [(92, mW w ln ((at_ + 2) + 1) (n + 1) gd), (98, .inl (2, 40, .inl (jab (nu (nu (aB A) n false) n true))))] M1) 157 c_83_154 rfl q92 (rfl) (Nat.le_of_ble_eq_true rfl) rfl ?_
        refine z_go 158 _ [.ref 92] _ c_83_157 rfl ?_
        refine z_go 159 _ [.int (jn (at_ + 2)), .ref 92] _ c_83_158 rfl ?_
        refine z_callv 162 6 77 1 92 c_83_159 rfl ⟨Nat.le_of_ble_eq_true rfl, Nat.le_of_ble_eq_true rfl⟩ rfl rfl [.ref 92, .int (jn (at_ + 2))] rfl rfl [some (.ref 92), some (.int (jn (at_ + 2)))] rfl rfl (t_mch (at_ := at_ + 2 + 1) rfl q93 hl (by omega)) ?_
        show jZ _ _ _ _ [.int (jn (sp_here tx ln (at_ + 2)))] _ _
        refine z_go 164 _ [.int (jn 93), .int (jn (sp_here tx ln (at_ + 2)))] _ c_83_162 rfl ?_
        refine z_ine 171 167 c_83_164 rfl (jn_inj (by omega) (by omega)) (fun h93 => ?_) (fun h93 => ?_)
        · refine z_go 168 _ [.int (jn 1)] _ c_83_167 rfl ?_
          refine z_go 172 _ [.int (jn 1)] _ c_83_168 rfl ?_
          refine z_zret (b := true) c_83_172 ?_
          rw [show sm_one tx ln at_ = some ((sp_here tx ln (at_ + 1), false, 0, some 0, true, 0), at_ + 2 + 1) by unfold sm_one; rw [e2, if_pos h93, e1, hd, hcg]]
          refine ⟨rfl, ⟨rfl, q93, ?_, q100, q101, q102, q103⟩, qs.tr (sm_jm rfl)⟩
          rw [mA_nu]
          refine ⟨?_, ?_, ?_, ?_, ?_, ?_⟩
          · exact q94
          · exact q95
          · exact q96
          · exact q97
          · first | rfl | exact (show (jm [(92, mW w ln ((at_ + 2) + 1) (n + 1) gd), (98, .inl (2, 40, .inl (jab (nu (nu (aB A) n false) n true))))] M1).1 98 = .inl (2, 40, .inl (jab (nu (nu (aB A) n false) n true))) from rfl).trans (by simp only [nu_nu])
          · exact q99
        · refine z_go 172 _ [.int (jn 0)] _ c_83_171 rfl ?_
          refine z_zret (b := false) c_83_172 ?_
          rw [show sm_one tx ln at_ = none by unfold sm_one; rw [e2, if_neg h93]]
          refine ⟨rfl, ⟨_, _, _, (nu A n (sp_here tx ln (at_ + 1), false, 0, some 0, true, 0)), _, _, _, _, rfl, q93, ?_, q100, q101, q102, q103⟩, qs.tr (sm_jm rfl)⟩
          rw [mA_nu]
          refine ⟨?_, ?_, ?_, ?_, ?_, ?_⟩
          · exact q94
          · exact q95
          · exact q96
          · exact q97
          · first | rfl | exact (show (jm [(92, mW w ln ((at_ + 2) + 1) (n + 1) gd), (98, .inl (2, 40, .inl (jab (nu (nu (aB A) n false) n true))))] M1).1 98 = .inl (2, 40, .inl (jab (nu (nu (aB A) n false) n true))) from rfl).trans (by simp only [nu_nu])
          · exact q99
theorem t_mat {d : Nat} {w : MW} {tx : Nat → Nat} {ln at_ n : Nat} {gd : Bool} {A : Nat → MA} {bm bk : Nat → Nat} {oa : Nat → Option Nat} {ol : Nat → Nat} {M : jx_M} {pt : Bool} (H : mRd M w tx ln at_ n gd A bm bk oa ol) (hn : n ≤ at_) (hl : ln ≤ 40) (ht : ∀ j, tx j < 127) (hat : at_ ≤ 41) : jZ (d + 3) 79 0 [some (.ref 92), some (.int (jb pt)), none] [] M (jMA M w tx ln n gd A bm bk oa ol (sm_at tx ln pt at_)) := by
  have H0 := H
  obtain ⟨h92, h93, ⟨h94, h95, h96, h97, h98, h99⟩, h100, h101, h102, h103⟩ := H
  have hc0 := sp_here_128 (tx := tx) (ln := ln) (p := at_) ht
  have hc1 := sp_here_128 (tx := tx) (ln := ln) (p := at_ + 1) ht
  have hc2 := sp_here_128 (tx := tx) (ln := ln) (p := at_ + 2) ht
  refine z_go 1 _ [.ref 92] _ c_79_0 rfl ?_
  refine z_go 2 _ [.ref 92, .ref 92] _ c_79_1 rfl ?_
  refine z_getf (v := .int (jn at_)) 5 c_79_2 rfl h92 rfl ?_
  refine z_callv 8 6 77 1 92 c_79_5 rfl ⟨Nat.le_of_ble_eq_true rfl, Nat.le_of_ble_eq_true rfl⟩ rfl h92 [.ref 92, .int (jn at_)] rfl rfl [some (.ref 92), some (.int (jn at_))] rfl rfl (t_mch h92 h93 hl (by omega)) ?_
  show jZ _ _ _ _ [.int (jn (sp_here tx ln (at_)))] _ _
  refine z_go 9 [some (.ref 92), some (.int (jb pt)), some (.int (jn (sp_here tx ln (at_))))] [] _ c_79_8 rfl ?_
  refine z_go 10 _ [.int (jn (sp_here tx ln (at_)))] _ c_79_9 rfl ?_
  refine z_call 13 80 1 c_79_10 rfl ⟨Nat.le_of_ble_eq_true rfl, Nat.le_of_ble_eq_true rfl⟩ [.int (jn (sp_here tx ln (at_)))] rfl rfl [some (.int (jn (sp_here tx ln (at_))))] rfl rfl (t_mpo (by omega)) ?_
  show jZ _ _ _ _ [.int (jo (sp_el (sp_here tx ln (at_))))] _ _
  cases hel : sp_el (sp_here tx ln (at_)) with
  | none =>
    show jZ _ _ _ _ [.int (jo none)] _ _
    refine z_iflt 34 16 c_79_13 rfl (jo_lt (by intro k q; cases q)) (fun hz => ?_) (fun hz => ?_)
    · refine z_go 35 _ [.int (jn (sp_here tx ln (at_)))] _ c_79_34 rfl ?_
      refine z_go 37 _ [.int (jn 99), .int (jn (sp_here tx ln (at_)))] _ c_79_35 rfl ?_
      refine z_ieq 58 40 c_79_37 rfl (jn_inj (by omega) (by omega)) (fun h99 => ?_) (fun h99 => ?_)
      · have har : sp_here tx ln (at_) = 99 ∨ sp_here tx ln (at_) = 110 ∨ sp_here tx ln (at_) = 111 ∨ sp_here tx ln (at_) = 115 := Or.inl h99
        have hlt : at_ < ln := here_pos (tx := tx) (by omega)
        refine z_go 59 _ [.ref 92] _ c_79_58 rfl ?_
        refine z_go 60 _ [.int (jn (sp_here tx ln (at_))), .ref 92] _ c_79_59 rfl ?_
        refine z_go 62 _ [.int (jn 32), .int (jn (sp_here tx ln (at_))), .ref 92] _ c_79_60 rfl ?_
        refine z_go 63 _ [.int ((jn (sp_here tx ln (at_))) - (jn 32)), .ref 92] _ c_79_62 rfl ?_
        refine z_v (jn_sub (by omega)) ?_
        refine z_go 64 _ [.int (jn 1), .int (jn ((sp_here tx ln (at_)) - 32)), .ref 92] _ c_79_63 rfl ?_
        refine z_callvV 67 6 81 2 92 c_79_64 rfl ⟨Nat.le_of_ble_eq_true rfl, Nat.le_of_ble_eq_true rfl⟩ rfl h92 [.ref 92, .int (jn ((sp_here tx ln (at_)) - 32)), .int (jb true)] rfl rfl [some (.ref 92), some (.int (jn ((sp_here tx ln (at_)) - 32))), some (.int (jb true)), none] rfl rfl (t_na (d := d + 2) H0 (by omega)) ?_
        intro M1 ⟨hQ, qs⟩
        obtain ⟨q92, q93, qA, q100, q101, q102, q103⟩ := hQ
        rw [mA_nu] at qA
        obtain ⟨q94, q95, q96, q97, q98, q99⟩ := qA
        show jZ _ _ _ _ [] _ _
        refine z_go 68 _ [.ref 92] _ c_79_67 rfl ?_
        refine z_go 69 _ [.ref 92, .ref 92] _ c_79_68 rfl ?_
        refine z_getf (v := .int (jn at_)) 72 c_79_69 rfl q92 rfl ?_
        refine z_go 73 _ [.int (jn 1), .int (jn at_), .ref 92] _ c_79_72 rfl ?_
        refine z_go 74 _ [.int ((jn at_) + (jn 1)), .ref 92] _ c_79_73 rfl ?_
        refine z_v (jn_add _ _) ?_
        refine z_putf (M' := jm [(92, mW w ln (at_ + 1) (n + 1) gd)] M1) 77 c_79_74 rfl q92 (rfl) (Nat.le_of_ble_eq_true rfl) rfl ?_
        refine z_go 78 _ [.int (jn 1)] _ c_79_77 rfl ?_
        refine z_zret (b := true) c_79_78 ?_
        rw [show sm_at tx ln pt at_ = some ((sp_here tx ln (at_) - 32, true, 0, some 0, false, 0), at_ + 1) by unfold sm_at; rw [hel]; dsimp only; rw [if_pos har]]
        refine ⟨rfl, ⟨rfl, q93, ?_, q100, q101, q102, q103⟩, qs.tr (sm_jm rfl)⟩
        rw [mA_nu]
        refine ⟨?_, ?_, ?_, ?_, ?_, ?_⟩
        · exact q94
        · exact q95
        · exact q96
        · exact q97
        · exact q98
        · exact q99
      · refine z_go 41 _ [.int (jn (sp_here tx ln (at_)))] _ c_79_40 rfl ?_
        refine z_go 43 _ [.int (jn 110), .int (jn (sp_here tx ln (at_)))] _ c_79_41 rfl ?_
        refine z_ieq 58 46 c_79_43 rfl (jn_inj (by omega) (by omega)) (fun h110 => ?_) (fun h110 => ?_)
        · have har : sp_here tx ln (at_) = 99 ∨ sp_here tx ln (at_) = 110 ∨ sp_here tx ln (at_) = 111 ∨ sp_here tx ln (at_) = 115 := Or.inr (Or.inl h110)
          have hlt : at_ < ln := here_pos (tx := tx) (by omega)
          refine z_go 59 _ [.ref 92] _ c_79_58 rfl ?_
          refine z_go 60 _ [.int (jn (sp_here tx ln (at_))), .ref 92] _ c_79_59 rfl ?_
          refine z_go 62 _ [.int (jn 32), .int (jn (sp_here tx ln (at_))), .ref 92] _ c_79_60 rfl ?_
          refine z_go 63 _ [.int ((jn (sp_here tx ln (at_))) - (jn 32)), .ref 92] _ c_79_62 rfl ?_
          refine z_v (jn_sub (by omega)) ?_
          refine z_go 64 _ [.int (jn 1), .int (jn ((sp_here tx ln (at_)) - 32)), .ref 92] _ c_79_63 rfl ?_
          refine z_callvV 67 6 81 2 92 c_79_64 rfl ⟨Nat.le_of_ble_eq_true rfl, Nat.le_of_ble_eq_true rfl⟩ rfl h92 [.ref 92, .int (jn ((sp_here tx ln (at_)) - 32)), .int (jb true)] rfl rfl [some (.ref 92), some (.int (jn ((sp_here tx ln (at_)) - 32))), some (.int (jb true)), none] rfl rfl (t_na (d := d + 2) H0 (by omega)) ?_
          intro M1 ⟨hQ, qs⟩
          obtain ⟨q92, q93, qA, q100, q101, q102, q103⟩ := hQ
          rw [mA_nu] at qA
          obtain ⟨q94, q95, q96, q97, q98, q99⟩ := qA
          show jZ _ _ _ _ [] _ _
          refine z_go 68 _ [.ref 92] _ c_79_67 rfl ?_
          refine z_go 69 _ [.ref 92, .ref 92] _ c_79_68 rfl ?_
          refine z_getf (v := .int (jn at_)) 72 c_79_69 rfl q92 rfl ?_
          refine z_go 73 _ [.int (jn 1), .int (jn at_), .ref 92] _ c_79_72 rfl ?_
          refine z_go 74 _ [.int ((jn at_) + (jn 1)), .ref 92] _ c_79_73 rfl ?_
          refine z_v (jn_add _ _) ?_
          refine z_putf (M' := jm [(92, mW w ln (at_ + 1) (n + 1) gd)] M1) 77 c_79_74 rfl q92 (rfl) (Nat.le_of_ble_eq_true rfl) rfl ?_
          refine z_go 78 _ [.int (jn 1)] _ c_79_77 rfl ?_
          refine z_zret (b := true) c_79_78 ?_
          rw [show sm_at tx ln pt at_ = some ((sp_here tx ln (at_) - 32, true, 0, some 0, false, 0), at_ + 1) by unfold sm_at; rw [hel]; dsimp only; rw [if_pos har]]
          refine ⟨rfl, ⟨rfl, q93, ?_, q100, q101, q102, q103⟩, qs.tr (sm_jm rfl)⟩
          rw [mA_nu]
          refine ⟨?_, ?_, ?_, ?_, ?_, ?_⟩
          · exact q94
          · exact q95
          · exact q96
          · exact q97
          · exact q98
          · exact q99
        · refine z_go 47 _ [.int (jn (sp_here tx ln (at_)))] _ c_79_46 rfl ?_
          refine z_go 49 _ [.int (jn 111), .int (jn (sp_here tx ln (at_)))] _ c_79_47 rfl ?_
          refine z_ieq 58 52 c_79_49 rfl (jn_inj (by omega) (by omega)) (fun h111 => ?_) (fun h111 => ?_)
          · have har : sp_here tx ln (at_) = 99 ∨ sp_here tx ln (at_) = 110 ∨ sp_here tx ln (at_) = 111 ∨ sp_here tx ln (at_) = 115 := Or.inr (Or.inr (Or.inl h111))
            have hlt : at_ < ln := here_pos (tx := tx) (by omega)
            refine z_go 59 _ [.ref 92] _ c_79_58 rfl ?_
            refine z_go 60 _ [.int (jn (sp_here tx ln (at_))), .ref 92] _ c_79_59 rfl ?_
            refine z_go 62 _ [.int (jn 32), .int (jn (sp_here tx ln (at_))), .ref 92] _ c_79_60 rfl ?_
            refine z_go 63 _ [.int ((jn (sp_here tx ln (at_))) - (jn 32)), .ref 92] _ c_79_62 rfl ?_
            refine z_v (jn_sub (by omega)) ?_
            refine z_go 64 _ [.int (jn 1), .int (jn ((sp_here tx ln (at_)) - 32)), .ref 92] _ c_79_63 rfl ?_
            refine z_callvV 67 6 81 2 92 c_79_64 rfl ⟨Nat.le_of_ble_eq_true rfl, Nat.le_of_ble_eq_true rfl⟩ rfl h92 [.ref 92, .int (jn ((sp_here tx ln (at_)) - 32)), .int (jb true)] rfl rfl [some (.ref 92), some (.int (jn ((sp_here tx ln (at_)) - 32))), some (.int (jb true)), none] rfl rfl (t_na (d := d + 2) H0 (by omega)) ?_
            intro M1 ⟨hQ, qs⟩
            obtain ⟨q92, q93, qA, q100, q101, q102, q103⟩ := hQ
            rw [mA_nu] at qA
            obtain ⟨q94, q95, q96, q97, q98, q99⟩ := qA
            show jZ _ _ _ _ [] _ _
            refine z_go 68 _ [.ref 92] _ c_79_67 rfl ?_
            refine z_go 69 _ [.ref 92, .ref 92] _ c_79_68 rfl ?_
            refine z_getf (v := .int (jn at_)) 72 c_79_69 rfl q92 rfl ?_
            refine z_go 73 _ [.int (jn 1), .int (jn at_), .ref 92] _ c_79_72 rfl ?_
            refine z_go 74 _ [.int ((jn at_) + (jn 1)), .ref 92] _ c_79_73 rfl ?_
            refine z_v (jn_add _ _) ?_
            refine z_putf (M' := jm [(92, mW w ln (at_ + 1) (n + 1) gd)] M1) 77 c_79_74 rfl q92 (rfl) (Nat.le_of_ble_eq_true rfl) rfl ?_
            refine z_go 78 _ [.int (jn 1)] _ c_79_77 rfl ?_
            refine z_zret (b := true) c_79_78 ?_
            rw [show sm_at tx ln pt at_ = some ((sp_here tx ln (at_) - 32, true, 0, some 0, false, 0), at_ + 1) by unfold sm_at; rw [hel]; dsimp only; rw [if_pos har]]
            refine ⟨rfl, ⟨rfl, q93, ?_, q100, q101, q102, q103⟩, qs.tr (sm_jm rfl)⟩
            rw [mA_nu]
            refine ⟨?_, ?_, ?_, ?_, ?_, ?_⟩
            · exact q94
            · exact q95
            · exact q96
            · exact q97
            · exact q98
            · exact q99
          · refine z_go 53 _ [.int (jn (sp_here tx ln (at_)))] _ c_79_52 rfl ?_
            refine z_go 55 _ [.int (jn 115), .int (jn (sp_here tx ln (at_)))] _ c_79_53 rfl ?_
            refine z_ine 79 58 c_79_55 rfl (jn_inj (by omega) (by omega)) (fun h115 => ?_) (fun h115 => ?_)
            · have har : sp_here tx ln (at_) = 99 ∨ sp_here tx ln (at_) = 110 ∨ sp_here tx ln (at_) = 111 ∨ sp_here tx ln (at_) = 115 := Or.inr (Or.inr (Or.inr h115))
              have hlt : at_ < ln := here_pos (tx := tx) (by omega)
              refine z_go 59 _ [.ref 92] _ c_79_58 rfl ?_
              refine z_go 60 _ [.int (jn (sp_here tx ln (at_))), .ref 92] _ c_79_59 rfl ?_
              refine z_go 62 _ [.int (jn 32), .int (jn (sp_here tx ln (at_))), .ref 92] _ c_79_60 rfl ?_
              refine z_go 63 _ [.int ((jn (sp_here tx ln (at_))) - (jn 32)), .ref 92] _ c_79_62 rfl ?_
              refine z_v (jn_sub (by omega)) ?_
              refine z_go 64 _ [.int (jn 1), .int (jn ((sp_here tx ln (at_)) - 32)), .ref 92] _ c_79_63 rfl ?_
              refine z_callvV 67 6 81 2 92 c_79_64 rfl ⟨Nat.le_of_ble_eq_true rfl, Nat.le_of_ble_eq_true rfl⟩ rfl h92 [.ref 92, .int (jn ((sp_here tx ln (at_)) - 32)), .int (jb true)] rfl rfl [some (.ref 92), some (.int (jn ((sp_here tx ln (at_)) - 32))), some (.int (jb true)), none] rfl rfl (t_na (d := d + 2) H0 (by omega)) ?_
              intro M1 ⟨hQ, qs⟩
              obtain ⟨q92, q93, qA, q100, q101, q102, q103⟩ := hQ
              rw [mA_nu] at qA
              obtain ⟨q94, q95, q96, q97, q98, q99⟩ := qA
              show jZ _ _ _ _ [] _ _
              refine z_go 68 _ [.ref 92] _ c_79_67 rfl ?_
              refine z_go 69 _ [.ref 92, .ref 92] _ c_79_68 rfl ?_
              refine z_getf (v := .int (jn at_)) 72 c_79_69 rfl q92 rfl ?_
              refine z_go 73 _ [.int (jn 1), .int (jn at_), .ref 92] _ c_79_72 rfl ?_
              refine z_go 74 _ [.int ((jn at_) + (jn 1)), .ref 92] _ c_79_73 rfl ?_
              refine z_v (jn_add _ _) ?_
              refine z_putf (M' := jm [(92, mW w ln (at_ + 1) (n + 1) gd)] M1) 77 c_79_74 rfl q92 (rfl) (Nat.le_of_ble_eq_true rfl) rfl ?_
              refine z_go 78 _ [.int (jn 1)] _ c_79_77 rfl ?_
              refine z_zret (b := true) c_79_78 ?_
              rw [show sm_at tx ln pt at_ = some ((sp_here tx ln (at_) - 32, true, 0, some 0, false, 0), at_ + 1) by unfold sm_at; rw [hel]; dsimp only; rw [if_pos har]]
              refine ⟨rfl, ⟨rfl, q93, ?_, q100, q101, q102, q103⟩, qs.tr (sm_jm rfl)⟩
              rw [mA_nu]
              refine ⟨?_, ?_, ?_, ?_, ?_, ?_⟩
              · exact q94
              · exact q95
              · exact q96
              · exact q97
              · exact q98
              · exact q99
            · have nar : ¬ (sp_here tx ln (at_) = 99 ∨ sp_here tx ln (at_) = 110 ∨ sp_here tx ln (at_) = 111 ∨ sp_here tx ln (at_) = 115) := by omega
              refine z_go 80 _ [.int (jn (sp_here tx ln (at_)))] _ c_79_79 rfl ?_
              refine z_go 82 _ [.int (jn 42), .int (jn (sp_here tx ln (at_)))] _ c_79_80 rfl ?_
              refine z_ine 121 85 c_79_82 rfl (jn_inj (by omega) (by omega)) (fun h42 => ?_) (fun h42 => ?_)
              · refine z_go 86 _ [.int (jb pt)] _ c_79_85 rfl ?_
                refine z_ifeq 121 89 c_79_86 rfl jb_t (fun hp0 => ?_) (fun hp0 => ?_)
                · refine z_go 122 _ [.int (jn (sp_here tx ln (at_)))] _ c_79_121 rfl ?_
                  refine z_go 124 _ [.int (jn 91), .int (jn (sp_here tx ln (at_)))] _ c_79_122 rfl ?_
                  refine z_ine 183 127 c_79_124 rfl (jn_inj (by omega) (by omega)) (fun h91 => ?_) (fun h91 => ?_)
                  · have hlt : at_ < ln := here_pos (tx := tx) (by omega)
                    refine z_go 128 _ [.ref 92] _ c_79_127 rfl ?_
                    refine z_go 129 _ [.ref 92, .ref 92] _ c_79_128 rfl ?_
                    refine z_getf (v := .int (jn at_)) 132 c_79_129 rfl h92 rfl ?_
                    refine z_go 133 _ [.int (jn 1), .int (jn at_), .ref 92] _ c_79_132 rfl ?_
                    refine z_go 134 _ [.int ((jn at_) + (jn 1)), .ref 92] _ c_79_133 rfl ?_
                    refine z_v (jn_add _ _) ?_
                    refine z_callv 137 6 77 1 92 c_79_134 rfl ⟨Nat.le_of_ble_eq_true rfl, Nat.le_of_ble_eq_true rfl⟩ rfl h92 [.ref 92, .int (jn (at_ + 1))] rfl rfl [some (.ref 92), some (.int (jn (at_ + 1)))] rfl rfl (t_mch h92 h93 hl (by omega)) ?_
                    show jZ _ _ _ _ [.int (jn (sp_here tx ln (at_ + 1)))] _ _
                    refine z_call 140 80 1 c_79_137 rfl ⟨Nat.le_of_ble_eq_true rfl, Nat.le_of_ble_eq_true rfl⟩ [.int (jn (sp_here tx ln (at_ + 1)))] rfl rfl [some (.int (jn (sp_here tx ln (at_ + 1))))] rfl rfl (t_mpo (by omega)) ?_
                    show jZ _ _ _ _ [.int (jo (sp_el (sp_here tx ln (at_ + 1))))] _ _
                    cases hx : sp_el (sp_here tx ln (at_ + 1)) with
                    | none =>
                      show jZ _ _ _ _ [.int (jo none)] _ _
                      refine z_iflt 183 143 c_79_140 rfl (jo_lt (by intro k q; cases q)) (fun hz2 => ?_) (fun hz2 => ?_)
                      · refine z_go 184 _ [.int (jn 0)] _ c_79_183 rfl ?_
                        refine z_zret (b := false) c_79_184 ?_
                        rw [show sm_at tx ln pt at_ = none by unfold sm_at; rw [hel]; dsimp only; rw [if_neg nar, if_neg (fun q => by rw [hp0] at q; cases q.2), if_pos h91, hx]]
                        exact ⟨rfl, ⟨_, _, _, _, _, _, _, _, H0⟩, sm_r _ _ M⟩
                      · exact absurd rfl hz2
                    | some x1 =>
                      have h5x := sp_el_lt5 hx
                      show jZ _ _ _ _ [.int (jn x1)] _ _
                      refine z_iflt 183 143 c_79_140 rfl (jn_nl (by omega)) (fun hz2 => ?_) (fun hz2 => ?_)
                      · exact hz2.elim
                      · refine z_go 144 _ [.int (jb pt)] _ c_79_143 rfl ?_
                        refine z_ifeq 172 147 c_79_144 rfl jb_t (fun hpt => ?_) (fun hpt => ?_)
                        · refine z_go 173 _ [.ref 92] _ c_79_172 rfl ?_
                          have hcal := t_one (d := d) H0 (by omega) hl ht (by omega)
                          have e9 : sm_at tx ln pt at_ = sm_one tx ln at_ := by unfold sm_at; rw [hel]; dsimp only; rw [if_neg nar, if_neg (fun q => by rw [hp0] at q; cases q.2), if_pos h91, hx]; dsimp only; rw [if_neg (fun q => by rw [hpt] at q; cases q.1)]
                          rw [e9]
                          cases hsp : sm_one tx ln at_ with
                          | none =>
                            rw [hsp] at hcal
                            refine z_callvV 176 6 83 0 92 c_79_173 rfl ⟨Nat.le_of_ble_eq_true rfl, Nat.le_of_ble_eq_true rfl⟩ rfl h92 [.ref 92] rfl rfl [some (.ref 92), none] rfl rfl (hcal) ?_
                            intro M1 ⟨g1, g2⟩
                            show jZ _ _ _ _ [.int (jb false)] _ _
                            refine z_ifeq 183 179 c_79_176 rfl jb_t (fun _ => ?_) (fun h => absurd rfl h)
                            refine z_go 184 _ [.int (jn 0)] _ c_79_183 rfl ?_
                            refine z_zret (b := false) c_79_184 ?_
                            exact ⟨rfl, g1, g2⟩
                          | some mq =>
                            obtain ⟨m, q⟩ := mq
                            rw [hsp] at hcal
                            refine z_callvV 176 6 83 0 92 c_79_173 rfl ⟨Nat.le_of_ble_eq_true rfl, Nat.le_of_ble_eq_true rfl⟩ rfl h92 [.ref 92] rfl rfl [some (.ref 92), none] rfl rfl (hcal) ?_
                            intro M1 ⟨g1, g2⟩
                            show jZ _ _ _ _ [.int (jb true)] _ _
                            refine z_ifeq 183 179 c_79_176 rfl jb_t (fun h => absurd h (by decide)) (fun _ => ?_)
                            refine z_go 180 _ [.int (jn 1)] _ c_79_179 rfl ?_
                            refine z_go 184 _ [.int (jn 1)] _ c_79_180 rfl ?_
                            refine z_zret (b := true) c_79_184 ?_
                            exact ⟨rfl, g1, g2⟩
                        · have hpt1 : pt = true := by cases pt <;> simp_all
                          refine z_go 148 _ [.ref 92] _ c_79_147 rfl ?_
                          refine z_go 149 _ [.ref 92, .ref 92] _ c_79_148 rfl ?_
                          refine z_getf (v := .int (jn at_)) 152 c_79_149 rfl h92 rfl ?_
                          refine z_go 153 _ [.int (jn 2), .int (jn at_), .ref 92] _ c_79_152 rfl ?_
                          refine z_go 154 _ [.int ((jn at_) + (jn 2)), .ref 92] _ c_79_153 rfl ?_
                          refine z_v (jn_add _ _) ?_
                          refine z_callv 157 6 77 1 92 c_79_154 rfl ⟨Nat.le_of_ble_eq_true rfl, Nat.le_of_ble_eq_true rfl⟩ rfl h92 [.ref 92, .int (jn (at_ + 2))] rfl rfl [some (.ref 92), some (.int (jn (at_ + 2)))] rfl rfl (t_mch h92 h93 hl (by omega)) ?_
                          show jZ _ _ _ _ [.int (jn (sp_here tx ln (at_ + 2)))] _ _
                          refine z_go 159 _ [.int (jn 44), .int (jn (sp_here tx ln (at_ + 2)))] _ c_79_157 rfl ?_
                          refine z_ine 172 162 c_79_159 rfl (jn_inj (by omega) (by omega)) (fun h44 => ?_) (fun h44 => ?_)
                          · refine z_go 163 _ [.ref 92] _ c_79_162 rfl ?_
                            have hcal := t_sev (d := d) H0 (by omega) hl ht (by omega) hx
                            have e9 : sm_at tx ln pt at_ = sm_sev tx ln at_ x1 := by unfold sm_at; rw [hel]; dsimp only; rw [if_neg nar, if_neg (fun q => by rw [hp0] at q; cases q.2), if_pos h91, hx]; dsimp only; rw [if_pos ⟨hpt1, h44⟩]
                            rw [e9]
                            cases hsp : sm_sev tx ln at_ x1 with
                            | none =>
                              rw [hsp] at hcal
                              refine z_callvV 166 6 82 0 92 c_79_163 rfl ⟨Nat.le_of_ble_eq_true rfl, Nat.le_of_ble_eq_true rfl⟩ rfl h92 [.ref 92] rfl rfl [some (.ref 92), none, none, none] rfl rfl (hcal) ?_
                              intro M1 ⟨g1, g2⟩
                              show jZ _ _ _ _ [.int (jb false)] _ _
                              refine z_ifeq 183 169 c_79_166 rfl jb_t (fun _ => ?_) (fun h => absurd rfl h)
                              refine z_go 184 _ [.int (jn 0)] _ c_79_183 rfl ?_
                              refine z_zret (b := false) c_79_184 ?_
                              exact ⟨rfl, g1, g2⟩
                            | some mq =>
                              obtain ⟨m, q⟩ := mq
                              rw [hsp] at hcal
                              refine z_callvV 166 6 82 0 92 c_79_163 rfl ⟨Nat.le_of_ble_eq_true rfl, Nat.le_of_ble_eq_true rfl⟩ rfl h92 [.ref 92] rfl rfl [some (.ref 92), none, none, none] rfl rfl (hcal) ?_
                              intro M1 ⟨g1, g2⟩
                              show jZ _ _ _ _ [.int (jb true)] _ _
                              refine z_ifeq 183 169 c_79_166 rfl jb_t (fun h => absurd h (by decide)) (fun _ => ?_)
                              refine z_go 179 _ [] _ c_79_169 rfl ?_
                              refine z_go 180 _ [.int (jn 1)] _ c_79_179 rfl ?_
                              refine z_go 184 _ [.int (jn 1)] _ c_79_180 rfl ?_
                              refine z_zret (b := true) c_79_184 ?_
                              exact ⟨rfl, g1, g2⟩
                          · refine z_go 173 _ [.ref 92] _ c_79_172 rfl ?_
                            have hcal := t_one (d := d) H0 (by omega) hl ht (by omega)
                            have e9 : sm_at tx ln pt at_ = sm_one tx ln at_ := by unfold sm_at; rw [hel]; dsimp only; rw [if_neg nar, if_neg (fun q => by rw [hp0] at q; cases q.2), if_pos h91, hx]; dsimp only; rw [if_neg (fun q => h44 q.2)]
                            rw [e9]
                            cases hsp : sm_one tx ln at_ with
                            | none =>
                              rw [hsp] at hcal
                              refine z_callvV 176 6 83 0 92 c_79_173 rfl ⟨Nat.le_of_ble_eq_true rfl, Nat.le_of_ble_eq_true rfl⟩ rfl h92 [.ref 92] rfl rfl [some (.ref 92), none] rfl rfl (hcal) ?_
                              intro M1 ⟨g1, g2⟩
                              show jZ _ _ _ _ [.int (jb false)] _ _
                              refine z_ifeq 183 179 c_79_176 rfl jb_t (fun _ => ?_) (fun h => absurd rfl h)
                              refine z_go 184 _ [.int (jn 0)] _ c_79_183 rfl ?_
                              refine z_zret (b := false) c_79_184 ?_
                              exact ⟨rfl, g1, g2⟩
                            | some mq =>
                              obtain ⟨m, q⟩ := mq
                              rw [hsp] at hcal
                              refine z_callvV 176 6 83 0 92 c_79_173 rfl ⟨Nat.le_of_ble_eq_true rfl, Nat.le_of_ble_eq_true rfl⟩ rfl h92 [.ref 92] rfl rfl [some (.ref 92), none] rfl rfl (hcal) ?_
                              intro M1 ⟨g1, g2⟩
                              show jZ _ _ _ _ [.int (jb true)] _ _
                              refine z_ifeq 183 179 c_79_176 rfl jb_t (fun h => absurd h (by decide)) (fun _ => ?_)
                              refine z_go 180 _ [.int (jn 1)] _ c_79_179 rfl ?_
                              refine z_go 184 _ [.int (jn 1)] _ c_79_180 rfl ?_
                              refine z_zret (b := true) c_79_184 ?_
                              exact ⟨rfl, g1, g2⟩
                  · refine z_go 184 _ [.int (jn 0)] _ c_79_183 rfl ?_
                    refine z_zret (b := false) c_79_184 ?_
                    rw [show sm_at tx ln pt at_ = none by unfold sm_at; rw [hel]; dsimp only; rw [if_neg nar, if_neg (fun q => by rw [hp0] at q; cases q.2), if_neg h91]]
                    exact ⟨rfl, ⟨_, _, _, _, _, _, _, _, H0⟩, sm_r _ _ M⟩
                · have hpt1 : pt = true := by cases pt <;> simp_all
                  have hlt : at_ < ln := here_pos (tx := tx) (by omega)
                  refine z_go 90 _ [.ref 92] _ c_79_89 rfl ?_
                  refine z_go 92 _ [.int (jn 42), .ref 92] _ c_79_90 rfl ?_
                  refine z_go 93 _ [.int (jn 0), .int (jn 42), .ref 92] _ c_79_92 rfl ?_
                  refine z_callvV 96 6 81 2 92 c_79_93 rfl ⟨Nat.le_of_ble_eq_true rfl, Nat.le_of_ble_eq_true rfl⟩ rfl h92 [.ref 92, .int (jn 42), .int (jb false)] rfl rfl [some (.ref 92), some (.int (jn 42)), some (.int (jb false)), none] rfl rfl (t_na (d := d + 2) H0 (by omega)) ?_
                  intro M1 ⟨hQ, qs⟩
                  obtain ⟨q92, q93, qA, q100, q101, q102, q103⟩ := hQ
                  rw [mA_nu] at qA
                  obtain ⟨q94, q95, q96, q97, q98, q99⟩ := qA
                  show jZ _ _ _ _ [] _ _
                  refine z_go 97 _ [.ref 92] _ c_79_96 rfl ?_
                  refine z_getf (v := .ref 99) 100 c_79_97 rfl q92 rfl ?_
                  refine z_go 101 _ [.ref 92, .ref 99] _ c_79_100 rfl ?_
                  refine z_getf (v := .int (jn (n + 1))) 104 c_79_101 rfl q92 rfl ?_
                  refine z_go 105 _ [.int (jn 1), .int (jn (n + 1)), .ref 99] _ c_79_104 rfl ?_
                  refine z_go 106 _ [.int ((jn (n + 1)) - (jn 1)), .ref 99] _ c_79_105 rfl ?_
                  refine z_v (jn_sub (by omega)) ?_
                  refine z_v (by rw [Nat.add_sub_cancel]) ?_
                  refine z_go 108 _ [.int (jn 63), .int (jn n), .ref 99] _ c_79_106 rfl ?_
                  refine z_iast (M' := jm [(99, .inl (0, 40, .inl (ja (nu (nu (aL A) n 0) n 63))))] M1) 109 c_79_108 rfl q99 (by omega) (by omega) (by rw [ja_upd]; exact rfl) ?_
                  refine z_go 110 _ [.ref 92] _ c_79_109 rfl ?_
                  refine z_go 111 _ [.ref 92, .ref 92] _ c_79_110 rfl ?_
                  refine z_getf (v := .int (jn at_)) 114 c_79_111 rfl q92 rfl ?_
                  refine z_go 115 _ [.int (jn 1), .int (jn at_), .ref 92] _ c_79_114 rfl ?_
                  refine z_go 116 _ [.int ((jn at_) + (jn 1)), .ref 92] _ c_79_115 rfl ?_
                  refine z_v (jn_add _ _) ?_
                  refine z_putf (M' := jm [(92, mW w ln (at_ + 1) (n + 1) gd), (99, .inl (0, 40, .inl (ja (nu (nu (aL A) n 0) n 63))))] M1) 119 c_79_116 rfl q92 (rfl) (Nat.le_of_ble_eq_true rfl) rfl ?_
                  refine z_go 120 _ [.int (jn 1)] _ c_79_119 rfl ?_
                  refine z_zret (b := true) c_79_120 ?_
                  rw [show sm_at tx ln pt at_ = some ((42, false, 0, some 0, false, 63), at_ + 1) by unfold sm_at; rw [hel]; dsimp only; rw [if_neg nar, if_pos ⟨h42, hpt1⟩]]
                  refine ⟨rfl, ⟨rfl, q93, ?_, q100, q101, q102, q103⟩, qs.tr (sm_jm rfl)⟩
                  rw [mA_nu]
                  refine ⟨?_, ?_, ?_, ?_, ?_, ?_⟩
                  · exact q94
                  · exact q95
                  · exact q96
                  · exact q97
                  · exact q98
                  · first | rfl | exact (show (jm [(92, mW w ln (at_ + 1) (n + 1) gd), (99, .inl (0, 40, .inl (ja (nu (nu (aL A) n 0) n 63))))] M1).1 99 = .inl (0, 40, .inl (ja (nu (nu (aL A) n 0) n 63))) from rfl).trans (by simp only [nu_nu])
              · refine z_go 122 _ [.int (jn (sp_here tx ln (at_)))] _ c_79_121 rfl ?_
                refine z_go 124 _ [.int (jn 91), .int (jn (sp_here tx ln (at_)))] _ c_79_122 rfl ?_
                refine z_ine 183 127 c_79_124 rfl (jn_inj (by omega) (by omega)) (fun h91 => ?_) (fun h91 => ?_)
                · have hlt : at_ < ln := here_pos (tx := tx) (by omega)
                  refine z_go 128 _ [.ref 92] _ c_79_127 rfl ?_
                  refine z_go 129 _ [.ref 92, .ref 92] _ c_79_128 rfl ?_
                  refine z_getf (v := .int (jn at_)) 132 c_79_129 rfl h92 rfl ?_
                  refine z_go 133 _ [.int (jn 1), .int (jn at_), .ref 92] _ c_79_132 rfl ?_
                  refine z_go 134 _ [.int ((jn at_) + (jn 1)), .ref 92] _ c_79_133 rfl ?_
                  refine z_v (jn_add _ _) ?_
                  refine z_callv 137 6 77 1 92 c_79_134 rfl ⟨Nat.le_of_ble_eq_true rfl, Nat.le_of_ble_eq_true rfl⟩ rfl h92 [.ref 92, .int (jn (at_ + 1))] rfl rfl [some (.ref 92), some (.int (jn (at_ + 1)))] rfl rfl (t_mch h92 h93 hl (by omega)) ?_
                  show jZ _ _ _ _ [.int (jn (sp_here tx ln (at_ + 1)))] _ _
                  refine z_call 140 80 1 c_79_137 rfl ⟨Nat.le_of_ble_eq_true rfl, Nat.le_of_ble_eq_true rfl⟩ [.int (jn (sp_here tx ln (at_ + 1)))] rfl rfl [some (.int (jn (sp_here tx ln (at_ + 1))))] rfl rfl (t_mpo (by omega)) ?_
                  show jZ _ _ _ _ [.int (jo (sp_el (sp_here tx ln (at_ + 1))))] _ _
                  cases hx : sp_el (sp_here tx ln (at_ + 1)) with
                  | none =>
                    show jZ _ _ _ _ [.int (jo none)] _ _
                    refine z_iflt 183 143 c_79_140 rfl (jo_lt (by intro k q; cases q)) (fun hz2 => ?_) (fun hz2 => ?_)
                    · refine z_go 184 _ [.int (jn 0)] _ c_79_183 rfl ?_
                      refine z_zret (b := false) c_79_184 ?_
                      rw [show sm_at tx ln pt at_ = none by unfold sm_at; rw [hel]; dsimp only; rw [if_neg nar, if_neg (fun q => h42 q.1), if_pos h91, hx]]
                      exact ⟨rfl, ⟨_, _, _, _, _, _, _, _, H0⟩, sm_r _ _ M⟩
                    · exact absurd rfl hz2
                  | some x1 =>
                    have h5x := sp_el_lt5 hx
                    show jZ _ _ _ _ [.int (jn x1)] _ _
                    refine z_iflt 183 143 c_79_140 rfl (jn_nl (by omega)) (fun hz2 => ?_) (fun hz2 => ?_)
                    · exact hz2.elim
                    · refine z_go 144 _ [.int (jb pt)] _ c_79_143 rfl ?_
                      refine z_ifeq 172 147 c_79_144 rfl jb_t (fun hpt => ?_) (fun hpt => ?_)
                      · refine z_go 173 _ [.ref 92] _ c_79_172 rfl ?_
                        have hcal := t_one (d := d) H0 (by omega) hl ht (by omega)
                        have e9 : sm_at tx ln pt at_ = sm_one tx ln at_ := by unfold sm_at; rw [hel]; dsimp only; rw [if_neg nar, if_neg (fun q => h42 q.1), if_pos h91, hx]; dsimp only; rw [if_neg (fun q => by rw [hpt] at q; cases q.1)]
                        rw [e9]
                        cases hsp : sm_one tx ln at_ with
                        | none =>
                          rw [hsp] at hcal
                          refine z_callvV 176 6 83 0 92 c_79_173 rfl ⟨Nat.le_of_ble_eq_true rfl, Nat.le_of_ble_eq_true rfl⟩ rfl h92 [.ref 92] rfl rfl [some (.ref 92), none] rfl rfl (hcal) ?_
                          intro M1 ⟨g1, g2⟩
                          show jZ _ _ _ _ [.int (jb false)] _ _
                          refine z_ifeq 183 179 c_79_176 rfl jb_t (fun _ => ?_) (fun h => absurd rfl h)
                          refine z_go 184 _ [.int (jn 0)] _ c_79_183 rfl ?_
                          refine z_zret (b := false) c_79_184 ?_
                          exact ⟨rfl, g1, g2⟩
                        | some mq =>
                          obtain ⟨m, q⟩ := mq
                          rw [hsp] at hcal
                          refine z_callvV 176 6 83 0 92 c_79_173 rfl ⟨Nat.le_of_ble_eq_true rfl, Nat.le_of_ble_eq_true rfl⟩ rfl h92 [.ref 92] rfl rfl [some (.ref 92), none] rfl rfl (hcal) ?_
                          intro M1 ⟨g1, g2⟩
                          show jZ _ _ _ _ [.int (jb true)] _ _
                          refine z_ifeq 183 179 c_79_176 rfl jb_t (fun h => absurd h (by decide)) (fun _ => ?_)
                          refine z_go 180 _ [.int (jn 1)] _ c_79_179 rfl ?_
                          refine z_go 184 _ [.int (jn 1)] _ c_79_180 rfl ?_
                          refine z_zret (b := true) c_79_184 ?_
                          exact ⟨rfl, g1, g2⟩
                      · have hpt1 : pt = true := by cases pt <;> simp_all
                        refine z_go 148 _ [.ref 92] _ c_79_147 rfl ?_
                        refine z_go 149 _ [.ref 92, .ref 92] _ c_79_148 rfl ?_
                        refine z_getf (v := .int (jn at_)) 152 c_79_149 rfl h92 rfl ?_
                        refine z_go 153 _ [.int (jn 2), .int (jn at_), .ref 92] _ c_79_152 rfl ?_
                        refine z_go 154 _ [.int ((jn at_) + (jn 2)), .ref 92] _ c_79_153 rfl ?_
                        refine z_v (jn_add _ _) ?_
                        refine z_callv 157 6 77 1 92 c_79_154 rfl ⟨Nat.le_of_ble_eq_true rfl, Nat.le_of_ble_eq_true rfl⟩ rfl h92 [.ref 92, .int (jn (at_ + 2))] rfl rfl [some (.ref 92), some (.int (jn (at_ + 2)))] rfl rfl (t_mch h92 h93 hl (by omega)) ?_
                        show jZ _ _ _ _ [.int (jn (sp_here tx ln (at_ + 2)))] _ _
                        refine z_go 159 _ [.int (jn 44), .int (jn (sp_here tx ln (at_ + 2)))] _ c_79_157 rfl ?_
                        refine z_ine 172 162 c_79_159 rfl (jn_inj (by omega) (by omega)) (fun h44 => ?_) (fun h44 => ?_)
                        · refine z_go 163 _ [.ref 92] _ c_79_162 rfl ?_
                          have hcal := t_sev (d := d) H0 (by omega) hl ht (by omega) hx
                          have e9 : sm_at tx ln pt at_ = sm_sev tx ln at_ x1 := by unfold sm_at; rw [hel]; dsimp only; rw [if_neg nar, if_neg (fun q => h42 q.1), if_pos h91, hx]; dsimp only; rw [if_pos ⟨hpt1, h44⟩]
                          rw [e9]
                          cases hsp : sm_sev tx ln at_ x1 with
                          | none =>
                            rw [hsp] at hcal
                            refine z_callvV 166 6 82 0 92 c_79_163 rfl ⟨Nat.le_of_ble_eq_true rfl, Nat.le_of_ble_eq_true rfl⟩ rfl h92 [.ref 92] rfl rfl [some (.ref 92), none, none, none] rfl rfl (hcal) ?_
                            intro M1 ⟨g1, g2⟩
                            show jZ _ _ _ _ [.int (jb false)] _ _
                            refine z_ifeq 183 169 c_79_166 rfl jb_t (fun _ => ?_) (fun h => absurd rfl h)
                            refine z_go 184 _ [.int (jn 0)] _ c_79_183 rfl ?_
                            refine z_zret (b := false) c_79_184 ?_
                            exact ⟨rfl, g1, g2⟩
                          | some mq =>
                            obtain ⟨m, q⟩ := mq
                            rw [hsp] at hcal
                            refine z_callvV 166 6 82 0 92 c_79_163 rfl ⟨Nat.le_of_ble_eq_true rfl, Nat.le_of_ble_eq_true rfl⟩ rfl h92 [.ref 92] rfl rfl [some (.ref 92), none, none, none] rfl rfl (hcal) ?_
                            intro M1 ⟨g1, g2⟩
                            show jZ _ _ _ _ [.int (jb true)] _ _
                            refine z_ifeq 183 169 c_79_166 rfl jb_t (fun h => absurd h (by decide)) (fun _ => ?_)
                            refine z_go 179 _ [] _ c_79_169 rfl ?_
                            refine z_go 180 _ [.int (jn 1)] _ c_79_179 rfl ?_
                            refine z_go 184 _ [.int (jn 1)] _ c_79_180 rfl ?_
                            refine z_zret (b := true) c_79_184 ?_
                            exact ⟨rfl, g1, g2⟩
                        · refine z_go 173 _ [.ref 92] _ c_79_172 rfl ?_
                          have hcal := t_one (d := d) H0 (by omega) hl ht (by omega)
                          have e9 : sm_at tx ln pt at_ = sm_one tx ln at_ := by unfold sm_at; rw [hel]; dsimp only; rw [if_neg nar, if_neg (fun q => h42 q.1), if_pos h91, hx]; dsimp only; rw [if_neg (fun q => h44 q.2)]
                          rw [e9]
                          cases hsp : sm_one tx ln at_ with
                          | none =>
                            rw [hsp] at hcal
                            refine z_callvV 176 6 83 0 92 c_79_173 rfl ⟨Nat.le_of_ble_eq_true rfl, Nat.le_of_ble_eq_true rfl⟩ rfl h92 [.ref 92] rfl rfl [some (.ref 92), none] rfl rfl (hcal) ?_
                            intro M1 ⟨g1, g2⟩
                            show jZ _ _ _ _ [.int (jb false)] _ _
                            refine z_ifeq 183 179 c_79_176 rfl jb_t (fun _ => ?_) (fun h => absurd rfl h)
                            refine z_go 184 _ [.int (jn 0)] _ c_79_183 rfl ?_
                            refine z_zret (b := false) c_79_184 ?_
                            exact ⟨rfl, g1, g2⟩
                          | some mq =>
                            obtain ⟨m, q⟩ := mq
                            rw [hsp] at hcal
                            refine z_callvV 176 6 83 0 92 c_79_173 rfl ⟨Nat.le_of_ble_eq_true rfl, Nat.le_of_ble_eq_true rfl⟩ rfl h92 [.ref 92] rfl rfl [some (.ref 92), none] rfl rfl (hcal) ?_
                            intro M1 ⟨g1, g2⟩
                            show jZ _ _ _ _ [.int (jb true)] _ _
                            refine z_ifeq 183 179 c_79_176 rfl jb_t (fun h => absurd h (by decide)) (fun _ => ?_)
                            refine z_go 180 _ [.int (jn 1)] _ c_79_179 rfl ?_
                            refine z_go 184 _ [.int (jn 1)] _ c_79_180 rfl ?_
                            refine z_zret (b := true) c_79_184 ?_
                            exact ⟨rfl, g1, g2⟩
                · refine z_go 184 _ [.int (jn 0)] _ c_79_183 rfl ?_
                  refine z_zret (b := false) c_79_184 ?_
                  rw [show sm_at tx ln pt at_ = none by unfold sm_at; rw [hel]; dsimp only; rw [if_neg nar, if_neg (fun q => h42 q.1), if_neg h91]]
                  exact ⟨rfl, ⟨_, _, _, _, _, _, _, _, H0⟩, sm_r _ _ M⟩
    · exact absurd rfl hz
  | some x =>
    have h5 := sp_el_lt5 hel
    show jZ _ _ _ _ [.int (jn x)] _ _
    refine z_iflt 34 16 c_79_13 rfl (jn_nl (by omega)) (fun hz => ?_) (fun hz => ?_)
    · exact hz.elim
    · have hlt : at_ < ln := here_pos (tx := tx) (by omega)
      refine z_go 17 _ [.ref 92] _ c_79_16 rfl ?_
      refine z_go 18 _ [.int (jn (sp_here tx ln (at_))), .ref 92] _ c_79_17 rfl ?_
      refine z_go 19 _ [.int (jn 0), .int (jn (sp_here tx ln (at_))), .ref 92] _ c_79_18 rfl ?_
      refine z_callvV 22 6 81 2 92 c_79_19 rfl ⟨Nat.le_of_ble_eq_true rfl, Nat.le_of_ble_eq_true rfl⟩ rfl h92 [.ref 92, .int (jn (sp_here tx ln (at_))), .int (jb false)] rfl rfl [some (.ref 92), some (.int (jn (sp_here tx ln (at_)))), some (.int (jb false)), none] rfl rfl (t_na (d := d + 2) H0 (by omega)) ?_
      intro M1 ⟨hQ, qs⟩
      obtain ⟨q92, q93, qA, q100, q101, q102, q103⟩ := hQ
      rw [mA_nu] at qA
      obtain ⟨q94, q95, q96, q97, q98, q99⟩ := qA
      show jZ _ _ _ _ [] _ _
      refine z_go 23 _ [.ref 92] _ c_79_22 rfl ?_
      refine z_go 24 _ [.ref 92, .ref 92] _ c_79_23 rfl ?_
      refine z_getf (v := .int (jn at_)) 27 c_79_24 rfl q92 rfl ?_
      refine z_go 28 _ [.int (jn 1), .int (jn at_), .ref 92] _ c_79_27 rfl ?_
      refine z_go 29 _ [.int ((jn at_) + (jn 1)), .ref 92] _ c_79_28 rfl ?_
      refine z_v (jn_add _ _) ?_
      refine z_putf (M' := jm [(92, mW w ln (at_ + 1) (n + 1) gd)] M1) 32 c_79_29 rfl q92 (rfl) (Nat.le_of_ble_eq_true rfl) rfl ?_
      refine z_go 33 _ [.int (jn 1)] _ c_79_32 rfl ?_
      refine z_zret (b := true) c_79_33 ?_
      rw [show sm_at tx ln pt at_ = some ((sp_here tx ln (at_), false, 0, some 0, false, 0), at_ + 1) by unfold sm_at; rw [hel]]
      refine ⟨rfl, ⟨rfl, q93, ?_, q100, q101, q102, q103⟩, qs.tr (sm_jm rfl)⟩
      rw [mA_nu]
      refine ⟨?_, ?_, ?_, ?_, ?_, ?_⟩
      · exact q94
      · exact q95
      · exact q96
      · exact q97
      · exact q98
      · exact q99
