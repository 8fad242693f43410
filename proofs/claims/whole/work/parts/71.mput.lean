/-! THE REFERENCE: putting one into another; printed by wip/whole/p71.py -/
theorem c_93_0 : jx_cd 93 0 = some (o_ald 0 1) := rfl
theorem c_93_1 : jx_cd 93 1 = some (o_getf 6 4) := rfl
theorem c_93_4 : jx_cd 93 4 = some (o_ald 0 1) := rfl
theorem c_93_5 : jx_cd 93 5 = some (o_getf 6 19) := rfl
theorem c_93_8 : jx_cd 93 8 = some (o_ild 1 1) := rfl
theorem c_93_9 : jx_cd 93 9 = some (o_iald) := rfl
theorem c_93_10 : jx_cd 93 10 = some (o_igt 30) := rfl
theorem c_93_13 : jx_cd 93 13 = some (o_ild 2 1) := rfl
theorem c_93_14 : jx_cd 93 14 = some (o_ifeq 32) := rfl
theorem c_93_17 : jx_cd 93 17 = some (o_ald 0 1) := rfl
theorem c_93_18 : jx_cd 93 18 = some (o_getf 6 4) := rfl
theorem c_93_21 : jx_cd 93 21 = some (o_ald 0 1) := rfl
theorem c_93_22 : jx_cd 93 22 = some (o_getf 6 19) := rfl
theorem c_93_25 : jx_cd 93 25 = some (o_ild 1 1) := rfl
theorem c_93_26 : jx_cd 93 26 = some (o_iald) := rfl
theorem c_93_27 : jx_cd 93 27 = some (o_ieq 32) := rfl
theorem c_93_30 : jx_cd 93 30 = some (o_push (.int 0) 1) := rfl
theorem c_93_31 : jx_cd 93 31 = some (o_zret) := rfl
theorem c_93_32 : jx_cd 93 32 = some (o_push (.int 0) 1) := rfl
theorem c_93_33 : jx_cd 93 33 = some (o_ist 3 1) := rfl
theorem c_93_34 : jx_cd 93 34 = some (o_ald 0 1) := rfl
theorem c_93_35 : jx_cd 93 35 = some (o_getf 6 25) := rfl
theorem c_93_38 : jx_cd 93 38 = some (o_push (.int 0) 1) := rfl
theorem c_93_39 : jx_cd 93 39 = some (o_push (.int (-1)) 1) := rfl
theorem c_93_40 : jx_cd 93 40 = some (o_iast) := rfl
theorem c_93_41 : jx_cd 93 41 = some (o_ild 3 1) := rfl
theorem c_93_42 : jx_cd 93 42 = some (o_iflt 130) := rfl
theorem c_93_45 : jx_cd 93 45 = some (o_ild 3 1) := rfl
theorem c_93_46 : jx_cd 93 46 = some (o_ald 0 1) := rfl
theorem c_93_47 : jx_cd 93 47 = some (o_getf 6 4) := rfl
theorem c_93_50 : jx_cd 93 50 = some (o_ige 130) := rfl
theorem c_93_53 : jx_cd 93 53 = some (o_ald 0 1) := rfl
theorem c_93_54 : jx_cd 93 54 = some (o_getf 6 25) := rfl
theorem c_93_57 : jx_cd 93 57 = some (o_ild 3 1) := rfl
theorem c_93_58 : jx_cd 93 58 = some (o_iald) := rfl
theorem c_93_59 : jx_cd 93 59 = some (o_push (.int 1) 1) := rfl
theorem c_93_60 : jx_cd 93 60 = some (o_bin fun x y => x + y) := rfl
theorem c_93_61 : jx_cd 93 61 = some (o_ist 4 2) := rfl
theorem c_93_63 : jx_cd 93 63 = some (o_ild 4 2) := rfl
theorem c_93_65 : jx_cd 93 65 = some (o_ald 0 1) := rfl
theorem c_93_66 : jx_cd 93 66 = some (o_getf 6 19) := rfl
theorem c_93_69 : jx_cd 93 69 = some (o_ild 1 1) := rfl
theorem c_93_70 : jx_cd 93 70 = some (o_iald) := rfl
theorem c_93_71 : jx_cd 93 71 = some (o_ige 92) := rfl
theorem c_93_74 : jx_cd 93 74 = some (o_ald 0 1) := rfl
theorem c_93_75 : jx_cd 93 75 = some (o_ild 3 1) := rfl
theorem c_93_76 : jx_cd 93 76 = some (o_ild 1 1) := rfl
theorem c_93_77 : jx_cd 93 77 = some (o_ild 4 2) := rfl
theorem c_93_79 : jx_cd 93 79 = some (o_ild 2 1) := rfl
theorem c_93_80 : jx_cd 93 80 = some (o_callv 6 94 4) := rfl
theorem c_93_83 : jx_cd 93 83 = some (o_ifne 92) := rfl
theorem c_93_86 : jx_cd 93 86 = some (o_iinc 4 1) := rfl
theorem c_93_89 : jx_cd 93 89 = some (o_goto 63) := rfl
theorem c_93_92 : jx_cd 93 92 = some (o_ild 4 2) := rfl
theorem c_93_94 : jx_cd 93 94 = some (o_ald 0 1) := rfl
theorem c_93_95 : jx_cd 93 95 = some (o_getf 6 19) := rfl
theorem c_93_98 : jx_cd 93 98 = some (o_ild 1 1) := rfl
theorem c_93_99 : jx_cd 93 99 = some (o_iald) := rfl
theorem c_93_100 : jx_cd 93 100 = some (o_ige 124) := rfl
theorem c_93_103 : jx_cd 93 103 = some (o_ald 0 1) := rfl
theorem c_93_104 : jx_cd 93 104 = some (o_getf 6 25) := rfl
theorem c_93_107 : jx_cd 93 107 = some (o_ild 3 1) := rfl
theorem c_93_108 : jx_cd 93 108 = some (o_ild 4 2) := rfl
theorem c_93_110 : jx_cd 93 110 = some (o_iast) := rfl
theorem c_93_111 : jx_cd 93 111 = some (o_iinc 3 1) := rfl
theorem c_93_114 : jx_cd 93 114 = some (o_ald 0 1) := rfl
theorem c_93_115 : jx_cd 93 115 = some (o_getf 6 25) := rfl
theorem c_93_118 : jx_cd 93 118 = some (o_ild 3 1) := rfl
theorem c_93_119 : jx_cd 93 119 = some (o_push (.int (-1)) 1) := rfl
theorem c_93_120 : jx_cd 93 120 = some (o_iast) := rfl
theorem c_93_121 : jx_cd 93 121 = some (o_goto 127) := rfl
theorem c_93_124 : jx_cd 93 124 = some (o_iinc 3 (-1)) := rfl
theorem c_93_127 : jx_cd 93 127 = some (o_goto 41) := rfl
theorem c_93_130 : jx_cd 93 130 = some (o_ild 3 1) := rfl
theorem c_93_131 : jx_cd 93 131 = some (o_ald 0 1) := rfl
theorem c_93_132 : jx_cd 93 132 = some (o_getf 6 4) := rfl
theorem c_93_135 : jx_cd 93 135 = some (o_ine 142) := rfl
theorem c_93_138 : jx_cd 93 138 = some (o_push (.int 1) 1) := rfl
theorem c_93_139 : jx_cd 93 139 = some (o_goto 143) := rfl
theorem c_93_142 : jx_cd 93 142 = some (o_push (.int 0) 1) := rfl
theorem c_93_143 : jx_cd 93 143 = some (o_zret) := rfl
theorem c_94_0 : jx_cd 94 0 = some (o_ald 0 1) := rfl
theorem c_94_1 : jx_cd 94 1 = some (o_ild 1 1) := rfl
theorem c_94_2 : jx_cd 94 2 = some (o_ild 2 1) := rfl
theorem c_94_3 : jx_cd 94 3 = some (o_ild 3 1) := rfl
theorem c_94_4 : jx_cd 94 4 = some (o_ild 4 2) := rfl
theorem c_94_6 : jx_cd 94 6 = some (o_callv 6 95 4) := rfl
theorem c_94_9 : jx_cd 94 9 = some (o_ist 5 2) := rfl
theorem c_94_11 : jx_cd 94 11 = some (o_push (.int 0) 1) := rfl
theorem c_94_12 : jx_cd 94 12 = some (o_ist 6 2) := rfl
theorem c_94_14 : jx_cd 94 14 = some (o_ild 6 2) := rfl
theorem c_94_16 : jx_cd 94 16 = some (o_ild 1 1) := rfl
theorem c_94_17 : jx_cd 94 17 = some (o_ige 115) := rfl
theorem c_94_20 : jx_cd 94 20 = some (o_ild 5 2) := rfl
theorem c_94_22 : jx_cd 94 22 = some (o_ifeq 115) := rfl
theorem c_94_25 : jx_cd 94 25 = some (o_ald 0 1) := rfl
theorem c_94_26 : jx_cd 94 26 = some (o_getf 6 11) := rfl
theorem c_94_29 : jx_cd 94 29 = some (o_push (.int 40) 2) := rfl
theorem c_94_31 : jx_cd 94 31 = some (o_ild 1 1) := rfl
theorem c_94_32 : jx_cd 94 32 = some (o_bin fun x y => x * y) := rfl
theorem c_94_33 : jx_cd 94 33 = some (o_ild 6 2) := rfl
theorem c_94_35 : jx_cd 94 35 = some (o_bin fun x y => x + y) := rfl
theorem c_94_36 : jx_cd 94 36 = some (o_iald) := rfl
theorem c_94_37 : jx_cd 94 37 = some (o_ist 7 2) := rfl
theorem c_94_39 : jx_cd 94 39 = some (o_ald 0 1) := rfl
theorem c_94_40 : jx_cd 94 40 = some (o_getf 6 24) := rfl
theorem c_94_43 : jx_cd 94 43 = some (o_push (.int 100) 2) := rfl
theorem c_94_45 : jx_cd 94 45 = some (o_ild 2 1) := rfl
theorem c_94_46 : jx_cd 94 46 = some (o_bin fun x y => x * y) := rfl
theorem c_94_47 : jx_cd 94 47 = some (o_push (.int 10) 2) := rfl
theorem c_94_49 : jx_cd 94 49 = some (o_ild 3 1) := rfl
theorem c_94_50 : jx_cd 94 50 = some (o_bin fun x y => x * y) := rfl
theorem c_94_51 : jx_cd 94 51 = some (o_bin fun x y => x + y) := rfl
theorem c_94_52 : jx_cd 94 52 = some (o_ald 0 1) := rfl
theorem c_94_53 : jx_cd 94 53 = some (o_getf 6 25) := rfl
theorem c_94_56 : jx_cd 94 56 = some (o_ild 6 2) := rfl
theorem c_94_58 : jx_cd 94 58 = some (o_iald) := rfl
theorem c_94_59 : jx_cd 94 59 = some (o_bin fun x y => x + y) := rfl
theorem c_94_60 : jx_cd 94 60 = some (o_iald) := rfl
theorem c_94_61 : jx_cd 94 61 = some (o_ist 8 2) := rfl
theorem c_94_63 : jx_cd 94 63 = some (o_ald 0 1) := rfl
theorem c_94_64 : jx_cd 94 64 = some (o_getf 6 25) := rfl
theorem c_94_67 : jx_cd 94 67 = some (o_ild 6 2) := rfl
theorem c_94_69 : jx_cd 94 69 = some (o_iald) := rfl
theorem c_94_70 : jx_cd 94 70 = some (o_ild 3 1) := rfl
theorem c_94_71 : jx_cd 94 71 = some (o_ieq 106) := rfl
theorem c_94_74 : jx_cd 94 74 = some (o_ild 7 2) := rfl
theorem c_94_76 : jx_cd 94 76 = some (o_ild 8 2) := rfl
theorem c_94_78 : jx_cd 94 78 = some (o_ieq 102) := rfl
theorem c_94_81 : jx_cd 94 81 = some (o_ild 7 2) := rfl
theorem c_94_83 : jx_cd 94 83 = some (o_push (.int 5) 1) := rfl
theorem c_94_84 : jx_cd 94 84 = some (o_ine 92) := rfl
theorem c_94_87 : jx_cd 94 87 = some (o_ild 8 2) := rfl
theorem c_94_89 : jx_cd 94 89 = some (o_ifne 102) := rfl
theorem c_94_92 : jx_cd 94 92 = some (o_ild 7 2) := rfl
theorem c_94_94 : jx_cd 94 94 = some (o_ifne 106) := rfl
theorem c_94_97 : jx_cd 94 97 = some (o_ild 4 2) := rfl
theorem c_94_99 : jx_cd 94 99 = some (o_ifne 106) := rfl
theorem c_94_102 : jx_cd 94 102 = some (o_push (.int 1) 1) := rfl
theorem c_94_103 : jx_cd 94 103 = some (o_goto 107) := rfl
theorem c_94_106 : jx_cd 94 106 = some (o_push (.int 0) 1) := rfl
theorem c_94_107 : jx_cd 94 107 = some (o_ist 5 2) := rfl
theorem c_94_109 : jx_cd 94 109 = some (o_iinc 6 1) := rfl
theorem c_94_112 : jx_cd 94 112 = some (o_goto 14) := rfl
theorem c_94_115 : jx_cd 94 115 = some (o_ild 5 2) := rfl
theorem c_94_117 : jx_cd 94 117 = some (o_zret) := rfl
theorem c_95_0 : jx_cd 95 0 = some (o_push (.int 10) 2) := rfl
theorem c_95_2 : jx_cd 95 2 = some (o_ild 2 1) := rfl
theorem c_95_3 : jx_cd 95 3 = some (o_bin fun x y => x * y) := rfl
theorem c_95_4 : jx_cd 95 4 = some (o_ild 3 1) := rfl
theorem c_95_5 : jx_cd 95 5 = some (o_bin fun x y => x + y) := rfl
theorem c_95_6 : jx_cd 95 6 = some (o_ist 5 2) := rfl
theorem c_95_8 : jx_cd 95 8 = some (o_ald 0 1) := rfl
theorem c_95_9 : jx_cd 95 9 = some (o_getf 6 10) := rfl
theorem c_95_12 : jx_cd 95 12 = some (o_ild 1 1) := rfl
theorem c_95_13 : jx_cd 95 13 = some (o_iald) := rfl
theorem c_95_14 : jx_cd 95 14 = some (o_ifeq 57) := rfl
theorem c_95_17 : jx_cd 95 17 = some (o_ald 0 1) := rfl
theorem c_95_18 : jx_cd 95 18 = some (o_getf 6 10) := rfl
theorem c_95_21 : jx_cd 95 21 = some (o_ild 1 1) := rfl
theorem c_95_22 : jx_cd 95 22 = some (o_iald) := rfl
theorem c_95_23 : jx_cd 95 23 = some (o_push (.int 63) 2) := rfl
theorem c_95_25 : jx_cd 95 25 = some (o_ieq 51) := rfl
theorem c_95_28 : jx_cd 95 28 = some (o_ald 0 1) := rfl
theorem c_95_29 : jx_cd 95 29 = some (o_getf 6 10) := rfl
theorem c_95_32 : jx_cd 95 32 = some (o_ild 1 1) := rfl
theorem c_95_33 : jx_cd 95 33 = some (o_iald) := rfl
theorem c_95_34 : jx_cd 95 34 = some (o_ald 0 1) := rfl
theorem c_95_35 : jx_cd 95 35 = some (o_getf 6 20) := rfl
theorem c_95_38 : jx_cd 95 38 = some (o_ild 5 2) := rfl
theorem c_95_40 : jx_cd 95 40 = some (o_iald) := rfl
theorem c_95_41 : jx_cd 95 41 = some (o_call 80 1) := rfl
theorem c_95_44 : jx_cd 95 44 = some (o_bin fun x y => x >>> (y &&& 31)) := rfl
theorem c_95_45 : jx_cd 95 45 = some (o_push (.int 1) 1) := rfl
theorem c_95_46 : jx_cd 95 46 = some (o_bin fun x y => x &&& y) := rfl
theorem c_95_47 : jx_cd 95 47 = some (o_push (.int 1) 1) := rfl
theorem c_95_48 : jx_cd 95 48 = some (o_ine 55) := rfl
theorem c_95_51 : jx_cd 95 51 = some (o_push (.int 1) 1) := rfl
theorem c_95_52 : jx_cd 95 52 = some (o_goto 56) := rfl
theorem c_95_55 : jx_cd 95 55 = some (o_push (.int 0) 1) := rfl
theorem c_95_56 : jx_cd 95 56 = some (o_zret) := rfl
theorem c_95_57 : jx_cd 95 57 = some (o_ald 0 1) := rfl
theorem c_95_58 : jx_cd 95 58 = some (o_getf 6 5) := rfl
theorem c_95_61 : jx_cd 95 61 = some (o_ild 1 1) := rfl
theorem c_95_62 : jx_cd 95 62 = some (o_iald) := rfl
theorem c_95_63 : jx_cd 95 63 = some (o_ald 0 1) := rfl
theorem c_95_64 : jx_cd 95 64 = some (o_getf 6 20) := rfl
theorem c_95_67 : jx_cd 95 67 = some (o_ild 5 2) := rfl
theorem c_95_69 : jx_cd 95 69 = some (o_iald) := rfl
theorem c_95_70 : jx_cd 95 70 = some (o_ine 109) := rfl
theorem c_95_73 : jx_cd 95 73 = some (o_ald 0 1) := rfl
theorem c_95_74 : jx_cd 95 74 = some (o_getf 6 6) := rfl
theorem c_95_77 : jx_cd 95 77 = some (o_ild 1 1) := rfl
theorem c_95_78 : jx_cd 95 78 = some (o_xald 2) := rfl
theorem c_95_79 : jx_cd 95 79 = some (o_ald 0 1) := rfl
theorem c_95_80 : jx_cd 95 80 = some (o_getf 6 21) := rfl
theorem c_95_83 : jx_cd 95 83 = some (o_ild 5 2) := rfl
theorem c_95_85 : jx_cd 95 85 = some (o_xald 2) := rfl
theorem c_95_86 : jx_cd 95 86 = some (o_ine 109) := rfl
theorem c_95_89 : jx_cd 95 89 = some (o_ald 0 1) := rfl
theorem c_95_90 : jx_cd 95 90 = some (o_getf 6 8) := rfl
theorem c_95_93 : jx_cd 95 93 = some (o_ild 1 1) := rfl
theorem c_95_94 : jx_cd 95 94 = some (o_iald) := rfl
theorem c_95_95 : jx_cd 95 95 = some (o_ald 0 1) := rfl
theorem c_95_96 : jx_cd 95 96 = some (o_getf 6 23) := rfl
theorem c_95_99 : jx_cd 95 99 = some (o_ild 5 2) := rfl
theorem c_95_101 : jx_cd 95 101 = some (o_iald) := rfl
theorem c_95_102 : jx_cd 95 102 = some (o_ine 109) := rfl
theorem c_95_105 : jx_cd 95 105 = some (o_push (.int 1) 1) := rfl
theorem c_95_106 : jx_cd 95 106 = some (o_goto 110) := rfl
theorem c_95_109 : jx_cd 95 109 = some (o_push (.int 0) 1) := rfl
theorem c_95_110 : jx_cd 95 110 = some (o_ist 6 2) := rfl
theorem c_95_112 : jx_cd 95 112 = some (o_ild 6 2) := rfl
theorem c_95_114 : jx_cd 95 114 = some (o_ifeq 142) := rfl
theorem c_95_117 : jx_cd 95 117 = some (o_ild 4 2) := rfl
theorem c_95_119 : jx_cd 95 119 = some (o_ifeq 138) := rfl
theorem c_95_122 : jx_cd 95 122 = some (o_ald 0 1) := rfl
theorem c_95_123 : jx_cd 95 123 = some (o_getf 6 7) := rfl
theorem c_95_126 : jx_cd 95 126 = some (o_ild 1 1) := rfl
theorem c_95_127 : jx_cd 95 127 = some (o_iald) := rfl
theorem c_95_128 : jx_cd 95 128 = some (o_ald 0 1) := rfl
theorem c_95_129 : jx_cd 95 129 = some (o_getf 6 22) := rfl
theorem c_95_132 : jx_cd 95 132 = some (o_ild 5 2) := rfl
theorem c_95_134 : jx_cd 95 134 = some (o_iald) := rfl
theorem c_95_135 : jx_cd 95 135 = some (o_ine 142) := rfl
theorem c_95_138 : jx_cd 95 138 = some (o_push (.int 1) 1) := rfl
theorem c_95_139 : jx_cd 95 139 = some (o_goto 143) := rfl
theorem c_95_142 : jx_cd 95 142 = some (o_push (.int 0) 1) := rfl
theorem c_95_143 : jx_cd 95 143 = some (o_zret) := rfl
/-- the molecules that the reference keeps: IDs, sizes, atoms, bonds -/
def mKp (M : jx_M) (ids szs : Nat → Nat) (E : Nat → MA) (al : Nat → Nat) : Prop := M.1 104 = .inl (0, 12, .inl (ja ids)) ∧ M.1 105 = .inl (0, 12, .inl (ja szs)) ∧ M.1 106 = .inl (0, 120, .inl (ja (aE E))) ∧ M.1 107 = .inl (2, 120, .inl (jab (aR E))) ∧ M.1 108 = .inl (0, 120, .inl (ja (aH E))) ∧ M.1 109 = .inl (0, 120, .inl (jao (aQ E))) ∧ M.1 110 = .inl (0, 1200, .inl (ja al))
theorem mKp_fr {M M1 : jx_M} {ids szs : Nat → Nat} {E : Nat → MA} {al : Nat → Nat} (h : mKp M ids szs E al) (hs : ∀ k, 104 ≤ k → k ≤ 110 → M1.1 k = M.1 k) : mKp M1 ids szs E al := ⟨(hs _ (by decide) (by decide)).trans h.1, (hs _ (by decide) (by decide)).trans h.2.1, (hs _ (by decide) (by decide)).trans h.2.2.1, (hs _ (by decide) (by decide)).trans h.2.2.2.1, (hs _ (by decide) (by decide)).trans h.2.2.2.2.1, (hs _ (by decide) (by decide)).trans h.2.2.2.2.2.1, (hs _ (by decide) (by decide)).trans h.2.2.2.2.2.2⟩
theorem mRd_fr {M M1 : jx_M} {w : MW} {tx : Nat → Nat} {ln at_ n : Nat} {gd : Bool} {A : Nat → MA} {bm bk : Nat → Nat} {oa : Nat → Option Nat} {ol : Nat → Nat} (h : mRd M w tx ln at_ n gd A bm bk oa ol) (hs : ∀ k, 92 ≤ k → k ≤ 103 → M1.1 k = M.1 k) : mRd M1 w tx ln at_ n gd A bm bk oa ol := by
  obtain ⟨h92, h93, ⟨h94, h95, h96, h97, h98, h99⟩, h100, h101, h102, h103⟩ := h
  exact ⟨(hs _ (by decide) (by decide)).trans h92, (hs _ (by decide) (by decide)).trans h93, ⟨(hs _ (by decide) (by decide)).trans h94, (hs _ (by decide) (by decide)).trans h95, (hs _ (by decide) (by decide)).trans h96, (hs _ (by decide) (by decide)).trans h97, (hs _ (by decide) (by decide)).trans h98, (hs _ (by decide) (by decide)).trans h99⟩, (hs _ (by decide) (by decide)).trans h100, (hs _ (by decide) (by decide)).trans h101, (hs _ (by decide) (by decide)).trans h102, (hs _ (by decide) (by decide)).trans h103⟩
def mfit (ex : Bool) (A : Nat → MA) (E : Nat → MA) (m i k : Nat) : Bool := sm_ft ex (A i) (aE E (10 * m + k)) (aR E (10 * m + k)) (aH E (10 * m + k)) (aQ E (10 * m + k))
theorem jn_lbit : ∀ l, l < 64 → ∀ x, x < 5 → ((fun x y : Int32 => x >>> (y &&& 31)) (jn l) (jn x)) &&& (jn 1) = jb (l.testBit x) := by decide +kernel
theorem jb_1 {b : Bool} : jb b = jn 1 ↔ b = true := by cases b <;> decide
theorem jb_inj {a b : Bool} : jb a = jb b ↔ a = b := by cases a <;> cases b <;> decide
def q3 (c : Option Nat) : Prop := c = none ∨ c = some 0 ∨ c = some 1
theorem jo_3 {a b : Option Nat} (ha : q3 a) (hb : q3 b) : jo a = jo b ↔ a = b := by
  rcases ha with q | q | q <;> subst q <;> rcases hb with q | q | q <;> subst q <;> decide
theorem t_mft {d : Nat} {w : MW} {tx : Nat → Nat} {ln at_ n : Nat} {gd : Bool} {A : Nat → MA} {bm bk : Nat → Nat} {oa : Nat → Option Nat} {ol : Nat → Nat} {M : jx_M} {ids szs : Nat → Nat} {E : Nat → MA} {al : Nat → Nat} (hK : mKp M ids szs E al) {m i k : Nat} {ex : Bool} (H : mRd M w tx ln at_ n gd A bm bk oa ol) (hn : n ≤ 10) (hm : m < 12) (hi : i < n) (hs : szs m ≤ 10) (hk : k < szs m) (hA : ∀ q, q < n → aL A q < 64 ∧ aE A q < 128 ∧ aH A q < 100 ∧ q3 (aQ A q)) (hEk : ∀ k, k < szs m → okM (E (10 * m + k))) : jZ (d + 1) 95 0 [some (.ref 92), some (.int (jn i)), some (.int (jn m)), some (.int (jn k)), some (.int (jb ex)), none, none] [] M (jR (some (.int (jb (mfit ex A E m i k)))) M) := by
  obtain ⟨h92, h93, ⟨h94, h95, h96, h97, h98, h99⟩, h100, h101, h102, h103⟩ := H
  obtain ⟨a1, a2, a3, a4⟩ := hA i hi
  obtain ⟨o1, o2, o3, o4⟩ := hEk k hk
  have hEe : aE E (10 * m + k) < 128 := by rcases o4 with q | q | q | q | q <;> (have q : aE E (10 * m + k) = _ := q; omega)
  have hEh : aH E (10 * m + k) ≤ 4 := o1
  obtain ⟨x, hx⟩ : ∃ x, sp_el (aE E (10 * m + k)) = some x := by rcases o4 with q | q | q | q | q <;> (have q : aE E (10 * m + k) = _ := q; rw [q]; exact ⟨_, rfl⟩)
  have hx5 := (sp_el_lt5 hx).1
  show jZ _ _ _ _ _ _ (jR (some (.int (jb (sm_ft ex (A i) (aE E (10 * m + k)) (aR E (10 * m + k)) (aH E (10 * m + k)) (aQ E (10 * m + k)))))) M)
  refine z_go 2 _ [.int (jn 10)] _ c_95_0 rfl ?_
  refine z_go 3 _ [.int (jn m), .int (jn 10)] _ c_95_2 rfl ?_
  refine z_go 4 _ [.int ((jn 10) * (jn m))] _ c_95_3 rfl ?_
  refine z_v (jn_mul _ _) ?_
  refine z_go 5 _ [.int (jn k), .int (jn (10 * m))] _ c_95_4 rfl ?_
  refine z_go 6 _ [.int ((jn (10 * m)) + (jn k))] _ c_95_5 rfl ?_
  refine z_v (jn_add _ _) ?_
  refine z_go 8 [some (.ref 92), some (.int (jn i)), some (.int (jn m)), some (.int (jn k)), some (.int (jb ex)), some (.int (jn ((10 * m) + k))), none] [] _ c_95_6 rfl ?_
  refine z_go 9 _ [.ref 92] _ c_95_8 rfl ?_
  refine z_getf (v := .ref 99) 12 c_95_9 rfl h92 rfl ?_
  refine z_go 13 _ [.int (jn i), .ref 99] _ c_95_12 rfl ?_
  refine z_iald 14 c_95_13 rfl h99 (Or.inl rfl) (by omega) (by omega) ?_
  show jZ _ _ _ _ ([.int (jn ((aL A) i))]) _ _
  refine z_ifeq 57 17 c_95_14 rfl (jn_z (by omega)) (fun h1 => ?_) (fun h1 => ?_)
  · have eL : sm_ft ex (A i) (aE E (10 * m + k)) (aR E (10 * m + k)) (aH E (10 * m + k)) (aQ E (10 * m + k)) = decide (aE A i = aE E (10 * m + k) ∧ aR A i = aR E (10 * m + k) ∧ aQ A i = aQ E (10 * m + k) ∧ (ex = false ∨ aH A i = aH E (10 * m + k))) := by unfold sm_ft; rw [if_neg (fun q => q h1)]; rfl
    rw [eL]
    refine z_cut 110 [some (.ref 92), some (.int (jn i)), some (.int (jn m)), some (.int (jn k)), some (.int (jb ex)), some (.int (jn ((10 * m) + k))), none] [.int (jb (decide (aE A i = aE E (10 * m + k) ∧ aR A i = aR E (10 * m + k) ∧ aQ A i = aQ E (10 * m + k))))] (fun kc => ?_) ?_
    · refine z_go 58 _ [.ref 92] _ c_95_57 rfl ?_
      refine z_getf (v := .ref 94) 61 c_95_58 rfl h92 rfl ?_
      refine z_go 62 _ [.int (jn i), .ref 94] _ c_95_61 rfl ?_
      refine z_iald 63 c_95_62 rfl h94 (Or.inl rfl) (by omega) (by omega) ?_
      show jZ _ _ _ _ ([.int (jn ((aE A) i))]) _ _
      refine z_go 64 _ [.ref 92, .int (jn ((aE A) i))] _ c_95_63 rfl ?_
      refine z_getf (v := .ref 106) 67 c_95_64 rfl h92 rfl ?_
      refine z_go 69 _ [.int (jn ((10 * m) + k)), .ref 106, .int (jn ((aE A) i))] _ c_95_67 rfl ?_
      refine z_iald 70 c_95_69 rfl hK.2.2.1 (Or.inl rfl) (by omega) (by omega) ?_
      show jZ _ _ _ _ ([.int (jn ((aE E) ((10 * m) + k))), .int (jn ((aE A) i))]) _ _
      refine z_ine 109 73 c_95_70 rfl (jn_inj (by omega) (by omega)) (fun g1 => ?_) (fun g1 => ?_)
      · refine z_go 74 _ [.ref 92] _ c_95_73 rfl ?_
        refine z_getf (v := .ref 95) 77 c_95_74 rfl h92 rfl ?_
        refine z_go 78 _ [.int (jn i), .ref 95] _ c_95_77 rfl ?_
        refine z_xald 79 c_95_78 rfl h95 (by omega) (by omega) ?_
        show jZ _ _ _ _ ([.int (jb ((aR A) i))]) _ _
        refine z_go 80 _ [.ref 92, .int (jb ((aR A) i))] _ c_95_79 rfl ?_
        refine z_getf (v := .ref 107) 83 c_95_80 rfl h92 rfl ?_
        refine z_go 85 _ [.int (jn ((10 * m) + k)), .ref 107, .int (jb ((aR A) i))] _ c_95_83 rfl ?_
        refine z_xald 86 c_95_85 rfl hK.2.2.2.1 (by omega) (by omega) ?_
        show jZ _ _ _ _ ([.int (jb ((aR E) ((10 * m) + k))), .int (jb ((aR A) i))]) _ _
        refine z_ine 109 89 c_95_86 rfl jb_inj (fun g2 => ?_) (fun g2 => ?_)
        · refine z_go 90 _ [.ref 92] _ c_95_89 rfl ?_
          refine z_getf (v := .ref 97) 93 c_95_90 rfl h92 rfl ?_
          refine z_go 94 _ [.int (jn i), .ref 97] _ c_95_93 rfl ?_
          refine z_iald 95 c_95_94 rfl h97 (Or.inl rfl) (by omega) (by omega) ?_
          show jZ _ _ _ _ ([.int (jo ((aQ A) i))]) _ _
          refine z_go 96 _ [.ref 92, .int (jo ((aQ A) i))] _ c_95_95 rfl ?_
          refine z_getf (v := .ref 109) 99 c_95_96 rfl h92 rfl ?_
          refine z_go 101 _ [.int (jn ((10 * m) + k)), .ref 109, .int (jo ((aQ A) i))] _ c_95_99 rfl ?_
          refine z_iald 102 c_95_101 rfl hK.2.2.2.2.2.1 (Or.inl rfl) (by omega) (by omega) ?_
          show jZ _ _ _ _ ([.int (jo ((aQ E) ((10 * m) + k))), .int (jo ((aQ A) i))]) _ _
          refine z_ine 109 105 c_95_102 rfl (jo_3 a4 o2) (fun g3 => ?_) (fun g3 => ?_)
          · refine z_go 106 _ [.int (jn 1)] _ c_95_105 rfl ?_
            refine z_go 110 _ [.int (jn 1)] _ c_95_106 rfl ?_
            exact z_v (by rw [decide_eq_true ⟨g1, g2, g3⟩]; rfl) kc
          · refine z_go 110 _ [.int (jn 0)] _ c_95_109 rfl ?_
            exact z_v (by rw [decide_eq_false (fun q => g3 q.2.2)]; rfl) kc
        · refine z_go 110 _ [.int (jn 0)] _ c_95_109 rfl ?_
          exact z_v (by rw [decide_eq_false (fun q => g2 q.2.1)]; rfl) kc
      · refine z_go 110 _ [.int (jn 0)] _ c_95_109 rfl ?_
        exact z_v (by rw [decide_eq_false (fun q => g1 q.1)]; rfl) kc
    refine z_go 112 [some (.ref 92), some (.int (jn i)), some (.int (jn m)), some (.int (jn k)), some (.int (jb ex)), some (.int (jn ((10 * m) + k))), some (.int (jb (decide (aE A i = aE E (10 * m + k) ∧ aR A i = aR E (10 * m + k) ∧ aQ A i = aQ E (10 * m + k)))))] [] _ c_95_110 rfl ?_
    refine z_go 114 _ [.int (jb (decide (aE A i = aE E (10 * m + k) ∧ aR A i = aR E (10 * m + k) ∧ aQ A i = aQ E (10 * m + k))))] _ c_95_112 rfl ?_
    refine z_ifeq 142 117 c_95_114 rfl jb_t (fun g => ?_) (fun g => ?_)
    · refine z_go 143 _ [.int (jn 0)] _ c_95_142 rfl ?_
      refine z_zret (b := false) c_95_143 ?_
      exact ⟨by rw [decide_eq_false (fun q => of_decide_eq_false g ⟨q.1, q.2.1, q.2.2.1⟩)], rfl⟩
    · have gt : aE A i = aE E (10 * m + k) ∧ aR A i = aR E (10 * m + k) ∧ aQ A i = aQ E (10 * m + k) := of_decide_eq_true (by cases h : (decide (aE A i = aE E (10 * m + k) ∧ aR A i = aR E (10 * m + k) ∧ aQ A i = aQ E (10 * m + k))) <;> simp_all)
      refine z_go 119 _ [.int (jb ex)] _ c_95_117 rfl ?_
      refine z_ifeq 138 122 c_95_119 rfl jb_t (fun g2 => ?_) (fun g2 => ?_)
      · refine z_go 139 _ [.int (jn 1)] _ c_95_138 rfl ?_
        refine z_go 143 _ [.int (jn 1)] _ c_95_139 rfl ?_
        refine z_zret (b := true) c_95_143 ?_
        exact ⟨by rw [decide_eq_true ⟨gt.1, gt.2.1, gt.2.2, Or.inl g2⟩], rfl⟩
      · refine z_go 123 _ [.ref 92] _ c_95_122 rfl ?_
        refine z_getf (v := .ref 96) 126 c_95_123 rfl h92 rfl ?_
        refine z_go 127 _ [.int (jn i), .ref 96] _ c_95_126 rfl ?_
        refine z_iald 128 c_95_127 rfl h96 (Or.inl rfl) (by omega) (by omega) ?_
        show jZ _ _ _ _ ([.int (jn ((aH A) i))]) _ _
        refine z_go 129 _ [.ref 92, .int (jn ((aH A) i))] _ c_95_128 rfl ?_
        refine z_getf (v := .ref 108) 132 c_95_129 rfl h92 rfl ?_
        refine z_go 134 _ [.int (jn ((10 * m) + k)), .ref 108, .int (jn ((aH A) i))] _ c_95_132 rfl ?_
        refine z_iald 135 c_95_134 rfl hK.2.2.2.2.1 (Or.inl rfl) (by omega) (by omega) ?_
        show jZ _ _ _ _ ([.int (jn ((aH E) ((10 * m) + k))), .int (jn ((aH A) i))]) _ _
        refine z_ine 142 138 c_95_135 rfl (jn_inj (by omega) (by omega)) (fun g3 => ?_) (fun g3 => ?_)
        · refine z_go 139 _ [.int (jn 1)] _ c_95_138 rfl ?_
          refine z_go 143 _ [.int (jn 1)] _ c_95_139 rfl ?_
          refine z_zret (b := true) c_95_143 ?_
          exact ⟨by rw [decide_eq_true ⟨gt.1, gt.2.1, gt.2.2, Or.inr g3⟩], rfl⟩
        · refine z_go 143 _ [.int (jn 0)] _ c_95_142 rfl ?_
          refine z_zret (b := false) c_95_143 ?_
          exact ⟨by rw [decide_eq_false (fun q => q.2.2.2.elim g2 g3)], rfl⟩
  · have eL : sm_ft ex (A i) (aE E (10 * m + k)) (aR E (10 * m + k)) (aH E (10 * m + k)) (aQ E (10 * m + k)) = (decide (aL A i = 63) || (aL A i).testBit x) := by unfold sm_ft; rw [if_pos (show (A i).2.2.2.2.2 ≠ 0 from h1), hx]; rfl
    rw [eL]
    refine z_go 18 _ [.ref 92] _ c_95_17 rfl ?_
    refine z_getf (v := .ref 99) 21 c_95_18 rfl h92 rfl ?_
    refine z_go 22 _ [.int (jn i), .ref 99] _ c_95_21 rfl ?_
    refine z_iald 23 c_95_22 rfl h99 (Or.inl rfl) (by omega) (by omega) ?_
    show jZ _ _ _ _ ([.int (jn ((aL A) i))]) _ _
    refine z_go 25 _ [.int (jn 63), .int (jn ((aL A) i))] _ c_95_23 rfl ?_
    refine z_ieq 51 28 c_95_25 rfl (jn_inj (by omega) (by omega)) (fun h2 => ?_) (fun h2 => ?_)
    · refine z_go 52 _ [.int (jn 1)] _ c_95_51 rfl ?_
      refine z_go 56 _ [.int (jn 1)] _ c_95_52 rfl ?_
      refine z_zret (b := true) c_95_56 ?_
      exact ⟨by rw [decide_eq_true h2]; rfl, rfl⟩
    · refine z_go 29 _ [.ref 92] _ c_95_28 rfl ?_
      refine z_getf (v := .ref 99) 32 c_95_29 rfl h92 rfl ?_
      refine z_go 33 _ [.int (jn i), .ref 99] _ c_95_32 rfl ?_
      refine z_iald 34 c_95_33 rfl h99 (Or.inl rfl) (by omega) (by omega) ?_
      show jZ _ _ _ _ ([.int (jn ((aL A) i))]) _ _
      refine z_go 35 _ [.ref 92, .int (jn ((aL A) i))] _ c_95_34 rfl ?_
      refine z_getf (v := .ref 106) 38 c_95_35 rfl h92 rfl ?_
      refine z_go 40 _ [.int (jn ((10 * m) + k)), .ref 106, .int (jn ((aL A) i))] _ c_95_38 rfl ?_
      refine z_iald 41 c_95_40 rfl hK.2.2.1 (Or.inl rfl) (by omega) (by omega) ?_
      show jZ _ _ _ _ ([.int (jn ((aE E) ((10 * m) + k))), .int (jn ((aL A) i))]) _ _
      refine z_call 44 80 1 c_95_41 rfl ⟨Nat.le_of_ble_eq_true rfl, Nat.le_of_ble_eq_true rfl⟩ [.int (jn ((aE E) ((10 * m) + k)))] rfl rfl [some (.int (jn ((aE E) ((10 * m) + k))))] rfl rfl (t_mpo (by omega)) ?_
      show jZ _ _ _ _ [.int (jo (sp_el (aE E (10 * m + k)))), .int (jn ((aL A) i))] _ _
      rw [hx]
      show jZ _ _ _ _ [.int (jn x), .int (jn ((aL A) i))] _ _
      refine z_go 45 _ [.int ((fun x y : Int32 => x >>> (y &&& 31)) (jn ((aL A) i)) (jn x))] _ c_95_44 rfl ?_
      refine z_go 46 _ [.int (jn 1), .int ((fun x y : Int32 => x >>> (y &&& 31)) (jn ((aL A) i)) (jn x))] _ c_95_45 rfl ?_
      refine z_go 47 _ [.int ((((fun x y : Int32 => x >>> (y &&& 31)) (jn ((aL A) i)) (jn x))) &&& (jn 1))] _ c_95_46 rfl ?_
      refine z_v (jn_lbit _ a1 x hx5) ?_
      refine z_go 48 _ [.int (jn 1), .int (jb ((aL A i).testBit x))] _ c_95_47 rfl ?_
      refine z_ine 55 51 c_95_48 rfl jb_1 (fun h3 => ?_) (fun h3 => ?_)
      · refine z_go 52 _ [.int (jn 1)] _ c_95_51 rfl ?_
        refine z_go 56 _ [.int (jn 1)] _ c_95_52 rfl ?_
        refine z_zret (b := true) c_95_56 ?_
        exact ⟨by rw [h3, Bool.or_true], rfl⟩
      · refine z_go 56 _ [.int (jn 0)] _ c_95_55 rfl ?_
        refine z_zret (b := false) c_95_56 ?_
        exact ⟨by rw [decide_eq_false h2, show (aL A i).testBit x = false by cases h : (aL A i).testBit x <;> simp_all]; rfl, rfl⟩
theorem t_mag_l {d : Nat} {w : MW} {tx : Nat → Nat} {ln at_ n : Nat} {gd : Bool} {A : Nat → MA} {bm bk : Nat → Nat} {oa : Nat → Option Nat} {ol : Nat → Nat} {M : jx_M} {ids szs : Nat → Nat} {E : Nat → MA} {al : Nat → Nat} (hK : mKp M ids szs E al) {m i k : Nat} {ex : Bool} {pu : Nat → Option Nat} {pn : Nat → Nat} (h111 : M.1 111 = .inl (0, 11, .inl (jao pu))) (hn : n ≤ 10) (hm : m < 12) (hi : i < n) (hk10 : k < 10) (hbm : bmS n bm) (hal : ∀ x, al x < 8) (hpn : ∀ j, j < i → pu j = some (pn j) ∧ pn j < 10) : ∀ {t j : Nat} {y : Bool} {z7 z8 : Option Value}, j + t = i → mRd M w tx ln at_ n gd A bm bk oa ol → jZ d 94 14 [some (.ref 92), some (.int (jn i)), some (.int (jn m)), some (.int (jn k)), some (.int (jb ex)), some (.int (jb y)), some (.int (jn j)), z7, z8] [] M (jR (some (.int (jb (y && sm_ags ex bm al m i k pn t j)))) M) := by
  intro t
  induction t with
  | zero =>
    intro j y z7 z8 ht H
    obtain ⟨h92, h93, ⟨h94, h95, h96, h97, h98, h99⟩, h100, h101, h102, h103⟩ := H
    refine z_go 16 _ [.int (jn j)] _ c_94_14 rfl ?_
    refine z_go 17 _ [.int (jn i), .int (jn j)] _ c_94_16 rfl ?_
    refine z_ige 115 20 c_94_17 rfl (by omega) (by omega) (fun hj => ?_) (fun hj => ?_)
    · omega
    · refine z_go 117 _ [.int (jb y)] _ c_94_115 rfl ?_
      refine z_zret (b := y) c_94_117 ?_
      exact ⟨by rw [show (y && sm_ags ex bm al m i k pn 0 j) = y by cases y <;> rfl], rfl⟩
  | succ t ih =>
    intro j y z7 z8 ht H
    have H0 := H
    obtain ⟨h92, h93, ⟨h94, h95, h96, h97, h98, h99⟩, h100, h101, h102, h103⟩ := H
    refine z_go 16 _ [.int (jn j)] _ c_94_14 rfl ?_
    refine z_go 17 _ [.int (jn i), .int (jn j)] _ c_94_16 rfl ?_
    refine z_ige 115 20 c_94_17 rfl (by omega) (by omega) (fun hj => ?_) (fun hj => ?_)
    · have hpj := hpn j (by omega)
      have hbj := hbm i j hi (by omega)
      have hcj := hal (100 * m + 10 * k + pn j)
      refine z_go 22 _ [.int (jb y)] _ c_94_20 rfl ?_
      refine z_ifeq 115 25 c_94_22 rfl jb_t (fun gy => ?_) (fun gy => ?_)
      · refine z_go 117 _ [.int (jb y)] _ c_94_115 rfl ?_
        refine z_zret (b := y) c_94_117 ?_
        exact ⟨by rw [gy]; rfl, rfl⟩
      · have gyt : y = true := by cases y <;> simp_all
        refine z_go 26 _ [.ref 92] _ c_94_25 rfl ?_
        refine z_getf (v := .ref 100) 29 c_94_26 rfl h92 rfl ?_
        refine z_go 31 _ [.int (jn 40), .ref 100] _ c_94_29 rfl ?_
        refine z_go 32 _ [.int (jn i), .int (jn 40), .ref 100] _ c_94_31 rfl ?_
        refine z_go 33 _ [.int ((jn 40) * (jn i)), .ref 100] _ c_94_32 rfl ?_
        refine z_v (jn_mul _ _) ?_
        refine z_go 35 _ [.int (jn j), .int (jn (40 * i)), .ref 100] _ c_94_33 rfl ?_
        refine z_go 36 _ [.int ((jn (40 * i)) + (jn j)), .ref 100] _ c_94_35 rfl ?_
        refine z_v (jn_add _ _) ?_
        refine z_iald 37 c_94_36 rfl h100 (Or.inl rfl) (by omega) (by omega) ?_
        show jZ _ _ _ _ ([.int (jn (bm ((40 * i) + j)))]) _ _
        refine z_go 39 [some (.ref 92), some (.int (jn i)), some (.int (jn m)), some (.int (jn k)), some (.int (jb ex)), some (.int (jb y)), some (.int (jn j)), some (.int (jn (bm ((40 * i) + j)))), z8] [] _ c_94_37 rfl ?_
        refine z_go 40 _ [.ref 92] _ c_94_39 rfl ?_
        refine z_getf (v := .ref 110) 43 c_94_40 rfl h92 rfl ?_
        refine z_go 45 _ [.int (jn 100), .ref 110] _ c_94_43 rfl ?_
        refine z_go 46 _ [.int (jn m), .int (jn 100), .ref 110] _ c_94_45 rfl ?_
        refine z_go 47 _ [.int ((jn 100) * (jn m)), .ref 110] _ c_94_46 rfl ?_
        refine z_v (jn_mul _ _) ?_
        refine z_go 49 _ [.int (jn 10), .int (jn (100 * m)), .ref 110] _ c_94_47 rfl ?_
        refine z_go 50 _ [.int (jn k), .int (jn 10), .int (jn (100 * m)), .ref 110] _ c_94_49 rfl ?_
        refine z_go 51 _ [.int ((jn 10) * (jn k)), .int (jn (100 * m)), .ref 110] _ c_94_50 rfl ?_
        refine z_v (jn_mul _ _) ?_
        refine z_go 52 _ [.int ((jn (100 * m)) + (jn (10 * k))), .ref 110] _ c_94_51 rfl ?_
        refine z_v (jn_add _ _) ?_
        refine z_go 53 _ [.ref 92, .int (jn ((100 * m) + (10 * k))), .ref 110] _ c_94_52 rfl ?_
        refine z_getf (v := .ref 111) 56 c_94_53 rfl h92 rfl ?_
        refine z_go 58 _ [.int (jn j), .ref 111, .int (jn ((100 * m) + (10 * k))), .ref 110] _ c_94_56 rfl ?_
        refine z_iald 59 c_94_58 rfl h111 (Or.inl rfl) (by omega) (by omega) ?_
        show jZ _ _ _ _ ([.int (jo (pu j)), .int (jn ((100 * m) + (10 * k))), .ref 110]) _ _
        rw [hpj.1]
        show jZ _ _ _ _ [.int (jn (pn j)), .int (jn ((100 * m) + (10 * k))), .ref 110] _ _
        refine z_go 60 _ [.int ((jn ((100 * m) + (10 * k))) + (jn (pn j))), .ref 110] _ c_94_59 rfl ?_
        refine z_v (jn_add _ _) ?_
        refine z_iald 61 c_94_60 rfl hK.2.2.2.2.2.2 (Or.inl rfl) (by omega) (by omega) ?_
        show jZ _ _ _ _ ([.int (jn (al (((100 * m) + (10 * k)) + (pn j))))]) _ _
        refine z_go 63 [some (.ref 92), some (.int (jn i)), some (.int (jn m)), some (.int (jn k)), some (.int (jb ex)), some (.int (jb y)), some (.int (jn j)), some (.int (jn (bm ((40 * i) + j)))), some (.int (jn (al (((100 * m) + (10 * k)) + (pn j)))))] [] _ c_94_61 rfl ?_
        refine z_go 64 _ [.ref 92] _ c_94_63 rfl ?_
        refine z_getf (v := .ref 111) 67 c_94_64 rfl h92 rfl ?_
        refine z_go 69 _ [.int (jn j), .ref 111] _ c_94_67 rfl ?_
        refine z_iald 70 c_94_69 rfl h111 (Or.inl rfl) (by omega) (by omega) ?_
        show jZ _ _ _ _ ([.int (jo (pu j))]) _ _
        rw [hpj.1]
        show jZ _ _ _ _ [.int (jn (pn j))] _ _
        show jZ _ _ _ [some (.ref 92), some (.int (jn i)), some (.int (jn m)), some (.int (jn k)), some (.int (jb ex)), some (.int (jb y)), some (.int (jn j)), some (.int (jn (bm ((40 * i) + j)))), some (.int (jn (al (((100 * m) + (10 * k)) + (pn j)))))] _ _ _
        generalize hb0 : bm (40 * i + j) = b at *
        generalize hc0 : al (100 * m + 10 * k + pn j) = c at *
        refine z_cut 107 [some (.ref 92), some (.int (jn i)), some (.int (jn m)), some (.int (jn k)), some (.int (jb ex)), some (.int (jb y)), some (.int (jn j)), some (.int (jn b)), some (.int (jn c))] [.int (jb (decide (pn j ≠ k ∧ sm_kk ex b c = true)))] (fun kc => ?_) ?_
        · refine z_go 71 _ [.int (jn k), .int (jn (pn j))] _ c_94_70 rfl ?_
          refine z_ieq 106 74 c_94_71 rfl (jn_inj (by omega) (by omega)) (fun g1 => ?_) (fun g1 => ?_)
          · refine z_go 107 _ [.int (jn 0)] _ c_94_106 rfl ?_
            exact z_v (by rw [decide_eq_false (fun q => q.1 g1)]; rfl) kc
          · refine z_go 76 _ [.int (jn b)] _ c_94_74 rfl ?_
            refine z_go 78 _ [.int (jn c), .int (jn b)] _ c_94_76 rfl ?_
            refine z_ieq 102 81 c_94_78 rfl (jn_inj (by omega) (by omega)) (fun g2 => ?_) (fun g2 => ?_)
            · refine z_go 103 _ [.int (jn 1)] _ c_94_102 rfl ?_
              refine z_go 107 _ [.int (jn 1)] _ c_94_103 rfl ?_
              exact z_v (by rw [decide_eq_true ⟨g1, show sm_kk ex b c = true from decide_eq_true (Or.inl g2)⟩]; rfl) kc
            · refine z_go 83 _ [.int (jn b)] _ c_94_81 rfl ?_
              refine z_go 84 _ [.int (jn 5), .int (jn b)] _ c_94_83 rfl ?_
              refine z_ine 92 87 c_94_84 rfl (jn_inj (by omega) (by omega)) (fun g3 => ?_) (fun g3 => ?_)
              · refine z_go 89 _ [.int (jn c)] _ c_94_87 rfl ?_
                refine z_ifne 102 92 c_94_89 rfl (jn_z (by omega)) (fun g4 => ?_) (fun g4 => ?_)
                · refine z_go 94 _ [.int (jn b)] _ c_94_92 rfl ?_
                  refine z_ifne 106 97 c_94_94 rfl (jn_z (by omega)) (fun g5 => ?_) (fun g5 => ?_)
                  · refine z_go 99 _ [.int (jb ex)] _ c_94_97 rfl ?_
                    refine z_ifne 106 102 c_94_99 rfl jb_t (fun g6 => ?_) (fun g6 => ?_)
                    · refine z_go 103 _ [.int (jn 1)] _ c_94_102 rfl ?_
                      refine z_go 107 _ [.int (jn 1)] _ c_94_103 rfl ?_
                      exact z_v (by rw [decide_eq_true ⟨g1, show sm_kk ex b c = true from decide_eq_true (Or.inr (Or.inr ⟨g5, g6⟩))⟩]; rfl) kc
                    · refine z_go 107 _ [.int (jn 0)] _ c_94_106 rfl ?_
                      exact z_v (by rw [decide_eq_false (fun q => by have q2 := of_decide_eq_true q.2; exact q2.elim g2 (fun q2 => q2.elim (fun q2 => q2.2 g4) (fun q2 => g6 q2.2)))]; rfl) kc
                  · refine z_go 107 _ [.int (jn 0)] _ c_94_106 rfl ?_
                    exact z_v (by rw [decide_eq_false (fun q => by have q2 := of_decide_eq_true q.2; exact q2.elim g2 (fun q2 => q2.elim (fun q2 => q2.2 g4) (fun q2 => g5 q2.1)))]; rfl) kc
                · refine z_go 103 _ [.int (jn 1)] _ c_94_102 rfl ?_
                  refine z_go 107 _ [.int (jn 1)] _ c_94_103 rfl ?_
                  exact z_v (by rw [decide_eq_true ⟨g1, show sm_kk ex b c = true from decide_eq_true (Or.inr (Or.inl ⟨g3, g4⟩))⟩]; rfl) kc
              · refine z_go 94 _ [.int (jn b)] _ c_94_92 rfl ?_
                refine z_ifne 106 97 c_94_94 rfl (jn_z (by omega)) (fun g5 => ?_) (fun g5 => ?_)
                · refine z_go 99 _ [.int (jb ex)] _ c_94_97 rfl ?_
                  refine z_ifne 106 102 c_94_99 rfl jb_t (fun g6 => ?_) (fun g6 => ?_)
                  · refine z_go 103 _ [.int (jn 1)] _ c_94_102 rfl ?_
                    refine z_go 107 _ [.int (jn 1)] _ c_94_103 rfl ?_
                    exact z_v (by rw [decide_eq_true ⟨g1, show sm_kk ex b c = true from decide_eq_true (Or.inr (Or.inr ⟨g5, g6⟩))⟩]; rfl) kc
                  · refine z_go 107 _ [.int (jn 0)] _ c_94_106 rfl ?_
                    exact z_v (by rw [decide_eq_false (fun q => by have q2 := of_decide_eq_true q.2; exact q2.elim g2 (fun q2 => q2.elim (fun q2 => g3 q2.1) (fun q2 => g6 q2.2)))]; rfl) kc
                · refine z_go 107 _ [.int (jn 0)] _ c_94_106 rfl ?_
                  exact z_v (by rw [decide_eq_false (fun q => by have q2 := of_decide_eq_true q.2; exact q2.elim g2 (fun q2 => q2.elim (fun q2 => g3 q2.1) (fun q2 => g5 q2.1)))]; rfl) kc
        refine z_go 109 [some (.ref 92), some (.int (jn i)), some (.int (jn m)), some (.int (jn k)), some (.int (jb ex)), some (.int (jb (decide (pn j ≠ k ∧ sm_kk ex b c = true)))), some (.int (jn j)), some (.int (jn b)), some (.int (jn c))] [] _ c_94_107 rfl ?_
        refine z_iinc 112 [some (.ref 92), some (.int (jn i)), some (.int (jn m)), some (.int (jn k)), some (.int (jb ex)), some (.int (jb (decide (pn j ≠ k ∧ sm_kk ex b c = true)))), some (.int (jn (j + 1))), some (.int (jn b)), some (.int (jn c))] c_94_109 rfl rfl (jn_add _ _) rfl ?_
        refine z_go 14 _ [] _ c_94_112 rfl ?_
        refine (ih (j := j + 1) (by omega) H0).mono fun r M1 q => ⟨q.1.trans ?_, q.2⟩
        rw [gyt, Bool.true_and, sm_ags, hb0, hc0]
        by_cases g : pn j ≠ k ∧ sm_kk ex b c = true
        · rw [if_pos g, decide_eq_true g, Bool.true_and]
        · rw [if_neg g, decide_eq_false g]; rfl
    · omega
theorem t_mag {d : Nat} {w : MW} {tx : Nat → Nat} {ln at_ n : Nat} {gd : Bool} {A : Nat → MA} {bm bk : Nat → Nat} {oa : Nat → Option Nat} {ol : Nat → Nat} {M : jx_M} {ids szs : Nat → Nat} {E : Nat → MA} {al : Nat → Nat} (hK : mKp M ids szs E al) {m i k : Nat} {ex : Bool} {pu : Nat → Option Nat} {pn : Nat → Nat} (H : mRd M w tx ln at_ n gd A bm bk oa ol) (h111 : M.1 111 = .inl (0, 11, .inl (jao pu))) (hn : n ≤ 10) (hm : m < 12) (hi : i < n) (hs : szs m ≤ 10) (hk : k < szs m) (hA : ∀ q, q < n → aL A q < 64 ∧ aE A q < 128 ∧ aH A q < 100 ∧ q3 (aQ A q)) (hEk : ∀ k, k < szs m → okM (E (10 * m + k))) (hbm : bmS n bm) (hal : ∀ x, al x < 8) (hpn : ∀ j, j < i → pu j = some (pn j) ∧ pn j < 10) : jZ (d + 2) 94 0 [some (.ref 92), some (.int (jn i)), some (.int (jn m)), some (.int (jn k)), some (.int (jb ex)), none, none, none, none] [] M (jR (some (.int (jb (sm_ag (mfit ex A E m) ex bm al m i k pn)))) M) := by
  have H0 := H
  obtain ⟨h92, h93, ⟨h94, h95, h96, h97, h98, h99⟩, h100, h101, h102, h103⟩ := H
  refine z_go 1 _ [.ref 92] _ c_94_0 rfl ?_
  refine z_go 2 _ [.int (jn i), .ref 92] _ c_94_1 rfl ?_
  refine z_go 3 _ [.int (jn m), .int (jn i), .ref 92] _ c_94_2 rfl ?_
  refine z_go 4 _ [.int (jn k), .int (jn m), .int (jn i), .ref 92] _ c_94_3 rfl ?_
  refine z_go 6 _ [.int (jb ex), .int (jn k), .int (jn m), .int (jn i), .ref 92] _ c_94_4 rfl ?_
  refine z_callv 9 6 95 4 92 c_94_6 rfl ⟨Nat.le_of_ble_eq_true rfl, Nat.le_of_ble_eq_true rfl⟩ rfl h92 [.ref 92, .int (jn i), .int (jn m), .int (jn k), .int (jb ex)] rfl rfl [some (.ref 92), some (.int (jn i)), some (.int (jn m)), some (.int (jn k)), some (.int (jb ex)), none, none] rfl rfl (t_mft (d := d) hK H0 hn hm hi hs hk hA hEk) ?_
  show jZ _ _ _ _ [.int (jb (mfit ex A E m i k))] _ _
  refine z_go 11 [some (.ref 92), some (.int (jn i)), some (.int (jn m)), some (.int (jn k)), some (.int (jb ex)), some (.int (jb (mfit ex A E m i k))), none, none, none] [] _ c_94_9 rfl ?_
  refine z_go 12 _ [.int (jn 0)] _ c_94_11 rfl ?_
  refine z_go 14 [some (.ref 92), some (.int (jn i)), some (.int (jn m)), some (.int (jn k)), some (.int (jb ex)), some (.int (jb (mfit ex A E m i k))), some (.int (jn 0)), none, none] [] _ c_94_12 rfl ?_
  exact t_mag_l hK h111 hn hm hi (by omega) hbm hal hpn (by omega) H0
def fP (M M' : jx_M) : Prop := (∀ k, k ≠ 111 → M'.1 k = M.1 k) ∧ M'.2 = M.2 ∧ ∃ pu, M'.1 111 = .inl (0, 11, .inl (jao pu))
theorem fP_r {M : jx_M} {pu : Nat → Option Nat} (h : M.1 111 = .inl (0, 11, .inl (jao pu))) : fP M M := ⟨fun _ _ => rfl, rfl, pu, h⟩
theorem fP.tr {M M1 M2 : jx_M} (h : fP M M1) (k : fP M1 M2) : fP M M2 := ⟨fun q a => (k.1 q a).trans (h.1 q a), k.2.1.trans h.2.1, k.2.2⟩
theorem fP_w {M : jx_M} {pu : Nat → Option Nat} : fP M (jm [(111, .inl (0, 11, .inl (jao pu)))] M) := ⟨fun _ h => if_neg h, rfl, pu, rfl⟩
theorem t_mcp_in {w : MW} {tx : Nat → Nat} {ln at_ n : Nat} {gd : Bool} {A : Nat → MA} {bm bk : Nat → Nat} {oa : Nat → Option Nat} {ol : Nat → Nat} {ids szs : Nat → Nat} {E : Nat → MA} {al : Nat → Nat} {m : Nat} {ex : Bool} {d : Nat} {post : jx_R → jx_M → Prop} (hn : n ≤ 10) (hm : m < 12) (hs : szs m ≤ 10) (hA : ∀ q, q < n → aL A q < 64 ∧ aE A q < 128 ∧ aH A q < 100 ∧ q3 (aQ A q)) (hEk : ∀ k, k < szs m → okM (E (10 * m + k))) (hbm : bmS n bm) (hal : ∀ x, al x < 8) {f i : Nat} {pn : Nat → Nat} (hi : i < n) (hif : n ≤ i + 1 + f) (hC : ∀ {i : Nat} {pu : Nat → Option Nat} {pn : Nat → Nat} {z4 : Option Value} {M : jx_M}, i ≤ n → n ≤ i + f → (∀ j, j < i → pu j = some (pn j) ∧ pn j < 10) → pu i = none → mRd M w tx ln at_ n gd A bm bk oa ol → mKp M ids szs E al → M.1 111 = .inl (0, 11, .inl (jao pu)) → (sm_bt n (szs m) (sm_ag (mfit ex A E m) ex bm al m) f i pn = true → ∀ M', fP M M' → post (.inl (some (.int (jb true)))) M') → (sm_bt n (szs m) (sm_ag (mfit ex A E m) ex bm al m) f i pn = false → ∀ M' pu' y4, fP M M' → M'.1 111 = .inl (0, 11, .inl (jao pu')) → (∀ j, j < i → pu' j = pu j) → jZ (d + 3) 93 41 [some (.ref 92), some (.int (jn m)), some (.int (jb ex)), some (.int (jn i + -1)), y4] [] M' post) → jZ (d + 3) 93 41 [some (.ref 92), some (.int (jn m)), some (.int (jb ex)), some (.int (jn i)), z4] [] M post) : ∀ {t k0 : Nat} {pu : Nat → Option Nat} {M : jx_M}, k0 + t = szs m → mRd M w tx ln at_ n gd A bm bk oa ol → mKp M ids szs E al → M.1 111 = .inl (0, 11, .inl (jao pu)) → (∀ j, j < i → pu j = some (pn j) ∧ pn j < 10) → (sp_any (fun k => (sm_ag (mfit ex A E m) ex bm al m) i k pn && sm_bt n (szs m) (sm_ag (mfit ex A E m) ex bm al m) f (i + 1) (nu pn i k)) t k0 = true → ∀ M', fP M M' → post (.inl (some (.int (jb true)))) M') → (sp_any (fun k => (sm_ag (mfit ex A E m) ex bm al m) i k pn && sm_bt n (szs m) (sm_ag (mfit ex A E m) ex bm al m) f (i + 1) (nu pn i k)) t k0 = false → ∀ M' pu' y4, fP M M' → M'.1 111 = .inl (0, 11, .inl (jao pu')) → (∀ j, j < i → pu' j = pu j) → jZ (d + 3) 93 41 [some (.ref 92), some (.int (jn m)), some (.int (jb ex)), some (.int (jn i + -1)), y4] [] M' post) → jZ (d + 3) 93 63 [some (.ref 92), some (.int (jn m)), some (.int (jb ex)), some (.int (jn i)), some (.int (jn k0))] [] M post := by
  intro t
  induction t with
  | zero =>
    intro k0 pu M hkt H hK h111 hpn hT hF
    obtain ⟨h92, h93, ⟨h94, h95, h96, h97, h98, h99⟩, h100, h101, h102, h103⟩ := H
    refine z_go 65 _ [.int (jn k0)] _ c_93_63 rfl ?_
    refine z_go 66 _ [.ref 92, .int (jn k0)] _ c_93_65 rfl ?_
    refine z_getf (v := .ref 105) 69 c_93_66 rfl h92 rfl ?_
    refine z_go 70 _ [.int (jn m), .ref 105, .int (jn k0)] _ c_93_69 rfl ?_
    refine z_iald 71 c_93_70 rfl hK.2.1 (Or.inl rfl) (by omega) (by omega) ?_
    show jZ _ _ _ _ ([.int (jn (szs m)), .int (jn k0)]) _ _
    refine z_ige 92 74 c_93_71 rfl (by omega) (by omega) (fun hj => ?_) (fun hj => ?_)
    · omega
    · refine z_go 94 _ [.int (jn k0)] _ c_93_92 rfl ?_
      refine z_go 95 _ [.ref 92, .int (jn k0)] _ c_93_94 rfl ?_
      refine z_getf (v := .ref 105) 98 c_93_95 rfl h92 rfl ?_
      refine z_go 99 _ [.int (jn m), .ref 105, .int (jn k0)] _ c_93_98 rfl ?_
      refine z_iald 100 c_93_99 rfl hK.2.1 (Or.inl rfl) (by omega) (by omega) ?_
      show jZ _ _ _ _ ([.int (jn (szs m)), .int (jn k0)]) _ _
      refine z_ige 124 103 c_93_100 rfl (by omega) (by omega) (fun hj2 => ?_) (fun hj2 => ?_)
      · omega
      · refine z_iinc 127 [some (.ref 92), some (.int (jn m)), some (.int (jb ex)), some (.int (jn i + -1)), some (.int (jn k0))] c_93_124 rfl rfl rfl rfl ?_
        refine z_go 41 _ [] _ c_93_127 rfl ?_
        exact hF rfl M pu _ (fP_r h111) h111 (fun j _ => rfl)
  | succ t ih =>
    intro k0 pu M hkt H hK h111 hpn hT hF
    have H0 := H
    obtain ⟨h92, h93, ⟨h94, h95, h96, h97, h98, h99⟩, h100, h101, h102, h103⟩ := H
    refine z_go 65 _ [.int (jn k0)] _ c_93_63 rfl ?_
    refine z_go 66 _ [.ref 92, .int (jn k0)] _ c_93_65 rfl ?_
    refine z_getf (v := .ref 105) 69 c_93_66 rfl h92 rfl ?_
    refine z_go 70 _ [.int (jn m), .ref 105, .int (jn k0)] _ c_93_69 rfl ?_
    refine z_iald 71 c_93_70 rfl hK.2.1 (Or.inl rfl) (by omega) (by omega) ?_
    show jZ _ _ _ _ ([.int (jn (szs m)), .int (jn k0)]) _ _
    refine z_ige 92 74 c_93_71 rfl (by omega) (by omega) (fun hj => ?_) (fun hj => ?_)
    · refine z_go 75 _ [.ref 92] _ c_93_74 rfl ?_
      refine z_go 76 _ [.int (jn i), .ref 92] _ c_93_75 rfl ?_
      refine z_go 77 _ [.int (jn m), .int (jn i), .ref 92] _ c_93_76 rfl ?_
      refine z_go 79 _ [.int (jn k0), .int (jn m), .int (jn i), .ref 92] _ c_93_77 rfl ?_
      refine z_go 80 _ [.int (jb ex), .int (jn k0), .int (jn m), .int (jn i), .ref 92] _ c_93_79 rfl ?_
      refine z_callv 83 6 94 4 92 c_93_80 rfl ⟨Nat.le_of_ble_eq_true rfl, Nat.le_of_ble_eq_true rfl⟩ rfl h92 [.ref 92, .int (jn i), .int (jn m), .int (jn k0), .int (jb ex)] rfl rfl [some (.ref 92), some (.int (jn i)), some (.int (jn m)), some (.int (jn k0)), some (.int (jb ex)), none, none, none, none] rfl rfl (t_mag (d := d) hK H0 h111 hn hm hi hs hj hA hEk hbm hal hpn) ?_
      show jZ _ _ _ _ [.int (jb (sm_ag (mfit ex A E m) ex bm al m i k0 pn))] _ _
      refine z_ifne 92 86 c_93_83 rfl jb_t (fun h1 => ?_) (fun h1 => ?_)
      · refine z_iinc 89 [some (.ref 92), some (.int (jn m)), some (.int (jb ex)), some (.int (jn i)), some (.int (jn (k0 + 1)))] c_93_86 rfl rfl (jn_add _ _) rfl ?_
        refine z_go 63 _ [] _ c_93_89 rfl ?_
        have e0 : ¬ ((sm_ag (mfit ex A E m) ex bm al m) i k0 pn && sm_bt n (szs m) (sm_ag (mfit ex A E m) ex bm al m) f (i + 1) (nu pn i k0)) = true := fun q => by rw [h1] at q; cases q
        rw [sp_any, if_neg e0] at hT hF
        exact ih (k0 := k0 + 1) (by omega) H0 hK h111 hpn hT hF
      · have h1t : (sm_ag (mfit ex A E m) ex bm al m) i k0 pn = true := by cases h : (sm_ag (mfit ex A E m) ex bm al m) i k0 pn <;> simp_all
        refine z_go 94 _ [.int (jn k0)] _ c_93_92 rfl ?_
        refine z_go 95 _ [.ref 92, .int (jn k0)] _ c_93_94 rfl ?_
        refine z_getf (v := .ref 105) 98 c_93_95 rfl h92 rfl ?_
        refine z_go 99 _ [.int (jn m), .ref 105, .int (jn k0)] _ c_93_98 rfl ?_
        refine z_iald 100 c_93_99 rfl hK.2.1 (Or.inl rfl) (by omega) (by omega) ?_
        show jZ _ _ _ _ ([.int (jn (szs m)), .int (jn k0)]) _ _
        refine z_ige 124 103 c_93_100 rfl (by omega) (by omega) (fun hj3 => ?_) (fun hj3 => ?_)
        · refine z_go 104 _ [.ref 92] _ c_93_103 rfl ?_
          refine z_getf (v := .ref 111) 107 c_93_104 rfl h92 rfl ?_
          refine z_go 108 _ [.int (jn i), .ref 111] _ c_93_107 rfl ?_
          refine z_go 110 _ [.int (jn k0), .int (jn i), .ref 111] _ c_93_108 rfl ?_
          refine z_iast (M' := jm [(111, .inl (0, 11, .inl (jao (nu pu i (some k0)))))] M) 111 c_93_110 rfl h111 (by omega) (by omega) ((congrArg (fun f => jx_st _ 111 (.inl (0, 11, .inl f))) (jao_upd (f := pu) (k := i) (x := some k0))).trans rfl) ?_
          refine z_iinc 114 [some (.ref 92), some (.int (jn m)), some (.int (jb ex)), some (.int (jn (i + 1))), some (.int (jn k0))] c_93_111 rfl rfl (jn_add _ _) rfl ?_
          refine z_go 115 _ [.ref 92] _ c_93_114 rfl ?_
          refine z_getf (v := .ref 111) 118 c_93_115 rfl h92 rfl ?_
          refine z_go 119 _ [.int (jn (i + 1)), .ref 111] _ c_93_118 rfl ?_
          refine z_go 120 _ [.int (jo none), .int (jn (i + 1)), .ref 111] _ c_93_119 rfl ?_
          refine z_iast (M' := jm [(111, .inl (0, 11, .inl (jao (nu (nu pu i (some k0)) (i + 1) none))))] M) 121 c_93_120 rfl rfl (by omega) (by omega) ((congrArg (fun f => jx_st _ 111 (.inl (0, 11, .inl f))) (jao_upd (f := nu pu i (some k0)) (k := i + 1) (x := none))).trans (jm_w rfl)) ?_
          refine z_go 127 _ [] _ c_93_121 rfl ?_
          refine z_go 41 _ [] _ c_93_127 rfl ?_
          refine hC (M := jm [(111, .inl (0, 11, .inl (jao (nu (nu pu i (some k0)) (i + 1) none))))] M) (i := i + 1) (pu := nu (nu pu i (some k0)) (i + 1) none) (pn := nu pn i k0) (by omega) (by omega) (fun j hj => ?_) nu_at' (mRd_fr H0 fun k a b => if_neg (by omega)) (mKp_fr hK fun k a b => if_neg (by omega)) rfl (fun q M' g1 => ?_) (fun q M' pu' y4 g1 g2 g3 => ?_)
          · rw [nu_ne (by omega)]
            by_cases e : j = i
            · subst e; rw [nu_at', nu_at']; exact ⟨rfl, by omega⟩
            · rw [nu_ne e, nu_ne e]; exact hpn j (by omega)
          · exact hT (by rw [sp_any, if_pos (by rw [h1t, q]; rfl)]) M' (fP_w.tr g1)
          · have hff : fP M M' := fP_w.tr g1
            have H' := mRd_fr H0 (M1 := M') fun k a b => hff.1 k (by omega)
            have h92' := H'.1
            have hK' := mKp_fr hK (M1 := M') fun k a b => hff.1 k (by omega)
            have ep : pu' i = some k0 := (g3 i (by omega)).trans (by rw [nu_ne (by omega), nu_at'])
            rw [jn_up]
            refine z_go 42 _ [.int (jn i)] _ c_93_41 rfl ?_
            refine z_iflt 130 45 c_93_42 rfl (jn_nl (by omega)) (fun hz => ?_) (fun hz => ?_)
            · exact hz.elim
            · refine z_go 46 _ [.int (jn i)] _ c_93_45 rfl ?_
              refine z_go 47 _ [.ref 92, .int (jn i)] _ c_93_46 rfl ?_
              refine z_getf (v := .int (jn n)) 50 c_93_47 rfl h92' rfl ?_
              refine z_ige 130 53 c_93_50 rfl (by omega) (by omega) (fun hz2 => ?_) (fun hz2 => ?_)
              · refine z_go 54 _ [.ref 92] _ c_93_53 rfl ?_
                refine z_getf (v := .ref 111) 57 c_93_54 rfl h92' rfl ?_
                refine z_go 58 _ [.int (jn i), .ref 111] _ c_93_57 rfl ?_
                refine z_iald 59 c_93_58 rfl g2 (Or.inl rfl) (by omega) (by omega) ?_
                show jZ _ _ _ _ ([.int (jo (pu' i))]) _ _
                rw [ep]
                show jZ _ _ _ _ [.int (jn k0)] _ _
                refine z_go 60 _ [.int (jn 1), .int (jn k0)] _ c_93_59 rfl ?_
                refine z_go 61 _ [.int ((jn k0) + (jn 1))] _ c_93_60 rfl ?_
                refine z_v (jn_add _ _) ?_
                refine z_go 63 [some (.ref 92), some (.int (jn m)), some (.int (jb ex)), some (.int (jn i)), some (.int (jn (k0 + 1)))] [] _ c_93_61 rfl ?_
                have e0 : ¬ ((sm_ag (mfit ex A E m) ex bm al m) i k0 pn && sm_bt n (szs m) (sm_ag (mfit ex A E m) ex bm al m) f (i + 1) (nu pn i k0)) = true := fun t => by rw [q, Bool.and_false] at t; cases t
                rw [sp_any, if_neg e0] at hT hF
                have ag : ∀ j, j < i → pu' j = pu j := fun j hj => (g3 j (by omega)).trans ((nu_ne (by omega)).trans (nu_ne (by omega)))
                exact ih (M := M') (k0 := k0 + 1) (by omega) H' hK' g2 (fun j hj => by rw [ag j hj]; exact hpn j hj) (fun t M9 a1 => hT t M9 (hff.tr a1)) (fun t M9 pu9 w4 a1 a2 a3 => hF t M9 pu9 w4 (hff.tr a1) a2 (fun j hj => (a3 j hj).trans (ag j hj)))
              · omega
        · omega
    · omega
theorem t_mcp_c {w : MW} {tx : Nat → Nat} {ln at_ n : Nat} {gd : Bool} {A : Nat → MA} {bm bk : Nat → Nat} {oa : Nat → Option Nat} {ol : Nat → Nat} {ids szs : Nat → Nat} {E : Nat → MA} {al : Nat → Nat} {m : Nat} {ex : Bool} {d : Nat} {post : jx_R → jx_M → Prop} (hn : n ≤ 10) (hm : m < 12) (hs : szs m ≤ 10) (hA : ∀ q, q < n → aL A q < 64 ∧ aE A q < 128 ∧ aH A q < 100 ∧ q3 (aQ A q)) (hEk : ∀ k, k < szs m → okM (E (10 * m + k))) (hbm : bmS n bm) (hal : ∀ x, al x < 8) : ∀ {f : Nat}, ∀ {i : Nat} {pu : Nat → Option Nat} {pn : Nat → Nat} {z4 : Option Value} {M : jx_M}, i ≤ n → n ≤ i + f → (∀ j, j < i → pu j = some (pn j) ∧ pn j < 10) → pu i = none → mRd M w tx ln at_ n gd A bm bk oa ol → mKp M ids szs E al → M.1 111 = .inl (0, 11, .inl (jao pu)) → (sm_bt n (szs m) (sm_ag (mfit ex A E m) ex bm al m) f i pn = true → ∀ M', fP M M' → post (.inl (some (.int (jb true)))) M') → (sm_bt n (szs m) (sm_ag (mfit ex A E m) ex bm al m) f i pn = false → ∀ M' pu' y4, fP M M' → M'.1 111 = .inl (0, 11, .inl (jao pu')) → (∀ j, j < i → pu' j = pu j) → jZ (d + 3) 93 41 [some (.ref 92), some (.int (jn m)), some (.int (jb ex)), some (.int (jn i + -1)), y4] [] M' post) → jZ (d + 3) 93 41 [some (.ref 92), some (.int (jn m)), some (.int (jb ex)), some (.int (jn i)), z4] [] M post := by
  intro f
  induction f with
  | zero =>
    intro i pu pn z4 M hin hif hpn hpi H hK h111 hT hF
    obtain ⟨h92, h93, ⟨h94, h95, h96, h97, h98, h99⟩, h100, h101, h102, h103⟩ := H
    refine z_go 42 _ [.int (jn i)] _ c_93_41 rfl ?_
    refine z_iflt 130 45 c_93_42 rfl (jn_nl (by omega)) (fun hz => ?_) (fun hz => ?_)
    · exact hz.elim
    · refine z_go 46 _ [.int (jn i)] _ c_93_45 rfl ?_
      refine z_go 47 _ [.ref 92, .int (jn i)] _ c_93_46 rfl ?_
      refine z_getf (v := .int (jn n)) 50 c_93_47 rfl h92 rfl ?_
      refine z_ige 130 53 c_93_50 rfl (by omega) (by omega) (fun hz2 => ?_) (fun hz2 => ?_)
      · omega
      · refine z_go 131 _ [.int (jn i)] _ c_93_130 rfl ?_
        refine z_go 132 _ [.ref 92, .int (jn i)] _ c_93_131 rfl ?_
        refine z_getf (v := .int (jn n)) 135 c_93_132 rfl h92 rfl ?_
        refine z_ine 142 138 c_93_135 rfl (jn_inj (by omega) (by omega)) (fun hz3 => ?_) (fun hz3 => ?_)
        · refine z_go 139 _ [.int (jn 1)] _ c_93_138 rfl ?_
          refine z_go 143 _ [.int (jn 1)] _ c_93_139 rfl ?_
          refine z_zret (b := true) c_93_143 ?_
          exact hT (by rfl) M (fP_r h111)
        · omega
  | succ f ih =>
    intro i pu pn z4 M hin hif hpn hpi H hK h111 hT hF
    have H0 := H
    obtain ⟨h92, h93, ⟨h94, h95, h96, h97, h98, h99⟩, h100, h101, h102, h103⟩ := H
    by_cases hin : i < n
    · refine z_go 42 _ [.int (jn i)] _ c_93_41 rfl ?_
      refine z_iflt 130 45 c_93_42 rfl (jn_nl (by omega)) (fun hz => ?_) (fun hz => ?_)
      · exact hz.elim
      · refine z_go 46 _ [.int (jn i)] _ c_93_45 rfl ?_
        refine z_go 47 _ [.ref 92, .int (jn i)] _ c_93_46 rfl ?_
        refine z_getf (v := .int (jn n)) 50 c_93_47 rfl h92 rfl ?_
        refine z_ige 130 53 c_93_50 rfl (by omega) (by omega) (fun hz2 => ?_) (fun hz2 => ?_)
        · refine z_go 54 _ [.ref 92] _ c_93_53 rfl ?_
          refine z_getf (v := .ref 111) 57 c_93_54 rfl h92 rfl ?_
          refine z_go 58 _ [.int (jn i), .ref 111] _ c_93_57 rfl ?_
          refine z_iald 59 c_93_58 rfl h111 (Or.inl rfl) (by omega) (by omega) ?_
          show jZ _ _ _ _ ([.int (jo (pu i))]) _ _
          rw [hpi]
          show jZ _ _ _ _ [.int (jo none)] _ _
          refine z_go 60 _ [.int (jn 1), .int (jo none)] _ c_93_59 rfl ?_
          refine z_go 61 _ [.int (((jo none)) + (jn 1))] _ c_93_60 rfl ?_
          refine z_v (show jo none + jn 1 = jn 0 by decide) ?_
          refine z_go 63 [some (.ref 92), some (.int (jn m)), some (.int (jb ex)), some (.int (jn i)), some (.int (jn 0))] [] _ c_93_61 rfl ?_
          exact t_mcp_in (f := f) hn hm hs hA hEk hbm hal hin (by omega) ih (t := szs m) (by omega) H0 hK h111 hpn (fun q => hT (by rw [sm_bt, if_pos hin]; exact q)) (fun q => hF (by rw [sm_bt, if_pos hin]; exact q))
        · omega
    · refine z_go 42 _ [.int (jn i)] _ c_93_41 rfl ?_
      refine z_iflt 130 45 c_93_42 rfl (jn_nl (by omega)) (fun hz => ?_) (fun hz => ?_)
      · exact hz.elim
      · refine z_go 46 _ [.int (jn i)] _ c_93_45 rfl ?_
        refine z_go 47 _ [.ref 92, .int (jn i)] _ c_93_46 rfl ?_
        refine z_getf (v := .int (jn n)) 50 c_93_47 rfl h92 rfl ?_
        refine z_ige 130 53 c_93_50 rfl (by omega) (by omega) (fun hz2 => ?_) (fun hz2 => ?_)
        · omega
        · refine z_go 131 _ [.int (jn i)] _ c_93_130 rfl ?_
          refine z_go 132 _ [.ref 92, .int (jn i)] _ c_93_131 rfl ?_
          refine z_getf (v := .int (jn n)) 135 c_93_132 rfl h92 rfl ?_
          refine z_ine 142 138 c_93_135 rfl (jn_inj (by omega) (by omega)) (fun hz3 => ?_) (fun hz3 => ?_)
          · refine z_go 139 _ [.int (jn 1)] _ c_93_138 rfl ?_
            refine z_go 143 _ [.int (jn 1)] _ c_93_139 rfl ?_
            refine z_zret (b := true) c_93_143 ?_
            exact hT (by rw [sm_bt, if_neg hin]) M (fP_r h111)
          · omega
theorem t_mcp {d : Nat} {w : MW} {tx : Nat → Nat} {ln at_ n : Nat} {gd : Bool} {A : Nat → MA} {bm bk : Nat → Nat} {oa : Nat → Option Nat} {ol : Nat → Nat} {M : jx_M} {ids szs : Nat → Nat} {E : Nat → MA} {al : Nat → Nat} (hK : mKp M ids szs E al) {m : Nat} {ex : Bool} {pu : Nat → Option Nat} (H : mRd M w tx ln at_ n gd A bm bk oa ol) (h111 : M.1 111 = .inl (0, 11, .inl (jao pu))) (hn : n ≤ 10) (hm : m < 12) (hs : szs m ≤ 10) (hA : ∀ q, q < n → aL A q < 64 ∧ aE A q < 128 ∧ aH A q < 100 ∧ q3 (aQ A q)) (hEk : ∀ k, k < szs m → okM (E (10 * m + k))) (hbm : bmS n bm) (hal : ∀ x, al x < 8) : jZ (d + 3) 93 0 [some (.ref 92), some (.int (jn m)), some (.int (jb ex)), none, none] [] M (jV (some (.int (jb (decide (n ≤ szs m ∧ (ex = true → n = szs m)) && sm_bt n (szs m) (sm_ag (mfit ex A E m) ex bm al m) 10 0 (fun _ => 0))))) fun M' => fP M M') := by
  have H0 := H
  obtain ⟨h92, h93, ⟨h94, h95, h96, h97, h98, h99⟩, h100, h101, h102, h103⟩ := H
  refine z_go 1 _ [.ref 92] _ c_93_0 rfl ?_
  refine z_getf (v := .int (jn n)) 4 c_93_1 rfl h92 rfl ?_
  refine z_go 5 _ [.ref 92, .int (jn n)] _ c_93_4 rfl ?_
  refine z_getf (v := .ref 105) 8 c_93_5 rfl h92 rfl ?_
  refine z_go 9 _ [.int (jn m), .ref 105, .int (jn n)] _ c_93_8 rfl ?_
  refine z_iald 10 c_93_9 rfl hK.2.1 (Or.inl rfl) (by omega) (by omega) ?_
  show jZ _ _ _ _ ([.int (jn (szs m)), .int (jn n)]) _ _
  refine z_igt 30 13 c_93_10 rfl (by omega) (by omega) (fun g1 => ?_) (fun g1 => ?_)
  · refine z_go 31 _ [.int (jn 0)] _ c_93_30 rfl ?_
    refine z_zret (b := false) c_93_31 ?_
    exact ⟨by rw [decide_eq_false (fun q => by omega)]; rfl, fP_r h111⟩
  · refine z_go 14 _ [.int (jb ex)] _ c_93_13 rfl ?_
    refine z_ifeq 32 17 c_93_14 rfl jb_t (fun g2 => ?_) (fun g2 => ?_)
    · refine z_go 33 _ [.int (jn 0)] _ c_93_32 rfl ?_
      refine z_go 34 [some (.ref 92), some (.int (jn m)), some (.int (jb ex)), some (.int (jn 0)), none] [] _ c_93_33 rfl ?_
      refine z_go 35 _ [.ref 92] _ c_93_34 rfl ?_
      refine z_getf (v := .ref 111) 38 c_93_35 rfl h92 rfl ?_
      refine z_go 39 _ [.int (jn 0), .ref 111] _ c_93_38 rfl ?_
      refine z_go 40 _ [.int (jo none), .int (jn 0), .ref 111] _ c_93_39 rfl ?_
      refine z_iast (M' := jm [(111, .inl (0, 11, .inl (jao (nu pu 0 none))))] M) 41 c_93_40 rfl h111 (by omega) (by omega) ((congrArg (fun f => jx_st _ 111 (.inl (0, 11, .inl f))) (jao_upd (f := pu) (k := 0) (x := none))).trans rfl) ?_
      rw [decide_eq_true (show n ≤ szs m ∧ (ex = true → n = szs m) from ⟨by omega, fun q => by rw [g2] at q; cases q⟩), Bool.true_and]
      refine t_mcp_c (f := 10) (i := 0) (pu := nu pu 0 none) (pn := fun _ => 0) (M := jm [(111, .inl (0, 11, .inl (jao (nu pu 0 none))))] M) hn hm hs hA hEk hbm hal (by omega) (by omega) (fun j hj => by omega) nu_at' (mRd_fr H0 fun k a b => if_neg (by omega)) (mKp_fr hK fun k a b => if_neg (by omega)) rfl (fun q M' g1 => ?_) (fun q M' pu' y4 g1 g2 g3 => ?_)
      · rw [q]; exact ⟨rfl, fP_w.tr g1⟩
      · rw [q]
        have hff : fP M M' := fP_w.tr g1
        have h92' : M'.1 92 = mW w ln at_ n gd := (hff.1 92 (by decide)).trans h92
        refine z_go 42 _ [.int (jn 0 + -1)] _ c_93_41 rfl ?_
        refine z_iflt 130 45 c_93_42 rfl Iff.rfl (fun hz => ?_) (fun hz => ?_)
        · refine z_go 131 _ [.int (jn 0 + -1)] _ c_93_130 rfl ?_
          refine z_go 132 _ [.ref 92, .int (jn 0 + -1)] _ c_93_131 rfl ?_
          refine z_getf (v := .int (jn n)) 135 c_93_132 rfl h92' rfl ?_
          refine z_ine 142 138 c_93_135 rfl Iff.rfl (fun hz4 => ?_) (fun hz4 => ?_)
          · exact absurd hz4 (fun t => jn_ne1 (a := n) (by omega) (by rw [← t]; decide))
          · refine z_go 143 _ [.int (jn 0)] _ c_93_142 rfl ?_
            refine z_zret (b := false) c_93_143 ?_
            exact ⟨rfl, hff⟩
        · exact absurd (show jn 0 + -1 < 0 by decide) hz
    · have g2t : ex = true := by cases ex <;> simp_all
      refine z_go 18 _ [.ref 92] _ c_93_17 rfl ?_
      refine z_getf (v := .int (jn n)) 21 c_93_18 rfl h92 rfl ?_
      refine z_go 22 _ [.ref 92, .int (jn n)] _ c_93_21 rfl ?_
      refine z_getf (v := .ref 105) 25 c_93_22 rfl h92 rfl ?_
      refine z_go 26 _ [.int (jn m), .ref 105, .int (jn n)] _ c_93_25 rfl ?_
      refine z_iald 27 c_93_26 rfl hK.2.1 (Or.inl rfl) (by omega) (by omega) ?_
      show jZ _ _ _ _ ([.int (jn (szs m)), .int (jn n)]) _ _
      refine z_ieq 32 30 c_93_27 rfl (jn_inj (by omega) (by omega)) (fun g3 => ?_) (fun g3 => ?_)
      · refine z_go 33 _ [.int (jn 0)] _ c_93_32 rfl ?_
        refine z_go 34 [some (.ref 92), some (.int (jn m)), some (.int (jb ex)), some (.int (jn 0)), none] [] _ c_93_33 rfl ?_
        refine z_go 35 _ [.ref 92] _ c_93_34 rfl ?_
        refine z_getf (v := .ref 111) 38 c_93_35 rfl h92 rfl ?_
        refine z_go 39 _ [.int (jn 0), .ref 111] _ c_93_38 rfl ?_
        refine z_go 40 _ [.int (jo none), .int (jn 0), .ref 111] _ c_93_39 rfl ?_
        refine z_iast (M' := jm [(111, .inl (0, 11, .inl (jao (nu pu 0 none))))] M) 41 c_93_40 rfl h111 (by omega) (by omega) ((congrArg (fun f => jx_st _ 111 (.inl (0, 11, .inl f))) (jao_upd (f := pu) (k := 0) (x := none))).trans rfl) ?_
        rw [decide_eq_true (show n ≤ szs m ∧ (ex = true → n = szs m) from ⟨by omega, fun _ => g3⟩), Bool.true_and]
        refine t_mcp_c (f := 10) (i := 0) (pu := nu pu 0 none) (pn := fun _ => 0) (M := jm [(111, .inl (0, 11, .inl (jao (nu pu 0 none))))] M) hn hm hs hA hEk hbm hal (by omega) (by omega) (fun j hj => by omega) nu_at' (mRd_fr H0 fun k a b => if_neg (by omega)) (mKp_fr hK fun k a b => if_neg (by omega)) rfl (fun q M' g1 => ?_) (fun q M' pu' y4 g1 g2 g3 => ?_)
        · rw [q]; exact ⟨rfl, fP_w.tr g1⟩
        · rw [q]
          have hff : fP M M' := fP_w.tr g1
          have h92' : M'.1 92 = mW w ln at_ n gd := (hff.1 92 (by decide)).trans h92
          refine z_go 42 _ [.int (jn 0 + -1)] _ c_93_41 rfl ?_
          refine z_iflt 130 45 c_93_42 rfl Iff.rfl (fun hz => ?_) (fun hz => ?_)
          · refine z_go 131 _ [.int (jn 0 + -1)] _ c_93_130 rfl ?_
            refine z_go 132 _ [.ref 92, .int (jn 0 + -1)] _ c_93_131 rfl ?_
            refine z_getf (v := .int (jn n)) 135 c_93_132 rfl h92' rfl ?_
            refine z_ine 142 138 c_93_135 rfl Iff.rfl (fun hz4 => ?_) (fun hz4 => ?_)
            · exact absurd hz4 (fun t => jn_ne1 (a := n) (by omega) (by rw [← t]; decide))
            · refine z_go 143 _ [.int (jn 0)] _ c_93_142 rfl ?_
              refine z_zret (b := false) c_93_143 ?_
              exact ⟨rfl, hff⟩
          · exact absurd (show jn 0 + -1 < 0 by decide) hz
      · refine z_go 31 _ [.int (jn 0)] _ c_93_30 rfl ?_
        refine z_zret (b := false) c_93_31 ?_
        exact ⟨by rw [decide_eq_false (fun q => g3 (q.2 g2t))]; rfl, fP_r h111⟩
