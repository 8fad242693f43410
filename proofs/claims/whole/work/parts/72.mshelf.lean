/-! THE REFERENCE: its shelf; printed by wip/whole/p72.py -/
theorem c_96_0 : jx_cd 96 0 = some (o_ald 0 1) := rfl
theorem c_96_1 : jx_cd 96 1 = some (o_ald 0 1) := rfl
theorem c_96_2 : jx_cd 96 2 = some (o_getf 6 4) := rfl
theorem c_96_5 : jx_cd 96 5 = some (o_putf 6 32 jx_okI) := rfl
theorem c_96_8 : jx_cd 96 8 = some (o_push (.int 0) 1) := rfl
theorem c_96_9 : jx_cd 96 9 = some (o_ist 1 1) := rfl
theorem c_96_10 : jx_cd 96 10 = some (o_ild 1 1) := rfl
theorem c_96_11 : jx_cd 96 11 = some (o_ald 0 1) := rfl
theorem c_96_12 : jx_cd 96 12 = some (o_getf 6 4) := rfl
theorem c_96_15 : jx_cd 96 15 = some (o_ige 110) := rfl
theorem c_96_18 : jx_cd 96 18 = some (o_ald 0 1) := rfl
theorem c_96_19 : jx_cd 96 19 = some (o_getf 6 33) := rfl
theorem c_96_22 : jx_cd 96 22 = some (o_ild 1 1) := rfl
theorem c_96_23 : jx_cd 96 23 = some (o_ald 0 1) := rfl
theorem c_96_24 : jx_cd 96 24 = some (o_getf 6 5) := rfl
theorem c_96_27 : jx_cd 96 27 = some (o_ild 1 1) := rfl
theorem c_96_28 : jx_cd 96 28 = some (o_iald) := rfl
theorem c_96_29 : jx_cd 96 29 = some (o_iast) := rfl
theorem c_96_30 : jx_cd 96 30 = some (o_ald 0 1) := rfl
theorem c_96_31 : jx_cd 96 31 = some (o_getf 6 34) := rfl
theorem c_96_34 : jx_cd 96 34 = some (o_ild 1 1) := rfl
theorem c_96_35 : jx_cd 96 35 = some (o_ald 0 1) := rfl
theorem c_96_36 : jx_cd 96 36 = some (o_getf 6 6) := rfl
theorem c_96_39 : jx_cd 96 39 = some (o_ild 1 1) := rfl
theorem c_96_40 : jx_cd 96 40 = some (o_xald 2) := rfl
theorem c_96_41 : jx_cd 96 41 = some (o_zast) := rfl
theorem c_96_42 : jx_cd 96 42 = some (o_ald 0 1) := rfl
theorem c_96_43 : jx_cd 96 43 = some (o_getf 6 35) := rfl
theorem c_96_46 : jx_cd 96 46 = some (o_ild 1 1) := rfl
theorem c_96_47 : jx_cd 96 47 = some (o_ald 0 1) := rfl
theorem c_96_48 : jx_cd 96 48 = some (o_getf 6 7) := rfl
theorem c_96_51 : jx_cd 96 51 = some (o_ild 1 1) := rfl
theorem c_96_52 : jx_cd 96 52 = some (o_iald) := rfl
theorem c_96_53 : jx_cd 96 53 = some (o_iast) := rfl
theorem c_96_54 : jx_cd 96 54 = some (o_ald 0 1) := rfl
theorem c_96_55 : jx_cd 96 55 = some (o_getf 6 36) := rfl
theorem c_96_58 : jx_cd 96 58 = some (o_ild 1 1) := rfl
theorem c_96_59 : jx_cd 96 59 = some (o_ald 0 1) := rfl
theorem c_96_60 : jx_cd 96 60 = some (o_getf 6 8) := rfl
theorem c_96_63 : jx_cd 96 63 = some (o_ild 1 1) := rfl
theorem c_96_64 : jx_cd 96 64 = some (o_iald) := rfl
theorem c_96_65 : jx_cd 96 65 = some (o_iast) := rfl
theorem c_96_66 : jx_cd 96 66 = some (o_push (.int 0) 1) := rfl
theorem c_96_67 : jx_cd 96 67 = some (o_ist 2 1) := rfl
theorem c_96_68 : jx_cd 96 68 = some (o_ild 2 1) := rfl
theorem c_96_69 : jx_cd 96 69 = some (o_ald 0 1) := rfl
theorem c_96_70 : jx_cd 96 70 = some (o_getf 6 4) := rfl
theorem c_96_73 : jx_cd 96 73 = some (o_ige 104) := rfl
theorem c_96_76 : jx_cd 96 76 = some (o_ald 0 1) := rfl
theorem c_96_77 : jx_cd 96 77 = some (o_getf 6 37) := rfl
theorem c_96_80 : jx_cd 96 80 = some (o_push (.int 10) 2) := rfl
theorem c_96_82 : jx_cd 96 82 = some (o_ild 1 1) := rfl
theorem c_96_83 : jx_cd 96 83 = some (o_bin fun x y => x * y) := rfl
theorem c_96_84 : jx_cd 96 84 = some (o_ild 2 1) := rfl
theorem c_96_85 : jx_cd 96 85 = some (o_bin fun x y => x + y) := rfl
theorem c_96_86 : jx_cd 96 86 = some (o_ald 0 1) := rfl
theorem c_96_87 : jx_cd 96 87 = some (o_getf 6 11) := rfl
theorem c_96_90 : jx_cd 96 90 = some (o_push (.int 40) 2) := rfl
theorem c_96_92 : jx_cd 96 92 = some (o_ild 1 1) := rfl
theorem c_96_93 : jx_cd 96 93 = some (o_bin fun x y => x * y) := rfl
theorem c_96_94 : jx_cd 96 94 = some (o_ild 2 1) := rfl
theorem c_96_95 : jx_cd 96 95 = some (o_bin fun x y => x + y) := rfl
theorem c_96_96 : jx_cd 96 96 = some (o_iald) := rfl
theorem c_96_97 : jx_cd 96 97 = some (o_iast) := rfl
theorem c_96_98 : jx_cd 96 98 = some (o_iinc 2 1) := rfl
theorem c_96_101 : jx_cd 96 101 = some (o_goto 68) := rfl
theorem c_96_104 : jx_cd 96 104 = some (o_iinc 1 1) := rfl
theorem c_96_107 : jx_cd 96 107 = some (o_goto 10) := rfl
theorem c_96_110 : jx_cd 96 110 = some (o_ret) := rfl
theorem c_98_194 : jx_cd 98 194 = some (o_ild 2 1) := rfl
theorem c_98_195 : jx_cd 98 195 = some (o_ald 0 1) := rfl
theorem c_98_196 : jx_cd 98 196 = some (o_getf 6 16) := rfl
theorem c_98_199 : jx_cd 98 199 = some (o_ige 216) := rfl
set_option maxRecDepth 100000 in
theorem c_98_202 : jx_cd 98 202 = some (o_ald 0 1) := rfl
set_option maxRecDepth 100000 in
theorem c_98_203 : jx_cd 98 203 = some (o_ild 2 1) := rfl
set_option maxRecDepth 100000 in
theorem c_98_204 : jx_cd 98 204 = some (o_push (.int 1) 1) := rfl
set_option maxRecDepth 100000 in
theorem c_98_205 : jx_cd 98 205 = some (o_bin fun x y => x + y) := rfl
set_option maxRecDepth 100000 in
theorem c_98_206 : jx_cd 98 206 = some (o_ild 2 1) := rfl
set_option maxRecDepth 100000 in
theorem c_98_207 : jx_cd 98 207 = some (o_callv 6 100 2) := rfl
set_option maxRecDepth 100000 in
theorem c_98_210 : jx_cd 98 210 = some (o_iinc 2 1) := rfl
set_option maxRecDepth 100000 in
theorem c_98_213 : jx_cd 98 213 = some (o_goto 194) := rfl
set_option maxRecDepth 100000 in
theorem c_98_216 : jx_cd 98 216 = some (o_ret) := rfl
theorem c_99_0 : jx_cd 99 0 = some (o_push (.int 0) 1) := rfl
theorem c_99_1 : jx_cd 99 1 = some (o_ist 2 1) := rfl
theorem c_99_2 : jx_cd 99 2 = some (o_ild 2 1) := rfl
theorem c_99_3 : jx_cd 99 3 = some (o_ald 0 1) := rfl
theorem c_99_4 : jx_cd 99 4 = some (o_getf 6 16) := rfl
theorem c_99_7 : jx_cd 99 7 = some (o_ige 28) := rfl
theorem c_99_10 : jx_cd 99 10 = some (o_ald 0 1) := rfl
theorem c_99_11 : jx_cd 99 11 = some (o_getf 6 18) := rfl
theorem c_99_14 : jx_cd 99 14 = some (o_ild 2 1) := rfl
theorem c_99_15 : jx_cd 99 15 = some (o_iald) := rfl
theorem c_99_16 : jx_cd 99 16 = some (o_ild 1 1) := rfl
theorem c_99_17 : jx_cd 99 17 = some (o_ine 22) := rfl
theorem c_99_20 : jx_cd 99 20 = some (o_ild 2 1) := rfl
theorem c_99_21 : jx_cd 99 21 = some (o_iret) := rfl
theorem c_99_22 : jx_cd 99 22 = some (o_iinc 2 1) := rfl
theorem c_99_25 : jx_cd 99 25 = some (o_goto 2) := rfl
theorem c_99_28 : jx_cd 99 28 = some (o_push (.int (-1)) 1) := rfl
theorem c_99_29 : jx_cd 99 29 = some (o_iret) := rfl
theorem c_100_0 : jx_cd 100 0 = some (o_ald 0 1) := rfl
theorem c_100_1 : jx_cd 100 1 = some (o_getf 6 18) := rfl
theorem c_100_4 : jx_cd 100 4 = some (o_ild 2 1) := rfl
theorem c_100_5 : jx_cd 100 5 = some (o_ald 0 1) := rfl
theorem c_100_6 : jx_cd 100 6 = some (o_getf 6 18) := rfl
theorem c_100_9 : jx_cd 100 9 = some (o_ild 1 1) := rfl
theorem c_100_10 : jx_cd 100 10 = some (o_iald) := rfl
theorem c_100_11 : jx_cd 100 11 = some (o_iast) := rfl
theorem c_100_12 : jx_cd 100 12 = some (o_ald 0 1) := rfl
theorem c_100_13 : jx_cd 100 13 = some (o_getf 6 19) := rfl
theorem c_100_16 : jx_cd 100 16 = some (o_ild 2 1) := rfl
theorem c_100_17 : jx_cd 100 17 = some (o_ald 0 1) := rfl
theorem c_100_18 : jx_cd 100 18 = some (o_getf 6 19) := rfl
theorem c_100_21 : jx_cd 100 21 = some (o_ild 1 1) := rfl
theorem c_100_22 : jx_cd 100 22 = some (o_iald) := rfl
theorem c_100_23 : jx_cd 100 23 = some (o_iast) := rfl
theorem c_100_24 : jx_cd 100 24 = some (o_push (.int 0) 1) := rfl
theorem c_100_25 : jx_cd 100 25 = some (o_ist 3 1) := rfl
theorem c_100_26 : jx_cd 100 26 = some (o_ild 3 1) := rfl
theorem c_100_27 : jx_cd 100 27 = some (o_push (.int 10) 2) := rfl
theorem c_100_29 : jx_cd 100 29 = some (o_ige 126) := rfl
theorem c_100_32 : jx_cd 100 32 = some (o_ald 0 1) := rfl
theorem c_100_33 : jx_cd 100 33 = some (o_getf 6 20) := rfl
theorem c_100_36 : jx_cd 100 36 = some (o_push (.int 10) 2) := rfl
theorem c_100_38 : jx_cd 100 38 = some (o_ild 2 1) := rfl
theorem c_100_39 : jx_cd 100 39 = some (o_bin fun x y => x * y) := rfl
theorem c_100_40 : jx_cd 100 40 = some (o_ild 3 1) := rfl
theorem c_100_41 : jx_cd 100 41 = some (o_bin fun x y => x + y) := rfl
theorem c_100_42 : jx_cd 100 42 = some (o_ald 0 1) := rfl
theorem c_100_43 : jx_cd 100 43 = some (o_getf 6 20) := rfl
theorem c_100_46 : jx_cd 100 46 = some (o_push (.int 10) 2) := rfl
theorem c_100_48 : jx_cd 100 48 = some (o_ild 1 1) := rfl
theorem c_100_49 : jx_cd 100 49 = some (o_bin fun x y => x * y) := rfl
theorem c_100_50 : jx_cd 100 50 = some (o_ild 3 1) := rfl
theorem c_100_51 : jx_cd 100 51 = some (o_bin fun x y => x + y) := rfl
theorem c_100_52 : jx_cd 100 52 = some (o_iald) := rfl
theorem c_100_53 : jx_cd 100 53 = some (o_iast) := rfl
theorem c_100_54 : jx_cd 100 54 = some (o_ald 0 1) := rfl
theorem c_100_55 : jx_cd 100 55 = some (o_getf 6 21) := rfl
theorem c_100_58 : jx_cd 100 58 = some (o_push (.int 10) 2) := rfl
theorem c_100_60 : jx_cd 100 60 = some (o_ild 2 1) := rfl
theorem c_100_61 : jx_cd 100 61 = some (o_bin fun x y => x * y) := rfl
theorem c_100_62 : jx_cd 100 62 = some (o_ild 3 1) := rfl
theorem c_100_63 : jx_cd 100 63 = some (o_bin fun x y => x + y) := rfl
theorem c_100_64 : jx_cd 100 64 = some (o_ald 0 1) := rfl
theorem c_100_65 : jx_cd 100 65 = some (o_getf 6 21) := rfl
theorem c_100_68 : jx_cd 100 68 = some (o_push (.int 10) 2) := rfl
theorem c_100_70 : jx_cd 100 70 = some (o_ild 1 1) := rfl
theorem c_100_71 : jx_cd 100 71 = some (o_bin fun x y => x * y) := rfl
theorem c_100_72 : jx_cd 100 72 = some (o_ild 3 1) := rfl
theorem c_100_73 : jx_cd 100 73 = some (o_bin fun x y => x + y) := rfl
theorem c_100_74 : jx_cd 100 74 = some (o_xald 2) := rfl
theorem c_100_75 : jx_cd 100 75 = some (o_zast) := rfl
theorem c_100_76 : jx_cd 100 76 = some (o_ald 0 1) := rfl
theorem c_100_77 : jx_cd 100 77 = some (o_getf 6 22) := rfl
theorem c_100_80 : jx_cd 100 80 = some (o_push (.int 10) 2) := rfl
theorem c_100_82 : jx_cd 100 82 = some (o_ild 2 1) := rfl
theorem c_100_83 : jx_cd 100 83 = some (o_bin fun x y => x * y) := rfl
theorem c_100_84 : jx_cd 100 84 = some (o_ild 3 1) := rfl
theorem c_100_85 : jx_cd 100 85 = some (o_bin fun x y => x + y) := rfl
theorem c_100_86 : jx_cd 100 86 = some (o_ald 0 1) := rfl
theorem c_100_87 : jx_cd 100 87 = some (o_getf 6 22) := rfl
theorem c_100_90 : jx_cd 100 90 = some (o_push (.int 10) 2) := rfl
theorem c_100_92 : jx_cd 100 92 = some (o_ild 1 1) := rfl
theorem c_100_93 : jx_cd 100 93 = some (o_bin fun x y => x * y) := rfl
theorem c_100_94 : jx_cd 100 94 = some (o_ild 3 1) := rfl
theorem c_100_95 : jx_cd 100 95 = some (o_bin fun x y => x + y) := rfl
theorem c_100_96 : jx_cd 100 96 = some (o_iald) := rfl
theorem c_100_97 : jx_cd 100 97 = some (o_iast) := rfl
theorem c_100_98 : jx_cd 100 98 = some (o_ald 0 1) := rfl
theorem c_100_99 : jx_cd 100 99 = some (o_getf 6 23) := rfl
theorem c_100_102 : jx_cd 100 102 = some (o_push (.int 10) 2) := rfl
theorem c_100_104 : jx_cd 100 104 = some (o_ild 2 1) := rfl
theorem c_100_105 : jx_cd 100 105 = some (o_bin fun x y => x * y) := rfl
theorem c_100_106 : jx_cd 100 106 = some (o_ild 3 1) := rfl
theorem c_100_107 : jx_cd 100 107 = some (o_bin fun x y => x + y) := rfl
theorem c_100_108 : jx_cd 100 108 = some (o_ald 0 1) := rfl
theorem c_100_109 : jx_cd 100 109 = some (o_getf 6 23) := rfl
theorem c_100_112 : jx_cd 100 112 = some (o_push (.int 10) 2) := rfl
theorem c_100_114 : jx_cd 100 114 = some (o_ild 1 1) := rfl
theorem c_100_115 : jx_cd 100 115 = some (o_bin fun x y => x * y) := rfl
theorem c_100_116 : jx_cd 100 116 = some (o_ild 3 1) := rfl
theorem c_100_117 : jx_cd 100 117 = some (o_bin fun x y => x + y) := rfl
theorem c_100_118 : jx_cd 100 118 = some (o_iald) := rfl
theorem c_100_119 : jx_cd 100 119 = some (o_iast) := rfl
theorem c_100_120 : jx_cd 100 120 = some (o_iinc 3 1) := rfl
theorem c_100_123 : jx_cd 100 123 = some (o_goto 26) := rfl
theorem c_100_126 : jx_cd 100 126 = some (o_push (.int 0) 1) := rfl
theorem c_100_127 : jx_cd 100 127 = some (o_ist 3 1) := rfl
theorem c_100_128 : jx_cd 100 128 = some (o_ild 3 1) := rfl
theorem c_100_129 : jx_cd 100 129 = some (o_push (.int 100) 2) := rfl
theorem c_100_131 : jx_cd 100 131 = some (o_ige 162) := rfl
theorem c_100_134 : jx_cd 100 134 = some (o_ald 0 1) := rfl
theorem c_100_135 : jx_cd 100 135 = some (o_getf 6 24) := rfl
theorem c_100_138 : jx_cd 100 138 = some (o_push (.int 100) 2) := rfl
theorem c_100_140 : jx_cd 100 140 = some (o_ild 2 1) := rfl
theorem c_100_141 : jx_cd 100 141 = some (o_bin fun x y => x * y) := rfl
theorem c_100_142 : jx_cd 100 142 = some (o_ild 3 1) := rfl
theorem c_100_143 : jx_cd 100 143 = some (o_bin fun x y => x + y) := rfl
theorem c_100_144 : jx_cd 100 144 = some (o_ald 0 1) := rfl
theorem c_100_145 : jx_cd 100 145 = some (o_getf 6 24) := rfl
theorem c_100_148 : jx_cd 100 148 = some (o_push (.int 100) 2) := rfl
theorem c_100_150 : jx_cd 100 150 = some (o_ild 1 1) := rfl
theorem c_100_151 : jx_cd 100 151 = some (o_bin fun x y => x * y) := rfl
theorem c_100_152 : jx_cd 100 152 = some (o_ild 3 1) := rfl
theorem c_100_153 : jx_cd 100 153 = some (o_bin fun x y => x + y) := rfl
theorem c_100_154 : jx_cd 100 154 = some (o_iald) := rfl
theorem c_100_155 : jx_cd 100 155 = some (o_iast) := rfl
theorem c_100_156 : jx_cd 100 156 = some (o_iinc 3 1) := rfl
theorem c_100_159 : jx_cd 100 159 = some (o_goto 128) := rfl
theorem c_100_162 : jx_cd 100 162 = some (o_ret) := rfl
/-- what the reference keeps of a text: atoms, bonds -/
def mSt (M : jx_M) (S : Nat → MA) (sb : Nat → Nat) : Prop := M.1 113 = .inl (0, 10, .inl (ja (aE S))) ∧ M.1 114 = .inl (2, 10, .inl (jab (aR S))) ∧ M.1 115 = .inl (0, 10, .inl (ja (aH S))) ∧ M.1 116 = .inl (0, 10, .inl (jao (aQ S))) ∧ M.1 117 = .inl (0, 100, .inl (ja sb))
theorem mSt_fr {M M1 : jx_M} {S : Nat → MA} {sb : Nat → Nat} (h : mSt M S sb) (hs : ∀ k, 113 ≤ k → k ≤ 117 → M1.1 k = M.1 k) : mSt M1 S sb := ⟨(hs _ (by decide) (by decide)).trans h.1, (hs _ (by decide) (by decide)).trans h.2.1, (hs _ (by decide) (by decide)).trans h.2.2.1, (hs _ (by decide) (by decide)).trans h.2.2.2.1, (hs _ (by decide) (by decide)).trans h.2.2.2.2⟩
theorem fP_sm {M M1 : jx_M} (h : fP M M1) : sm 92 118 M M1 := ⟨fun q hq => h.1 q (by omega), h.2.1⟩
theorem fK_sm {M M1 : jx_M} (h : fK M M1) : sm 92 118 M M1 := ⟨fun q hq => h.1 q (by omega) (by omega) (by omega), h.2⟩
theorem t_mpl_l {d : Nat} {w : MW} {ln at_ n : Nat} {gd : Bool} {x : Int32} {ids : Nat → Nat} {M : jx_M} (h92 : M.1 92 = mW w ln at_ n gd) (h104 : M.1 104 = .inl (0, 12, .inl (ja ids))) (hct : w.2.1 ≤ 12) : ∀ {k i : Nat}, i + k = w.2.1 → jZ d 99 2 [some (.ref 92), some (.int x), some (.int (jn i))] [] M (jR (some (.int (jo (sp_sl ids x k i)))) M) := by
  intro k
  induction k with
  | zero =>
    intro i hk
    refine z_go 3 _ [.int (jn i)] _ c_99_2 rfl ?_
    refine z_go 4 _ [.ref 92, .int (jn i)] _ c_99_3 rfl ?_
    refine z_getf (v := .int (jn w.2.1)) 7 c_99_4 rfl h92 rfl ?_
    refine z_ige 28 10 c_99_7 rfl (by omega) (by omega) (fun hi => ?_) (fun hi => ?_)
    · omega
    · refine z_go 29 _ [.int (jo none)] _ c_99_28 rfl ?_
      refine z_iret c_99_29 ?_
      exact ⟨rfl, rfl⟩
  | succ k ih =>
    intro i hk
    refine z_go 3 _ [.int (jn i)] _ c_99_2 rfl ?_
    refine z_go 4 _ [.ref 92, .int (jn i)] _ c_99_3 rfl ?_
    refine z_getf (v := .int (jn w.2.1)) 7 c_99_4 rfl h92 rfl ?_
    refine z_ige 28 10 c_99_7 rfl (by omega) (by omega) (fun hi => ?_) (fun hi => ?_)
    · refine z_go 11 _ [.ref 92] _ c_99_10 rfl ?_
      refine z_getf (v := .ref 104) 14 c_99_11 rfl h92 rfl ?_
      refine z_go 15 _ [.int (jn i), .ref 104] _ c_99_14 rfl ?_
      refine z_iald 16 c_99_15 rfl h104 (Or.inl rfl) (by omega) (by omega) ?_
      show jZ _ _ _ _ ([.int (jn (ids i))]) _ _
      refine z_go 17 _ [.int x, .int (jn (ids i))] _ c_99_16 rfl ?_
      refine z_ine 22 20 c_99_17 rfl Iff.rfl (fun h1 => ?_) (fun h1 => ?_)
      · refine z_go 21 _ [.int (jn i)] _ c_99_20 rfl ?_
        refine z_iret c_99_21 ?_
        exact ⟨by rw [sp_sl, if_pos h1]; rfl, rfl⟩
      · refine z_iinc 25 [some (.ref 92), some (.int x), some (.int (jn (i + 1)))] c_99_22 rfl rfl (jn_add _ _) rfl ?_
        refine z_go 2 _ [] _ c_99_25 rfl ?_
        refine (ih (i := i + 1) (by omega)).mono fun r M1 q => ⟨q.1.trans ?_, q.2⟩
        rw [sp_sl, if_neg h1]
    · omega
theorem t_mpl {d : Nat} {w : MW} {ln at_ n : Nat} {gd : Bool} {x : Int32} {ids : Nat → Nat} {M : jx_M} (h92 : M.1 92 = mW w ln at_ n gd) (h104 : M.1 104 = .inl (0, 12, .inl (ja ids))) (hct : w.2.1 ≤ 12) : jZ d 99 0 [some (.ref 92), some (.int x), none] [] M (jR (some (.int (jo (sp_sl ids x w.2.1 0)))) M) := by
  refine z_go 1 _ [.int (jn 0)] _ c_99_0 rfl ?_
  refine z_go 2 [some (.ref 92), some (.int x), some (.int (jn 0))] [] _ c_99_1 rfl ?_
  exact t_mpl_l h92 h104 hct (by omega)
theorem t_mkt_in {d : Nat} {w : MW} {ln at_ n i : Nat} {gd : Bool} {bm : Nat → Nat} {post : jx_R → jx_M → Prop} (hn : n ≤ 10) (hi : i < n) : ∀ {k j : Nat} {sb : Nat → Nat} {M : jx_M}, j + k = n → M.1 92 = mW w ln at_ n gd → M.1 100 = .inl (0, 1600, .inl (ja bm)) → M.1 117 = .inl (0, 100, .inl (ja sb)) → (∀ M' sb' z, M'.1 117 = .inl (0, 100, .inl (ja sb')) → sm 117 117 M M' → (∀ t, j ≤ t → t < n → sb' (10 * i + t) = bm (40 * i + t)) → (∀ x, ¬ (10 * i + j ≤ x ∧ x < 10 * i + n) → sb' x = sb x) → jZ d 96 104 [some (.ref 92), some (.int (jn i)), some (.int z)] [] M' post) → jZ d 96 68 [some (.ref 92), some (.int (jn i)), some (.int (jn j))] [] M post := by
  intro k
  induction k with
  | zero =>
    intro j sb M hjk h92 h100 h117 hk
    refine z_go 69 _ [.int (jn j)] _ c_96_68 rfl ?_
    refine z_go 70 _ [.ref 92, .int (jn j)] _ c_96_69 rfl ?_
    refine z_getf (v := .int (jn n)) 73 c_96_70 rfl h92 rfl ?_
    refine z_ige 104 76 c_96_73 rfl (by omega) (by omega) (fun hj => ?_) (fun hj => ?_)
    · omega
    · exact hk M sb _ h117 (sm_r _ _ M) (fun t q1 q2 => by omega) (fun x _ => rfl)
  | succ k ih =>
    intro j sb M hjk h92 h100 h117 hk
    refine z_go 69 _ [.int (jn j)] _ c_96_68 rfl ?_
    refine z_go 70 _ [.ref 92, .int (jn j)] _ c_96_69 rfl ?_
    refine z_getf (v := .int (jn n)) 73 c_96_70 rfl h92 rfl ?_
    refine z_ige 104 76 c_96_73 rfl (by omega) (by omega) (fun hj => ?_) (fun hj => ?_)
    · refine z_go 77 _ [.ref 92] _ c_96_76 rfl ?_
      refine z_getf (v := .ref 117) 80 c_96_77 rfl h92 rfl ?_
      refine z_go 82 _ [.int (jn 10), .ref 117] _ c_96_80 rfl ?_
      refine z_go 83 _ [.int (jn i), .int (jn 10), .ref 117] _ c_96_82 rfl ?_
      refine z_go 84 _ [.int ((jn 10) * (jn i)), .ref 117] _ c_96_83 rfl ?_
      refine z_v (jn_mul _ _) ?_
      refine z_go 85 _ [.int (jn j), .int (jn (10 * i)), .ref 117] _ c_96_84 rfl ?_
      refine z_go 86 _ [.int ((jn (10 * i)) + (jn j)), .ref 117] _ c_96_85 rfl ?_
      refine z_v (jn_add _ _) ?_
      refine z_go 87 _ [.ref 92, .int (jn ((10 * i) + j)), .ref 117] _ c_96_86 rfl ?_
      refine z_getf (v := .ref 100) 90 c_96_87 rfl h92 rfl ?_
      refine z_go 92 _ [.int (jn 40), .ref 100, .int (jn ((10 * i) + j)), .ref 117] _ c_96_90 rfl ?_
      refine z_go 93 _ [.int (jn i), .int (jn 40), .ref 100, .int (jn ((10 * i) + j)), .ref 117] _ c_96_92 rfl ?_
      refine z_go 94 _ [.int ((jn 40) * (jn i)), .ref 100, .int (jn ((10 * i) + j)), .ref 117] _ c_96_93 rfl ?_
      refine z_v (jn_mul _ _) ?_
      refine z_go 95 _ [.int (jn j), .int (jn (40 * i)), .ref 100, .int (jn ((10 * i) + j)), .ref 117] _ c_96_94 rfl ?_
      refine z_go 96 _ [.int ((jn (40 * i)) + (jn j)), .ref 100, .int (jn ((10 * i) + j)), .ref 117] _ c_96_95 rfl ?_
      refine z_v (jn_add _ _) ?_
      refine z_iald 97 c_96_96 rfl h100 (Or.inl rfl) (by omega) (by omega) ?_
      show jZ _ _ _ _ ([.int (jn (bm ((40 * i) + j))), .int (jn ((10 * i) + j)), .ref 117]) _ _
      refine z_iast (M' := jm [(117, .inl (0, 100, .inl (ja (nu sb ((10 * i) + j) (bm ((40 * i) + j))))))] M) 98 c_96_97 rfl h117 (by omega) (by omega) (by rw [ja_upd]; exact rfl) ?_
      refine z_iinc 101 [some (.ref 92), some (.int (jn i)), some (.int (jn (j + 1)))] c_96_98 rfl rfl (jn_add _ _) rfl ?_
      refine z_go 68 _ [] _ c_96_101 rfl ?_
      refine ih (j := j + 1) (sb := nu sb (10 * i + j) (bm (40 * i + j))) (M := jm [(117, .inl (0, 100, .inl (ja (nu sb ((10 * i) + j) (bm ((40 * i) + j))))))] M) (by omega) h92 h100 rfl (fun M' sb' z q1 q2 q3 q4 => hk M' sb' z q1 ((sm_jm rfl).tr q2) (fun t t1 t2 => ?_) (fun x hx => ?_))
      · by_cases e : t = j
        · subst e; rw [q4 _ (by omega), nu_at']
        · exact q3 t (by omega) t2
      · rw [q4 x (by omega), nu_ne (by omega)]
    · omega
theorem t_mkt_l {d : Nat} {w : MW} {tx : Nat → Nat} {ln at_ n : Nat} {gd : Bool} {A : Nat → MA} {bm bk : Nat → Nat} {oa : Nat → Option Nat} {ol : Nat → Nat} (hn : n ≤ 10) (hbm : bmS n bm) : ∀ {k i : Nat} {S : Nat → MA} {sb : Nat → Nat} {z2 : Option Value} {M : jx_M}, i + k = n → mRd M w tx ln at_ n gd A bm bk oa ol → mSt M S sb → (∀ x, sb x < 8) → jZ d 96 10 [some (.ref 92), some (.int (jn i)), z2] [] M (jV none fun M' => (∃ S' sb', mSt M' S' sb' ∧ (∀ t, i ≤ t → t < n → S' t = A t) ∧ (∀ t, t < i → S' t = S t ∧ ∀ u, u < 10 → sb' (10 * t + u) = sb (10 * t + u)) ∧ (∀ t u, i ≤ t → t < n → u < n → sb' (10 * t + u) = bm (40 * t + u)) ∧ ∀ x, sb' x < 8) ∧ sm 113 117 M M') := by
  intro k
  induction k with
  | zero =>
    intro i S sb z2 M hik H hS hsb
    have H0 := H
    obtain ⟨h92, h93, ⟨h94, h95, h96, h97, h98, h99⟩, h100, h101, h102, h103⟩ := H
    refine z_go 11 _ [.int (jn i)] _ c_96_10 rfl ?_
    refine z_go 12 _ [.ref 92, .int (jn i)] _ c_96_11 rfl ?_
    refine z_getf (v := .int (jn n)) 15 c_96_12 rfl h92 rfl ?_
    refine z_ige 110 18 c_96_15 rfl (by omega) (by omega) (fun hi => ?_) (fun hi => ?_)
    · omega
    · refine z_ret c_96_110 ?_
      exact ⟨rfl, ⟨S, sb, hS, fun t q1 q2 => by omega, fun t _ => ⟨rfl, fun _ _ => rfl⟩, fun t u q1 q2 => by omega, hsb⟩, sm_r _ _ M⟩
  | succ k ih =>
    intro i S sb z2 M hik H hS hsb
    have H0 := H
    obtain ⟨h92, h93, ⟨h94, h95, h96, h97, h98, h99⟩, h100, h101, h102, h103⟩ := H
    refine z_go 11 _ [.int (jn i)] _ c_96_10 rfl ?_
    refine z_go 12 _ [.ref 92, .int (jn i)] _ c_96_11 rfl ?_
    refine z_getf (v := .int (jn n)) 15 c_96_12 rfl h92 rfl ?_
    refine z_ige 110 18 c_96_15 rfl (by omega) (by omega) (fun hi => ?_) (fun hi => ?_)
    · refine z_go 19 _ [.ref 92] _ c_96_18 rfl ?_
      refine z_getf (v := .ref 113) 22 c_96_19 rfl h92 rfl ?_
      refine z_go 23 _ [.int (jn i), .ref 113] _ c_96_22 rfl ?_
      refine z_go 24 _ [.ref 92, .int (jn i), .ref 113] _ c_96_23 rfl ?_
      refine z_getf (v := .ref 94) 27 c_96_24 rfl h92 rfl ?_
      refine z_go 28 _ [.int (jn i), .ref 94, .int (jn i), .ref 113] _ c_96_27 rfl ?_
      refine z_iald 29 c_96_28 rfl h94 (Or.inl rfl) (by omega) (by omega) ?_
      show jZ _ _ _ _ ([.int (jn ((aE A) i)), .int (jn i), .ref 113]) _ _
      refine z_iast (M' := jm [(113, .inl (0, 10, .inl (ja (nu (aE S) i ((aE A) i)))))] M) 30 c_96_29 rfl hS.1 (by omega) (by omega) (by rw [ja_upd]; exact rfl) ?_
      refine z_go 31 _ [.ref 92] _ c_96_30 rfl ?_
      refine z_getf (v := .ref 114) 34 c_96_31 rfl h92 rfl ?_
      refine z_go 35 _ [.int (jn i), .ref 114] _ c_96_34 rfl ?_
      refine z_go 36 _ [.ref 92, .int (jn i), .ref 114] _ c_96_35 rfl ?_
      refine z_getf (v := .ref 95) 39 c_96_36 rfl h92 rfl ?_
      refine z_go 40 _ [.int (jn i), .ref 95, .int (jn i), .ref 114] _ c_96_39 rfl ?_
      refine z_xald 41 c_96_40 rfl h95 (by omega) (by omega) ?_
      show jZ _ _ _ _ ([.int (jb ((aR A) i)), .int (jn i), .ref 114]) _ _
      refine z_zast (M' := jm [(114, .inl (2, 10, .inl (jab (nu (aR S) i ((aR A) i))))), (113, .inl (0, 10, .inl (ja (nu (aE S) i ((aE A) i)))))] M) 42 c_96_41 rfl hS.2.1 (by omega) (by omega) vp_b (by rw [jab_upd]; exact rfl) ?_
      refine z_go 43 _ [.ref 92] _ c_96_42 rfl ?_
      refine z_getf (v := .ref 115) 46 c_96_43 rfl h92 rfl ?_
      refine z_go 47 _ [.int (jn i), .ref 115] _ c_96_46 rfl ?_
      refine z_go 48 _ [.ref 92, .int (jn i), .ref 115] _ c_96_47 rfl ?_
      refine z_getf (v := .ref 96) 51 c_96_48 rfl h92 rfl ?_
      refine z_go 52 _ [.int (jn i), .ref 96, .int (jn i), .ref 115] _ c_96_51 rfl ?_
      refine z_iald 53 c_96_52 rfl h96 (Or.inl rfl) (by omega) (by omega) ?_
      show jZ _ _ _ _ ([.int (jn ((aH A) i)), .int (jn i), .ref 115]) _ _
      refine z_iast (M' := jm [(115, .inl (0, 10, .inl (ja (nu (aH S) i ((aH A) i))))), (114, .inl (2, 10, .inl (jab (nu (aR S) i ((aR A) i))))), (113, .inl (0, 10, .inl (ja (nu (aE S) i ((aE A) i)))))] M) 54 c_96_53 rfl hS.2.2.1 (by omega) (by omega) (by rw [ja_upd]; exact rfl) ?_
      refine z_go 55 _ [.ref 92] _ c_96_54 rfl ?_
      refine z_getf (v := .ref 116) 58 c_96_55 rfl h92 rfl ?_
      refine z_go 59 _ [.int (jn i), .ref 116] _ c_96_58 rfl ?_
      refine z_go 60 _ [.ref 92, .int (jn i), .ref 116] _ c_96_59 rfl ?_
      refine z_getf (v := .ref 97) 63 c_96_60 rfl h92 rfl ?_
      refine z_go 64 _ [.int (jn i), .ref 97, .int (jn i), .ref 116] _ c_96_63 rfl ?_
      refine z_iald 65 c_96_64 rfl h97 (Or.inl rfl) (by omega) (by omega) ?_
      show jZ _ _ _ _ ([.int (jo ((aQ A) i)), .int (jn i), .ref 116]) _ _
      refine z_iast (M' := jm [(116, .inl (0, 10, .inl (jao (nu (aQ S) i ((aQ A) i))))), (115, .inl (0, 10, .inl (ja (nu (aH S) i ((aH A) i))))), (114, .inl (2, 10, .inl (jab (nu (aR S) i ((aR A) i))))), (113, .inl (0, 10, .inl (ja (nu (aE S) i ((aE A) i)))))] M) 66 c_96_65 rfl hS.2.2.2.1 (by omega) (by omega) ((congrArg (fun f => jx_st _ 116 (.inl (0, 10, .inl f))) (jao_upd (f := aQ S) (k := i) (x := (aQ A) i))).trans rfl) ?_
      refine z_go 67 _ [.int (jn 0)] _ c_96_66 rfl ?_
      refine z_go 68 [some (.ref 92), some (.int (jn i)), some (.int (jn 0))] [] _ c_96_67 rfl ?_
      have hS1 : mSt (jm [(116, .inl (0, 10, .inl (jao (nu (aQ S) i ((aQ A) i))))), (115, .inl (0, 10, .inl (ja (nu (aH S) i ((aH A) i))))), (114, .inl (2, 10, .inl (jab (nu (aR S) i ((aR A) i))))), (113, .inl (0, 10, .inl (ja (nu (aE S) i ((aE A) i)))))] M) (nu S i (A i)) sb := ⟨by rw [aE_nu]; rfl, by rw [aR_nu]; rfl, by rw [aH_nu]; rfl, by rw [aQ_nu]; rfl, hS.2.2.2.2⟩
      refine t_mkt_in (k := n) (M := jm [(116, .inl (0, 10, .inl (jao (nu (aQ S) i ((aQ A) i))))), (115, .inl (0, 10, .inl (ja (nu (aH S) i ((aH A) i))))), (114, .inl (2, 10, .inl (jab (nu (aR S) i ((aR A) i))))), (113, .inl (0, 10, .inl (ja (nu (aE S) i ((aE A) i)))))] M) hn hi (by omega) h92 h100 hS.2.2.2.2 (fun M' sb' z q1 q2 q3 q4 => ?_)
      have hf1 : sm 113 117 M M' := (sm_jm rfl).tr (q2.wd (by decide) (by decide))
      refine z_iinc 107 [some (.ref 92), some (.int (jn (i + 1))), some (.int z)] c_96_104 rfl rfl (jn_add _ _) rfl ?_
      refine z_go 10 _ [] _ c_96_107 rfl ?_
      have hS2 : mSt M' (nu S i (A i)) sb' := ⟨(q2.1 113 (by decide)).trans hS1.1, (q2.1 114 (by decide)).trans hS1.2.1, (q2.1 115 (by decide)).trans hS1.2.2.1, (q2.1 116 (by decide)).trans hS1.2.2.2.1, q1⟩
      have hsb2 : ∀ x, sb' x < 8 := fun x => by by_cases hx : 10 * i + 0 ≤ x ∧ x < 10 * i + n; have e := q3 (x - 10 * i) (by omega) (by omega); rw [show 10 * i + (x - 10 * i) = x by omega] at e; rw [e]; exact hbm i (x - 10 * i) hi (by omega); rw [q4 x hx]; exact hsb x
      refine (ih (i := i + 1) (by omega) (mRd_fr H0 fun k a b => hf1.1 k (by omega)) hS2 hsb2).mono fun r M9 q => ⟨q.1, ?_, hf1.tr q.2.2⟩
      obtain ⟨S9, sb9, g1, g2, g3, g4, g5⟩ := q.2.1
      refine ⟨S9, sb9, g1, fun t t1 t2 => ?_, fun t t1 => ?_, fun t u t1 t2 t3 => ?_, g5⟩
      · by_cases e : t = i
        · subst e; rw [(g3 t (by omega)).1, nu_at']
        · exact g2 t (by omega) t2
      · refine ⟨by rw [(g3 t (by omega)).1, nu_ne (by omega)], fun u hu => ?_⟩
        rw [(g3 t (by omega)).2 u hu, q4 _ (by omega)]
      · by_cases e : t = i
        · subst e; rw [(g3 t (by omega)).2 u (by omega), q3 u (by omega) t3]
        · exact g4 t u (by omega) t2 t3
    · omega
theorem t_mkt {d : Nat} {w : MW} {tx : Nat → Nat} {ln at_ n : Nat} {gd : Bool} {A : Nat → MA} {bm bk : Nat → Nat} {oa : Nat → Option Nat} {ol : Nat → Nat} {M : jx_M} {S : Nat → MA} {sb : Nat → Nat} (H : mRd M w tx ln at_ n gd A bm bk oa ol) (hS : mSt M S sb) (hsb : ∀ x, sb x < 8) (hn : n ≤ 10) (hbm : bmS n bm) : jZ d 96 0 [some (.ref 92), none, none] [] M (jV none fun M' => mRd M' (w.1, w.2.1, w.2.2.1, w.2.2.2.1, w.2.2.2.2.1, w.2.2.2.2.2.1, w.2.2.2.2.2.2.1, w.2.2.2.2.2.2.2.1, n, w.2.2.2.2.2.2.2.2.2) tx ln at_ n gd A bm bk oa ol ∧ (∃ S' sb', mSt M' S' sb' ∧ (∀ t, t < n → S' t = A t) ∧ (∀ t u, t < n → u < n → sb' (10 * t + u) = bm (40 * t + u)) ∧ ∀ x, sb' x < 8) ∧ (∀ k, k ≠ 92 → k < 113 ∨ 117 < k → True → M'.1 k = M.1 k) ∧ M'.2 = M.2) := by
  have H0 := H
  obtain ⟨h92, h93, ⟨h94, h95, h96, h97, h98, h99⟩, h100, h101, h102, h103⟩ := H
  refine z_go 1 _ [.ref 92] _ c_96_0 rfl ?_
  refine z_go 2 _ [.ref 92, .ref 92] _ c_96_1 rfl ?_
  refine z_getf (v := .int (jn n)) 5 c_96_2 rfl h92 rfl ?_
  refine z_putf (M' := jm [(92, mO w.1 ln at_ n gd w.2.1 w.2.2.1 w.2.2.2.1 w.2.2.2.2.1 w.2.2.2.2.2.1 w.2.2.2.2.2.2.1 w.2.2.2.2.2.2.2.1 n w.2.2.2.2.2.2.2.2.2)] M) 8 c_96_5 rfl h92 (rfl) (Nat.le_of_ble_eq_true rfl) rfl ?_
  refine z_go 9 _ [.int (jn 0)] _ c_96_8 rfl ?_
  refine z_go 10 [some (.ref 92), some (.int (jn 0)), none] [] _ c_96_9 rfl ?_
  refine (t_mkt_l (w := (w.1, w.2.1, w.2.2.1, w.2.2.2.1, w.2.2.2.2.1, w.2.2.2.2.2.1, w.2.2.2.2.2.2.1, w.2.2.2.2.2.2.2.1, n, w.2.2.2.2.2.2.2.2.2)) (k := n) (M := jm [(92, mO w.1 ln at_ n gd w.2.1 w.2.2.1 w.2.2.2.1 w.2.2.2.2.1 w.2.2.2.2.2.1 w.2.2.2.2.2.2.1 w.2.2.2.2.2.2.2.1 n w.2.2.2.2.2.2.2.2.2)] M) hn hbm (by omega) ⟨rfl, h93, ⟨h94, h95, h96, h97, h98, h99⟩, h100, h101, h102, h103⟩ hS hsb).mono fun r M1 q => ⟨q.1, ?_⟩
  obtain ⟨S9, sb9, g1, g2, g3, g4, g5⟩ := q.2.1
  have hf : sm 92 118 M M1 := (sm_jm rfl).tr (q.2.2.wd (by decide) (by decide))
  refine ⟨⟨(q.2.2.1 92 (by decide)).trans rfl, (q.2.2.1 93 (by decide)).trans h93, ⟨(q.2.2.1 94 (by decide)).trans h94, (q.2.2.1 95 (by decide)).trans h95, (q.2.2.1 96 (by decide)).trans h96, (q.2.2.1 97 (by decide)).trans h97, (q.2.2.1 98 (by decide)).trans h98, (q.2.2.1 99 (by decide)).trans h99⟩, (q.2.2.1 100 (by decide)).trans h100, (q.2.2.1 101 (by decide)).trans h101, (q.2.2.1 102 (by decide)).trans h102, (q.2.2.1 103 (by decide)).trans h103⟩, ⟨S9, sb9, g1, fun t t1 => g2 t (by omega) t1, fun t u t1 t2 => g4 t u (by omega) t1 t2, g5⟩, fun k h1 h2 h3 => (q.2.2.1 k (by omega)).trans (if_neg (by omega)), q.2.2.2⟩
theorem t_mcm_1 {d : Nat} {w : MW} {ln at_ n fr to : Nat} {gd : Bool} {ids szs : Nat → Nat} {post : jx_R → jx_M → Prop} (hfr : fr < 12) (hto : to < 12) (hne : fr ≠ to) {al : Nat → Nat} : ∀ {k i : Nat} {E : Nat → MA} {M : jx_M}, i + k = 10 → M.1 92 = mW w ln at_ n gd → mKp M ids szs E al → (∀ M' E' z, mKp M' ids szs E' al → sm 106 109 M M' → (∀ t, i ≤ t → t < 10 → E' (10 * to + t) = E (10 * fr + t)) → (∀ x, ¬ (10 * to + i ≤ x ∧ x < 10 * to + 10) → E' x = E x) → jZ d 100 126 [some (.ref 92), some (.int (jn fr)), some (.int (jn to)), some (.int z)] [] M' post) → jZ d 100 26 [some (.ref 92), some (.int (jn fr)), some (.int (jn to)), some (.int (jn i))] [] M post := by
  intro k
  induction k with
  | zero =>
    intro i E M hik h92 hK hk
    refine z_go 27 _ [.int (jn i)] _ c_100_26 rfl ?_
    refine z_go 29 _ [.int (jn 10), .int (jn i)] _ c_100_27 rfl ?_
    refine z_ige 126 32 c_100_29 rfl (by omega) (by omega) (fun hi => ?_) (fun hi => ?_)
    · omega
    · exact hk M E _ hK (sm_r _ _ M) (fun t q1 q2 => by omega) (fun x _ => rfl)
  | succ k ih =>
    intro i E M hik h92 hK hk
    refine z_go 27 _ [.int (jn i)] _ c_100_26 rfl ?_
    refine z_go 29 _ [.int (jn 10), .int (jn i)] _ c_100_27 rfl ?_
    refine z_ige 126 32 c_100_29 rfl (by omega) (by omega) (fun hi => ?_) (fun hi => ?_)
    · refine z_go 33 _ [.ref 92] _ c_100_32 rfl ?_
      refine z_getf (v := .ref 106) 36 c_100_33 rfl h92 rfl ?_
      refine z_go 38 _ [.int (jn 10), .ref 106] _ c_100_36 rfl ?_
      refine z_go 39 _ [.int (jn to), .int (jn 10), .ref 106] _ c_100_38 rfl ?_
      refine z_go 40 _ [.int ((jn 10) * (jn to)), .ref 106] _ c_100_39 rfl ?_
      refine z_v (jn_mul _ _) ?_
      refine z_go 41 _ [.int (jn i), .int (jn (10 * to)), .ref 106] _ c_100_40 rfl ?_
      refine z_go 42 _ [.int ((jn (10 * to)) + (jn i)), .ref 106] _ c_100_41 rfl ?_
      refine z_v (jn_add _ _) ?_
      refine z_go 43 _ [.ref 92, .int (jn ((10 * to) + i)), .ref 106] _ c_100_42 rfl ?_
      refine z_getf (v := .ref 106) 46 c_100_43 rfl h92 rfl ?_
      refine z_go 48 _ [.int (jn 10), .ref 106, .int (jn ((10 * to) + i)), .ref 106] _ c_100_46 rfl ?_
      refine z_go 49 _ [.int (jn fr), .int (jn 10), .ref 106, .int (jn ((10 * to) + i)), .ref 106] _ c_100_48 rfl ?_
      refine z_go 50 _ [.int ((jn 10) * (jn fr)), .ref 106, .int (jn ((10 * to) + i)), .ref 106] _ c_100_49 rfl ?_
      refine z_v (jn_mul _ _) ?_
      refine z_go 51 _ [.int (jn i), .int (jn (10 * fr)), .ref 106, .int (jn ((10 * to) + i)), .ref 106] _ c_100_50 rfl ?_
      refine z_go 52 _ [.int ((jn (10 * fr)) + (jn i)), .ref 106, .int (jn ((10 * to) + i)), .ref 106] _ c_100_51 rfl ?_
      refine z_v (jn_add _ _) ?_
      refine z_iald 53 c_100_52 rfl hK.2.2.1 (Or.inl rfl) (by omega) (by omega) ?_
      show jZ _ _ _ _ ([.int (jn ((aE E) ((10 * fr) + i))), .int (jn ((10 * to) + i)), .ref 106]) _ _
      refine z_iast (M' := jm [(106, .inl (0, 120, .inl (ja (nu (aE E) ((10 * to) + i) ((aE E) ((10 * fr) + i))))))] M) 54 c_100_53 rfl hK.2.2.1 (by omega) (by omega) (by rw [ja_upd]; exact rfl) ?_
      refine z_go 55 _ [.ref 92] _ c_100_54 rfl ?_
      refine z_getf (v := .ref 107) 58 c_100_55 rfl h92 rfl ?_
      refine z_go 60 _ [.int (jn 10), .ref 107] _ c_100_58 rfl ?_
      refine z_go 61 _ [.int (jn to), .int (jn 10), .ref 107] _ c_100_60 rfl ?_
      refine z_go 62 _ [.int ((jn 10) * (jn to)), .ref 107] _ c_100_61 rfl ?_
      refine z_v (jn_mul _ _) ?_
      refine z_go 63 _ [.int (jn i), .int (jn (10 * to)), .ref 107] _ c_100_62 rfl ?_
      refine z_go 64 _ [.int ((jn (10 * to)) + (jn i)), .ref 107] _ c_100_63 rfl ?_
      refine z_v (jn_add _ _) ?_
      refine z_go 65 _ [.ref 92, .int (jn ((10 * to) + i)), .ref 107] _ c_100_64 rfl ?_
      refine z_getf (v := .ref 107) 68 c_100_65 rfl h92 rfl ?_
      refine z_go 70 _ [.int (jn 10), .ref 107, .int (jn ((10 * to) + i)), .ref 107] _ c_100_68 rfl ?_
      refine z_go 71 _ [.int (jn fr), .int (jn 10), .ref 107, .int (jn ((10 * to) + i)), .ref 107] _ c_100_70 rfl ?_
      refine z_go 72 _ [.int ((jn 10) * (jn fr)), .ref 107, .int (jn ((10 * to) + i)), .ref 107] _ c_100_71 rfl ?_
      refine z_v (jn_mul _ _) ?_
      refine z_go 73 _ [.int (jn i), .int (jn (10 * fr)), .ref 107, .int (jn ((10 * to) + i)), .ref 107] _ c_100_72 rfl ?_
      refine z_go 74 _ [.int ((jn (10 * fr)) + (jn i)), .ref 107, .int (jn ((10 * to) + i)), .ref 107] _ c_100_73 rfl ?_
      refine z_v (jn_add _ _) ?_
      refine z_xald 75 c_100_74 rfl hK.2.2.2.1 (by omega) (by omega) ?_
      show jZ _ _ _ _ ([.int (jb ((aR E) ((10 * fr) + i))), .int (jn ((10 * to) + i)), .ref 107]) _ _
      refine z_zast (M' := jm [(107, .inl (2, 120, .inl (jab (nu (aR E) ((10 * to) + i) ((aR E) ((10 * fr) + i)))))), (106, .inl (0, 120, .inl (ja (nu (aE E) ((10 * to) + i) ((aE E) ((10 * fr) + i))))))] M) 76 c_100_75 rfl hK.2.2.2.1 (by omega) (by omega) vp_b (by rw [jab_upd]; exact rfl) ?_
      refine z_go 77 _ [.ref 92] _ c_100_76 rfl ?_
      refine z_getf (v := .ref 108) 80 c_100_77 rfl h92 rfl ?_
      refine z_go 82 _ [.int (jn 10), .ref 108] _ c_100_80 rfl ?_
      refine z_go 83 _ [.int (jn to), .int (jn 10), .ref 108] _ c_100_82 rfl ?_
      refine z_go 84 _ [.int ((jn 10) * (jn to)), .ref 108] _ c_100_83 rfl ?_
      refine z_v (jn_mul _ _) ?_
      refine z_go 85 _ [.int (jn i), .int (jn (10 * to)), .ref 108] _ c_100_84 rfl ?_
      refine z_go 86 _ [.int ((jn (10 * to)) + (jn i)), .ref 108] _ c_100_85 rfl ?_
      refine z_v (jn_add _ _) ?_
      refine z_go 87 _ [.ref 92, .int (jn ((10 * to) + i)), .ref 108] _ c_100_86 rfl ?_
      refine z_getf (v := .ref 108) 90 c_100_87 rfl h92 rfl ?_
      refine z_go 92 _ [.int (jn 10), .ref 108, .int (jn ((10 * to) + i)), .ref 108] _ c_100_90 rfl ?_
      refine z_go 93 _ [.int (jn fr), .int (jn 10), .ref 108, .int (jn ((10 * to) + i)), .ref 108] _ c_100_92 rfl ?_
      refine z_go 94 _ [.int ((jn 10) * (jn fr)), .ref 108, .int (jn ((10 * to) + i)), .ref 108] _ c_100_93 rfl ?_
      refine z_v (jn_mul _ _) ?_
      refine z_go 95 _ [.int (jn i), .int (jn (10 * fr)), .ref 108, .int (jn ((10 * to) + i)), .ref 108] _ c_100_94 rfl ?_
      refine z_go 96 _ [.int ((jn (10 * fr)) + (jn i)), .ref 108, .int (jn ((10 * to) + i)), .ref 108] _ c_100_95 rfl ?_
      refine z_v (jn_add _ _) ?_
      refine z_iald 97 c_100_96 rfl hK.2.2.2.2.1 (Or.inl rfl) (by omega) (by omega) ?_
      show jZ _ _ _ _ ([.int (jn ((aH E) ((10 * fr) + i))), .int (jn ((10 * to) + i)), .ref 108]) _ _
      refine z_iast (M' := jm [(108, .inl (0, 120, .inl (ja (nu (aH E) ((10 * to) + i) ((aH E) ((10 * fr) + i)))))), (107, .inl (2, 120, .inl (jab (nu (aR E) ((10 * to) + i) ((aR E) ((10 * fr) + i)))))), (106, .inl (0, 120, .inl (ja (nu (aE E) ((10 * to) + i) ((aE E) ((10 * fr) + i))))))] M) 98 c_100_97 rfl hK.2.2.2.2.1 (by omega) (by omega) (by rw [ja_upd]; exact rfl) ?_
      refine z_go 99 _ [.ref 92] _ c_100_98 rfl ?_
      refine z_getf (v := .ref 109) 102 c_100_99 rfl h92 rfl ?_
      refine z_go 104 _ [.int (jn 10), .ref 109] _ c_100_102 rfl ?_
      refine z_go 105 _ [.int (jn to), .int (jn 10), .ref 109] _ c_100_104 rfl ?_
      refine z_go 106 _ [.int ((jn 10) * (jn to)), .ref 109] _ c_100_105 rfl ?_
      refine z_v (jn_mul _ _) ?_
      refine z_go 107 _ [.int (jn i), .int (jn (10 * to)), .ref 109] _ c_100_106 rfl ?_
      refine z_go 108 _ [.int ((jn (10 * to)) + (jn i)), .ref 109] _ c_100_107 rfl ?_
      refine z_v (jn_add _ _) ?_
      refine z_go 109 _ [.ref 92, .int (jn ((10 * to) + i)), .ref 109] _ c_100_108 rfl ?_
      refine z_getf (v := .ref 109) 112 c_100_109 rfl h92 rfl ?_
      refine z_go 114 _ [.int (jn 10), .ref 109, .int (jn ((10 * to) + i)), .ref 109] _ c_100_112 rfl ?_
      refine z_go 115 _ [.int (jn fr), .int (jn 10), .ref 109, .int (jn ((10 * to) + i)), .ref 109] _ c_100_114 rfl ?_
      refine z_go 116 _ [.int ((jn 10) * (jn fr)), .ref 109, .int (jn ((10 * to) + i)), .ref 109] _ c_100_115 rfl ?_
      refine z_v (jn_mul _ _) ?_
      refine z_go 117 _ [.int (jn i), .int (jn (10 * fr)), .ref 109, .int (jn ((10 * to) + i)), .ref 109] _ c_100_116 rfl ?_
      refine z_go 118 _ [.int ((jn (10 * fr)) + (jn i)), .ref 109, .int (jn ((10 * to) + i)), .ref 109] _ c_100_117 rfl ?_
      refine z_v (jn_add _ _) ?_
      refine z_iald 119 c_100_118 rfl hK.2.2.2.2.2.1 (Or.inl rfl) (by omega) (by omega) ?_
      show jZ _ _ _ _ ([.int (jo ((aQ E) ((10 * fr) + i))), .int (jn ((10 * to) + i)), .ref 109]) _ _
      refine z_iast (M' := jm [(109, .inl (0, 120, .inl (jao (nu (aQ E) ((10 * to) + i) ((aQ E) ((10 * fr) + i)))))), (108, .inl (0, 120, .inl (ja (nu (aH E) ((10 * to) + i) ((aH E) ((10 * fr) + i)))))), (107, .inl (2, 120, .inl (jab (nu (aR E) ((10 * to) + i) ((aR E) ((10 * fr) + i)))))), (106, .inl (0, 120, .inl (ja (nu (aE E) ((10 * to) + i) ((aE E) ((10 * fr) + i))))))] M) 120 c_100_119 rfl hK.2.2.2.2.2.1 (by omega) (by omega) ((congrArg (fun f => jx_st _ 109 (.inl (0, 120, .inl f))) (jao_upd (f := aQ E) (k := (10 * to) + i) (x := (aQ E) ((10 * fr) + i)))).trans rfl) ?_
      refine z_iinc 123 [some (.ref 92), some (.int (jn fr)), some (.int (jn to)), some (.int (jn (i + 1)))] c_100_120 rfl rfl (jn_add _ _) rfl ?_
      refine z_go 26 _ [] _ c_100_123 rfl ?_
      have hK1 : mKp (jm [(109, .inl (0, 120, .inl (jao (nu (aQ E) ((10 * to) + i) ((aQ E) ((10 * fr) + i)))))), (108, .inl (0, 120, .inl (ja (nu (aH E) ((10 * to) + i) ((aH E) ((10 * fr) + i)))))), (107, .inl (2, 120, .inl (jab (nu (aR E) ((10 * to) + i) ((aR E) ((10 * fr) + i)))))), (106, .inl (0, 120, .inl (ja (nu (aE E) ((10 * to) + i) ((aE E) ((10 * fr) + i))))))] M) ids szs (nu E (10 * to + i) (E (10 * fr + i))) al := ⟨hK.1, hK.2.1, by rw [aE_nu]; rfl, by rw [aR_nu]; rfl, by rw [aH_nu]; rfl, by rw [aQ_nu]; rfl, hK.2.2.2.2.2.2⟩
      refine ih (i := i + 1) (E := nu E (10 * to + i) (E (10 * fr + i))) (M := jm [(109, .inl (0, 120, .inl (jao (nu (aQ E) ((10 * to) + i) ((aQ E) ((10 * fr) + i)))))), (108, .inl (0, 120, .inl (ja (nu (aH E) ((10 * to) + i) ((aH E) ((10 * fr) + i)))))), (107, .inl (2, 120, .inl (jab (nu (aR E) ((10 * to) + i) ((aR E) ((10 * fr) + i)))))), (106, .inl (0, 120, .inl (ja (nu (aE E) ((10 * to) + i) ((aE E) ((10 * fr) + i))))))] M) (by omega) h92 hK1 (fun M' E' z q1 q2 q3 q4 => hk M' E' z q1 ((sm_jm rfl).tr q2) (fun t t1 t2 => ?_) (fun x hx => ?_))
      · by_cases e : t = i
        · subst e; rw [q4 _ (by omega), nu_at']
        · rw [q3 t (by omega) t2, nu_ne (by omega)]
      · rw [q4 x (by omega), nu_ne (by omega)]
    · omega
theorem t_mcm_2 {d : Nat} {w : MW} {ln at_ n fr to : Nat} {gd : Bool} {ids szs : Nat → Nat} (hfr : fr < 12) (hto : to < 12) (hne : fr ≠ to) {E : Nat → MA} : ∀ {k i : Nat} {al : Nat → Nat} {M : jx_M}, i + k = 100 → M.1 92 = mW w ln at_ n gd → mKp M ids szs E al → (∀ x, al x < 8) → jZ d 100 128 [some (.ref 92), some (.int (jn fr)), some (.int (jn to)), some (.int (jn i))] [] M (jV none fun M' => (∃ al', mKp M' ids szs E al' ∧ (∀ t, i ≤ t → t < 100 → al' (100 * to + t) = al (100 * fr + t)) ∧ (∀ x, ¬ (100 * to + i ≤ x ∧ x < 100 * to + 100) → al' x = al x) ∧ ∀ x, al' x < 8) ∧ sm 110 110 M M') := by
  intro k
  induction k with
  | zero =>
    intro i al M hik h92 hK hal
    refine z_go 129 _ [.int (jn i)] _ c_100_128 rfl ?_
    refine z_go 131 _ [.int (jn 100), .int (jn i)] _ c_100_129 rfl ?_
    refine z_ige 162 134 c_100_131 rfl (by omega) (by omega) (fun hi => ?_) (fun hi => ?_)
    · omega
    · refine z_ret c_100_162 ?_
      exact ⟨rfl, ⟨al, hK, fun t q1 q2 => by omega, fun x _ => rfl, hal⟩, sm_r _ _ M⟩
  | succ k ih =>
    intro i al M hik h92 hK hal
    refine z_go 129 _ [.int (jn i)] _ c_100_128 rfl ?_
    refine z_go 131 _ [.int (jn 100), .int (jn i)] _ c_100_129 rfl ?_
    refine z_ige 162 134 c_100_131 rfl (by omega) (by omega) (fun hi => ?_) (fun hi => ?_)
    · refine z_go 135 _ [.ref 92] _ c_100_134 rfl ?_
      refine z_getf (v := .ref 110) 138 c_100_135 rfl h92 rfl ?_
      refine z_go 140 _ [.int (jn 100), .ref 110] _ c_100_138 rfl ?_
      refine z_go 141 _ [.int (jn to), .int (jn 100), .ref 110] _ c_100_140 rfl ?_
      refine z_go 142 _ [.int ((jn 100) * (jn to)), .ref 110] _ c_100_141 rfl ?_
      refine z_v (jn_mul _ _) ?_
      refine z_go 143 _ [.int (jn i), .int (jn (100 * to)), .ref 110] _ c_100_142 rfl ?_
      refine z_go 144 _ [.int ((jn (100 * to)) + (jn i)), .ref 110] _ c_100_143 rfl ?_
      refine z_v (jn_add _ _) ?_
      refine z_go 145 _ [.ref 92, .int (jn ((100 * to) + i)), .ref 110] _ c_100_144 rfl ?_
      refine z_getf (v := .ref 110) 148 c_100_145 rfl h92 rfl ?_
      refine z_go 150 _ [.int (jn 100), .ref 110, .int (jn ((100 * to) + i)), .ref 110] _ c_100_148 rfl ?_
      refine z_go 151 _ [.int (jn fr), .int (jn 100), .ref 110, .int (jn ((100 * to) + i)), .ref 110] _ c_100_150 rfl ?_
      refine z_go 152 _ [.int ((jn 100) * (jn fr)), .ref 110, .int (jn ((100 * to) + i)), .ref 110] _ c_100_151 rfl ?_
      refine z_v (jn_mul _ _) ?_
      refine z_go 153 _ [.int (jn i), .int (jn (100 * fr)), .ref 110, .int (jn ((100 * to) + i)), .ref 110] _ c_100_152 rfl ?_
      refine z_go 154 _ [.int ((jn (100 * fr)) + (jn i)), .ref 110, .int (jn ((100 * to) + i)), .ref 110] _ c_100_153 rfl ?_
      refine z_v (jn_add _ _) ?_
      refine z_iald 155 c_100_154 rfl hK.2.2.2.2.2.2 (Or.inl rfl) (by omega) (by omega) ?_
      show jZ _ _ _ _ ([.int (jn (al ((100 * fr) + i))), .int (jn ((100 * to) + i)), .ref 110]) _ _
      refine z_iast (M' := jm [(110, .inl (0, 1200, .inl (ja (nu al ((100 * to) + i) (al ((100 * fr) + i))))))] M) 156 c_100_155 rfl hK.2.2.2.2.2.2 (by omega) (by omega) (by rw [ja_upd]; exact rfl) ?_
      refine z_iinc 159 [some (.ref 92), some (.int (jn fr)), some (.int (jn to)), some (.int (jn (i + 1)))] c_100_156 rfl rfl (jn_add _ _) rfl ?_
      refine z_go 128 _ [] _ c_100_159 rfl ?_
      refine (ih (i := i + 1) (al := nu al (100 * to + i) (al (100 * fr + i))) (M := jm [(110, .inl (0, 1200, .inl (ja (nu al ((100 * to) + i) (al ((100 * fr) + i))))))] M) (by omega) h92 ⟨hK.1, hK.2.1, hK.2.2.1, hK.2.2.2.1, hK.2.2.2.2.1, hK.2.2.2.2.2.1, rfl⟩ (nu_lt hal (hal _))).mono fun r M9 q => ⟨q.1, ?_, (sm_jm rfl).tr q.2.2⟩
      obtain ⟨al9, g1, g2, g3, g4⟩ := q.2.1
      refine ⟨al9, g1, fun t t1 t2 => ?_, fun x hx => ?_, g4⟩
      · by_cases e : t = i
        · subst e; rw [g3 _ (by omega), nu_at']
        · rw [g2 t (by omega) t2, nu_ne (by omega)]
      · rw [g3 x (by omega), nu_ne (by omega)]
    · omega
/-- row r of the one is row s of the other -/
def rowE (E' : Nat → MA) (al' : Nat → Nat) (r : Nat) (E : Nat → MA) (al : Nat → Nat) (s : Nat) : Prop := (∀ t, t < 10 → E' (10 * r + t) = E (10 * s + t)) ∧ ∀ t, t < 100 → al' (100 * r + t) = al (100 * s + t)
theorem rowE_r {E : Nat → MA} {al : Nat → Nat} {r : Nat} : rowE E al r E al r := ⟨fun _ _ => rfl, fun _ _ => rfl⟩
theorem rowE.tr {E E1 E2 : Nat → MA} {al al1 al2 : Nat → Nat} {r s t : Nat} (h : rowE E2 al2 r E1 al1 s) (k : rowE E1 al1 s E al t) : rowE E2 al2 r E al t := ⟨fun q hq => (h.1 q hq).trans (k.1 q hq), fun q hq => (h.2 q hq).trans (k.2 q hq)⟩
theorem t_mcm {d : Nat} {w : MW} {ln at_ n fr to : Nat} {gd : Bool} {ids szs : Nat → Nat} (hfr : fr < 12) (hto : to < 12) (hne : fr ≠ to) {E : Nat → MA} {al : Nat → Nat} {M : jx_M} (h92 : M.1 92 = mW w ln at_ n gd) (hK : mKp M ids szs E al) (hal : ∀ x, al x < 8) : jZ d 100 0 [some (.ref 92), some (.int (jn fr)), some (.int (jn to)), none] [] M (jV none fun M' => (∃ E' al', mKp M' (nu ids to (ids fr)) (nu szs to (szs fr)) E' al' ∧ rowE E' al' to E al fr ∧ (∀ s, s ≠ to → rowE E' al' s E al s) ∧ ∀ x, al' x < 8) ∧ sm 104 110 M M') := by
  refine z_go 1 _ [.ref 92] _ c_100_0 rfl ?_
  refine z_getf (v := .ref 104) 4 c_100_1 rfl h92 rfl ?_
  refine z_go 5 _ [.int (jn to), .ref 104] _ c_100_4 rfl ?_
  refine z_go 6 _ [.ref 92, .int (jn to), .ref 104] _ c_100_5 rfl ?_
  refine z_getf (v := .ref 104) 9 c_100_6 rfl h92 rfl ?_
  refine z_go 10 _ [.int (jn fr), .ref 104, .int (jn to), .ref 104] _ c_100_9 rfl ?_
  refine z_iald 11 c_100_10 rfl hK.1 (Or.inl rfl) (by omega) (by omega) ?_
  show jZ _ _ _ _ ([.int (jn (ids fr)), .int (jn to), .ref 104]) _ _
  refine z_iast (M' := jm [(104, .inl (0, 12, .inl (ja (nu ids to (ids fr)))))] M) 12 c_100_11 rfl hK.1 (by omega) (by omega) (by rw [ja_upd]; exact rfl) ?_
  refine z_go 13 _ [.ref 92] _ c_100_12 rfl ?_
  refine z_getf (v := .ref 105) 16 c_100_13 rfl h92 rfl ?_
  refine z_go 17 _ [.int (jn to), .ref 105] _ c_100_16 rfl ?_
  refine z_go 18 _ [.ref 92, .int (jn to), .ref 105] _ c_100_17 rfl ?_
  refine z_getf (v := .ref 105) 21 c_100_18 rfl h92 rfl ?_
  refine z_go 22 _ [.int (jn fr), .ref 105, .int (jn to), .ref 105] _ c_100_21 rfl ?_
  refine z_iald 23 c_100_22 rfl hK.2.1 (Or.inl rfl) (by omega) (by omega) ?_
  show jZ _ _ _ _ ([.int (jn (szs fr)), .int (jn to), .ref 105]) _ _
  refine z_iast (M' := jm [(105, .inl (0, 12, .inl (ja (nu szs to (szs fr))))), (104, .inl (0, 12, .inl (ja (nu ids to (ids fr)))))] M) 24 c_100_23 rfl hK.2.1 (by omega) (by omega) (by rw [ja_upd]; exact rfl) ?_
  refine z_go 25 _ [.int (jn 0)] _ c_100_24 rfl ?_
  refine z_go 26 [some (.ref 92), some (.int (jn fr)), some (.int (jn to)), some (.int (jn 0))] [] _ c_100_25 rfl ?_
  refine t_mcm_1 (k := 10) (M := jm [(105, .inl (0, 12, .inl (ja (nu szs to (szs fr))))), (104, .inl (0, 12, .inl (ja (nu ids to (ids fr)))))] M) hfr hto hne (by decide) h92 ⟨rfl, rfl, hK.2.2.1, hK.2.2.2.1, hK.2.2.2.2.1, hK.2.2.2.2.2.1, hK.2.2.2.2.2.2⟩ (fun M1 E1 z q1 q2 q3 q4 => ?_)
  refine z_go 127 _ [.int (jn 0)] _ c_100_126 rfl ?_
  refine z_go 128 [some (.ref 92), some (.int (jn fr)), some (.int (jn to)), some (.int (jn 0))] [] _ c_100_127 rfl ?_
  refine (t_mcm_2 (k := 100) hfr hto hne (by decide) ((q2.1 92 (by decide)).trans h92) q1 hal).mono fun r M9 q => ⟨q.1, ?_, ((sm_jm rfl).tr (q2.wd (by decide) (by decide))).tr (q.2.2.wd (by decide) (by decide))⟩
  obtain ⟨al9, g1, g2, g3, g4⟩ := q.2.1
  exact ⟨E1, al9, g1, ⟨fun t ht => q3 t (by omega) ht, fun t ht => g2 t (by omega) ht⟩, fun s hs => ⟨fun t ht => q4 _ (by omega), fun t ht => g3 _ (by omega)⟩, g4⟩
theorem t_mpf_r {d : Nat} {w : MW} {ln at_ n : Nat} {gd : Bool} {z1 : Int32} {z3 : Option Value} (hct : w.2.1 < 12) : ∀ {k k0 : Nat} {ids szs : Nat → Nat} {E : Nat → MA} {al : Nat → Nat} {M : jx_M}, k0 + k = w.2.1 → M.1 92 = mW w ln at_ n gd → mKp M ids szs E al → (∀ x, al x < 8) → jZ (d + 1) 98 194 [some (.ref 92), some (.int z1), some (.int (jn k0)), z3] [] M (jV none fun M' => (∃ ids' szs' E' al', mKp M' ids' szs' E' al' ∧ (∀ s, k0 ≤ s → s < w.2.1 → ids' s = ids (s + 1) ∧ szs' s = szs (s + 1) ∧ rowE E' al' s E al (s + 1)) ∧ (∀ s, s < k0 → ids' s = ids s ∧ szs' s = szs s ∧ rowE E' al' s E al s) ∧ ∀ x, al' x < 8) ∧ sm 104 110 M M') := by
  intro k
  induction k with
  | zero =>
    intro k0 ids szs E al M hkk h92 hK hal
    refine z_go 195 _ [.int (jn k0)] _ c_98_194 rfl ?_
    refine z_go 196 _ [.ref 92, .int (jn k0)] _ c_98_195 rfl ?_
    refine z_getf (v := .int (jn w.2.1)) 199 c_98_196 rfl h92 rfl ?_
    refine z_ige 216 202 c_98_199 rfl (by omega) (by omega) (fun hi => ?_) (fun hi => ?_)
    · omega
    · refine z_ret c_98_216 ?_
      exact ⟨rfl, ⟨ids, szs, E, al, hK, fun s q1 q2 => by omega, fun s _ => ⟨rfl, rfl, rowE_r⟩, hal⟩, sm_r _ _ M⟩
  | succ k ih =>
    intro k0 ids szs E al M hkk h92 hK hal
    refine z_go 195 _ [.int (jn k0)] _ c_98_194 rfl ?_
    refine z_go 196 _ [.ref 92, .int (jn k0)] _ c_98_195 rfl ?_
    refine z_getf (v := .int (jn w.2.1)) 199 c_98_196 rfl h92 rfl ?_
    refine z_ige 216 202 c_98_199 rfl (by omega) (by omega) (fun hi => ?_) (fun hi => ?_)
    · refine z_go 203 _ [.ref 92] _ c_98_202 rfl ?_
      refine z_go 204 _ [.int (jn k0), .ref 92] _ c_98_203 rfl ?_
      refine z_go 205 _ [.int (jn 1), .int (jn k0), .ref 92] _ c_98_204 rfl ?_
      refine z_go 206 _ [.int ((jn k0) + (jn 1)), .ref 92] _ c_98_205 rfl ?_
      refine z_v (jn_add _ _) ?_
      refine z_go 207 _ [.int (jn k0), .int (jn (k0 + 1)), .ref 92] _ c_98_206 rfl ?_
      refine z_callvV 210 6 100 2 92 c_98_207 rfl ⟨Nat.le_of_ble_eq_true rfl, Nat.le_of_ble_eq_true rfl⟩ rfl h92 [.ref 92, .int (jn (k0 + 1)), .int (jn k0)] rfl rfl [some (.ref 92), some (.int (jn (k0 + 1))), some (.int (jn k0)), none] rfl rfl (t_mcm (d := d) (fr := k0 + 1) (to := k0) (by omega) (by omega) (by omega) h92 hK hal) ?_
      intro M1 ⟨⟨E1, al1, hK1, r1, r2, hal1⟩, hs1⟩
      show jZ _ _ _ _ [] _ _
      refine z_iinc 213 [some (.ref 92), some (.int z1), some (.int (jn (k0 + 1))), z3] c_98_210 rfl rfl (jn_add _ _) rfl ?_
      refine z_go 194 _ [] _ c_98_213 rfl ?_
      refine (ih (k0 := k0 + 1) (by omega) ((hs1.1 92 (by decide)).trans h92) hK1 hal1).mono fun r M9 q => ⟨q.1, ?_, hs1.tr q.2.2⟩
      obtain ⟨ids9, szs9, E9, al9, g1, g2, g3, g4⟩ := q.2.1
      refine ⟨ids9, szs9, E9, al9, g1, fun s t1 t2 => ?_, fun s t1 => ?_, g4⟩
      · by_cases e : s = k0
        · subst e
          obtain ⟨y1, y2, y3⟩ := g3 s (by omega)
          exact ⟨y1.trans nu_at', y2.trans nu_at', y3.tr r1⟩
        · obtain ⟨y1, y2, y3⟩ := g2 s (by omega) t2
          exact ⟨y1.trans (nu_ne (by omega)), y2.trans (nu_ne (by omega)), y3.tr (r2 _ (by omega))⟩
      · obtain ⟨y1, y2, y3⟩ := g3 s (by omega)
        exact ⟨y1.trans (nu_ne (by omega)), y2.trans (nu_ne (by omega)), y3.tr (r2 _ (by omega))⟩
    · omega
