/-! THE REFERENCE: its changes; printed by wip/whole/p73.py -/
theorem c_97_0 : jx_cd 97 0 = some (o_ald 0 1) := rfl
theorem c_97_1 : jx_cd 97 1 = some (o_getf 6 27) := rfl
theorem c_97_4 : jx_cd 97 4 = some (o_ist 3 1) := rfl
theorem c_97_5 : jx_cd 97 5 = some (o_ald 0 1) := rfl
theorem c_97_6 : jx_cd 97 6 = some (o_push (.int 0) 1) := rfl
theorem c_97_7 : jx_cd 97 7 = some (o_putf 6 27 jx_okI) := rfl
theorem c_97_10 : jx_cd 97 10 = some (o_ald 0 1) := rfl
theorem c_97_11 : jx_cd 97 11 = some (o_push (.int 0) 1) := rfl
theorem c_97_12 : jx_cd 97 12 = some (o_putf 6 38 jx_okI) := rfl
theorem c_97_15 : jx_cd 97 15 = some (o_ald 0 1) := rfl
theorem c_97_16 : jx_cd 97 16 = some (o_ild 3 1) := rfl
theorem c_97_17 : jx_cd 97 17 = some (o_ifeq 24) := rfl
theorem c_97_20 : jx_cd 97 20 = some (o_push (.int 1) 1) := rfl
theorem c_97_21 : jx_cd 97 21 = some (o_goto 25) := rfl
theorem c_97_24 : jx_cd 97 24 = some (o_push (.int 0) 1) := rfl
theorem c_97_25 : jx_cd 97 25 = some (o_putf 6 28 jx_okZ) := rfl
theorem c_97_28 : jx_cd 97 28 = some (o_ild 3 1) := rfl
theorem c_97_29 : jx_cd 97 29 = some (o_push (.int 1) 1) := rfl
theorem c_97_30 : jx_cd 97 30 = some (o_ieq 38) := rfl
theorem c_97_33 : jx_cd 97 33 = some (o_ild 3 1) := rfl
theorem c_97_34 : jx_cd 97 34 = some (o_push (.int 2) 1) := rfl
theorem c_97_35 : jx_cd 97 35 = some (o_ine 45) := rfl
theorem c_97_38 : jx_cd 97 38 = some (o_ald 0 1) := rfl
theorem c_97_39 : jx_cd 97 39 = some (o_push (.int 0) 1) := rfl
theorem c_97_40 : jx_cd 97 40 = some (o_putf 6 29 jx_okI) := rfl
theorem c_97_43 : jx_cd 97 43 = some (o_push (.int 0) 1) := rfl
theorem c_97_44 : jx_cd 97 44 = some (o_zret) := rfl
theorem c_97_45 : jx_cd 97 45 = some (o_ald 0 1) := rfl
theorem c_97_46 : jx_cd 97 46 = some (o_ild 1 1) := rfl
theorem c_97_47 : jx_cd 97 47 = some (o_putf 6 29 jx_okI) := rfl
theorem c_97_50 : jx_cd 97 50 = some (o_ald 0 1) := rfl
theorem c_97_51 : jx_cd 97 51 = some (o_ild 2 1) := rfl
theorem c_97_52 : jx_cd 97 52 = some (o_putf 6 30 jx_okI) := rfl
theorem c_97_55 : jx_cd 97 55 = some (o_ald 0 1) := rfl
theorem c_97_56 : jx_cd 97 56 = some (o_ild 3 1) := rfl
theorem c_97_57 : jx_cd 97 57 = some (o_push (.int 3) 1) := rfl
theorem c_97_58 : jx_cd 97 58 = some (o_ieq 65) := rfl
theorem c_97_61 : jx_cd 97 61 = some (o_push (.int 1) 1) := rfl
theorem c_97_62 : jx_cd 97 62 = some (o_goto 66) := rfl
theorem c_97_65 : jx_cd 97 65 = some (o_push (.int 0) 1) := rfl
theorem c_97_66 : jx_cd 97 66 = some (o_putf 6 31 jx_okZ) := rfl
theorem c_97_69 : jx_cd 97 69 = some (o_ald 0 1) := rfl
theorem c_97_70 : jx_cd 97 70 = some (o_getf 6 31) := rfl
theorem c_97_73 : jx_cd 97 73 = some (o_ifeq 80) := rfl
theorem c_97_76 : jx_cd 97 76 = some (o_ald 0 1) := rfl
theorem c_97_77 : jx_cd 97 77 = some (o_callv 6 98 0) := rfl
theorem c_97_80 : jx_cd 97 80 = some (o_ald 0 1) := rfl
theorem c_97_81 : jx_cd 97 81 = some (o_ild 3 1) := rfl
theorem c_97_82 : jx_cd 97 82 = some (o_ifne 89) := rfl
theorem c_97_85 : jx_cd 97 85 = some (o_push (.int 0) 1) := rfl
theorem c_97_86 : jx_cd 97 86 = some (o_goto 93) := rfl
theorem c_97_89 : jx_cd 97 89 = some (o_ald 0 1) := rfl
theorem c_97_90 : jx_cd 97 90 = some (o_getf 6 29) := rfl
theorem c_97_93 : jx_cd 97 93 = some (o_putf 6 29 jx_okI) := rfl
theorem c_97_96 : jx_cd 97 96 = some (o_ild 3 1) := rfl
theorem c_97_97 : jx_cd 97 97 = some (o_ifne 104) := rfl
theorem c_97_100 : jx_cd 97 100 = some (o_push (.int 1) 1) := rfl
theorem c_97_101 : jx_cd 97 101 = some (o_goto 105) := rfl
theorem c_97_104 : jx_cd 97 104 = some (o_push (.int 0) 1) := rfl
theorem c_97_105 : jx_cd 97 105 = some (o_zret) := rfl
theorem c_98_0 : jx_cd 98 0 = some (o_ald 0 1) := rfl
theorem c_98_1 : jx_cd 98 1 = some (o_getf 6 29) := rfl
theorem c_98_4 : jx_cd 98 4 = some (o_push (.int 1) 1) := rfl
theorem c_98_5 : jx_cd 98 5 = some (o_ine 173) := rfl
theorem c_98_8 : jx_cd 98 8 = some (o_ald 0 1) := rfl
theorem c_98_9 : jx_cd 98 9 = some (o_getf 6 18) := rfl
theorem c_98_12 : jx_cd 98 12 = some (o_ald 0 1) := rfl
theorem c_98_13 : jx_cd 98 13 = some (o_getf 6 16) := rfl
theorem c_98_16 : jx_cd 98 16 = some (o_ald 0 1) := rfl
theorem c_98_17 : jx_cd 98 17 = some (o_getf 6 30) := rfl
theorem c_98_20 : jx_cd 98 20 = some (o_iast) := rfl
theorem c_98_21 : jx_cd 98 21 = some (o_ald 0 1) := rfl
theorem c_98_22 : jx_cd 98 22 = some (o_ald 0 1) := rfl
theorem c_98_23 : jx_cd 98 23 = some (o_getf 6 30) := rfl
theorem c_98_26 : jx_cd 98 26 = some (o_putf 6 17 jx_okI) := rfl
theorem c_98_29 : jx_cd 98 29 = some (o_ald 0 1) := rfl
theorem c_98_30 : jx_cd 98 30 = some (o_getf 6 19) := rfl
theorem c_98_33 : jx_cd 98 33 = some (o_ald 0 1) := rfl
theorem c_98_34 : jx_cd 98 34 = some (o_getf 6 16) := rfl
theorem c_98_37 : jx_cd 98 37 = some (o_ald 0 1) := rfl
theorem c_98_38 : jx_cd 98 38 = some (o_getf 6 32) := rfl
theorem c_98_41 : jx_cd 98 41 = some (o_iast) := rfl
theorem c_98_42 : jx_cd 98 42 = some (o_push (.int 0) 1) := rfl
theorem c_98_43 : jx_cd 98 43 = some (o_ist 1 1) := rfl
theorem c_98_44 : jx_cd 98 44 = some (o_ild 1 1) := rfl
theorem c_98_45 : jx_cd 98 45 = some (o_ald 0 1) := rfl
theorem c_98_46 : jx_cd 98 46 = some (o_getf 6 32) := rfl
theorem c_98_49 : jx_cd 98 49 = some (o_ige 162) := rfl
theorem c_98_52 : jx_cd 98 52 = some (o_push (.int 10) 2) := rfl
theorem c_98_54 : jx_cd 98 54 = some (o_ald 0 1) := rfl
theorem c_98_55 : jx_cd 98 55 = some (o_getf 6 16) := rfl
theorem c_98_58 : jx_cd 98 58 = some (o_bin fun x y => x * y) := rfl
theorem c_98_59 : jx_cd 98 59 = some (o_ild 1 1) := rfl
theorem c_98_60 : jx_cd 98 60 = some (o_bin fun x y => x + y) := rfl
theorem c_98_61 : jx_cd 98 61 = some (o_ist 2 1) := rfl
theorem c_98_62 : jx_cd 98 62 = some (o_ald 0 1) := rfl
theorem c_98_63 : jx_cd 98 63 = some (o_getf 6 20) := rfl
theorem c_98_66 : jx_cd 98 66 = some (o_ild 2 1) := rfl
theorem c_98_67 : jx_cd 98 67 = some (o_ald 0 1) := rfl
theorem c_98_68 : jx_cd 98 68 = some (o_getf 6 33) := rfl
theorem c_98_71 : jx_cd 98 71 = some (o_ild 1 1) := rfl
theorem c_98_72 : jx_cd 98 72 = some (o_iald) := rfl
theorem c_98_73 : jx_cd 98 73 = some (o_iast) := rfl
theorem c_98_74 : jx_cd 98 74 = some (o_ald 0 1) := rfl
theorem c_98_75 : jx_cd 98 75 = some (o_getf 6 21) := rfl
theorem c_98_78 : jx_cd 98 78 = some (o_ild 2 1) := rfl
theorem c_98_79 : jx_cd 98 79 = some (o_ald 0 1) := rfl
theorem c_98_80 : jx_cd 98 80 = some (o_getf 6 34) := rfl
theorem c_98_83 : jx_cd 98 83 = some (o_ild 1 1) := rfl
theorem c_98_84 : jx_cd 98 84 = some (o_xald 2) := rfl
theorem c_98_85 : jx_cd 98 85 = some (o_zast) := rfl
theorem c_98_86 : jx_cd 98 86 = some (o_ald 0 1) := rfl
theorem c_98_87 : jx_cd 98 87 = some (o_getf 6 22) := rfl
theorem c_98_90 : jx_cd 98 90 = some (o_ild 2 1) := rfl
theorem c_98_91 : jx_cd 98 91 = some (o_ald 0 1) := rfl
theorem c_98_92 : jx_cd 98 92 = some (o_getf 6 35) := rfl
theorem c_98_95 : jx_cd 98 95 = some (o_ild 1 1) := rfl
theorem c_98_96 : jx_cd 98 96 = some (o_iald) := rfl
theorem c_98_97 : jx_cd 98 97 = some (o_iast) := rfl
theorem c_98_98 : jx_cd 98 98 = some (o_ald 0 1) := rfl
theorem c_98_99 : jx_cd 98 99 = some (o_getf 6 23) := rfl
theorem c_98_102 : jx_cd 98 102 = some (o_ild 2 1) := rfl
theorem c_98_103 : jx_cd 98 103 = some (o_ald 0 1) := rfl
theorem c_98_104 : jx_cd 98 104 = some (o_getf 6 36) := rfl
theorem c_98_107 : jx_cd 98 107 = some (o_ild 1 1) := rfl
theorem c_98_108 : jx_cd 98 108 = some (o_iald) := rfl
theorem c_98_109 : jx_cd 98 109 = some (o_iast) := rfl
theorem c_98_110 : jx_cd 98 110 = some (o_push (.int 0) 1) := rfl
theorem c_98_111 : jx_cd 98 111 = some (o_ist 3 1) := rfl
theorem c_98_112 : jx_cd 98 112 = some (o_ild 3 1) := rfl
theorem c_98_113 : jx_cd 98 113 = some (o_ald 0 1) := rfl
theorem c_98_114 : jx_cd 98 114 = some (o_getf 6 32) := rfl
theorem c_98_117 : jx_cd 98 117 = some (o_ige 156) := rfl
theorem c_98_120 : jx_cd 98 120 = some (o_ald 0 1) := rfl
theorem c_98_121 : jx_cd 98 121 = some (o_getf 6 24) := rfl
theorem c_98_124 : jx_cd 98 124 = some (o_push (.int 100) 2) := rfl
theorem c_98_126 : jx_cd 98 126 = some (o_ald 0 1) := rfl
theorem c_98_127 : jx_cd 98 127 = some (o_getf 6 16) := rfl
theorem c_98_130 : jx_cd 98 130 = some (o_bin fun x y => x * y) := rfl
theorem c_98_131 : jx_cd 98 131 = some (o_push (.int 10) 2) := rfl
theorem c_98_133 : jx_cd 98 133 = some (o_ild 1 1) := rfl
theorem c_98_134 : jx_cd 98 134 = some (o_bin fun x y => x * y) := rfl
theorem c_98_135 : jx_cd 98 135 = some (o_bin fun x y => x + y) := rfl
theorem c_98_136 : jx_cd 98 136 = some (o_ild 3 1) := rfl
theorem c_98_137 : jx_cd 98 137 = some (o_bin fun x y => x + y) := rfl
theorem c_98_138 : jx_cd 98 138 = some (o_ald 0 1) := rfl
theorem c_98_139 : jx_cd 98 139 = some (o_getf 6 37) := rfl
theorem c_98_142 : jx_cd 98 142 = some (o_push (.int 10) 2) := rfl
theorem c_98_144 : jx_cd 98 144 = some (o_ild 1 1) := rfl
theorem c_98_145 : jx_cd 98 145 = some (o_bin fun x y => x * y) := rfl
theorem c_98_146 : jx_cd 98 146 = some (o_ild 3 1) := rfl
theorem c_98_147 : jx_cd 98 147 = some (o_bin fun x y => x + y) := rfl
theorem c_98_148 : jx_cd 98 148 = some (o_iald) := rfl
theorem c_98_149 : jx_cd 98 149 = some (o_iast) := rfl
theorem c_98_150 : jx_cd 98 150 = some (o_iinc 3 1) := rfl
theorem c_98_153 : jx_cd 98 153 = some (o_goto 112) := rfl
theorem c_98_156 : jx_cd 98 156 = some (o_iinc 1 1) := rfl
theorem c_98_159 : jx_cd 98 159 = some (o_goto 44) := rfl
theorem c_98_162 : jx_cd 98 162 = some (o_ald 0 1) := rfl
theorem c_98_163 : jx_cd 98 163 = some (o_dup) := rfl
theorem c_98_164 : jx_cd 98 164 = some (o_getf 6 16) := rfl
theorem c_98_167 : jx_cd 98 167 = some (o_push (.int 1) 1) := rfl
theorem c_98_168 : jx_cd 98 168 = some (o_bin fun x y => x + y) := rfl
theorem c_98_169 : jx_cd 98 169 = some (o_putf 6 16 jx_okI) := rfl
theorem c_98_172 : jx_cd 98 172 = some (o_ret) := rfl
theorem c_98_173 : jx_cd 98 173 = some (o_ald 0 1) := rfl
theorem c_98_174 : jx_cd 98 174 = some (o_ald 0 1) := rfl
theorem c_98_175 : jx_cd 98 175 = some (o_getf 6 30) := rfl
theorem c_98_178 : jx_cd 98 178 = some (o_callv 6 99 1) := rfl
theorem c_98_181 : jx_cd 98 181 = some (o_ist 1 1) := rfl
theorem c_98_182 : jx_cd 98 182 = some (o_ald 0 1) := rfl
theorem c_98_183 : jx_cd 98 183 = some (o_dup) := rfl
theorem c_98_184 : jx_cd 98 184 = some (o_getf 6 16) := rfl
theorem c_98_187 : jx_cd 98 187 = some (o_push (.int 1) 1) := rfl
theorem c_98_188 : jx_cd 98 188 = some (o_bin fun x y => x - y) := rfl
theorem c_98_189 : jx_cd 98 189 = some (o_putf 6 16 jx_okI) := rfl
theorem c_98_192 : jx_cd 98 192 = some (o_ild 1 1) := rfl
theorem c_98_193 : jx_cd 98 193 = some (o_ist 2 1) := rfl
theorem mRd_w {M M1 : jx_M} {w w' : MW} {tx : Nat → Nat} {ln ln' at_ n : Nat} {gd : Bool} {A : Nat → MA} {bm bk : Nat → Nat} {oa : Nat → Option Nat} {ol : Nat → Nat} (h : mRd M w tx ln at_ n gd A bm bk oa ol) (h92 : M1.1 92 = mW w' ln' at_ n gd) (hs : ∀ k, 93 ≤ k → k ≤ 103 → M1.1 k = M.1 k) : mRd M1 w' tx ln' at_ n gd A bm bk oa ol := by
  obtain ⟨-, h93, ⟨h94, h95, h96, h97, h98, h99⟩, h100, h101, h102, h103⟩ := h
  exact ⟨h92, (hs _ (by decide) (by decide)).trans h93, ⟨(hs _ (by decide) (by decide)).trans h94, (hs _ (by decide) (by decide)).trans h95, (hs _ (by decide) (by decide)).trans h96, (hs _ (by decide) (by decide)).trans h97, (hs _ (by decide) (by decide)).trans h98, (hs _ (by decide) (by decide)).trans h99⟩, (hs _ (by decide) (by decide)).trans h100, (hs _ (by decide) (by decide)).trans h101, (hs _ (by decide) (by decide)).trans h102, (hs _ (by decide) (by decide)).trans h103⟩
/-- only the reference's own fields and its shelf have changed -/
def fQ (M M' : jx_M) : Prop := (∀ k, k ≠ 92 → k < 104 ∨ 110 < k → M'.1 k = M.1 k) ∧ M'.2 = M.2
theorem fQ_r (M : jx_M) : fQ M M := ⟨fun _ _ _ => rfl, rfl⟩
theorem fQ.tr {M M1 M2 : jx_M} (h : fQ M M1) (k : fQ M1 M2) : fQ M M2 := ⟨fun q a b => (k.1 q a b).trans (h.1 q a b), k.2.trans h.2⟩
theorem fQ_s {M M1 : jx_M} {a b : Nat} (h : sm a b M M1) (ha : 104 ≤ a) (hb : b ≤ 110) : fQ M M1 := ⟨fun q _ b => h.1 q (by omega), h.2⟩
theorem fQ_9 {M M1 : jx_M} (h : sm 92 92 M M1) : fQ M M1 := ⟨fun q a _ => h.1 q (by omega), h.2⟩
theorem t_mpp_in {d : Nat} {th ct li fl lg li2 ss fd : Nat} {dn dn2 : Bool} {ln at_ n : Nat} {gd : Bool} {i : Nat} {z2 : Int32} {sb : Nat → Nat} {post : jx_R → jx_M → Prop} (hss : ss ≤ 10) (hi : i < ss) (hct : ct < 12) : ∀ {k j : Nat} {al : Nat → Nat} {M : jx_M}, j + k = ss → M.1 92 = mW (th, ct, li, fl, dn, lg, li2, dn2, ss, fd) ln at_ n gd → M.1 110 = .inl (0, 1200, .inl (ja al)) → M.1 117 = .inl (0, 100, .inl (ja sb)) → (∀ M' al' z, M'.1 110 = .inl (0, 1200, .inl (ja al')) → sm 110 110 M M' → (∀ t, j ≤ t → t < ss → al' (100 * ct + 10 * i + t) = sb (10 * i + t)) → (∀ x, ¬ (100 * ct + 10 * i + j ≤ x ∧ x < 100 * ct + 10 * i + ss) → al' x = al x) → jZ d 98 156 [some (.ref 92), some (.int (jn i)), some (.int z2), some (.int z)] [] M' post) → jZ d 98 112 [some (.ref 92), some (.int (jn i)), some (.int z2), some (.int (jn j))] [] M post := by
  intro k
  induction k with
  | zero =>
    intro j al M hjk h92 h110 h117 hk
    refine z_go 113 _ [.int (jn j)] _ c_98_112 rfl ?_
    refine z_go 114 _ [.ref 92, .int (jn j)] _ c_98_113 rfl ?_
    refine z_getf (v := .int (jn ss)) 117 c_98_114 rfl h92 rfl ?_
    refine z_ige 156 120 c_98_117 rfl (by omega) (by omega) (fun hj => ?_) (fun hj => ?_)
    · omega
    · exact hk M al _ h110 (sm_r _ _ M) (fun t q1 q2 => by omega) (fun x _ => rfl)
  | succ k ih =>
    intro j al M hjk h92 h110 h117 hk
    refine z_go 113 _ [.int (jn j)] _ c_98_112 rfl ?_
    refine z_go 114 _ [.ref 92, .int (jn j)] _ c_98_113 rfl ?_
    refine z_getf (v := .int (jn ss)) 117 c_98_114 rfl h92 rfl ?_
    refine z_ige 156 120 c_98_117 rfl (by omega) (by omega) (fun hj => ?_) (fun hj => ?_)
    · refine z_go 121 _ [.ref 92] _ c_98_120 rfl ?_
      refine z_getf (v := .ref 110) 124 c_98_121 rfl h92 rfl ?_
      refine z_go 126 _ [.int (jn 100), .ref 110] _ c_98_124 rfl ?_
      refine z_go 127 _ [.ref 92, .int (jn 100), .ref 110] _ c_98_126 rfl ?_
      refine z_getf (v := .int (jn ct)) 130 c_98_127 rfl h92 rfl ?_
      refine z_go 131 _ [.int ((jn 100) * (jn ct)), .ref 110] _ c_98_130 rfl ?_
      refine z_v (jn_mul _ _) ?_
      refine z_go 133 _ [.int (jn 10), .int (jn (100 * ct)), .ref 110] _ c_98_131 rfl ?_
      refine z_go 134 _ [.int (jn i), .int (jn 10), .int (jn (100 * ct)), .ref 110] _ c_98_133 rfl ?_
      refine z_go 135 _ [.int ((jn 10) * (jn i)), .int (jn (100 * ct)), .ref 110] _ c_98_134 rfl ?_
      refine z_v (jn_mul _ _) ?_
      refine z_go 136 _ [.int ((jn (100 * ct)) + (jn (10 * i))), .ref 110] _ c_98_135 rfl ?_
      refine z_v (jn_add _ _) ?_
      refine z_go 137 _ [.int (jn j), .int (jn ((100 * ct) + (10 * i))), .ref 110] _ c_98_136 rfl ?_
      refine z_go 138 _ [.int ((jn ((100 * ct) + (10 * i))) + (jn j)), .ref 110] _ c_98_137 rfl ?_
      refine z_v (jn_add _ _) ?_
      refine z_go 139 _ [.ref 92, .int (jn (((100 * ct) + (10 * i)) + j)), .ref 110] _ c_98_138 rfl ?_
      refine z_getf (v := .ref 117) 142 c_98_139 rfl h92 rfl ?_
      refine z_go 144 _ [.int (jn 10), .ref 117, .int (jn (((100 * ct) + (10 * i)) + j)), .ref 110] _ c_98_142 rfl ?_
      refine z_go 145 _ [.int (jn i), .int (jn 10), .ref 117, .int (jn (((100 * ct) + (10 * i)) + j)), .ref 110] _ c_98_144 rfl ?_
      refine z_go 146 _ [.int ((jn 10) * (jn i)), .ref 117, .int (jn (((100 * ct) + (10 * i)) + j)), .ref 110] _ c_98_145 rfl ?_
      refine z_v (jn_mul _ _) ?_
      refine z_go 147 _ [.int (jn j), .int (jn (10 * i)), .ref 117, .int (jn (((100 * ct) + (10 * i)) + j)), .ref 110] _ c_98_146 rfl ?_
      refine z_go 148 _ [.int ((jn (10 * i)) + (jn j)), .ref 117, .int (jn (((100 * ct) + (10 * i)) + j)), .ref 110] _ c_98_147 rfl ?_
      refine z_v (jn_add _ _) ?_
      refine z_iald 149 c_98_148 rfl h117 (Or.inl rfl) (by omega) (by omega) ?_
      show jZ _ _ _ _ ([.int (jn (sb ((10 * i) + j))), .int (jn (((100 * ct) + (10 * i)) + j)), .ref 110]) _ _
      refine z_iast (M' := jm [(110, .inl (0, 1200, .inl (ja (nu al (((100 * ct) + (10 * i)) + j) (sb ((10 * i) + j))))))] M) 150 c_98_149 rfl h110 (by omega) (by omega) (by rw [ja_upd]; exact rfl) ?_
      refine z_iinc 153 [some (.ref 92), some (.int (jn i)), some (.int z2), some (.int (jn (j + 1)))] c_98_150 rfl rfl (jn_add _ _) rfl ?_
      refine z_go 112 _ [] _ c_98_153 rfl ?_
      refine ih (j := j + 1) (al := nu al (100 * ct + 10 * i + j) (sb (10 * i + j))) (M := jm [(110, .inl (0, 1200, .inl (ja (nu al (((100 * ct) + (10 * i)) + j) (sb ((10 * i) + j))))))] M) (by omega) h92 rfl h117 (fun M' al' z q1 q2 q3 q4 => hk M' al' z q1 ((sm_jm rfl).tr q2) (fun t t1 t2 => ?_) (fun x hx => ?_))
      · by_cases e : t = j
        · subst e; rw [q4 _ (by omega), nu_at']
        · exact q3 t (by omega) t2
      · rw [q4 x (by omega), nu_ne (by omega)]
    · omega
theorem t_mpp_l {d : Nat} {th ct li fl lg li2 ss fd : Nat} {dn dn2 : Bool} {ln at_ n : Nat} {gd : Bool} {ids szs : Nat → Nat} {S : Nat → MA} {sb : Nat → Nat} {post : jx_R → jx_M → Prop} (hss : ss ≤ 10) (hct : ct < 12) (hsb : ∀ x, sb x < 8) : ∀ {k i : Nat} {E : Nat → MA} {al : Nat → Nat} {z2 z3 : Option Value} {M : jx_M}, i + k = ss → M.1 92 = mW (th, ct, li, fl, dn, lg, li2, dn2, ss, fd) ln at_ n gd → mKp M ids szs E al → mSt M S sb → (∀ x, al x < 8) → (∀ M' E' al' y1 y2 y3, mKp M' ids szs E' al' → sm 106 110 M M' → (∀ t, i ≤ t → t < ss → E' (10 * ct + t) = S t ∧ ∀ u, u < ss → al' (100 * ct + 10 * t + u) = sb (10 * t + u)) → (∀ x, ¬ (10 * ct + i ≤ x ∧ x < 10 * ct + ss) → E' x = E x) → (∀ x, ¬ (100 * ct + 10 * i ≤ x ∧ x < 100 * ct + 10 * ss) → al' x = al x) → (∀ x, al' x < 8) → jZ d 98 162 [some (.ref 92), y1, y2, y3] [] M' post) → jZ d 98 44 [some (.ref 92), some (.int (jn i)), z2, z3] [] M post := by
  intro k
  induction k with
  | zero =>
    intro i E al z2 z3 M hik h92 hK hS hal hk
    refine z_go 45 _ [.int (jn i)] _ c_98_44 rfl ?_
    refine z_go 46 _ [.ref 92, .int (jn i)] _ c_98_45 rfl ?_
    refine z_getf (v := .int (jn ss)) 49 c_98_46 rfl h92 rfl ?_
    refine z_ige 162 52 c_98_49 rfl (by omega) (by omega) (fun hi => ?_) (fun hi => ?_)
    · omega
    · exact hk M E al _ _ _ hK (sm_r _ _ M) (fun t q1 q2 => by omega) (fun x _ => rfl) (fun x _ => rfl) hal
  | succ k ih =>
    intro i E al z2 z3 M hik h92 hK hS hal hk
    refine z_go 45 _ [.int (jn i)] _ c_98_44 rfl ?_
    refine z_go 46 _ [.ref 92, .int (jn i)] _ c_98_45 rfl ?_
    refine z_getf (v := .int (jn ss)) 49 c_98_46 rfl h92 rfl ?_
    refine z_ige 162 52 c_98_49 rfl (by omega) (by omega) (fun hi => ?_) (fun hi => ?_)
    · refine z_go 54 _ [.int (jn 10)] _ c_98_52 rfl ?_
      refine z_go 55 _ [.ref 92, .int (jn 10)] _ c_98_54 rfl ?_
      refine z_getf (v := .int (jn ct)) 58 c_98_55 rfl h92 rfl ?_
      refine z_go 59 _ [.int ((jn 10) * (jn ct))] _ c_98_58 rfl ?_
      refine z_v (jn_mul _ _) ?_
      refine z_go 60 _ [.int (jn i), .int (jn (10 * ct))] _ c_98_59 rfl ?_
      refine z_go 61 _ [.int ((jn (10 * ct)) + (jn i))] _ c_98_60 rfl ?_
      refine z_v (jn_add _ _) ?_
      refine z_go 62 [some (.ref 92), some (.int (jn i)), some (.int (jn ((10 * ct) + i))), z3] [] _ c_98_61 rfl ?_
      refine z_go 63 _ [.ref 92] _ c_98_62 rfl ?_
      refine z_getf (v := .ref 106) 66 c_98_63 rfl h92 rfl ?_
      refine z_go 67 _ [.int (jn ((10 * ct) + i)), .ref 106] _ c_98_66 rfl ?_
      refine z_go 68 _ [.ref 92, .int (jn ((10 * ct) + i)), .ref 106] _ c_98_67 rfl ?_
      refine z_getf (v := .ref 113) 71 c_98_68 rfl h92 rfl ?_
      refine z_go 72 _ [.int (jn i), .ref 113, .int (jn ((10 * ct) + i)), .ref 106] _ c_98_71 rfl ?_
      refine z_iald 73 c_98_72 rfl hS.1 (Or.inl rfl) (by omega) (by omega) ?_
      show jZ _ _ _ _ ([.int (jn ((aE S) i)), .int (jn ((10 * ct) + i)), .ref 106]) _ _
      refine z_iast (M' := jm [(106, .inl (0, 120, .inl (ja (nu (aE E) ((10 * ct) + i) ((aE S) i)))))] M) 74 c_98_73 rfl hK.2.2.1 (by omega) (by omega) (by rw [ja_upd]; exact rfl) ?_
      refine z_go 75 _ [.ref 92] _ c_98_74 rfl ?_
      refine z_getf (v := .ref 107) 78 c_98_75 rfl h92 rfl ?_
      refine z_go 79 _ [.int (jn ((10 * ct) + i)), .ref 107] _ c_98_78 rfl ?_
      refine z_go 80 _ [.ref 92, .int (jn ((10 * ct) + i)), .ref 107] _ c_98_79 rfl ?_
      refine z_getf (v := .ref 114) 83 c_98_80 rfl h92 rfl ?_
      refine z_go 84 _ [.int (jn i), .ref 114, .int (jn ((10 * ct) + i)), .ref 107] _ c_98_83 rfl ?_
      refine z_xald 85 c_98_84 rfl hS.2.1 (by omega) (by omega) ?_
      show jZ _ _ _ _ ([.int (jb ((aR S) i)), .int (jn ((10 * ct) + i)), .ref 107]) _ _
      refine z_zast (M' := jm [(107, .inl (2, 120, .inl (jab (nu (aR E) ((10 * ct) + i) ((aR S) i))))), (106, .inl (0, 120, .inl (ja (nu (aE E) ((10 * ct) + i) ((aE S) i)))))] M) 86 c_98_85 rfl hK.2.2.2.1 (by omega) (by omega) vp_b (by rw [jab_upd]; exact rfl) ?_
      refine z_go 87 _ [.ref 92] _ c_98_86 rfl ?_
      refine z_getf (v := .ref 108) 90 c_98_87 rfl h92 rfl ?_
      refine z_go 91 _ [.int (jn ((10 * ct) + i)), .ref 108] _ c_98_90 rfl ?_
      refine z_go 92 _ [.ref 92, .int (jn ((10 * ct) + i)), .ref 108] _ c_98_91 rfl ?_
      refine z_getf (v := .ref 115) 95 c_98_92 rfl h92 rfl ?_
      refine z_go 96 _ [.int (jn i), .ref 115, .int (jn ((10 * ct) + i)), .ref 108] _ c_98_95 rfl ?_
      refine z_iald 97 c_98_96 rfl hS.2.2.1 (Or.inl rfl) (by omega) (by omega) ?_
      show jZ _ _ _ _ ([.int (jn ((aH S) i)), .int (jn ((10 * ct) + i)), .ref 108]) _ _
      refine z_iast (M' := jm [(108, .inl (0, 120, .inl (ja (nu (aH E) ((10 * ct) + i) ((aH S) i))))), (107, .inl (2, 120, .inl (jab (nu (aR E) ((10 * ct) + i) ((aR S) i))))), (106, .inl (0, 120, .inl (ja (nu (aE E) ((10 * ct) + i) ((aE S) i)))))] M) 98 c_98_97 rfl hK.2.2.2.2.1 (by omega) (by omega) (by rw [ja_upd]; exact rfl) ?_
      refine z_go 99 _ [.ref 92] _ c_98_98 rfl ?_
      refine z_getf (v := .ref 109) 102 c_98_99 rfl h92 rfl ?_
      refine z_go 103 _ [.int (jn ((10 * ct) + i)), .ref 109] _ c_98_102 rfl ?_
      refine z_go 104 _ [.ref 92, .int (jn ((10 * ct) + i)), .ref 109] _ c_98_103 rfl ?_
      refine z_getf (v := .ref 116) 107 c_98_104 rfl h92 rfl ?_
      refine z_go 108 _ [.int (jn i), .ref 116, .int (jn ((10 * ct) + i)), .ref 109] _ c_98_107 rfl ?_
      refine z_iald 109 c_98_108 rfl hS.2.2.2.1 (Or.inl rfl) (by omega) (by omega) ?_
      show jZ _ _ _ _ ([.int (jo ((aQ S) i)), .int (jn ((10 * ct) + i)), .ref 109]) _ _
      refine z_iast (M' := jm [(109, .inl (0, 120, .inl (jao (nu (aQ E) ((10 * ct) + i) ((aQ S) i))))), (108, .inl (0, 120, .inl (ja (nu (aH E) ((10 * ct) + i) ((aH S) i))))), (107, .inl (2, 120, .inl (jab (nu (aR E) ((10 * ct) + i) ((aR S) i))))), (106, .inl (0, 120, .inl (ja (nu (aE E) ((10 * ct) + i) ((aE S) i)))))] M) 110 c_98_109 rfl hK.2.2.2.2.2.1 (by omega) (by omega) ((congrArg (fun f => jx_st _ 109 (.inl (0, 120, .inl f))) (jao_upd (f := aQ E) (k := (10 * ct) + i) (x := (aQ S) i))).trans rfl) ?_
      refine z_go 111 _ [.int (jn 0)] _ c_98_110 rfl ?_
      refine z_go 112 [some (.ref 92), some (.int (jn i)), some (.int (jn ((10 * ct) + i))), some (.int (jn 0))] [] _ c_98_111 rfl ?_
      have hK1 : mKp (jm [(109, .inl (0, 120, .inl (jao (nu (aQ E) ((10 * ct) + i) ((aQ S) i))))), (108, .inl (0, 120, .inl (ja (nu (aH E) ((10 * ct) + i) ((aH S) i))))), (107, .inl (2, 120, .inl (jab (nu (aR E) ((10 * ct) + i) ((aR S) i))))), (106, .inl (0, 120, .inl (ja (nu (aE E) ((10 * ct) + i) ((aE S) i)))))] M) ids szs (nu E (10 * ct + i) (S i)) al := ⟨hK.1, hK.2.1, by rw [aE_nu]; rfl, by rw [aR_nu]; rfl, by rw [aH_nu]; rfl, by rw [aQ_nu]; rfl, hK.2.2.2.2.2.2⟩
      refine t_mpp_in (k := ss) (M := jm [(109, .inl (0, 120, .inl (jao (nu (aQ E) ((10 * ct) + i) ((aQ S) i))))), (108, .inl (0, 120, .inl (ja (nu (aH E) ((10 * ct) + i) ((aH S) i))))), (107, .inl (2, 120, .inl (jab (nu (aR E) ((10 * ct) + i) ((aR S) i))))), (106, .inl (0, 120, .inl (ja (nu (aE E) ((10 * ct) + i) ((aE S) i)))))] M) hss hi hct (by omega) h92 hK.2.2.2.2.2.2 hS.2.2.2.2 (fun M' al' z q1 q2 q3 q4 => ?_)
      refine z_iinc 159 [some (.ref 92), some (.int (jn (i + 1))), some (.int (jn (10 * ct + i))), some (.int z)] c_98_156 rfl rfl (jn_add _ _) rfl ?_
      refine z_go 44 _ [] _ c_98_159 rfl ?_
      have hf1 : sm 106 110 M M' := (sm_jm rfl).tr (q2.wd (by decide) (by decide))
      have hK2 : mKp M' ids szs (nu E (10 * ct + i) (S i)) al' := ⟨(q2.1 104 (by decide)).trans hK1.1, (q2.1 105 (by decide)).trans hK1.2.1, (q2.1 106 (by decide)).trans hK1.2.2.1, (q2.1 107 (by decide)).trans hK1.2.2.2.1, (q2.1 108 (by decide)).trans hK1.2.2.2.2.1, (q2.1 109 (by decide)).trans hK1.2.2.2.2.2.1, q1⟩
      have hal2 : ∀ x, al' x < 8 := fun x => by by_cases hx : 100 * ct + 10 * i + 0 ≤ x ∧ x < 100 * ct + 10 * i + ss; have e := q3 (x - (100 * ct + 10 * i)) (by omega) (by omega); rw [show 100 * ct + 10 * i + (x - (100 * ct + 10 * i)) = x by omega] at e; rw [e]; exact hsb _; rw [q4 x hx]; exact hal x
      refine ih (i := i + 1) (E := nu E (10 * ct + i) (S i)) (al := al') (M := M') (by omega) ((hf1.1 92 (by decide)).trans h92) hK2 (mSt_fr hS fun k a b => hf1.1 k (by omega)) hal2 (fun M9 E9 al9 y1 y2 y3 g1 g2 g3 g4 g5 g6 => hk M9 E9 al9 y1 y2 y3 g1 (hf1.tr g2) (fun t t1 t2 => ?_) (fun x hx => ?_) (fun x hx => ?_) g6)
      · by_cases e : t = i
        · subst e
          refine ⟨by rw [g4 _ (by omega), nu_at'], fun u hu => ?_⟩
          rw [g5 _ (by omega), q3 u (by omega) hu]
        · exact g3 t (by omega) t2
      · rw [g4 x (by omega), nu_ne (by omega)]
      · rw [g5 x (by omega), q4 x (by omega)]
    · omega
theorem t_mpfP {d : Nat} {th ct li fl li2 ss fd : Nat} {dn dn2 : Bool} {ln at_ n : Nat} {gd : Bool} {ids szs : Nat → Nat} {E : Nat → MA} {al : Nat → Nat} {M : jx_M} (hK : mKp M ids szs E al) (hal : ∀ x, al x < 8) {S : Nat → MA} {sb : Nat → Nat} (h92 : M.1 92 = mW (th, ct, li, fl, dn, 1, li2, dn2, ss, fd) ln at_ n gd) (hS : mSt M S sb) (hsb : ∀ x, sb x < 8) (hss : ss ≤ 10) (hct : ct < 12) : jZ d 98 0 [some (.ref 92), none, none, none] [] M (jV none fun M' => M'.1 92 = mW (th, ct + 1, li2, fl, dn, 1, li2, dn2, ss, fd) ln at_ n gd ∧ (∃ E' al', mKp M' (nu ids ct li2) (nu szs ct ss) E' al' ∧ (∀ t, t < ss → E' (10 * ct + t) = S t) ∧ (∀ t u, t < ss → u < ss → al' (100 * ct + 10 * t + u) = sb (10 * t + u)) ∧ (∀ s, s ≠ ct → rowE E' al' s E al s) ∧ ∀ x, al' x < 8) ∧ fQ M M') := by
  refine z_go 1 _ [.ref 92] _ c_98_0 rfl ?_
  refine z_getf (v := .int (jn 1)) 4 c_98_1 rfl h92 rfl ?_
  refine z_go 5 _ [.int (jn 1), .int (jn 1)] _ c_98_4 rfl ?_
  refine z_ine 173 8 c_98_5 rfl (jn_inj (by decide) (by decide)) (fun _ => ?_) (fun h => absurd rfl h)
  refine z_go 9 _ [.ref 92] _ c_98_8 rfl ?_
  refine z_getf (v := .ref 104) 12 c_98_9 rfl h92 rfl ?_
  refine z_go 13 _ [.ref 92, .ref 104] _ c_98_12 rfl ?_
  refine z_getf (v := .int (jn ct)) 16 c_98_13 rfl h92 rfl ?_
  refine z_go 17 _ [.ref 92, .int (jn ct), .ref 104] _ c_98_16 rfl ?_
  refine z_getf (v := .int (jn li2)) 20 c_98_17 rfl h92 rfl ?_
  refine z_iast (M' := jm [(104, .inl (0, 12, .inl (ja (nu ids ct li2))))] M) 21 c_98_20 rfl hK.1 (by omega) (by omega) (by rw [ja_upd]; exact rfl) ?_
  refine z_go 22 _ [.ref 92] _ c_98_21 rfl ?_
  refine z_go 23 _ [.ref 92, .ref 92] _ c_98_22 rfl ?_
  refine z_getf (v := .int (jn li2)) 26 c_98_23 rfl h92 rfl ?_
  refine z_putf (M' := jm [(92, mO th ln at_ n gd ct li2 fl dn 1 li2 dn2 ss fd), (104, .inl (0, 12, .inl (ja (nu ids ct li2))))] M) 29 c_98_26 rfl h92 (rfl) (Nat.le_of_ble_eq_true rfl) rfl ?_
  refine z_go 30 _ [.ref 92] _ c_98_29 rfl ?_
  refine z_getf (v := .ref 105) 33 c_98_30 rfl rfl rfl ?_
  refine z_go 34 _ [.ref 92, .ref 105] _ c_98_33 rfl ?_
  refine z_getf (v := .int (jn ct)) 37 c_98_34 rfl rfl rfl ?_
  refine z_go 38 _ [.ref 92, .int (jn ct), .ref 105] _ c_98_37 rfl ?_
  refine z_getf (v := .int (jn ss)) 41 c_98_38 rfl rfl rfl ?_
  refine z_iast (M' := jm [(105, .inl (0, 12, .inl (ja (nu szs ct ss)))), (92, mO th ln at_ n gd ct li2 fl dn 1 li2 dn2 ss fd), (104, .inl (0, 12, .inl (ja (nu ids ct li2))))] M) 42 c_98_41 rfl hK.2.1 (by omega) (by omega) (by rw [ja_upd]; exact rfl) ?_
  refine z_go 43 _ [.int (jn 0)] _ c_98_42 rfl ?_
  refine z_go 44 [some (.ref 92), some (.int (jn 0)), none, none] [] _ c_98_43 rfl ?_
  refine t_mpp_l (th := th) (ct := ct) (li := li2) (fl := fl) (dn := dn) (lg := 1) (li2 := li2) (dn2 := dn2) (ss := ss) (fd := fd) (k := ss) (M := jm [(105, .inl (0, 12, .inl (ja (nu szs ct ss)))), (92, mO th ln at_ n gd ct li2 fl dn 1 li2 dn2 ss fd), (104, .inl (0, 12, .inl (ja (nu ids ct li2))))] M) (ids := nu ids ct li2) (szs := nu szs ct ss) hss hct hsb (by omega) rfl ⟨rfl, rfl, hK.2.2.1, hK.2.2.2.1, hK.2.2.2.2.1, hK.2.2.2.2.2.1, hK.2.2.2.2.2.2⟩ hS hal (fun M1 E1 al1 y1 y2 y3 q1 q2 q3 q4 q5 q6 => ?_)
  have u92 : M1.1 92 = mO th ln at_ n gd ct li2 fl dn 1 li2 dn2 ss fd := (q2.1 92 (by decide)).trans rfl
  refine z_go 163 _ [.ref 92] _ c_98_162 rfl ?_
  refine z_go 164 _ [.ref 92, .ref 92] _ c_98_163 rfl ?_
  refine z_getf (v := .int (jn ct)) 167 c_98_164 rfl u92 rfl ?_
  refine z_go 168 _ [.int (jn 1), .int (jn ct), .ref 92] _ c_98_167 rfl ?_
  refine z_go 169 _ [.int ((jn ct) + (jn 1)), .ref 92] _ c_98_168 rfl ?_
  refine z_v (jn_add _ _) ?_
  refine z_putf (M' := jm [(92, mO th ln at_ n gd (ct + 1) li2 fl dn 1 li2 dn2 ss fd)] M1) 172 c_98_169 rfl u92 (rfl) (Nat.le_of_ble_eq_true rfl) rfl ?_
  refine z_ret c_98_172 ?_
  refine ⟨rfl, rfl, ⟨E1, al1, mKp_fr q1 fun k a b => if_neg (by omega), fun t ht => (q3 t (by omega) ht).1, fun t u ht hu => (q3 t (by omega) ht).2 u hu, fun s hs => ⟨fun t ht => q4 _ (by omega), fun t ht => q5 _ (by omega)⟩, q6⟩, ?_⟩
  exact ⟨fun k h1 h2 => ((if_neg h1).trans (q2.1 k (by omega))).trans ((if_neg (by omega)).trans ((if_neg (by omega)).trans (if_neg (by omega)))), q2.2⟩
theorem t_mpfR {d : Nat} {th ct li fl li2 ss fd : Nat} {dn dn2 : Bool} {ln at_ n : Nat} {gd : Bool} {ids szs : Nat → Nat} {E : Nat → MA} {al : Nat → Nat} {M : jx_M} (hK : mKp M ids szs E al) (hal : ∀ x, al x < 8) (h92 : M.1 92 = mW (th, ct, li, fl, dn, 2, li2, dn2, ss, fd) ln at_ n gd) (hct : ct ≤ 12) {go : Nat} (hs : sp_sl ids (jn li2) ct 0 = some go) : jZ (d + 1) 98 0 [some (.ref 92), none, none, none] [] M (jV none fun M' => M'.1 92 = mW (th, ct - 1, li, fl, dn, 2, li2, dn2, ss, fd) ln at_ n gd ∧ (∃ ids' szs' E' al', mKp M' ids' szs' E' al' ∧ (∀ s, go ≤ s → s < ct - 1 → ids' s = ids (s + 1) ∧ szs' s = szs (s + 1) ∧ rowE E' al' s E al (s + 1)) ∧ (∀ s, s < go → ids' s = ids s ∧ szs' s = szs s ∧ rowE E' al' s E al s) ∧ ∀ x, al' x < 8) ∧ fQ M M') := by
  obtain ⟨-, hgo, -⟩ := sp_sl_some hs
  refine z_go 1 _ [.ref 92] _ c_98_0 rfl ?_
  refine z_getf (v := .int (jn 2)) 4 c_98_1 rfl h92 rfl ?_
  refine z_go 5 _ [.int (jn 1), .int (jn 2)] _ c_98_4 rfl ?_
  refine z_ine 173 8 c_98_5 rfl (jn_inj (by decide) (by decide)) (fun h => absurd h (by decide)) (fun _ => ?_)
  refine z_go 174 _ [.ref 92] _ c_98_173 rfl ?_
  refine z_go 175 _ [.ref 92, .ref 92] _ c_98_174 rfl ?_
  refine z_getf (v := .int (jn li2)) 178 c_98_175 rfl h92 rfl ?_
  refine z_callv 181 6 99 1 92 c_98_178 rfl ⟨Nat.le_of_ble_eq_true rfl, Nat.le_of_ble_eq_true rfl⟩ rfl h92 [.ref 92, .int (jn li2)] rfl rfl [some (.ref 92), some (.int (jn li2)), none] rfl rfl (t_mpl (w := (th, ct, li, fl, dn, 2, li2, dn2, ss, fd)) (x := jn li2) h92 hK.1 hct) ?_
  show jZ _ _ _ _ [.int (jo (sp_sl ids (jn li2) ct 0))] _ _
  rw [hs]
  show jZ _ _ _ _ [.int (jn go)] _ _
  refine z_go 182 [some (.ref 92), some (.int (jn go)), none, none] [] _ c_98_181 rfl ?_
  refine z_go 183 _ [.ref 92] _ c_98_182 rfl ?_
  refine z_go 184 _ [.ref 92, .ref 92] _ c_98_183 rfl ?_
  refine z_getf (v := .int (jn ct)) 187 c_98_184 rfl h92 rfl ?_
  refine z_go 188 _ [.int (jn 1), .int (jn ct), .ref 92] _ c_98_187 rfl ?_
  refine z_go 189 _ [.int ((jn ct) - (jn 1)), .ref 92] _ c_98_188 rfl ?_
  refine z_v (jn_sub (by omega)) ?_
  refine z_putf (M' := jm [(92, mO th ln at_ n gd (ct - 1) li fl dn 2 li2 dn2 ss fd)] M) 192 c_98_189 rfl h92 (rfl) (Nat.le_of_ble_eq_true rfl) rfl ?_
  refine z_go 193 _ [.int (jn go)] _ c_98_192 rfl ?_
  refine z_go 194 [some (.ref 92), some (.int (jn go)), some (.int (jn go)), none] [] _ c_98_193 rfl ?_
  refine (t_mpf_r (w := (th, ct - 1, li, fl, dn, 2, li2, dn2, ss, fd)) (z1 := jn go) (z3 := none) (k := ct - 1 - go) (k0 := go) (M := jm [(92, mO th ln at_ n gd (ct - 1) li fl dn 2 li2 dn2 ss fd)] M) (show ct - 1 < 12 by omega) (show go + (ct - 1 - go) = ct - 1 by omega) rfl (mKp_fr hK fun k a b => if_neg (by omega)) hal).mono fun r M1 q => ⟨q.1, (q.2.2.1 92 (by decide)).trans rfl, q.2.1, (fQ_9 (sm_jm rfl)).tr (fQ_s q.2.2 (by decide) (by decide))⟩
theorem t_mchP0 {d : Nat} {th ct li lg li2 ss fd : Nat} {dn dn2 : Bool} {ln at_ n : Nat} {gd : Bool} {ids szs : Nat → Nat} {E : Nat → MA} {al : Nat → Nat} {M : jx_M} (hK : mKp M ids szs E al) (hal : ∀ x, al x < 8) {S : Nat → MA} {sb : Nat → Nat} (h92 : M.1 92 = mW (th, ct, li, 0, dn, lg, li2, dn2, ss, fd) ln at_ n gd) (hS : mSt M S sb) (hsb : ∀ x, sb x < 8) {id : Nat} (hss : ss ≤ 10) (hct : ct < 12) : jZ (d + 2) 97 0 [some (.ref 92), some (.int (jn 1)), some (.int (jn id)), none] [] M (jV (some (.int (jb true))) fun M' => M'.1 92 = mW (th, ct + 1, id, 0, false, 0, id, true, ss, 0) ln at_ n gd ∧ (∃ E' al', mKp M' (nu ids ct id) (nu szs ct ss) E' al' ∧ (∀ t, t < ss → E' (10 * ct + t) = S t) ∧ (∀ t u, t < ss → u < ss → al' (100 * ct + 10 * t + u) = sb (10 * t + u)) ∧ (∀ s, s ≠ ct → rowE E' al' s E al s) ∧ ∀ x, al' x < 8) ∧ fQ M M') := by
  refine z_go 1 _ [.ref 92] _ c_97_0 rfl ?_
  refine z_getf (v := .int (jn 0)) 4 c_97_1 rfl h92 rfl ?_
  refine z_go 5 [some (.ref 92), some (.int (jn 1)), some (.int (jn id)), some (.int (jn 0))] [] _ c_97_4 rfl ?_
  refine z_go 6 _ [.ref 92] _ c_97_5 rfl ?_
  refine z_go 7 _ [.int (jn 0), .ref 92] _ c_97_6 rfl ?_
  refine z_putf (M' := jm [(92, mO th ln at_ n gd ct li 0 dn lg li2 dn2 ss fd)] M) 10 c_97_7 rfl h92 (rfl) (Nat.le_of_ble_eq_true rfl) rfl ?_
  refine z_go 11 _ [.ref 92] _ c_97_10 rfl ?_
  refine z_go 12 _ [.int (jn 0), .ref 92] _ c_97_11 rfl ?_
  refine z_putf (M' := jm [(92, mO th ln at_ n gd ct li 0 dn lg li2 dn2 ss 0)] M) 15 c_97_12 rfl rfl (rfl) (Nat.le_of_ble_eq_true rfl) (jm_w rfl) ?_
  refine z_go 16 _ [.ref 92] _ c_97_15 rfl ?_
  refine z_go 17 _ [.int (jn 0), .ref 92] _ c_97_16 rfl ?_
  refine z_ifeq 24 20 c_97_17 rfl (jn_z (by decide)) (fun _ => ?_) (fun h => absurd rfl h)
  refine z_go 25 _ [.int (jn 0), .ref 92] _ c_97_24 rfl ?_
  refine z_putf (M' := jm [(92, mO th ln at_ n gd ct li 0 false lg li2 dn2 ss 0)] M) 28 c_97_25 rfl rfl (by decide) (Nat.le_of_ble_eq_true rfl) (jm_w rfl) ?_
  refine z_go 29 _ [.int (jn 0)] _ c_97_28 rfl ?_
  refine z_go 30 _ [.int (jn 1), .int (jn 0)] _ c_97_29 rfl ?_
  refine z_ieq 38 33 c_97_30 rfl (jn_inj (by decide) (by decide)) (fun h => absurd h (by decide)) (fun _ => ?_)
  refine z_go 34 _ [.int (jn 0)] _ c_97_33 rfl ?_
  refine z_go 35 _ [.int (jn 2), .int (jn 0)] _ c_97_34 rfl ?_
  refine z_ine 45 38 c_97_35 rfl (jn_inj (by decide) (by decide)) (fun h => absurd h (by decide)) (fun _ => ?_)
  refine z_go 46 _ [.ref 92] _ c_97_45 rfl ?_
  refine z_go 47 _ [.int (jn 1), .ref 92] _ c_97_46 rfl ?_
  refine z_putf (M' := jm [(92, mO th ln at_ n gd ct li 0 false 1 li2 dn2 ss 0)] M) 50 c_97_47 rfl rfl (rfl) (Nat.le_of_ble_eq_true rfl) (jm_w rfl) ?_
  refine z_go 51 _ [.ref 92] _ c_97_50 rfl ?_
  refine z_go 52 _ [.int (jn id), .ref 92] _ c_97_51 rfl ?_
  refine z_putf (M' := jm [(92, mO th ln at_ n gd ct li 0 false 1 id dn2 ss 0)] M) 55 c_97_52 rfl rfl (rfl) (Nat.le_of_ble_eq_true rfl) (jm_w rfl) ?_
  refine z_go 56 _ [.ref 92] _ c_97_55 rfl ?_
  refine z_go 57 _ [.int (jn 0), .ref 92] _ c_97_56 rfl ?_
  refine z_go 58 _ [.int (jn 3), .int (jn 0), .ref 92] _ c_97_57 rfl ?_
  refine z_ieq 65 61 c_97_58 rfl (jn_inj (by decide) (by decide)) (fun h => absurd h (by decide)) (fun _ => ?_)
  refine z_go 62 _ [.int (jn 1), .ref 92] _ c_97_61 rfl ?_
  refine z_go 66 _ [.int (jn 1), .ref 92] _ c_97_62 rfl ?_
  refine z_putf (M' := jm [(92, mO th ln at_ n gd ct li 0 false 1 id true ss 0)] M) 69 c_97_66 rfl rfl (by decide) (Nat.le_of_ble_eq_true rfl) (jm_w rfl) ?_
  refine z_go 70 _ [.ref 92] _ c_97_69 rfl ?_
  refine z_getf (v := .int (jb true)) 73 c_97_70 rfl rfl rfl ?_
  refine z_ifeq 80 76 c_97_73 rfl jb_t (fun h => absurd h (by decide)) (fun _ => ?_)
  refine z_go 77 _ [.ref 92] _ c_97_76 rfl ?_
  have hK1 : mKp (jm [(92, mO th ln at_ n gd ct li 0 false 1 id true ss 0)] M) ids szs E al := mKp_fr hK fun k a b => if_neg (by omega)
  refine z_callvV 80 6 98 0 92 c_97_77 rfl ⟨Nat.le_of_ble_eq_true rfl, Nat.le_of_ble_eq_true rfl⟩ rfl rfl [.ref 92] rfl rfl [some (.ref 92), none, none, none] rfl rfl (t_mpfP (d := d + 1) (th := th) (ct := ct) (li := li) (fl := 0) (dn := false) (li2 := id) (dn2 := true) (ss := ss) (fd := 0) (S := S) (sb := sb) hK1 hal (show (jm [(92, mO th ln at_ n gd ct li 0 false 1 id true ss 0)] M).1 92 = mW (th, ct, li, 0, false, 1, id, true, ss, 0) ln at_ n gd from rfl) (mSt_fr hS fun k a b => if_neg (by omega)) hsb hss hct) ?_
  intro M1 ⟨g1, g2, g3⟩
  have hf1 : fQ M M1 := (fQ_9 (sm_jm rfl)).tr g3
  show jZ _ _ _ _ [] _ _
  refine z_go 81 _ [.ref 92] _ c_97_80 rfl ?_
  refine z_go 82 _ [.int (jn 0), .ref 92] _ c_97_81 rfl ?_
  refine z_ifne 89 85 c_97_82 rfl (jn_z (by decide)) (fun _ => ?_) (fun h => absurd rfl h)
  refine z_go 86 _ [.int (jn 0), .ref 92] _ c_97_85 rfl ?_
  refine z_go 93 _ [.int (jn 0), .ref 92] _ c_97_86 rfl ?_
  refine z_putf (M' := jm [(92, mO th ln at_ n gd (ct + 1) id 0 false 0 id true ss 0)] M1) 96 c_97_93 rfl g1 (rfl) (Nat.le_of_ble_eq_true rfl) rfl ?_
  refine z_go 97 _ [.int (jn 0)] _ c_97_96 rfl ?_
  refine z_ifne 104 100 c_97_97 rfl (jn_z (by decide)) (fun _ => ?_) (fun h => absurd rfl h)
  refine z_go 101 _ [.int (jn 1)] _ c_97_100 rfl ?_
  refine z_go 105 _ [.int (jn 1)] _ c_97_101 rfl ?_
  refine z_zret (b := true) c_97_105 ?_
  have hw : ∀ k, 104 ≤ k → k ≤ 110 → (jm [(92, mO th ln at_ n gd (ct + 1) id 0 false 0 id true ss 0)] M1).1 k = M1.1 k := fun k a b => if_neg (by omega)
  obtain ⟨E9, al9, y1, y2⟩ := g2
  exact ⟨rfl, rfl, ⟨E9, al9, mKp_fr y1 hw, y2⟩, hf1.tr (fQ_9 (sm_jm rfl))⟩
theorem t_mchP1 {d : Nat} {th ct li lg li2 ss fd : Nat} {dn dn2 : Bool} {ln at_ n : Nat} {gd : Bool} {ids szs : Nat → Nat} {E : Nat → MA} {al : Nat → Nat} {M : jx_M} (hK : mKp M ids szs E al) (hal : ∀ x, al x < 8) {S : Nat → MA} {sb : Nat → Nat} (h92 : M.1 92 = mW (th, ct, li, 1, dn, lg, li2, dn2, ss, fd) ln at_ n gd) (hS : mSt M S sb) (hsb : ∀ x, sb x < 8) {id : Nat} (hss : ss ≤ 10) (hct : ct < 12) : jZ (d + 2) 97 0 [some (.ref 92), some (.int (jn 1)), some (.int (jn id)), none] [] M (jV (some (.int (jb false))) fun M' => M'.1 92 = mW (th, ct, li, 0, true, 0, li2, dn2, ss, 0) ln at_ n gd ∧ mKp M' ids szs E al ∧ fQ M M') := by
  refine z_go 1 _ [.ref 92] _ c_97_0 rfl ?_
  refine z_getf (v := .int (jn 1)) 4 c_97_1 rfl h92 rfl ?_
  refine z_go 5 [some (.ref 92), some (.int (jn 1)), some (.int (jn id)), some (.int (jn 1))] [] _ c_97_4 rfl ?_
  refine z_go 6 _ [.ref 92] _ c_97_5 rfl ?_
  refine z_go 7 _ [.int (jn 0), .ref 92] _ c_97_6 rfl ?_
  refine z_putf (M' := jm [(92, mO th ln at_ n gd ct li 0 dn lg li2 dn2 ss fd)] M) 10 c_97_7 rfl h92 (rfl) (Nat.le_of_ble_eq_true rfl) rfl ?_
  refine z_go 11 _ [.ref 92] _ c_97_10 rfl ?_
  refine z_go 12 _ [.int (jn 0), .ref 92] _ c_97_11 rfl ?_
  refine z_putf (M' := jm [(92, mO th ln at_ n gd ct li 0 dn lg li2 dn2 ss 0)] M) 15 c_97_12 rfl rfl (rfl) (Nat.le_of_ble_eq_true rfl) (jm_w rfl) ?_
  refine z_go 16 _ [.ref 92] _ c_97_15 rfl ?_
  refine z_go 17 _ [.int (jn 1), .ref 92] _ c_97_16 rfl ?_
  refine z_ifeq 24 20 c_97_17 rfl (jn_z (by decide)) (fun h => absurd h (by decide)) (fun _ => ?_)
  refine z_go 21 _ [.int (jn 1), .ref 92] _ c_97_20 rfl ?_
  refine z_go 25 _ [.int (jn 1), .ref 92] _ c_97_21 rfl ?_
  refine z_putf (M' := jm [(92, mO th ln at_ n gd ct li 0 true lg li2 dn2 ss 0)] M) 28 c_97_25 rfl rfl (by decide) (Nat.le_of_ble_eq_true rfl) (jm_w rfl) ?_
  refine z_go 29 _ [.int (jn 1)] _ c_97_28 rfl ?_
  refine z_go 30 _ [.int (jn 1), .int (jn 1)] _ c_97_29 rfl ?_
  refine z_ieq 38 33 c_97_30 rfl (jn_inj (by decide) (by decide)) (fun _ => ?_) (fun h => absurd rfl h)
  refine z_go 39 _ [.ref 92] _ c_97_38 rfl ?_
  refine z_go 40 _ [.int (jn 0), .ref 92] _ c_97_39 rfl ?_
  refine z_putf (M' := jm [(92, mO th ln at_ n gd ct li 0 true 0 li2 dn2 ss 0)] M) 43 c_97_40 rfl rfl (rfl) (Nat.le_of_ble_eq_true rfl) (jm_w rfl) ?_
  refine z_go 44 _ [.int (jn 0)] _ c_97_43 rfl ?_
  refine z_zret (b := false) c_97_44 ?_
  exact ⟨rfl, rfl, mKp_fr hK fun k a b => if_neg (by omega), fQ_9 (sm_jm rfl)⟩
theorem t_mchP2 {d : Nat} {th ct li lg li2 ss fd : Nat} {dn dn2 : Bool} {ln at_ n : Nat} {gd : Bool} {ids szs : Nat → Nat} {E : Nat → MA} {al : Nat → Nat} {M : jx_M} (hK : mKp M ids szs E al) (hal : ∀ x, al x < 8) {S : Nat → MA} {sb : Nat → Nat} (h92 : M.1 92 = mW (th, ct, li, 2, dn, lg, li2, dn2, ss, fd) ln at_ n gd) (hS : mSt M S sb) (hsb : ∀ x, sb x < 8) {id : Nat} (hss : ss ≤ 10) (hct : ct < 12) : jZ (d + 2) 97 0 [some (.ref 92), some (.int (jn 1)), some (.int (jn id)), none] [] M (jV (some (.int (jb false))) fun M' => M'.1 92 = mW (th, ct, li, 0, true, 0, li2, dn2, ss, 0) ln at_ n gd ∧ mKp M' ids szs E al ∧ fQ M M') := by
  refine z_go 1 _ [.ref 92] _ c_97_0 rfl ?_
  refine z_getf (v := .int (jn 2)) 4 c_97_1 rfl h92 rfl ?_
  refine z_go 5 [some (.ref 92), some (.int (jn 1)), some (.int (jn id)), some (.int (jn 2))] [] _ c_97_4 rfl ?_
  refine z_go 6 _ [.ref 92] _ c_97_5 rfl ?_
  refine z_go 7 _ [.int (jn 0), .ref 92] _ c_97_6 rfl ?_
  refine z_putf (M' := jm [(92, mO th ln at_ n gd ct li 0 dn lg li2 dn2 ss fd)] M) 10 c_97_7 rfl h92 (rfl) (Nat.le_of_ble_eq_true rfl) rfl ?_
  refine z_go 11 _ [.ref 92] _ c_97_10 rfl ?_
  refine z_go 12 _ [.int (jn 0), .ref 92] _ c_97_11 rfl ?_
  refine z_putf (M' := jm [(92, mO th ln at_ n gd ct li 0 dn lg li2 dn2 ss 0)] M) 15 c_97_12 rfl rfl (rfl) (Nat.le_of_ble_eq_true rfl) (jm_w rfl) ?_
  refine z_go 16 _ [.ref 92] _ c_97_15 rfl ?_
  refine z_go 17 _ [.int (jn 2), .ref 92] _ c_97_16 rfl ?_
  refine z_ifeq 24 20 c_97_17 rfl (jn_z (by decide)) (fun h => absurd h (by decide)) (fun _ => ?_)
  refine z_go 21 _ [.int (jn 1), .ref 92] _ c_97_20 rfl ?_
  refine z_go 25 _ [.int (jn 1), .ref 92] _ c_97_21 rfl ?_
  refine z_putf (M' := jm [(92, mO th ln at_ n gd ct li 0 true lg li2 dn2 ss 0)] M) 28 c_97_25 rfl rfl (by decide) (Nat.le_of_ble_eq_true rfl) (jm_w rfl) ?_
  refine z_go 29 _ [.int (jn 2)] _ c_97_28 rfl ?_
  refine z_go 30 _ [.int (jn 1), .int (jn 2)] _ c_97_29 rfl ?_
  refine z_ieq 38 33 c_97_30 rfl (jn_inj (by decide) (by decide)) (fun h => absurd h (by decide)) (fun _ => ?_)
  refine z_go 34 _ [.int (jn 2)] _ c_97_33 rfl ?_
  refine z_go 35 _ [.int (jn 2), .int (jn 2)] _ c_97_34 rfl ?_
  refine z_ine 45 38 c_97_35 rfl (jn_inj (by decide) (by decide)) (fun _ => ?_) (fun h => absurd rfl h)
  refine z_go 39 _ [.ref 92] _ c_97_38 rfl ?_
  refine z_go 40 _ [.int (jn 0), .ref 92] _ c_97_39 rfl ?_
  refine z_putf (M' := jm [(92, mO th ln at_ n gd ct li 0 true 0 li2 dn2 ss 0)] M) 43 c_97_40 rfl rfl (rfl) (Nat.le_of_ble_eq_true rfl) (jm_w rfl) ?_
  refine z_go 44 _ [.int (jn 0)] _ c_97_43 rfl ?_
  refine z_zret (b := false) c_97_44 ?_
  exact ⟨rfl, rfl, mKp_fr hK fun k a b => if_neg (by omega), fQ_9 (sm_jm rfl)⟩
theorem t_mchP3 {d : Nat} {th ct li lg li2 ss fd : Nat} {dn dn2 : Bool} {ln at_ n : Nat} {gd : Bool} {ids szs : Nat → Nat} {E : Nat → MA} {al : Nat → Nat} {M : jx_M} (hK : mKp M ids szs E al) (hal : ∀ x, al x < 8) {S : Nat → MA} {sb : Nat → Nat} (h92 : M.1 92 = mW (th, ct, li, 3, dn, lg, li2, dn2, ss, fd) ln at_ n gd) (hS : mSt M S sb) (hsb : ∀ x, sb x < 8) {id : Nat} (hss : ss ≤ 10) (hct : ct < 12) : jZ (d + 2) 97 0 [some (.ref 92), some (.int (jn 1)), some (.int (jn id)), none] [] M (jV (some (.int (jb false))) fun M' => M'.1 92 = mW (th, ct, li, 0, true, 1, id, false, ss, 0) ln at_ n gd ∧ mKp M' ids szs E al ∧ fQ M M') := by
  refine z_go 1 _ [.ref 92] _ c_97_0 rfl ?_
  refine z_getf (v := .int (jn 3)) 4 c_97_1 rfl h92 rfl ?_
  refine z_go 5 [some (.ref 92), some (.int (jn 1)), some (.int (jn id)), some (.int (jn 3))] [] _ c_97_4 rfl ?_
  refine z_go 6 _ [.ref 92] _ c_97_5 rfl ?_
  refine z_go 7 _ [.int (jn 0), .ref 92] _ c_97_6 rfl ?_
  refine z_putf (M' := jm [(92, mO th ln at_ n gd ct li 0 dn lg li2 dn2 ss fd)] M) 10 c_97_7 rfl h92 (rfl) (Nat.le_of_ble_eq_true rfl) rfl ?_
  refine z_go 11 _ [.ref 92] _ c_97_10 rfl ?_
  refine z_go 12 _ [.int (jn 0), .ref 92] _ c_97_11 rfl ?_
  refine z_putf (M' := jm [(92, mO th ln at_ n gd ct li 0 dn lg li2 dn2 ss 0)] M) 15 c_97_12 rfl rfl (rfl) (Nat.le_of_ble_eq_true rfl) (jm_w rfl) ?_
  refine z_go 16 _ [.ref 92] _ c_97_15 rfl ?_
  refine z_go 17 _ [.int (jn 3), .ref 92] _ c_97_16 rfl ?_
  refine z_ifeq 24 20 c_97_17 rfl (jn_z (by decide)) (fun h => absurd h (by decide)) (fun _ => ?_)
  refine z_go 21 _ [.int (jn 1), .ref 92] _ c_97_20 rfl ?_
  refine z_go 25 _ [.int (jn 1), .ref 92] _ c_97_21 rfl ?_
  refine z_putf (M' := jm [(92, mO th ln at_ n gd ct li 0 true lg li2 dn2 ss 0)] M) 28 c_97_25 rfl rfl (by decide) (Nat.le_of_ble_eq_true rfl) (jm_w rfl) ?_
  refine z_go 29 _ [.int (jn 3)] _ c_97_28 rfl ?_
  refine z_go 30 _ [.int (jn 1), .int (jn 3)] _ c_97_29 rfl ?_
  refine z_ieq 38 33 c_97_30 rfl (jn_inj (by decide) (by decide)) (fun h => absurd h (by decide)) (fun _ => ?_)
  refine z_go 34 _ [.int (jn 3)] _ c_97_33 rfl ?_
  refine z_go 35 _ [.int (jn 2), .int (jn 3)] _ c_97_34 rfl ?_
  refine z_ine 45 38 c_97_35 rfl (jn_inj (by decide) (by decide)) (fun h => absurd h (by decide)) (fun _ => ?_)
  refine z_go 46 _ [.ref 92] _ c_97_45 rfl ?_
  refine z_go 47 _ [.int (jn 1), .ref 92] _ c_97_46 rfl ?_
  refine z_putf (M' := jm [(92, mO th ln at_ n gd ct li 0 true 1 li2 dn2 ss 0)] M) 50 c_97_47 rfl rfl (rfl) (Nat.le_of_ble_eq_true rfl) (jm_w rfl) ?_
  refine z_go 51 _ [.ref 92] _ c_97_50 rfl ?_
  refine z_go 52 _ [.int (jn id), .ref 92] _ c_97_51 rfl ?_
  refine z_putf (M' := jm [(92, mO th ln at_ n gd ct li 0 true 1 id dn2 ss 0)] M) 55 c_97_52 rfl rfl (rfl) (Nat.le_of_ble_eq_true rfl) (jm_w rfl) ?_
  refine z_go 56 _ [.ref 92] _ c_97_55 rfl ?_
  refine z_go 57 _ [.int (jn 3), .ref 92] _ c_97_56 rfl ?_
  refine z_go 58 _ [.int (jn 3), .int (jn 3), .ref 92] _ c_97_57 rfl ?_
  refine z_ieq 65 61 c_97_58 rfl (jn_inj (by decide) (by decide)) (fun _ => ?_) (fun h => absurd rfl h)
  refine z_go 66 _ [.int (jn 0), .ref 92] _ c_97_65 rfl ?_
  refine z_putf (M' := jm [(92, mO th ln at_ n gd ct li 0 true 1 id false ss 0)] M) 69 c_97_66 rfl rfl (by decide) (Nat.le_of_ble_eq_true rfl) (jm_w rfl) ?_
  refine z_go 70 _ [.ref 92] _ c_97_69 rfl ?_
  refine z_getf (v := .int (jb false)) 73 c_97_70 rfl rfl rfl ?_
  refine z_ifeq 80 76 c_97_73 rfl jb_t (fun _ => ?_) (fun h => absurd rfl h)
  refine z_go 81 _ [.ref 92] _ c_97_80 rfl ?_
  refine z_go 82 _ [.int (jn 3), .ref 92] _ c_97_81 rfl ?_
  refine z_ifne 89 85 c_97_82 rfl (jn_z (by decide)) (fun h => absurd h (by decide)) (fun _ => ?_)
  refine z_go 90 _ [.ref 92, .ref 92] _ c_97_89 rfl ?_
  refine z_getf (v := .int (jn 1)) 93 c_97_90 rfl rfl rfl ?_
  refine z_putf (M' := jm [(92, mO th ln at_ n gd ct li 0 true 1 id false ss 0)] M) 96 c_97_93 rfl rfl (rfl) (Nat.le_of_ble_eq_true rfl) (jm_w rfl) ?_
  refine z_go 97 _ [.int (jn 3)] _ c_97_96 rfl ?_
  refine z_ifne 104 100 c_97_97 rfl (jn_z (by decide)) (fun h => absurd h (by decide)) (fun _ => ?_)
  refine z_go 105 _ [.int (jn 0)] _ c_97_104 rfl ?_
  refine z_zret (b := false) c_97_105 ?_
  exact ⟨rfl, rfl, mKp_fr hK fun k a b => if_neg (by omega), fQ_9 (sm_jm rfl)⟩
theorem t_mchP4 {d : Nat} {th ct li lg li2 ss fd : Nat} {dn dn2 : Bool} {ln at_ n : Nat} {gd : Bool} {ids szs : Nat → Nat} {E : Nat → MA} {al : Nat → Nat} {M : jx_M} (hK : mKp M ids szs E al) (hal : ∀ x, al x < 8) {S : Nat → MA} {sb : Nat → Nat} (h92 : M.1 92 = mW (th, ct, li, 4, dn, lg, li2, dn2, ss, fd) ln at_ n gd) (hS : mSt M S sb) (hsb : ∀ x, sb x < 8) {id : Nat} (hss : ss ≤ 10) (hct : ct < 12) : jZ (d + 2) 97 0 [some (.ref 92), some (.int (jn 1)), some (.int (jn id)), none] [] M (jV (some (.int (jb false))) fun M' => M'.1 92 = mW (th, ct + 1, id, 0, true, 1, id, true, ss, 0) ln at_ n gd ∧ (∃ E' al', mKp M' (nu ids ct id) (nu szs ct ss) E' al' ∧ (∀ t, t < ss → E' (10 * ct + t) = S t) ∧ (∀ t u, t < ss → u < ss → al' (100 * ct + 10 * t + u) = sb (10 * t + u)) ∧ (∀ s, s ≠ ct → rowE E' al' s E al s) ∧ ∀ x, al' x < 8) ∧ fQ M M') := by
  refine z_go 1 _ [.ref 92] _ c_97_0 rfl ?_
  refine z_getf (v := .int (jn 4)) 4 c_97_1 rfl h92 rfl ?_
  refine z_go 5 [some (.ref 92), some (.int (jn 1)), some (.int (jn id)), some (.int (jn 4))] [] _ c_97_4 rfl ?_
  refine z_go 6 _ [.ref 92] _ c_97_5 rfl ?_
  refine z_go 7 _ [.int (jn 0), .ref 92] _ c_97_6 rfl ?_
  refine z_putf (M' := jm [(92, mO th ln at_ n gd ct li 0 dn lg li2 dn2 ss fd)] M) 10 c_97_7 rfl h92 (rfl) (Nat.le_of_ble_eq_true rfl) rfl ?_
  refine z_go 11 _ [.ref 92] _ c_97_10 rfl ?_
  refine z_go 12 _ [.int (jn 0), .ref 92] _ c_97_11 rfl ?_
  refine z_putf (M' := jm [(92, mO th ln at_ n gd ct li 0 dn lg li2 dn2 ss 0)] M) 15 c_97_12 rfl rfl (rfl) (Nat.le_of_ble_eq_true rfl) (jm_w rfl) ?_
  refine z_go 16 _ [.ref 92] _ c_97_15 rfl ?_
  refine z_go 17 _ [.int (jn 4), .ref 92] _ c_97_16 rfl ?_
  refine z_ifeq 24 20 c_97_17 rfl (jn_z (by decide)) (fun h => absurd h (by decide)) (fun _ => ?_)
  refine z_go 21 _ [.int (jn 1), .ref 92] _ c_97_20 rfl ?_
  refine z_go 25 _ [.int (jn 1), .ref 92] _ c_97_21 rfl ?_
  refine z_putf (M' := jm [(92, mO th ln at_ n gd ct li 0 true lg li2 dn2 ss 0)] M) 28 c_97_25 rfl rfl (by decide) (Nat.le_of_ble_eq_true rfl) (jm_w rfl) ?_
  refine z_go 29 _ [.int (jn 4)] _ c_97_28 rfl ?_
  refine z_go 30 _ [.int (jn 1), .int (jn 4)] _ c_97_29 rfl ?_
  refine z_ieq 38 33 c_97_30 rfl (jn_inj (by decide) (by decide)) (fun h => absurd h (by decide)) (fun _ => ?_)
  refine z_go 34 _ [.int (jn 4)] _ c_97_33 rfl ?_
  refine z_go 35 _ [.int (jn 2), .int (jn 4)] _ c_97_34 rfl ?_
  refine z_ine 45 38 c_97_35 rfl (jn_inj (by decide) (by decide)) (fun h => absurd h (by decide)) (fun _ => ?_)
  refine z_go 46 _ [.ref 92] _ c_97_45 rfl ?_
  refine z_go 47 _ [.int (jn 1), .ref 92] _ c_97_46 rfl ?_
  refine z_putf (M' := jm [(92, mO th ln at_ n gd ct li 0 true 1 li2 dn2 ss 0)] M) 50 c_97_47 rfl rfl (rfl) (Nat.le_of_ble_eq_true rfl) (jm_w rfl) ?_
  refine z_go 51 _ [.ref 92] _ c_97_50 rfl ?_
  refine z_go 52 _ [.int (jn id), .ref 92] _ c_97_51 rfl ?_
  refine z_putf (M' := jm [(92, mO th ln at_ n gd ct li 0 true 1 id dn2 ss 0)] M) 55 c_97_52 rfl rfl (rfl) (Nat.le_of_ble_eq_true rfl) (jm_w rfl) ?_
  refine z_go 56 _ [.ref 92] _ c_97_55 rfl ?_
  refine z_go 57 _ [.int (jn 4), .ref 92] _ c_97_56 rfl ?_
  refine z_go 58 _ [.int (jn 3), .int (jn 4), .ref 92] _ c_97_57 rfl ?_
  refine z_ieq 65 61 c_97_58 rfl (jn_inj (by decide) (by decide)) (fun h => absurd h (by decide)) (fun _ => ?_)
  refine z_go 62 _ [.int (jn 1), .ref 92] _ c_97_61 rfl ?_
  refine z_go 66 _ [.int (jn 1), .ref 92] _ c_97_62 rfl ?_
  refine z_putf (M' := jm [(92, mO th ln at_ n gd ct li 0 true 1 id true ss 0)] M) 69 c_97_66 rfl rfl (by decide) (Nat.le_of_ble_eq_true rfl) (jm_w rfl) ?_
  refine z_go 70 _ [.ref 92] _ c_97_69 rfl ?_
  refine z_getf (v := .int (jb true)) 73 c_97_70 rfl rfl rfl ?_
  refine z_ifeq 80 76 c_97_73 rfl jb_t (fun h => absurd h (by decide)) (fun _ => ?_)
  refine z_go 77 _ [.ref 92] _ c_97_76 rfl ?_
  have hK1 : mKp (jm [(92, mO th ln at_ n gd ct li 0 true 1 id true ss 0)] M) ids szs E al := mKp_fr hK fun k a b => if_neg (by omega)
  refine z_callvV 80 6 98 0 92 c_97_77 rfl ⟨Nat.le_of_ble_eq_true rfl, Nat.le_of_ble_eq_true rfl⟩ rfl rfl [.ref 92] rfl rfl [some (.ref 92), none, none, none] rfl rfl (t_mpfP (d := d + 1) (th := th) (ct := ct) (li := li) (fl := 0) (dn := true) (li2 := id) (dn2 := true) (ss := ss) (fd := 0) (S := S) (sb := sb) hK1 hal (show (jm [(92, mO th ln at_ n gd ct li 0 true 1 id true ss 0)] M).1 92 = mW (th, ct, li, 0, true, 1, id, true, ss, 0) ln at_ n gd from rfl) (mSt_fr hS fun k a b => if_neg (by omega)) hsb hss hct) ?_
  intro M1 ⟨g1, g2, g3⟩
  have hf1 : fQ M M1 := (fQ_9 (sm_jm rfl)).tr g3
  show jZ _ _ _ _ [] _ _
  refine z_go 81 _ [.ref 92] _ c_97_80 rfl ?_
  refine z_go 82 _ [.int (jn 4), .ref 92] _ c_97_81 rfl ?_
  refine z_ifne 89 85 c_97_82 rfl (jn_z (by decide)) (fun h => absurd h (by decide)) (fun _ => ?_)
  refine z_go 90 _ [.ref 92, .ref 92] _ c_97_89 rfl ?_
  refine z_getf (v := .int (jn 1)) 93 c_97_90 rfl g1 rfl ?_
  refine z_putf (M' := jm [(92, mO th ln at_ n gd (ct + 1) id 0 true 1 id true ss 0)] M1) 96 c_97_93 rfl g1 (rfl) (Nat.le_of_ble_eq_true rfl) rfl ?_
  refine z_go 97 _ [.int (jn 4)] _ c_97_96 rfl ?_
  refine z_ifne 104 100 c_97_97 rfl (jn_z (by decide)) (fun h => absurd h (by decide)) (fun _ => ?_)
  refine z_go 105 _ [.int (jn 0)] _ c_97_104 rfl ?_
  refine z_zret (b := false) c_97_105 ?_
  have hw : ∀ k, 104 ≤ k → k ≤ 110 → (jm [(92, mO th ln at_ n gd (ct + 1) id 0 true 1 id true ss 0)] M1).1 k = M1.1 k := fun k a b => if_neg (by omega)
  obtain ⟨E9, al9, y1, y2⟩ := g2
  exact ⟨rfl, rfl, ⟨E9, al9, mKp_fr y1 hw, y2⟩, hf1.tr (fQ_9 (sm_jm rfl))⟩
theorem t_mchR0 {d : Nat} {th ct li lg li2 ss fd : Nat} {dn dn2 : Bool} {ln at_ n : Nat} {gd : Bool} {ids szs : Nat → Nat} {E : Nat → MA} {al : Nat → Nat} {M : jx_M} (hK : mKp M ids szs E al) (hal : ∀ x, al x < 8) {S : Nat → MA} {sb : Nat → Nat} (h92 : M.1 92 = mW (th, ct, li, 0, dn, lg, li2, dn2, ss, fd) ln at_ n gd) (hS : mSt M S sb) (hsb : ∀ x, sb x < 8) {id : Nat} (hct : ct ≤ 12) {go : Nat} (hs : sp_sl ids (jn id) ct 0 = some go) : jZ (d + 2) 97 0 [some (.ref 92), some (.int (jn 2)), some (.int (jn id)), none] [] M (jV (some (.int (jb true))) fun M' => M'.1 92 = mW (th, ct - 1, li, 0, false, 0, id, true, ss, 0) ln at_ n gd ∧ (∃ ids' szs' E' al', mKp M' ids' szs' E' al' ∧ (∀ s, go ≤ s → s < ct - 1 → ids' s = ids (s + 1) ∧ szs' s = szs (s + 1) ∧ rowE E' al' s E al (s + 1)) ∧ (∀ s, s < go → ids' s = ids s ∧ szs' s = szs s ∧ rowE E' al' s E al s) ∧ ∀ x, al' x < 8) ∧ fQ M M') := by
  refine z_go 1 _ [.ref 92] _ c_97_0 rfl ?_
  refine z_getf (v := .int (jn 0)) 4 c_97_1 rfl h92 rfl ?_
  refine z_go 5 [some (.ref 92), some (.int (jn 2)), some (.int (jn id)), some (.int (jn 0))] [] _ c_97_4 rfl ?_
  refine z_go 6 _ [.ref 92] _ c_97_5 rfl ?_
  refine z_go 7 _ [.int (jn 0), .ref 92] _ c_97_6 rfl ?_
  refine z_putf (M' := jm [(92, mO th ln at_ n gd ct li 0 dn lg li2 dn2 ss fd)] M) 10 c_97_7 rfl h92 (rfl) (Nat.le_of_ble_eq_true rfl) rfl ?_
  refine z_go 11 _ [.ref 92] _ c_97_10 rfl ?_
  refine z_go 12 _ [.int (jn 0), .ref 92] _ c_97_11 rfl ?_
  refine z_putf (M' := jm [(92, mO th ln at_ n gd ct li 0 dn lg li2 dn2 ss 0)] M) 15 c_97_12 rfl rfl (rfl) (Nat.le_of_ble_eq_true rfl) (jm_w rfl) ?_
  refine z_go 16 _ [.ref 92] _ c_97_15 rfl ?_
  refine z_go 17 _ [.int (jn 0), .ref 92] _ c_97_16 rfl ?_
  refine z_ifeq 24 20 c_97_17 rfl (jn_z (by decide)) (fun _ => ?_) (fun h => absurd rfl h)
  refine z_go 25 _ [.int (jn 0), .ref 92] _ c_97_24 rfl ?_
  refine z_putf (M' := jm [(92, mO th ln at_ n gd ct li 0 false lg li2 dn2 ss 0)] M) 28 c_97_25 rfl rfl (by decide) (Nat.le_of_ble_eq_true rfl) (jm_w rfl) ?_
  refine z_go 29 _ [.int (jn 0)] _ c_97_28 rfl ?_
  refine z_go 30 _ [.int (jn 1), .int (jn 0)] _ c_97_29 rfl ?_
  refine z_ieq 38 33 c_97_30 rfl (jn_inj (by decide) (by decide)) (fun h => absurd h (by decide)) (fun _ => ?_)
  refine z_go 34 _ [.int (jn 0)] _ c_97_33 rfl ?_
  refine z_go 35 _ [.int (jn 2), .int (jn 0)] _ c_97_34 rfl ?_
  refine z_ine 45 38 c_97_35 rfl (jn_inj (by decide) (by decide)) (fun h => absurd h (by decide)) (fun _ => ?_)
  refine z_go 46 _ [.ref 92] _ c_97_45 rfl ?_
  refine z_go 47 _ [.int (jn 2), .ref 92] _ c_97_46 rfl ?_
  refine z_putf (M' := jm [(92, mO th ln at_ n gd ct li 0 false 2 li2 dn2 ss 0)] M) 50 c_97_47 rfl rfl (rfl) (Nat.le_of_ble_eq_true rfl) (jm_w rfl) ?_
  refine z_go 51 _ [.ref 92] _ c_97_50 rfl ?_
  refine z_go 52 _ [.int (jn id), .ref 92] _ c_97_51 rfl ?_
  refine z_putf (M' := jm [(92, mO th ln at_ n gd ct li 0 false 2 id dn2 ss 0)] M) 55 c_97_52 rfl rfl (rfl) (Nat.le_of_ble_eq_true rfl) (jm_w rfl) ?_
  refine z_go 56 _ [.ref 92] _ c_97_55 rfl ?_
  refine z_go 57 _ [.int (jn 0), .ref 92] _ c_97_56 rfl ?_
  refine z_go 58 _ [.int (jn 3), .int (jn 0), .ref 92] _ c_97_57 rfl ?_
  refine z_ieq 65 61 c_97_58 rfl (jn_inj (by decide) (by decide)) (fun h => absurd h (by decide)) (fun _ => ?_)
  refine z_go 62 _ [.int (jn 1), .ref 92] _ c_97_61 rfl ?_
  refine z_go 66 _ [.int (jn 1), .ref 92] _ c_97_62 rfl ?_
  refine z_putf (M' := jm [(92, mO th ln at_ n gd ct li 0 false 2 id true ss 0)] M) 69 c_97_66 rfl rfl (by decide) (Nat.le_of_ble_eq_true rfl) (jm_w rfl) ?_
  refine z_go 70 _ [.ref 92] _ c_97_69 rfl ?_
  refine z_getf (v := .int (jb true)) 73 c_97_70 rfl rfl rfl ?_
  refine z_ifeq 80 76 c_97_73 rfl jb_t (fun h => absurd h (by decide)) (fun _ => ?_)
  refine z_go 77 _ [.ref 92] _ c_97_76 rfl ?_
  have hK1 : mKp (jm [(92, mO th ln at_ n gd ct li 0 false 2 id true ss 0)] M) ids szs E al := mKp_fr hK fun k a b => if_neg (by omega)
  refine z_callvV 80 6 98 0 92 c_97_77 rfl ⟨Nat.le_of_ble_eq_true rfl, Nat.le_of_ble_eq_true rfl⟩ rfl rfl [.ref 92] rfl rfl [some (.ref 92), none, none, none] rfl rfl (t_mpfR (d := d) (th := th) (ct := ct) (li := li) (fl := 0) (dn := false) (li2 := id) (dn2 := true) (ss := ss) (fd := 0) hK1 hal (show (jm [(92, mO th ln at_ n gd ct li 0 false 2 id true ss 0)] M).1 92 = mW (th, ct, li, 0, false, 2, id, true, ss, 0) ln at_ n gd from rfl) hct hs) ?_
  intro M1 ⟨g1, g2, g3⟩
  have hf1 : fQ M M1 := (fQ_9 (sm_jm rfl)).tr g3
  show jZ _ _ _ _ [] _ _
  refine z_go 81 _ [.ref 92] _ c_97_80 rfl ?_
  refine z_go 82 _ [.int (jn 0), .ref 92] _ c_97_81 rfl ?_
  refine z_ifne 89 85 c_97_82 rfl (jn_z (by decide)) (fun _ => ?_) (fun h => absurd rfl h)
  refine z_go 86 _ [.int (jn 0), .ref 92] _ c_97_85 rfl ?_
  refine z_go 93 _ [.int (jn 0), .ref 92] _ c_97_86 rfl ?_
  refine z_putf (M' := jm [(92, mO th ln at_ n gd (ct - 1) li 0 false 0 id true ss 0)] M1) 96 c_97_93 rfl g1 (rfl) (Nat.le_of_ble_eq_true rfl) rfl ?_
  refine z_go 97 _ [.int (jn 0)] _ c_97_96 rfl ?_
  refine z_ifne 104 100 c_97_97 rfl (jn_z (by decide)) (fun _ => ?_) (fun h => absurd rfl h)
  refine z_go 101 _ [.int (jn 1)] _ c_97_100 rfl ?_
  refine z_go 105 _ [.int (jn 1)] _ c_97_101 rfl ?_
  refine z_zret (b := true) c_97_105 ?_
  have hw : ∀ k, 104 ≤ k → k ≤ 110 → (jm [(92, mO th ln at_ n gd (ct - 1) li 0 false 0 id true ss 0)] M1).1 k = M1.1 k := fun k a b => if_neg (by omega)
  obtain ⟨i9, s9, E9, al9, y1, y2⟩ := g2
  exact ⟨rfl, rfl, ⟨i9, s9, E9, al9, mKp_fr y1 hw, y2⟩, hf1.tr (fQ_9 (sm_jm rfl))⟩
theorem t_mchR1 {d : Nat} {th ct li lg li2 ss fd : Nat} {dn dn2 : Bool} {ln at_ n : Nat} {gd : Bool} {ids szs : Nat → Nat} {E : Nat → MA} {al : Nat → Nat} {M : jx_M} (hK : mKp M ids szs E al) (hal : ∀ x, al x < 8) {S : Nat → MA} {sb : Nat → Nat} (h92 : M.1 92 = mW (th, ct, li, 1, dn, lg, li2, dn2, ss, fd) ln at_ n gd) (hS : mSt M S sb) (hsb : ∀ x, sb x < 8) {id : Nat} (hct : ct ≤ 12) {go : Nat} (hs : sp_sl ids (jn id) ct 0 = some go) : jZ (d + 2) 97 0 [some (.ref 92), some (.int (jn 2)), some (.int (jn id)), none] [] M (jV (some (.int (jb false))) fun M' => M'.1 92 = mW (th, ct, li, 0, true, 0, li2, dn2, ss, 0) ln at_ n gd ∧ mKp M' ids szs E al ∧ fQ M M') := by
  refine z_go 1 _ [.ref 92] _ c_97_0 rfl ?_
  refine z_getf (v := .int (jn 1)) 4 c_97_1 rfl h92 rfl ?_
  refine z_go 5 [some (.ref 92), some (.int (jn 2)), some (.int (jn id)), some (.int (jn 1))] [] _ c_97_4 rfl ?_
  refine z_go 6 _ [.ref 92] _ c_97_5 rfl ?_
  refine z_go 7 _ [.int (jn 0), .ref 92] _ c_97_6 rfl ?_
  refine z_putf (M' := jm [(92, mO th ln at_ n gd ct li 0 dn lg li2 dn2 ss fd)] M) 10 c_97_7 rfl h92 (rfl) (Nat.le_of_ble_eq_true rfl) rfl ?_
  refine z_go 11 _ [.ref 92] _ c_97_10 rfl ?_
  refine z_go 12 _ [.int (jn 0), .ref 92] _ c_97_11 rfl ?_
  refine z_putf (M' := jm [(92, mO th ln at_ n gd ct li 0 dn lg li2 dn2 ss 0)] M) 15 c_97_12 rfl rfl (rfl) (Nat.le_of_ble_eq_true rfl) (jm_w rfl) ?_
  refine z_go 16 _ [.ref 92] _ c_97_15 rfl ?_
  refine z_go 17 _ [.int (jn 1), .ref 92] _ c_97_16 rfl ?_
  refine z_ifeq 24 20 c_97_17 rfl (jn_z (by decide)) (fun h => absurd h (by decide)) (fun _ => ?_)
  refine z_go 21 _ [.int (jn 1), .ref 92] _ c_97_20 rfl ?_
  refine z_go 25 _ [.int (jn 1), .ref 92] _ c_97_21 rfl ?_
  refine z_putf (M' := jm [(92, mO th ln at_ n gd ct li 0 true lg li2 dn2 ss 0)] M) 28 c_97_25 rfl rfl (by decide) (Nat.le_of_ble_eq_true rfl) (jm_w rfl) ?_
  refine z_go 29 _ [.int (jn 1)] _ c_97_28 rfl ?_
  refine z_go 30 _ [.int (jn 1), .int (jn 1)] _ c_97_29 rfl ?_
  refine z_ieq 38 33 c_97_30 rfl (jn_inj (by decide) (by decide)) (fun _ => ?_) (fun h => absurd rfl h)
  refine z_go 39 _ [.ref 92] _ c_97_38 rfl ?_
  refine z_go 40 _ [.int (jn 0), .ref 92] _ c_97_39 rfl ?_
  refine z_putf (M' := jm [(92, mO th ln at_ n gd ct li 0 true 0 li2 dn2 ss 0)] M) 43 c_97_40 rfl rfl (rfl) (Nat.le_of_ble_eq_true rfl) (jm_w rfl) ?_
  refine z_go 44 _ [.int (jn 0)] _ c_97_43 rfl ?_
  refine z_zret (b := false) c_97_44 ?_
  exact ⟨rfl, rfl, mKp_fr hK fun k a b => if_neg (by omega), fQ_9 (sm_jm rfl)⟩
theorem t_mchR2 {d : Nat} {th ct li lg li2 ss fd : Nat} {dn dn2 : Bool} {ln at_ n : Nat} {gd : Bool} {ids szs : Nat → Nat} {E : Nat → MA} {al : Nat → Nat} {M : jx_M} (hK : mKp M ids szs E al) (hal : ∀ x, al x < 8) {S : Nat → MA} {sb : Nat → Nat} (h92 : M.1 92 = mW (th, ct, li, 2, dn, lg, li2, dn2, ss, fd) ln at_ n gd) (hS : mSt M S sb) (hsb : ∀ x, sb x < 8) {id : Nat} (hct : ct ≤ 12) {go : Nat} (hs : sp_sl ids (jn id) ct 0 = some go) : jZ (d + 2) 97 0 [some (.ref 92), some (.int (jn 2)), some (.int (jn id)), none] [] M (jV (some (.int (jb false))) fun M' => M'.1 92 = mW (th, ct, li, 0, true, 0, li2, dn2, ss, 0) ln at_ n gd ∧ mKp M' ids szs E al ∧ fQ M M') := by
  refine z_go 1 _ [.ref 92] _ c_97_0 rfl ?_
  refine z_getf (v := .int (jn 2)) 4 c_97_1 rfl h92 rfl ?_
  refine z_go 5 [some (.ref 92), some (.int (jn 2)), some (.int (jn id)), some (.int (jn 2))] [] _ c_97_4 rfl ?_
  refine z_go 6 _ [.ref 92] _ c_97_5 rfl ?_
  refine z_go 7 _ [.int (jn 0), .ref 92] _ c_97_6 rfl ?_
  refine z_putf (M' := jm [(92, mO th ln at_ n gd ct li 0 dn lg li2 dn2 ss fd)] M) 10 c_97_7 rfl h92 (rfl) (Nat.le_of_ble_eq_true rfl) rfl ?_
  refine z_go 11 _ [.ref 92] _ c_97_10 rfl ?_
  refine z_go 12 _ [.int (jn 0), .ref 92] _ c_97_11 rfl ?_
  refine z_putf (M' := jm [(92, mO th ln at_ n gd ct li 0 dn lg li2 dn2 ss 0)] M) 15 c_97_12 rfl rfl (rfl) (Nat.le_of_ble_eq_true rfl) (jm_w rfl) ?_
  refine z_go 16 _ [.ref 92] _ c_97_15 rfl ?_
  refine z_go 17 _ [.int (jn 2), .ref 92] _ c_97_16 rfl ?_
  refine z_ifeq 24 20 c_97_17 rfl (jn_z (by decide)) (fun h => absurd h (by decide)) (fun _ => ?_)
  refine z_go 21 _ [.int (jn 1), .ref 92] _ c_97_20 rfl ?_
  refine z_go 25 _ [.int (jn 1), .ref 92] _ c_97_21 rfl ?_
  refine z_putf (M' := jm [(92, mO th ln at_ n gd ct li 0 true lg li2 dn2 ss 0)] M) 28 c_97_25 rfl rfl (by decide) (Nat.le_of_ble_eq_true rfl) (jm_w rfl) ?_
  refine z_go 29 _ [.int (jn 2)] _ c_97_28 rfl ?_
  refine z_go 30 _ [.int (jn 1), .int (jn 2)] _ c_97_29 rfl ?_
  refine z_ieq 38 33 c_97_30 rfl (jn_inj (by decide) (by decide)) (fun h => absurd h (by decide)) (fun _ => ?_)
  refine z_go 34 _ [.int (jn 2)] _ c_97_33 rfl ?_
  refine z_go 35 _ [.int (jn 2), .int (jn 2)] _ c_97_34 rfl ?_
  refine z_ine 45 38 c_97_35 rfl (jn_inj (by decide) (by decide)) (fun _ => ?_) (fun h => absurd rfl h)
  refine z_go 39 _ [.ref 92] _ c_97_38 rfl ?_
  refine z_go 40 _ [.int (jn 0), .ref 92] _ c_97_39 rfl ?_
  refine z_putf (M' := jm [(92, mO th ln at_ n gd ct li 0 true 0 li2 dn2 ss 0)] M) 43 c_97_40 rfl rfl (rfl) (Nat.le_of_ble_eq_true rfl) (jm_w rfl) ?_
  refine z_go 44 _ [.int (jn 0)] _ c_97_43 rfl ?_
  refine z_zret (b := false) c_97_44 ?_
  exact ⟨rfl, rfl, mKp_fr hK fun k a b => if_neg (by omega), fQ_9 (sm_jm rfl)⟩
theorem t_mchR3 {d : Nat} {th ct li lg li2 ss fd : Nat} {dn dn2 : Bool} {ln at_ n : Nat} {gd : Bool} {ids szs : Nat → Nat} {E : Nat → MA} {al : Nat → Nat} {M : jx_M} (hK : mKp M ids szs E al) (hal : ∀ x, al x < 8) {S : Nat → MA} {sb : Nat → Nat} (h92 : M.1 92 = mW (th, ct, li, 3, dn, lg, li2, dn2, ss, fd) ln at_ n gd) (hS : mSt M S sb) (hsb : ∀ x, sb x < 8) {id : Nat} (hct : ct ≤ 12) {go : Nat} (hs : sp_sl ids (jn id) ct 0 = some go) : jZ (d + 2) 97 0 [some (.ref 92), some (.int (jn 2)), some (.int (jn id)), none] [] M (jV (some (.int (jb false))) fun M' => M'.1 92 = mW (th, ct, li, 0, true, 2, id, false, ss, 0) ln at_ n gd ∧ mKp M' ids szs E al ∧ fQ M M') := by
  refine z_go 1 _ [.ref 92] _ c_97_0 rfl ?_
  refine z_getf (v := .int (jn 3)) 4 c_97_1 rfl h92 rfl ?_
  refine z_go 5 [some (.ref 92), some (.int (jn 2)), some (.int (jn id)), some (.int (jn 3))] [] _ c_97_4 rfl ?_
  refine z_go 6 _ [.ref 92] _ c_97_5 rfl ?_
  refine z_go 7 _ [.int (jn 0), .ref 92] _ c_97_6 rfl ?_
  refine z_putf (M' := jm [(92, mO th ln at_ n gd ct li 0 dn lg li2 dn2 ss fd)] M) 10 c_97_7 rfl h92 (rfl) (Nat.le_of_ble_eq_true rfl) rfl ?_
  refine z_go 11 _ [.ref 92] _ c_97_10 rfl ?_
  refine z_go 12 _ [.int (jn 0), .ref 92] _ c_97_11 rfl ?_
  refine z_putf (M' := jm [(92, mO th ln at_ n gd ct li 0 dn lg li2 dn2 ss 0)] M) 15 c_97_12 rfl rfl (rfl) (Nat.le_of_ble_eq_true rfl) (jm_w rfl) ?_
  refine z_go 16 _ [.ref 92] _ c_97_15 rfl ?_
  refine z_go 17 _ [.int (jn 3), .ref 92] _ c_97_16 rfl ?_
  refine z_ifeq 24 20 c_97_17 rfl (jn_z (by decide)) (fun h => absurd h (by decide)) (fun _ => ?_)
  refine z_go 21 _ [.int (jn 1), .ref 92] _ c_97_20 rfl ?_
  refine z_go 25 _ [.int (jn 1), .ref 92] _ c_97_21 rfl ?_
  refine z_putf (M' := jm [(92, mO th ln at_ n gd ct li 0 true lg li2 dn2 ss 0)] M) 28 c_97_25 rfl rfl (by decide) (Nat.le_of_ble_eq_true rfl) (jm_w rfl) ?_
  refine z_go 29 _ [.int (jn 3)] _ c_97_28 rfl ?_
  refine z_go 30 _ [.int (jn 1), .int (jn 3)] _ c_97_29 rfl ?_
  refine z_ieq 38 33 c_97_30 rfl (jn_inj (by decide) (by decide)) (fun h => absurd h (by decide)) (fun _ => ?_)
  refine z_go 34 _ [.int (jn 3)] _ c_97_33 rfl ?_
  refine z_go 35 _ [.int (jn 2), .int (jn 3)] _ c_97_34 rfl ?_
  refine z_ine 45 38 c_97_35 rfl (jn_inj (by decide) (by decide)) (fun h => absurd h (by decide)) (fun _ => ?_)
  refine z_go 46 _ [.ref 92] _ c_97_45 rfl ?_
  refine z_go 47 _ [.int (jn 2), .ref 92] _ c_97_46 rfl ?_
  refine z_putf (M' := jm [(92, mO th ln at_ n gd ct li 0 true 2 li2 dn2 ss 0)] M) 50 c_97_47 rfl rfl (rfl) (Nat.le_of_ble_eq_true rfl) (jm_w rfl) ?_
  refine z_go 51 _ [.ref 92] _ c_97_50 rfl ?_
  refine z_go 52 _ [.int (jn id), .ref 92] _ c_97_51 rfl ?_
  refine z_putf (M' := jm [(92, mO th ln at_ n gd ct li 0 true 2 id dn2 ss 0)] M) 55 c_97_52 rfl rfl (rfl) (Nat.le_of_ble_eq_true rfl) (jm_w rfl) ?_
  refine z_go 56 _ [.ref 92] _ c_97_55 rfl ?_
  refine z_go 57 _ [.int (jn 3), .ref 92] _ c_97_56 rfl ?_
  refine z_go 58 _ [.int (jn 3), .int (jn 3), .ref 92] _ c_97_57 rfl ?_
  refine z_ieq 65 61 c_97_58 rfl (jn_inj (by decide) (by decide)) (fun _ => ?_) (fun h => absurd rfl h)
  refine z_go 66 _ [.int (jn 0), .ref 92] _ c_97_65 rfl ?_
  refine z_putf (M' := jm [(92, mO th ln at_ n gd ct li 0 true 2 id false ss 0)] M) 69 c_97_66 rfl rfl (by decide) (Nat.le_of_ble_eq_true rfl) (jm_w rfl) ?_
  refine z_go 70 _ [.ref 92] _ c_97_69 rfl ?_
  refine z_getf (v := .int (jb false)) 73 c_97_70 rfl rfl rfl ?_
  refine z_ifeq 80 76 c_97_73 rfl jb_t (fun _ => ?_) (fun h => absurd rfl h)
  refine z_go 81 _ [.ref 92] _ c_97_80 rfl ?_
  refine z_go 82 _ [.int (jn 3), .ref 92] _ c_97_81 rfl ?_
  refine z_ifne 89 85 c_97_82 rfl (jn_z (by decide)) (fun h => absurd h (by decide)) (fun _ => ?_)
  refine z_go 90 _ [.ref 92, .ref 92] _ c_97_89 rfl ?_
  refine z_getf (v := .int (jn 2)) 93 c_97_90 rfl rfl rfl ?_
  refine z_putf (M' := jm [(92, mO th ln at_ n gd ct li 0 true 2 id false ss 0)] M) 96 c_97_93 rfl rfl (rfl) (Nat.le_of_ble_eq_true rfl) (jm_w rfl) ?_
  refine z_go 97 _ [.int (jn 3)] _ c_97_96 rfl ?_
  refine z_ifne 104 100 c_97_97 rfl (jn_z (by decide)) (fun h => absurd h (by decide)) (fun _ => ?_)
  refine z_go 105 _ [.int (jn 0)] _ c_97_104 rfl ?_
  refine z_zret (b := false) c_97_105 ?_
  exact ⟨rfl, rfl, mKp_fr hK fun k a b => if_neg (by omega), fQ_9 (sm_jm rfl)⟩
theorem t_mchR4 {d : Nat} {th ct li lg li2 ss fd : Nat} {dn dn2 : Bool} {ln at_ n : Nat} {gd : Bool} {ids szs : Nat → Nat} {E : Nat → MA} {al : Nat → Nat} {M : jx_M} (hK : mKp M ids szs E al) (hal : ∀ x, al x < 8) {S : Nat → MA} {sb : Nat → Nat} (h92 : M.1 92 = mW (th, ct, li, 4, dn, lg, li2, dn2, ss, fd) ln at_ n gd) (hS : mSt M S sb) (hsb : ∀ x, sb x < 8) {id : Nat} (hct : ct ≤ 12) {go : Nat} (hs : sp_sl ids (jn id) ct 0 = some go) : jZ (d + 2) 97 0 [some (.ref 92), some (.int (jn 2)), some (.int (jn id)), none] [] M (jV (some (.int (jb false))) fun M' => M'.1 92 = mW (th, ct - 1, li, 0, true, 2, id, true, ss, 0) ln at_ n gd ∧ (∃ ids' szs' E' al', mKp M' ids' szs' E' al' ∧ (∀ s, go ≤ s → s < ct - 1 → ids' s = ids (s + 1) ∧ szs' s = szs (s + 1) ∧ rowE E' al' s E al (s + 1)) ∧ (∀ s, s < go → ids' s = ids s ∧ szs' s = szs s ∧ rowE E' al' s E al s) ∧ ∀ x, al' x < 8) ∧ fQ M M') := by
  refine z_go 1 _ [.ref 92] _ c_97_0 rfl ?_
  refine z_getf (v := .int (jn 4)) 4 c_97_1 rfl h92 rfl ?_
  refine z_go 5 [some (.ref 92), some (.int (jn 2)), some (.int (jn id)), some (.int (jn 4))] [] _ c_97_4 rfl ?_
  refine z_go 6 _ [.ref 92] _ c_97_5 rfl ?_
  refine z_go 7 _ [.int (jn 0), .ref 92] _ c_97_6 rfl ?_
  refine z_putf (M' := jm [(92, mO th ln at_ n gd ct li 0 dn lg li2 dn2 ss fd)] M) 10 c_97_7 rfl h92 (rfl) (Nat.le_of_ble_eq_true rfl) rfl ?_
  refine z_go 11 _ [.ref 92] _ c_97_10 rfl ?_
  refine z_go 12 _ [.int (jn 0), .ref 92] _ c_97_11 rfl ?_
  refine z_putf (M' := jm [(92, mO th ln at_ n gd ct li 0 dn lg li2 dn2 ss 0)] M) 15 c_97_12 rfl rfl (rfl) (Nat.le_of_ble_eq_true rfl) (jm_w rfl) ?_
  refine z_go 16 _ [.ref 92] _ c_97_15 rfl ?_
  refine z_go 17 _ [.int (jn 4), .ref 92] _ c_97_16 rfl ?_
  refine z_ifeq 24 20 c_97_17 rfl (jn_z (by decide)) (fun h => absurd h (by decide)) (fun _ => ?_)
  refine z_go 21 _ [.int (jn 1), .ref 92] _ c_97_20 rfl ?_
  refine z_go 25 _ [.int (jn 1), .ref 92] _ c_97_21 rfl ?_
  refine z_putf (M' := jm [(92, mO th ln at_ n gd ct li 0 true lg li2 dn2 ss 0)] M) 28 c_97_25 rfl rfl (by decide) (Nat.le_of_ble_eq_true rfl) (jm_w rfl) ?_
  refine z_go 29 _ [.int (jn 4)] _ c_97_28 rfl ?_
  refine z_go 30 _ [.int (jn 1), .int (jn 4)] _ c_97_29 rfl ?_
  refine z_ieq 38 33 c_97_30 rfl (jn_inj (by decide) (by decide)) (fun h => absurd h (by decide)) (fun _ => ?_)
  refine z_go 34 _ [.int (jn 4)] _ c_97_33 rfl ?_
  refine z_go 35 _ [.int (jn 2), .int (jn 4)] _ c_97_34 rfl ?_
  refine z_ine 45 38 c_97_35 rfl (jn_inj (by decide) (by decide)) (fun h => absurd h (by decide)) (fun _ => ?_)
  refine z_go 46 _ [.ref 92] _ c_97_45 rfl ?_
  refine z_go 47 _ [.int (jn 2), .ref 92] _ c_97_46 rfl ?_
  refine z_putf (M' := jm [(92, mO th ln at_ n gd ct li 0 true 2 li2 dn2 ss 0)] M) 50 c_97_47 rfl rfl (rfl) (Nat.le_of_ble_eq_true rfl) (jm_w rfl) ?_
  refine z_go 51 _ [.ref 92] _ c_97_50 rfl ?_
  refine z_go 52 _ [.int (jn id), .ref 92] _ c_97_51 rfl ?_
  refine z_putf (M' := jm [(92, mO th ln at_ n gd ct li 0 true 2 id dn2 ss 0)] M) 55 c_97_52 rfl rfl (rfl) (Nat.le_of_ble_eq_true rfl) (jm_w rfl) ?_
  refine z_go 56 _ [.ref 92] _ c_97_55 rfl ?_
  refine z_go 57 _ [.int (jn 4), .ref 92] _ c_97_56 rfl ?_
  refine z_go 58 _ [.int (jn 3), .int (jn 4), .ref 92] _ c_97_57 rfl ?_
  refine z_ieq 65 61 c_97_58 rfl (jn_inj (by decide) (by decide)) (fun h => absurd h (by decide)) (fun _ => ?_)
  refine z_go 62 _ [.int (jn 1), .ref 92] _ c_97_61 rfl ?_
  refine z_go 66 _ [.int (jn 1), .ref 92] _ c_97_62 rfl ?_
  refine z_putf (M' := jm [(92, mO th ln at_ n gd ct li 0 true 2 id true ss 0)] M) 69 c_97_66 rfl rfl (by decide) (Nat.le_of_ble_eq_true rfl) (jm_w rfl) ?_
  refine z_go 70 _ [.ref 92] _ c_97_69 rfl ?_
  refine z_getf (v := .int (jb true)) 73 c_97_70 rfl rfl rfl ?_
  refine z_ifeq 80 76 c_97_73 rfl jb_t (fun h => absurd h (by decide)) (fun _ => ?_)
  refine z_go 77 _ [.ref 92] _ c_97_76 rfl ?_
  have hK1 : mKp (jm [(92, mO th ln at_ n gd ct li 0 true 2 id true ss 0)] M) ids szs E al := mKp_fr hK fun k a b => if_neg (by omega)
  refine z_callvV 80 6 98 0 92 c_97_77 rfl ⟨Nat.le_of_ble_eq_true rfl, Nat.le_of_ble_eq_true rfl⟩ rfl rfl [.ref 92] rfl rfl [some (.ref 92), none, none, none] rfl rfl (t_mpfR (d := d) (th := th) (ct := ct) (li := li) (fl := 0) (dn := true) (li2 := id) (dn2 := true) (ss := ss) (fd := 0) hK1 hal (show (jm [(92, mO th ln at_ n gd ct li 0 true 2 id true ss 0)] M).1 92 = mW (th, ct, li, 0, true, 2, id, true, ss, 0) ln at_ n gd from rfl) hct hs) ?_
  intro M1 ⟨g1, g2, g3⟩
  have hf1 : fQ M M1 := (fQ_9 (sm_jm rfl)).tr g3
  show jZ _ _ _ _ [] _ _
  refine z_go 81 _ [.ref 92] _ c_97_80 rfl ?_
  refine z_go 82 _ [.int (jn 4), .ref 92] _ c_97_81 rfl ?_
  refine z_ifne 89 85 c_97_82 rfl (jn_z (by decide)) (fun h => absurd h (by decide)) (fun _ => ?_)
  refine z_go 90 _ [.ref 92, .ref 92] _ c_97_89 rfl ?_
  refine z_getf (v := .int (jn 2)) 93 c_97_90 rfl g1 rfl ?_
  refine z_putf (M' := jm [(92, mO th ln at_ n gd (ct - 1) li 0 true 2 id true ss 0)] M1) 96 c_97_93 rfl g1 (rfl) (Nat.le_of_ble_eq_true rfl) rfl ?_
  refine z_go 97 _ [.int (jn 4)] _ c_97_96 rfl ?_
  refine z_ifne 104 100 c_97_97 rfl (jn_z (by decide)) (fun h => absurd h (by decide)) (fun _ => ?_)
  refine z_go 105 _ [.int (jn 0)] _ c_97_104 rfl ?_
  refine z_zret (b := false) c_97_105 ?_
  have hw : ∀ k, 104 ≤ k → k ≤ 110 → (jm [(92, mO th ln at_ n gd (ct - 1) li 0 true 2 id true ss 0)] M1).1 k = M1.1 k := fun k a b => if_neg (by omega)
  obtain ⟨i9, s9, E9, al9, y1, y2⟩ := g2
  exact ⟨rfl, rfl, ⟨i9, s9, E9, al9, mKp_fr y1 hw, y2⟩, hf1.tr (fQ_9 (sm_jm rfl))⟩
