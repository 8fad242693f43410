/-! THE REFERENCE: bonds of a text; printed by wip/whole/p66.py -/
theorem c_84_0 : jx_cd 84 0 = some (o_ald 0 1) := rfl
theorem c_84_1 : jx_cd 84 1 = some (o_getf 6 6) := rfl
theorem c_84_4 : jx_cd 84 4 = some (o_ild 1 1) := rfl
theorem c_84_5 : jx_cd 84 5 = some (o_xald 2) := rfl
theorem c_84_6 : jx_cd 84 6 = some (o_ifeq 22) := rfl
theorem c_84_9 : jx_cd 84 9 = some (o_ald 0 1) := rfl
theorem c_84_10 : jx_cd 84 10 = some (o_getf 6 6) := rfl
theorem c_84_13 : jx_cd 84 13 = some (o_ild 2 1) := rfl
theorem c_84_14 : jx_cd 84 14 = some (o_xald 2) := rfl
theorem c_84_15 : jx_cd 84 15 = some (o_ifeq 22) := rfl
theorem c_84_18 : jx_cd 84 18 = some (o_push (.int 1) 1) := rfl
theorem c_84_19 : jx_cd 84 19 = some (o_goto 23) := rfl
theorem c_84_22 : jx_cd 84 22 = some (o_push (.int 0) 1) := rfl
theorem c_84_23 : jx_cd 84 23 = some (o_ist 4 2) := rfl
theorem c_84_25 : jx_cd 84 25 = some (o_ild 3 1) := rfl
theorem c_84_26 : jx_cd 84 26 = some (o_ifeq 33) := rfl
theorem c_84_29 : jx_cd 84 29 = some (o_ild 3 1) := rfl
theorem c_84_30 : jx_cd 84 30 = some (o_goto 43) := rfl
theorem c_84_33 : jx_cd 84 33 = some (o_ild 4 2) := rfl
theorem c_84_35 : jx_cd 84 35 = some (o_ifeq 42) := rfl
theorem c_84_38 : jx_cd 84 38 = some (o_push (.int 4) 1) := rfl
theorem c_84_39 : jx_cd 84 39 = some (o_goto 43) := rfl
theorem c_84_42 : jx_cd 84 42 = some (o_push (.int 1) 1) := rfl
theorem c_84_43 : jx_cd 84 43 = some (o_ist 5 2) := rfl
theorem c_84_45 : jx_cd 84 45 = some (o_ald 0 1) := rfl
theorem c_84_46 : jx_cd 84 46 = some (o_getf 6 10) := rfl
theorem c_84_49 : jx_cd 84 49 = some (o_ild 1 1) := rfl
theorem c_84_50 : jx_cd 84 50 = some (o_iald) := rfl
theorem c_84_51 : jx_cd 84 51 = some (o_ifne 67) := rfl
theorem c_84_54 : jx_cd 84 54 = some (o_ald 0 1) := rfl
theorem c_84_55 : jx_cd 84 55 = some (o_getf 6 10) := rfl
theorem c_84_58 : jx_cd 84 58 = some (o_ild 2 1) := rfl
theorem c_84_59 : jx_cd 84 59 = some (o_iald) := rfl
theorem c_84_60 : jx_cd 84 60 = some (o_ifne 67) := rfl
theorem c_84_63 : jx_cd 84 63 = some (o_push (.int 1) 1) := rfl
theorem c_84_64 : jx_cd 84 64 = some (o_goto 68) := rfl
theorem c_84_67 : jx_cd 84 67 = some (o_push (.int 0) 1) := rfl
theorem c_84_68 : jx_cd 84 68 = some (o_ist 6 2) := rfl
theorem c_84_70 : jx_cd 84 70 = some (o_ild 6 2) := rfl
theorem c_84_72 : jx_cd 84 72 = some (o_ifeq 109) := rfl
theorem c_84_75 : jx_cd 84 75 = some (o_ald 0 1) := rfl
theorem c_84_76 : jx_cd 84 76 = some (o_getf 6 6) := rfl
theorem c_84_79 : jx_cd 84 79 = some (o_ild 1 1) := rfl
theorem c_84_80 : jx_cd 84 80 = some (o_xald 2) := rfl
theorem c_84_81 : jx_cd 84 81 = some (o_ifne 93) := rfl
theorem c_84_84 : jx_cd 84 84 = some (o_ald 0 1) := rfl
theorem c_84_85 : jx_cd 84 85 = some (o_getf 6 6) := rfl
theorem c_84_88 : jx_cd 84 88 = some (o_ild 2 1) := rfl
theorem c_84_89 : jx_cd 84 89 = some (o_xald 2) := rfl
theorem c_84_90 : jx_cd 84 90 = some (o_ifeq 109) := rfl
theorem c_84_93 : jx_cd 84 93 = some (o_ild 5 2) := rfl
theorem c_84_95 : jx_cd 84 95 = some (o_push (.int 2) 1) := rfl
theorem c_84_96 : jx_cd 84 96 = some (o_ieq 105) := rfl
theorem c_84_99 : jx_cd 84 99 = some (o_ild 5 2) := rfl
theorem c_84_101 : jx_cd 84 101 = some (o_push (.int 3) 1) := rfl
theorem c_84_102 : jx_cd 84 102 = some (o_ine 109) := rfl
theorem c_84_105 : jx_cd 84 105 = some (o_push (.int 1) 1) := rfl
theorem c_84_106 : jx_cd 84 106 = some (o_goto 110) := rfl
theorem c_84_109 : jx_cd 84 109 = some (o_push (.int 0) 1) := rfl
theorem c_84_110 : jx_cd 84 110 = some (o_ist 7 2) := rfl
theorem c_84_112 : jx_cd 84 112 = some (o_ald 0 1) := rfl
theorem c_84_113 : jx_cd 84 113 = some (o_ald 0 1) := rfl
theorem c_84_114 : jx_cd 84 114 = some (o_getf 6 15) := rfl
theorem c_84_117 : jx_cd 84 117 = some (o_ifeq 148) := rfl
theorem c_84_120 : jx_cd 84 120 = some (o_ild 1 1) := rfl
theorem c_84_121 : jx_cd 84 121 = some (o_ild 2 1) := rfl
theorem c_84_122 : jx_cd 84 122 = some (o_ieq 148) := rfl
theorem c_84_125 : jx_cd 84 125 = some (o_ald 0 1) := rfl
theorem c_84_126 : jx_cd 84 126 = some (o_getf 6 11) := rfl
theorem c_84_129 : jx_cd 84 129 = some (o_push (.int 40) 2) := rfl
theorem c_84_131 : jx_cd 84 131 = some (o_ild 1 1) := rfl
theorem c_84_132 : jx_cd 84 132 = some (o_bin fun x y => x * y) := rfl
theorem c_84_133 : jx_cd 84 133 = some (o_ild 2 1) := rfl
theorem c_84_134 : jx_cd 84 134 = some (o_bin fun x y => x + y) := rfl
theorem c_84_135 : jx_cd 84 135 = some (o_iald) := rfl
theorem c_84_136 : jx_cd 84 136 = some (o_ifne 148) := rfl
theorem c_84_139 : jx_cd 84 139 = some (o_ild 7 2) := rfl
theorem c_84_141 : jx_cd 84 141 = some (o_ifne 148) := rfl
theorem c_84_144 : jx_cd 84 144 = some (o_push (.int 1) 1) := rfl
theorem c_84_145 : jx_cd 84 145 = some (o_goto 149) := rfl
theorem c_84_148 : jx_cd 84 148 = some (o_push (.int 0) 1) := rfl
theorem c_84_149 : jx_cd 84 149 = some (o_putf 6 15 jx_okZ) := rfl
theorem c_84_152 : jx_cd 84 152 = some (o_ald 0 1) := rfl
theorem c_84_153 : jx_cd 84 153 = some (o_getf 6 11) := rfl
theorem c_84_156 : jx_cd 84 156 = some (o_push (.int 40) 2) := rfl
theorem c_84_158 : jx_cd 84 158 = some (o_ild 1 1) := rfl
theorem c_84_159 : jx_cd 84 159 = some (o_bin fun x y => x * y) := rfl
theorem c_84_160 : jx_cd 84 160 = some (o_ild 2 1) := rfl
theorem c_84_161 : jx_cd 84 161 = some (o_bin fun x y => x + y) := rfl
theorem c_84_162 : jx_cd 84 162 = some (o_ild 5 2) := rfl
theorem c_84_164 : jx_cd 84 164 = some (o_iast) := rfl
theorem c_84_165 : jx_cd 84 165 = some (o_ald 0 1) := rfl
theorem c_84_166 : jx_cd 84 166 = some (o_getf 6 11) := rfl
theorem c_84_169 : jx_cd 84 169 = some (o_push (.int 40) 2) := rfl
theorem c_84_171 : jx_cd 84 171 = some (o_ild 2 1) := rfl
theorem c_84_172 : jx_cd 84 172 = some (o_bin fun x y => x * y) := rfl
theorem c_84_173 : jx_cd 84 173 = some (o_ild 1 1) := rfl
theorem c_84_174 : jx_cd 84 174 = some (o_bin fun x y => x + y) := rfl
theorem c_84_175 : jx_cd 84 175 = some (o_ild 5 2) := rfl
theorem c_84_177 : jx_cd 84 177 = some (o_iast) := rfl
theorem c_84_178 : jx_cd 84 178 = some (o_ret) := rfl
theorem c_85_0 : jx_cd 85 0 = some (o_push (.int 1) 1) := rfl
theorem c_85_1 : jx_cd 85 1 = some (o_ist 3 1) := rfl
theorem c_85_2 : jx_cd 85 2 = some (o_ild 3 1) := rfl
theorem c_85_3 : jx_cd 85 3 = some (o_ifeq 195) := rfl
theorem c_85_6 : jx_cd 85 6 = some (o_ald 0 1) := rfl
theorem c_85_7 : jx_cd 85 7 = some (o_ald 0 1) := rfl
theorem c_85_8 : jx_cd 85 8 = some (o_getf 6 3) := rfl
theorem c_85_11 : jx_cd 85 11 = some (o_callv 6 77 1) := rfl
theorem c_85_14 : jx_cd 85 14 = some (o_ild 2 1) := rfl
theorem c_85_15 : jx_cd 85 15 = some (o_call 78 2) := rfl
theorem c_85_18 : jx_cd 85 18 = some (o_ist 4 2) := rfl
theorem c_85_20 : jx_cd 85 20 = some (o_ild 4 2) := rfl
theorem c_85_22 : jx_cd 85 22 = some (o_ifeq 34) := rfl
theorem c_85_25 : jx_cd 85 25 = some (o_ald 0 1) := rfl
theorem c_85_26 : jx_cd 85 26 = some (o_getf 6 3) := rfl
theorem c_85_29 : jx_cd 85 29 = some (o_push (.int 1) 1) := rfl
theorem c_85_30 : jx_cd 85 30 = some (o_bin fun x y => x + y) := rfl
theorem c_85_31 : jx_cd 85 31 = some (o_goto 38) := rfl
theorem c_85_34 : jx_cd 85 34 = some (o_ald 0 1) := rfl
theorem c_85_35 : jx_cd 85 35 = some (o_getf 6 3) := rfl
theorem c_85_38 : jx_cd 85 38 = some (o_ist 5 2) := rfl
theorem c_85_40 : jx_cd 85 40 = some (o_ald 0 1) := rfl
theorem c_85_41 : jx_cd 85 41 = some (o_ild 5 2) := rfl
theorem c_85_43 : jx_cd 85 43 = some (o_callv 6 77 1) := rfl
theorem c_85_46 : jx_cd 85 46 = some (o_push (.int 48) 2) := rfl
theorem c_85_48 : jx_cd 85 48 = some (o_bin fun x y => x - y) := rfl
theorem c_85_49 : jx_cd 85 49 = some (o_ist 6 2) := rfl
theorem c_85_51 : jx_cd 85 51 = some (o_ild 6 2) := rfl
theorem c_85_53 : jx_cd 85 53 = some (o_push (.int 1) 1) := rfl
theorem c_85_54 : jx_cd 85 54 = some (o_ilt 68) := rfl
theorem c_85_57 : jx_cd 85 57 = some (o_ild 6 2) := rfl
theorem c_85_59 : jx_cd 85 59 = some (o_push (.int 9) 2) := rfl
theorem c_85_61 : jx_cd 85 61 = some (o_igt 68) := rfl
theorem c_85_64 : jx_cd 85 64 = some (o_push (.int 1) 1) := rfl
theorem c_85_65 : jx_cd 85 65 = some (o_goto 69) := rfl
theorem c_85_68 : jx_cd 85 68 = some (o_push (.int 0) 1) := rfl
theorem c_85_69 : jx_cd 85 69 = some (o_ist 3 1) := rfl
theorem c_85_70 : jx_cd 85 70 = some (o_ild 3 1) := rfl
theorem c_85_71 : jx_cd 85 71 = some (o_ifeq 192) := rfl
theorem c_85_74 : jx_cd 85 74 = some (o_ald 0 1) := rfl
theorem c_85_75 : jx_cd 85 75 = some (o_ild 5 2) := rfl
theorem c_85_77 : jx_cd 85 77 = some (o_push (.int 1) 1) := rfl
theorem c_85_78 : jx_cd 85 78 = some (o_bin fun x y => x + y) := rfl
theorem c_85_79 : jx_cd 85 79 = some (o_putf 6 3 jx_okI) := rfl
theorem c_85_82 : jx_cd 85 82 = some (o_ald 0 1) := rfl
theorem c_85_83 : jx_cd 85 83 = some (o_getf 6 13) := rfl
theorem c_85_86 : jx_cd 85 86 = some (o_ild 6 2) := rfl
theorem c_85_88 : jx_cd 85 88 = some (o_iald) := rfl
theorem c_85_89 : jx_cd 85 89 = some (o_ifge 112) := rfl
theorem c_85_92 : jx_cd 85 92 = some (o_ald 0 1) := rfl
theorem c_85_93 : jx_cd 85 93 = some (o_getf 6 13) := rfl
theorem c_85_96 : jx_cd 85 96 = some (o_ild 6 2) := rfl
theorem c_85_98 : jx_cd 85 98 = some (o_ild 1 1) := rfl
theorem c_85_99 : jx_cd 85 99 = some (o_iast) := rfl
theorem c_85_100 : jx_cd 85 100 = some (o_ald 0 1) := rfl
theorem c_85_101 : jx_cd 85 101 = some (o_getf 6 14) := rfl
theorem c_85_104 : jx_cd 85 104 = some (o_ild 6 2) := rfl
theorem c_85_106 : jx_cd 85 106 = some (o_ild 4 2) := rfl
theorem c_85_108 : jx_cd 85 108 = some (o_iast) := rfl
theorem c_85_109 : jx_cd 85 109 = some (o_goto 192) := rfl
theorem c_85_112 : jx_cd 85 112 = some (o_ald 0 1) := rfl
theorem c_85_113 : jx_cd 85 113 = some (o_ald 0 1) := rfl
theorem c_85_114 : jx_cd 85 114 = some (o_getf 6 15) := rfl
theorem c_85_117 : jx_cd 85 117 = some (o_ifeq 151) := rfl
theorem c_85_120 : jx_cd 85 120 = some (o_ild 4 2) := rfl
theorem c_85_122 : jx_cd 85 122 = some (o_ifeq 147) := rfl
theorem c_85_125 : jx_cd 85 125 = some (o_ald 0 1) := rfl
theorem c_85_126 : jx_cd 85 126 = some (o_getf 6 14) := rfl
theorem c_85_129 : jx_cd 85 129 = some (o_ild 6 2) := rfl
theorem c_85_131 : jx_cd 85 131 = some (o_iald) := rfl
theorem c_85_132 : jx_cd 85 132 = some (o_ifeq 147) := rfl
theorem c_85_135 : jx_cd 85 135 = some (o_ild 4 2) := rfl
theorem c_85_137 : jx_cd 85 137 = some (o_ald 0 1) := rfl
theorem c_85_138 : jx_cd 85 138 = some (o_getf 6 14) := rfl
theorem c_85_141 : jx_cd 85 141 = some (o_ild 6 2) := rfl
theorem c_85_143 : jx_cd 85 143 = some (o_iald) := rfl
theorem c_85_144 : jx_cd 85 144 = some (o_ine 151) := rfl
theorem c_85_147 : jx_cd 85 147 = some (o_push (.int 1) 1) := rfl
theorem c_85_148 : jx_cd 85 148 = some (o_goto 152) := rfl
theorem c_85_151 : jx_cd 85 151 = some (o_push (.int 0) 1) := rfl
theorem c_85_152 : jx_cd 85 152 = some (o_putf 6 15 jx_okZ) := rfl
theorem c_85_155 : jx_cd 85 155 = some (o_ald 0 1) := rfl
theorem c_85_156 : jx_cd 85 156 = some (o_ald 0 1) := rfl
theorem c_85_157 : jx_cd 85 157 = some (o_getf 6 13) := rfl
theorem c_85_160 : jx_cd 85 160 = some (o_ild 6 2) := rfl
theorem c_85_162 : jx_cd 85 162 = some (o_iald) := rfl
theorem c_85_163 : jx_cd 85 163 = some (o_ild 1 1) := rfl
theorem c_85_164 : jx_cd 85 164 = some (o_ild 4 2) := rfl
theorem c_85_166 : jx_cd 85 166 = some (o_ifeq 174) := rfl
theorem c_85_169 : jx_cd 85 169 = some (o_ild 4 2) := rfl
theorem c_85_171 : jx_cd 85 171 = some (o_goto 181) := rfl
theorem c_85_174 : jx_cd 85 174 = some (o_ald 0 1) := rfl
theorem c_85_175 : jx_cd 85 175 = some (o_getf 6 14) := rfl
theorem c_85_178 : jx_cd 85 178 = some (o_ild 6 2) := rfl
theorem c_85_180 : jx_cd 85 180 = some (o_iald) := rfl
theorem c_85_181 : jx_cd 85 181 = some (o_callv 6 84 3) := rfl
theorem c_85_184 : jx_cd 85 184 = some (o_ald 0 1) := rfl
theorem c_85_185 : jx_cd 85 185 = some (o_getf 6 13) := rfl
theorem c_85_188 : jx_cd 85 188 = some (o_ild 6 2) := rfl
theorem c_85_190 : jx_cd 85 190 = some (o_push (.int (-1)) 1) := rfl
theorem c_85_191 : jx_cd 85 191 = some (o_iast) := rfl
theorem c_85_192 : jx_cd 85 192 = some (o_goto 2) := rfl
theorem c_85_195 : jx_cd 85 195 = some (o_ret) := rfl
theorem sm_k_t {A : Nat → MA} {i j : Nat} (h : (aR A i && aR A j) = true) : sm_k (A i) (A j) 0 = 4 := by
  rw [Bool.and_eq_true] at h
  unfold sm_k
  rw [if_neg (by decide), if_pos (show (A i).2.1 = true ∧ (A j).2.1 = true from h)]
theorem sm_k_f {A : Nat → MA} {i j : Nat} (h : (aR A i && aR A j) = false) : sm_k (A i) (A j) 0 = 1 := by
  unfold sm_k
  rw [if_neg (by decide), if_neg (fun q => by have e : (aR A i && aR A j) = true := by rw [Bool.and_eq_true]; exact q
                                              rw [h] at e; cases e)]
/-- kinds in the table are small -/
def bmS (n : Nat) (bm : Nat → Nat) : Prop := ∀ i j, i < n → j < n → bm (40 * i + j) < 8
theorem bmS_put {n : Nat} {bm : Nat → Nat} {i j b : Nat} (h : bmS n bm) (hb : b < 8) : bmS n (sm_put bm i j b) := by
  intro x y hx hy
  unfold sm_put nu
  split
  · exact hb
  · split
    · exact hb
    · exact h x y hx hy
theorem sm_k_8 {mi mj : MA} {link : Nat} (h : link < 8) : sm_k mi mj link < 8 := by
  unfold sm_k
  repeat' split
  all_goals omega
theorem jn_dig : ∀ h, h < 128 → ((jn h - jn 48 < jn 1 ↔ h < 49) ∧ (jn 9 < jn h - jn 48 ↔ 57 < h)) := by decide +kernel
theorem t_mbind {d : Nat} {w : MW} {tx : Nat → Nat} {ln at_ n : Nat} {gd : Bool} {A : Nat → MA} {bm bk : Nat → Nat} {oa : Nat → Option Nat} {ol : Nat → Nat} {M : jx_M} {i j link : Nat} (H : mRd M w tx ln at_ n gd A bm bk oa ol) (hn : n ≤ 40) (hi : i < n) (hj : j < n) (hlk : link < 8) (hbm : bmS n bm) (hA : ∀ q, q < n → aL A q < 64) : jZ d 84 0 [some (.ref 92), some (.int (jn i)), some (.int (jn j)), some (.int (jn link)), none, none, none, none] [] M (jV none fun M' => mRd M' w tx ln at_ n (gd && sm_ok A bm i j link) A (sm_put bm i j (sm_k (A i) (A j) link)) bk oa ol ∧ sm 92 103 M M') := by
  obtain ⟨h92, h93, ⟨h94, h95, h96, h97, h98, h99⟩, h100, h101, h102, h103⟩ := H
  have hLi := hA i hi
  have hLj := hA j hj
  refine z_cut 23 [some (.ref 92), some (.int (jn i)), some (.int (jn j)), some (.int (jn link)), none, none, none, none] [.int (jb (aR A i && aR A j))] (fun kc => ?_) ?_
  · refine z_go 1 _ [.ref 92] _ c_84_0 rfl ?_
    refine z_getf (v := .ref 95) 4 c_84_1 rfl h92 rfl ?_
    refine z_go 5 _ [.int (jn i), .ref 95] _ c_84_4 rfl ?_
    refine z_xald 6 c_84_5 rfl h95 (by omega) (by omega) ?_
    show jZ _ _ _ _ ([.int (jb ((aR A) i))]) _ _
    refine z_ifeq 22 9 c_84_6 rfl jb_t (fun h1 => ?_) (fun h1 => ?_)
    · refine z_go 23 _ [.int (jn 0)] _ c_84_22 rfl ?_
      exact z_v (by rw [h1]; rfl) kc
    · have h1t : aR A i = true := by cases h : aR A i <;> simp_all
      refine z_go 10 _ [.ref 92] _ c_84_9 rfl ?_
      refine z_getf (v := .ref 95) 13 c_84_10 rfl h92 rfl ?_
      refine z_go 14 _ [.int (jn j), .ref 95] _ c_84_13 rfl ?_
      refine z_xald 15 c_84_14 rfl h95 (by omega) (by omega) ?_
      show jZ _ _ _ _ ([.int (jb ((aR A) j))]) _ _
      refine z_ifeq 22 18 c_84_15 rfl jb_t (fun h2 => ?_) (fun h2 => ?_)
      · refine z_go 23 _ [.int (jn 0)] _ c_84_22 rfl ?_
        exact z_v (by rw [h1t, h2]; rfl) kc
      · have h2t : aR A j = true := by cases h : aR A j <;> simp_all
        refine z_go 19 _ [.int (jn 1)] _ c_84_18 rfl ?_
        refine z_go 23 _ [.int (jn 1)] _ c_84_19 rfl ?_
        exact z_v (by rw [h1t, h2t]; rfl) kc
  refine z_go 25 [some (.ref 92), some (.int (jn i)), some (.int (jn j)), some (.int (jn link)), some (.int (jb (aR A i && aR A j))), none, none, none] [] _ c_84_23 rfl ?_
  refine z_cut 43 [some (.ref 92), some (.int (jn i)), some (.int (jn j)), some (.int (jn link)), some (.int (jb (aR A i && aR A j))), none, none, none] [.int (jn (sm_k (A i) (A j) link))] (fun kc => ?_) ?_
  · refine z_go 26 _ [.int (jn link)] _ c_84_25 rfl ?_
    refine z_ifeq 33 29 c_84_26 rfl (jn_z (by omega)) (fun h1 => ?_) (fun h1 => ?_)
    · refine z_go 35 _ [.int (jb (aR A i && aR A j))] _ c_84_33 rfl ?_
      refine z_ifeq 42 38 c_84_35 rfl jb_t (fun h2 => ?_) (fun h2 => ?_)
      · refine z_go 43 _ [.int (jn 1)] _ c_84_42 rfl ?_
        exact z_v (by rw [h1, sm_k_f h2]) kc
      · have h2t : (aR A i && aR A j) = true := by cases h : (aR A i && aR A j) <;> simp_all
        refine z_go 39 _ [.int (jn 4)] _ c_84_38 rfl ?_
        refine z_go 43 _ [.int (jn 4)] _ c_84_39 rfl ?_
        exact z_v (by rw [h1, sm_k_t h2t]) kc
    · refine z_go 30 _ [.int (jn link)] _ c_84_29 rfl ?_
      refine z_go 43 _ [.int (jn link)] _ c_84_30 rfl ?_
      exact z_v (by rw [show sm_k (A i) (A j) link = link from if_pos h1]) kc
  have hk8 := sm_k_8 (mi := A i) (mj := A j) hlk
  generalize hkk : sm_k (A i) (A j) link = b at *
  refine z_go 45 [some (.ref 92), some (.int (jn i)), some (.int (jn j)), some (.int (jn link)), some (.int (jb (aR A i && aR A j))), some (.int (jn b)), none, none] [] _ c_84_43 rfl ?_
  refine z_cut 68 [some (.ref 92), some (.int (jn i)), some (.int (jn j)), some (.int (jn link)), some (.int (jb (aR A i && aR A j))), some (.int (jn b)), none, none] [.int (jb (decide (aL A i = 0) && decide (aL A j = 0)))] (fun kc => ?_) ?_
  · refine z_go 46 _ [.ref 92] _ c_84_45 rfl ?_
    refine z_getf (v := .ref 99) 49 c_84_46 rfl h92 rfl ?_
    refine z_go 50 _ [.int (jn i), .ref 99] _ c_84_49 rfl ?_
    refine z_iald 51 c_84_50 rfl h99 (Or.inl rfl) (by omega) (by omega) ?_
    show jZ _ _ _ _ ([.int (jn ((aL A) i))]) _ _
    refine z_ifne 67 54 c_84_51 rfl (jn_z (by omega)) (fun h1 => ?_) (fun h1 => ?_)
    · refine z_go 55 _ [.ref 92] _ c_84_54 rfl ?_
      refine z_getf (v := .ref 99) 58 c_84_55 rfl h92 rfl ?_
      refine z_go 59 _ [.int (jn j), .ref 99] _ c_84_58 rfl ?_
      refine z_iald 60 c_84_59 rfl h99 (Or.inl rfl) (by omega) (by omega) ?_
      show jZ _ _ _ _ ([.int (jn ((aL A) j))]) _ _
      refine z_ifne 67 63 c_84_60 rfl (jn_z (by omega)) (fun h2 => ?_) (fun h2 => ?_)
      · refine z_go 64 _ [.int (jn 1)] _ c_84_63 rfl ?_
        refine z_go 68 _ [.int (jn 1)] _ c_84_64 rfl ?_
        exact z_v (by rw [decide_eq_true h1, decide_eq_true h2]; rfl) kc
      · refine z_go 68 _ [.int (jn 0)] _ c_84_67 rfl ?_
        exact z_v (by rw [decide_eq_true h1, decide_eq_false h2]; rfl) kc
    · refine z_go 68 _ [.int (jn 0)] _ c_84_67 rfl ?_
      exact z_v (by rw [decide_eq_false h1]; rfl) kc
  refine z_go 70 [some (.ref 92), some (.int (jn i)), some (.int (jn j)), some (.int (jn link)), some (.int (jb (aR A i && aR A j))), some (.int (jn b)), some (.int (jb (decide (aL A i = 0) && decide (aL A j = 0)))), none] [] _ c_84_68 rfl ?_
  refine z_cut 110 [some (.ref 92), some (.int (jn i)), some (.int (jn j)), some (.int (jn link)), some (.int (jb (aR A i && aR A j))), some (.int (jn b)), some (.int (jb (decide (aL A i = 0) && decide (aL A j = 0)))), none] [.int (jb (decide (sm_bar (A i) (A j) b)))] (fun kc => ?_) ?_
  · refine z_go 72 _ [.int (jb (decide (aL A i = 0) && decide (aL A j = 0)))] _ c_84_70 rfl ?_
    refine z_ifeq 109 75 c_84_72 rfl jb_t (fun h1 => ?_) (fun h1 => ?_)
    · refine z_go 110 _ [.int (jn 0)] _ c_84_109 rfl ?_
      exact z_v (by rw [decide_eq_false (fun q : sm_bar (A i) (A j) b => by have e1 : aL A i = 0 := q.1.1; have e2 : aL A j = 0 := q.1.2; rw [e1, e2] at h1; cases h1)]; rfl) kc
    · have hpl : aL A i = 0 ∧ aL A j = 0 := by have : (decide (aL A i = 0) && decide (aL A j = 0)) = true := by { cases h : (decide (aL A i = 0) && decide (aL A j = 0)) <;> simp_all }; simpa using this
      refine z_go 76 _ [.ref 92] _ c_84_75 rfl ?_
      refine z_getf (v := .ref 95) 79 c_84_76 rfl h92 rfl ?_
      refine z_go 80 _ [.int (jn i), .ref 95] _ c_84_79 rfl ?_
      refine z_xald 81 c_84_80 rfl h95 (by omega) (by omega) ?_
      show jZ _ _ _ _ ([.int (jb ((aR A) i))]) _ _
      refine z_ifne 93 84 c_84_81 rfl jb_t (fun h2 => ?_) (fun h2 => ?_)
      · refine z_go 85 _ [.ref 92] _ c_84_84 rfl ?_
        refine z_getf (v := .ref 95) 88 c_84_85 rfl h92 rfl ?_
        refine z_go 89 _ [.int (jn j), .ref 95] _ c_84_88 rfl ?_
        refine z_xald 90 c_84_89 rfl h95 (by omega) (by omega) ?_
        show jZ _ _ _ _ ([.int (jb ((aR A) j))]) _ _
        refine z_ifeq 109 93 c_84_90 rfl jb_t (fun h3 => ?_) (fun h3 => ?_)
        · refine z_go 110 _ [.int (jn 0)] _ c_84_109 rfl ?_
          exact z_v (by rw [decide_eq_false (fun q : sm_bar (A i) (A j) b => by have e1 : aR A i = true ∨ aR A j = true := q.2.1; rw [h2, h3] at e1; rcases e1 with e1 | e1 <;> cases e1)]; rfl) kc
        · have h3t : aR A j = true := by cases h : aR A j <;> simp_all
          refine z_go 95 _ [.int (jn b)] _ c_84_93 rfl ?_
          refine z_go 96 _ [.int (jn 2), .int (jn b)] _ c_84_95 rfl ?_
          refine z_ieq 105 99 c_84_96 rfl (jn_inj (by omega) (by omega)) (fun h5 => ?_) (fun h5 => ?_)
          · refine z_go 106 _ [.int (jn 1)] _ c_84_105 rfl ?_
            refine z_go 110 _ [.int (jn 1)] _ c_84_106 rfl ?_
            exact z_v (by rw [decide_eq_true (show sm_bar (A i) (A j) b from ⟨hpl, Or.inr h3t, Or.inl h5⟩)]; rfl) kc
          · refine z_go 101 _ [.int (jn b)] _ c_84_99 rfl ?_
            refine z_go 102 _ [.int (jn 3), .int (jn b)] _ c_84_101 rfl ?_
            refine z_ine 109 105 c_84_102 rfl (jn_inj (by omega) (by omega)) (fun h6 => ?_) (fun h6 => ?_)
            · refine z_go 106 _ [.int (jn 1)] _ c_84_105 rfl ?_
              refine z_go 110 _ [.int (jn 1)] _ c_84_106 rfl ?_
              exact z_v (by rw [decide_eq_true (show sm_bar (A i) (A j) b from ⟨hpl, Or.inr h3t, Or.inr h6⟩)]; rfl) kc
            · refine z_go 110 _ [.int (jn 0)] _ c_84_109 rfl ?_
              exact z_v (by rw [decide_eq_false (fun q : sm_bar (A i) (A j) b => q.2.2.elim h5 h6)]; rfl) kc
      · have h2t : aR A i = true := by cases h : aR A i <;> simp_all
        refine z_go 95 _ [.int (jn b)] _ c_84_93 rfl ?_
        refine z_go 96 _ [.int (jn 2), .int (jn b)] _ c_84_95 rfl ?_
        refine z_ieq 105 99 c_84_96 rfl (jn_inj (by omega) (by omega)) (fun h5 => ?_) (fun h5 => ?_)
        · refine z_go 106 _ [.int (jn 1)] _ c_84_105 rfl ?_
          refine z_go 110 _ [.int (jn 1)] _ c_84_106 rfl ?_
          exact z_v (by rw [decide_eq_true (show sm_bar (A i) (A j) b from ⟨hpl, Or.inl h2t, Or.inl h5⟩)]; rfl) kc
        · refine z_go 101 _ [.int (jn b)] _ c_84_99 rfl ?_
          refine z_go 102 _ [.int (jn 3), .int (jn b)] _ c_84_101 rfl ?_
          refine z_ine 109 105 c_84_102 rfl (jn_inj (by omega) (by omega)) (fun h6 => ?_) (fun h6 => ?_)
          · refine z_go 106 _ [.int (jn 1)] _ c_84_105 rfl ?_
            refine z_go 110 _ [.int (jn 1)] _ c_84_106 rfl ?_
            exact z_v (by rw [decide_eq_true (show sm_bar (A i) (A j) b from ⟨hpl, Or.inl h2t, Or.inr h6⟩)]; rfl) kc
          · refine z_go 110 _ [.int (jn 0)] _ c_84_109 rfl ?_
            exact z_v (by rw [decide_eq_false (fun q : sm_bar (A i) (A j) b => q.2.2.elim h5 h6)]; rfl) kc
  refine z_go 112 [some (.ref 92), some (.int (jn i)), some (.int (jn j)), some (.int (jn link)), some (.int (jb (aR A i && aR A j))), some (.int (jn b)), some (.int (jb (decide (aL A i = 0) && decide (aL A j = 0)))), some (.int (jb (decide (sm_bar (A i) (A j) b))))] [] _ c_84_110 rfl ?_
  refine z_go 113 _ [.ref 92] _ c_84_112 rfl ?_
  refine z_cut 149 [some (.ref 92), some (.int (jn i)), some (.int (jn j)), some (.int (jn link)), some (.int (jb (aR A i && aR A j))), some (.int (jn b)), some (.int (jb (decide (aL A i = 0) && decide (aL A j = 0)))), some (.int (jb (decide (sm_bar (A i) (A j) b))))] [.int (jb (gd && sm_ok A bm i j link)), .ref 92] (fun kc => ?_) ?_
  · have hbs := hbm i j hi hj
    refine z_go 114 _ [.ref 92, .ref 92] _ c_84_113 rfl ?_
    refine z_getf (v := .int (jb gd)) 117 c_84_114 rfl h92 rfl ?_
    refine z_ifeq 148 120 c_84_117 rfl jb_t (fun g0 => ?_) (fun g0 => ?_)
    · refine z_go 149 _ [.int (jn 0), .ref 92] _ c_84_148 rfl ?_
      exact z_v (by rw [show (gd && sm_ok A bm i j link) = false from by rw [g0, Bool.false_and]]; rfl) kc
    · have g0t : gd = true := by cases gd <;> simp_all
      refine z_go 121 _ [.int (jn i), .ref 92] _ c_84_120 rfl ?_
      refine z_go 122 _ [.int (jn j), .int (jn i), .ref 92] _ c_84_121 rfl ?_
      refine z_ieq 148 125 c_84_122 rfl (jn_inj (by omega) (by omega)) (fun g1 => ?_) (fun g1 => ?_)
      · refine z_go 149 _ [.int (jn 0), .ref 92] _ c_84_148 rfl ?_
        exact z_v (by rw [show (gd && sm_ok A bm i j link) = false from by rw [show sm_ok A bm i j link = false from decide_eq_false (fun q => q.1 g1), Bool.and_false]]; rfl) kc
      · refine z_go 126 _ [.ref 92, .ref 92] _ c_84_125 rfl ?_
        refine z_getf (v := .ref 100) 129 c_84_126 rfl h92 rfl ?_
        refine z_go 131 _ [.int (jn 40), .ref 100, .ref 92] _ c_84_129 rfl ?_
        refine z_go 132 _ [.int (jn i), .int (jn 40), .ref 100, .ref 92] _ c_84_131 rfl ?_
        refine z_go 133 _ [.int ((jn 40) * (jn i)), .ref 100, .ref 92] _ c_84_132 rfl ?_
        refine z_v (jn_mul _ _) ?_
        refine z_go 134 _ [.int (jn j), .int (jn (40 * i)), .ref 100, .ref 92] _ c_84_133 rfl ?_
        refine z_go 135 _ [.int ((jn (40 * i)) + (jn j)), .ref 100, .ref 92] _ c_84_134 rfl ?_
        refine z_v (jn_add _ _) ?_
        refine z_iald 136 c_84_135 rfl h100 (Or.inl rfl) (by omega) (by omega) ?_
        show jZ _ _ _ _ ([.int (jn (bm ((40 * i) + j))), .ref 92]) _ _
        refine z_ifne 148 139 c_84_136 rfl (jn_z (by omega)) (fun g2 => ?_) (fun g2 => ?_)
        · refine z_go 141 _ [.int (jb (decide (sm_bar (A i) (A j) b))), .ref 92] _ c_84_139 rfl ?_
          refine z_ifne 148 144 c_84_141 rfl jb_t (fun g3 => ?_) (fun g3 => ?_)
          · refine z_go 145 _ [.int (jn 1), .ref 92] _ c_84_144 rfl ?_
            refine z_go 149 _ [.int (jn 1), .ref 92] _ c_84_145 rfl ?_
            exact z_v (by rw [show (gd && sm_ok A bm i j link) = true from by rw [g0t, show sm_ok A bm i j link = true from decide_eq_true ⟨g1, g2, by rw [hkk]; exact of_decide_eq_false g3⟩]; rfl]; rfl) kc
          · have g3t : sm_bar (A i) (A j) b := of_decide_eq_true (by cases h : decide (sm_bar (A i) (A j) b) <;> simp_all)
            refine z_go 149 _ [.int (jn 0), .ref 92] _ c_84_148 rfl ?_
            exact z_v (by rw [show (gd && sm_ok A bm i j link) = false from by rw [show sm_ok A bm i j link = false from decide_eq_false (fun q => q.2.2 (by rw [hkk]; exact g3t)), Bool.and_false]]; rfl) kc
        · refine z_go 149 _ [.int (jn 0), .ref 92] _ c_84_148 rfl ?_
          exact z_v (by rw [show (gd && sm_ok A bm i j link) = false from by rw [show sm_ok A bm i j link = false from decide_eq_false (fun q => g2 q.2.1), Bool.and_false]]; rfl) kc
  refine z_putf (M' := jm [(92, mW w ln at_ n (gd && sm_ok A bm i j link))] M) 152 c_84_149 rfl h92 (jb_ok) (Nat.le_of_ble_eq_true rfl) rfl ?_
  refine z_go 153 _ [.ref 92] _ c_84_152 rfl ?_
  refine z_getf (v := .ref 100) 156 c_84_153 rfl rfl rfl ?_
  refine z_go 158 _ [.int (jn 40), .ref 100] _ c_84_156 rfl ?_
  refine z_go 159 _ [.int (jn i), .int (jn 40), .ref 100] _ c_84_158 rfl ?_
  refine z_go 160 _ [.int ((jn 40) * (jn i)), .ref 100] _ c_84_159 rfl ?_
  refine z_v (jn_mul _ _) ?_
  refine z_go 161 _ [.int (jn j), .int (jn (40 * i)), .ref 100] _ c_84_160 rfl ?_
  refine z_go 162 _ [.int ((jn (40 * i)) + (jn j)), .ref 100] _ c_84_161 rfl ?_
  refine z_v (jn_add _ _) ?_
  refine z_go 164 _ [.int (jn b), .int (jn ((40 * i) + j)), .ref 100] _ c_84_162 rfl ?_
  refine z_iast (M' := jm [(100, .inl (0, 1600, .inl (ja (nu bm ((40 * i) + j) b)))), (92, mW w ln at_ n (gd && sm_ok A bm i j link))] M) 165 c_84_164 rfl h100 (by omega) (by omega) (by rw [ja_upd]; exact rfl) ?_
  refine z_go 166 _ [.ref 92] _ c_84_165 rfl ?_
  refine z_getf (v := .ref 100) 169 c_84_166 rfl rfl rfl ?_
  refine z_go 171 _ [.int (jn 40), .ref 100] _ c_84_169 rfl ?_
  refine z_go 172 _ [.int (jn j), .int (jn 40), .ref 100] _ c_84_171 rfl ?_
  refine z_go 173 _ [.int ((jn 40) * (jn j)), .ref 100] _ c_84_172 rfl ?_
  refine z_v (jn_mul _ _) ?_
  refine z_go 174 _ [.int (jn i), .int (jn (40 * j)), .ref 100] _ c_84_173 rfl ?_
  refine z_go 175 _ [.int ((jn (40 * j)) + (jn i)), .ref 100] _ c_84_174 rfl ?_
  refine z_v (jn_add _ _) ?_
  refine z_go 177 _ [.int (jn b), .int (jn ((40 * j) + i)), .ref 100] _ c_84_175 rfl ?_
  refine z_iast (M' := jm [(100, .inl (0, 1600, .inl (ja (nu (nu bm ((40 * i) + j) b) ((40 * j) + i) b)))), (92, mW w ln at_ n (gd && sm_ok A bm i j link))] M) 178 c_84_177 rfl rfl (by omega) (by omega) (by rw [ja_upd]; exact (jm_w rfl)) ?_
  refine z_ret c_84_178 ?_
  exact ⟨rfl, ⟨rfl, h93, ⟨h94, h95, h96, h97, h98, h99⟩, rfl, h101, h102, h103⟩, sm_jm rfl⟩
theorem t_mclo_l {d : Nat} {w : MW} {tx : Nat → Nat} {ln n a : Nat} {pt : Bool} {A : Nat → MA} {bk : Nat → Nat} (hl : ln ≤ 40) (ht : ∀ j, tx j < 127) (hn : n ≤ 40) (ha : a < n) (hA : ∀ q, q < n → aL A q < 64) : ∀ {k at_ : Nat} {gd : Bool} {bm : Nat → Nat} {oa : Nat → Option Nat} {ol : Nat → Nat} {z4 z5 z6 : Option Value} {M : jx_M}, ln ≤ at_ + k → at_ ≤ ln → mRd M w tx ln at_ n gd A bm bk oa ol → bmS n bm → (∀ d, d < 10 → ∀ k, oa d = some k → k < n ∧ ol d < 8) → jZ (d + 1) 85 2 [some (.ref 92), some (.int (jn a)), some (.int (jb pt)), some (.int (jb true)), z4, z5, z6] [] M (jV none fun M' => mRd M' w tx ln (sm_clo tx ln pt A a k (at_, gd, bm, oa, ol)).1 n (sm_clo tx ln pt A a k (at_, gd, bm, oa, ol)).2.1 A (sm_clo tx ln pt A a k (at_, gd, bm, oa, ol)).2.2.1 bk (sm_clo tx ln pt A a k (at_, gd, bm, oa, ol)).2.2.2.1 (sm_clo tx ln pt A a k (at_, gd, bm, oa, ol)).2.2.2.2 ∧ sm 92 103 M M') := by
  intro k
  induction k with
  | zero =>
    intro at_ gd bm oa ol z4 z5 z6 M hk0 hat H hbm hoa
    have H0 := H
    obtain ⟨h92, h93, ⟨h94, h95, h96, h97, h98, h99⟩, h100, h101, h102, h103⟩ := H
    have hc0 := sp_here_128 (tx := tx) (ln := ln) (p := at_) ht
    have hcq := sp_here_128 (tx := tx) (ln := ln) (p := sm_q tx ln pt at_) ht
    have hlk := sp_lk_lt (h := sp_here tx ln at_) (pt := pt)
    have hq1 : sm_q tx ln pt at_ ≤ at_ + 1 ∧ at_ ≤ sm_q tx ln pt at_ := by unfold sm_q; split <;> omega
    have hjd := jn_dig (sp_here tx ln (sm_q tx ln pt at_)) (by omega)
    refine z_go 3 _ [.int (jb true)] _ c_85_2 rfl ?_
    refine z_ifeq 195 6 c_85_3 rfl jb_t (fun h => absurd h (by decide)) (fun _ => ?_)
    refine z_go 7 _ [.ref 92] _ c_85_6 rfl ?_
    refine z_go 8 _ [.ref 92, .ref 92] _ c_85_7 rfl ?_
    refine z_getf (v := .int (jn at_)) 11 c_85_8 rfl h92 rfl ?_
    refine z_callv 14 6 77 1 92 c_85_11 rfl ⟨Nat.le_of_ble_eq_true rfl, Nat.le_of_ble_eq_true rfl⟩ rfl h92 [.ref 92, .int (jn at_)] rfl rfl [some (.ref 92), some (.int (jn at_))] rfl rfl (t_mch h92 h93 hl (by omega)) ?_
    show jZ _ _ _ _ [.int (jn (sp_here tx ln at_))] _ _
    refine z_go 15 _ [.int (jb pt), .int (jn (sp_here tx ln at_))] _ c_85_14 rfl ?_
    refine z_call 18 78 2 c_85_15 rfl ⟨Nat.le_of_ble_eq_true rfl, Nat.le_of_ble_eq_true rfl⟩ [.int (jn (sp_here tx ln at_)), .int (jb pt)] rfl rfl [some (.int (jn (sp_here tx ln at_))), some (.int (jb pt))] rfl rfl (t_mlk (by omega)) ?_
    show jZ _ _ _ _ [.int (jn (sp_lk (sp_here tx ln at_) pt))] _ _
    refine z_go 20 [some (.ref 92), some (.int (jn a)), some (.int (jb pt)), some (.int (jb true)), some (.int (jn (sp_lk (sp_here tx ln at_) pt))), z5, z6] [] _ c_85_18 rfl ?_
    refine z_cut 38 [some (.ref 92), some (.int (jn a)), some (.int (jb pt)), some (.int (jb true)), some (.int (jn (sp_lk (sp_here tx ln at_) pt))), z5, z6] [.int (jn (sm_q tx ln pt at_))] (fun kc => ?_) ?_
    · refine z_go 22 _ [.int (jn (sp_lk (sp_here tx ln at_) pt))] _ c_85_20 rfl ?_
      refine z_ifeq 34 25 c_85_22 rfl (jn_z (by omega)) (fun h1 => ?_) (fun h1 => ?_)
      · refine z_go 35 _ [.ref 92] _ c_85_34 rfl ?_
        refine z_getf (v := .int (jn at_)) 38 c_85_35 rfl h92 rfl ?_
        exact z_v (by unfold sm_q; rw [if_pos h1, Nat.add_zero]) kc
      · refine z_go 26 _ [.ref 92] _ c_85_25 rfl ?_
        refine z_getf (v := .int (jn at_)) 29 c_85_26 rfl h92 rfl ?_
        refine z_go 30 _ [.int (jn 1), .int (jn at_)] _ c_85_29 rfl ?_
        refine z_go 31 _ [.int ((jn at_) + (jn 1))] _ c_85_30 rfl ?_
        refine z_v (jn_add _ _) ?_
        refine z_go 38 _ [.int (jn (at_ + 1))] _ c_85_31 rfl ?_
        exact z_v (by unfold sm_q; rw [if_neg h1]) kc
    refine z_go 40 [some (.ref 92), some (.int (jn a)), some (.int (jb pt)), some (.int (jb true)), some (.int (jn (sp_lk (sp_here tx ln at_) pt))), some (.int (jn (sm_q tx ln pt at_))), z6] [] _ c_85_38 rfl ?_
    refine z_go 41 _ [.ref 92] _ c_85_40 rfl ?_
    refine z_go 43 _ [.int (jn (sm_q tx ln pt at_)), .ref 92] _ c_85_41 rfl ?_
    refine z_callv 46 6 77 1 92 c_85_43 rfl ⟨Nat.le_of_ble_eq_true rfl, Nat.le_of_ble_eq_true rfl⟩ rfl h92 [.ref 92, .int (jn (sm_q tx ln pt at_))] rfl rfl [some (.ref 92), some (.int (jn (sm_q tx ln pt at_)))] rfl rfl (t_mch h92 h93 hl (by omega)) ?_
    show jZ _ _ _ _ [.int (jn (sp_here tx ln (sm_q tx ln pt at_)))] _ _
    refine z_go 48 _ [.int (jn 48), .int (jn (sp_here tx ln (sm_q tx ln pt at_)))] _ c_85_46 rfl ?_
    refine z_go 49 _ [.int (((jn (sp_here tx ln (sm_q tx ln pt at_)))) - (jn 48))] _ c_85_48 rfl ?_
    refine z_go 51 [some (.ref 92), some (.int (jn a)), some (.int (jb pt)), some (.int (jb true)), some (.int (jn (sp_lk (sp_here tx ln at_) pt))), some (.int (jn (sm_q tx ln pt at_))), some (.int (((jn (sp_here tx ln (sm_q tx ln pt at_)))) - (jn 48)))] [] _ c_85_49 rfl ?_
    refine z_cut 69 [some (.ref 92), some (.int (jn a)), some (.int (jb pt)), some (.int (jb true)), some (.int (jn (sp_lk (sp_here tx ln at_) pt))), some (.int (jn (sm_q tx ln pt at_))), some (.int (((jn (sp_here tx ln (sm_q tx ln pt at_)))) - (jn 48)))] [.int (jb (decide (49 ≤ sp_here tx ln (sm_q tx ln pt at_) ∧ sp_here tx ln (sm_q tx ln pt at_) ≤ 57)))] (fun kc => ?_) ?_
    · refine z_go 53 _ [.int (((jn (sp_here tx ln (sm_q tx ln pt at_)))) - (jn 48))] _ c_85_51 rfl ?_
      refine z_go 54 _ [.int (jn 1), .int (((jn (sp_here tx ln (sm_q tx ln pt at_)))) - (jn 48))] _ c_85_53 rfl ?_
      refine z_iltR 68 57 c_85_54 rfl Iff.rfl (fun h1 => ?_) (fun h1 => ?_)
      · refine z_go 69 _ [.int (jn 0)] _ c_85_68 rfl ?_
        exact z_v (by rw [decide_eq_false (fun q => by have := hjd.1.mp h1; omega)]; rfl) kc
      · refine z_go 59 _ [.int (((jn (sp_here tx ln (sm_q tx ln pt at_)))) - (jn 48))] _ c_85_57 rfl ?_
        refine z_go 61 _ [.int (jn 9), .int (((jn (sp_here tx ln (sm_q tx ln pt at_)))) - (jn 48))] _ c_85_59 rfl ?_
        refine z_igtR 68 64 c_85_61 rfl Iff.rfl (fun h2 => ?_) (fun h2 => ?_)
        · refine z_go 69 _ [.int (jn 0)] _ c_85_68 rfl ?_
          exact z_v (by rw [decide_eq_false (fun q => by have := hjd.2.mp h2; omega)]; rfl) kc
        · refine z_go 65 _ [.int (jn 1)] _ c_85_64 rfl ?_
          refine z_go 69 _ [.int (jn 1)] _ c_85_65 rfl ?_
          exact z_v (by rw [decide_eq_true ⟨Nat.le_of_not_lt (fun q => h1 (hjd.1.mpr q)), Nat.le_of_not_lt (fun q => h2 (hjd.2.mpr q))⟩]; rfl) kc
    refine z_go 70 [some (.ref 92), some (.int (jn a)), some (.int (jb pt)), some (.int (jb (decide (49 ≤ sp_here tx ln (sm_q tx ln pt at_) ∧ sp_here tx ln (sm_q tx ln pt at_) ≤ 57)))), some (.int (jn (sp_lk (sp_here tx ln at_) pt))), some (.int (jn (sm_q tx ln pt at_))), some (.int (((jn (sp_here tx ln (sm_q tx ln pt at_)))) - (jn 48)))] [] _ c_85_69 rfl ?_
    refine z_go 71 _ [.int (jb (decide (49 ≤ sp_here tx ln (sm_q tx ln pt at_) ∧ sp_here tx ln (sm_q tx ln pt at_) ≤ 57)))] _ c_85_70 rfl ?_
    refine z_ifeq 192 74 c_85_71 rfl jb_t (fun hd => ?_) (fun hd => ?_)
    · refine z_go 2 _ [] _ c_85_192 rfl ?_
      refine z_go 3 _ [.int (jb (decide (49 ≤ sp_here tx ln (sm_q tx ln pt at_) ∧ sp_here tx ln (sm_q tx ln pt at_) ≤ 57)))] _ c_85_2 rfl ?_
      refine z_ifeq 195 6 c_85_3 rfl jb_t (fun _ => ?_) (fun q => absurd hd q)
      refine z_ret c_85_195 ?_
      rw [show sm_clo tx ln pt A a 0 (at_, gd, bm, oa, ol) = (at_, gd, bm, oa, ol) from rfl]
      exact ⟨rfl, H0, sm_r _ _ M⟩
    · exact absurd (decide_eq_false (fun q => by rw [here_ge (by omega)] at q; omega)) hd
  | succ k ih =>
    intro at_ gd bm oa ol z4 z5 z6 M hk0 hat H hbm hoa
    have H0 := H
    obtain ⟨h92, h93, ⟨h94, h95, h96, h97, h98, h99⟩, h100, h101, h102, h103⟩ := H
    have hc0 := sp_here_128 (tx := tx) (ln := ln) (p := at_) ht
    have hcq := sp_here_128 (tx := tx) (ln := ln) (p := sm_q tx ln pt at_) ht
    have hlk := sp_lk_lt (h := sp_here tx ln at_) (pt := pt)
    have hq1 : sm_q tx ln pt at_ ≤ at_ + 1 ∧ at_ ≤ sm_q tx ln pt at_ := by unfold sm_q; split <;> omega
    have hjd := jn_dig (sp_here tx ln (sm_q tx ln pt at_)) (by omega)
    refine z_go 3 _ [.int (jb true)] _ c_85_2 rfl ?_
    refine z_ifeq 195 6 c_85_3 rfl jb_t (fun h => absurd h (by decide)) (fun _ => ?_)
    refine z_go 7 _ [.ref 92] _ c_85_6 rfl ?_
    refine z_go 8 _ [.ref 92, .ref 92] _ c_85_7 rfl ?_
    refine z_getf (v := .int (jn at_)) 11 c_85_8 rfl h92 rfl ?_
    refine z_callv 14 6 77 1 92 c_85_11 rfl ⟨Nat.le_of_ble_eq_true rfl, Nat.le_of_ble_eq_true rfl⟩ rfl h92 [.ref 92, .int (jn at_)] rfl rfl [some (.ref 92), some (.int (jn at_))] rfl rfl (t_mch h92 h93 hl (by omega)) ?_
    show jZ _ _ _ _ [.int (jn (sp_here tx ln at_))] _ _
    refine z_go 15 _ [.int (jb pt), .int (jn (sp_here tx ln at_))] _ c_85_14 rfl ?_
    refine z_call 18 78 2 c_85_15 rfl ⟨Nat.le_of_ble_eq_true rfl, Nat.le_of_ble_eq_true rfl⟩ [.int (jn (sp_here tx ln at_)), .int (jb pt)] rfl rfl [some (.int (jn (sp_here tx ln at_))), some (.int (jb pt))] rfl rfl (t_mlk (by omega)) ?_
    show jZ _ _ _ _ [.int (jn (sp_lk (sp_here tx ln at_) pt))] _ _
    refine z_go 20 [some (.ref 92), some (.int (jn a)), some (.int (jb pt)), some (.int (jb true)), some (.int (jn (sp_lk (sp_here tx ln at_) pt))), z5, z6] [] _ c_85_18 rfl ?_
    refine z_cut 38 [some (.ref 92), some (.int (jn a)), some (.int (jb pt)), some (.int (jb true)), some (.int (jn (sp_lk (sp_here tx ln at_) pt))), z5, z6] [.int (jn (sm_q tx ln pt at_))] (fun kc => ?_) ?_
    · refine z_go 22 _ [.int (jn (sp_lk (sp_here tx ln at_) pt))] _ c_85_20 rfl ?_
      refine z_ifeq 34 25 c_85_22 rfl (jn_z (by omega)) (fun h1 => ?_) (fun h1 => ?_)
      · refine z_go 35 _ [.ref 92] _ c_85_34 rfl ?_
        refine z_getf (v := .int (jn at_)) 38 c_85_35 rfl h92 rfl ?_
        exact z_v (by unfold sm_q; rw [if_pos h1, Nat.add_zero]) kc
      · refine z_go 26 _ [.ref 92] _ c_85_25 rfl ?_
        refine z_getf (v := .int (jn at_)) 29 c_85_26 rfl h92 rfl ?_
        refine z_go 30 _ [.int (jn 1), .int (jn at_)] _ c_85_29 rfl ?_
        refine z_go 31 _ [.int ((jn at_) + (jn 1))] _ c_85_30 rfl ?_
        refine z_v (jn_add _ _) ?_
        refine z_go 38 _ [.int (jn (at_ + 1))] _ c_85_31 rfl ?_
        exact z_v (by unfold sm_q; rw [if_neg h1]) kc
    refine z_go 40 [some (.ref 92), some (.int (jn a)), some (.int (jb pt)), some (.int (jb true)), some (.int (jn (sp_lk (sp_here tx ln at_) pt))), some (.int (jn (sm_q tx ln pt at_))), z6] [] _ c_85_38 rfl ?_
    refine z_go 41 _ [.ref 92] _ c_85_40 rfl ?_
    refine z_go 43 _ [.int (jn (sm_q tx ln pt at_)), .ref 92] _ c_85_41 rfl ?_
    refine z_callv 46 6 77 1 92 c_85_43 rfl ⟨Nat.le_of_ble_eq_true rfl, Nat.le_of_ble_eq_true rfl⟩ rfl h92 [.ref 92, .int (jn (sm_q tx ln pt at_))] rfl rfl [some (.ref 92), some (.int (jn (sm_q tx ln pt at_)))] rfl rfl (t_mch h92 h93 hl (by omega)) ?_
    show jZ _ _ _ _ [.int (jn (sp_here tx ln (sm_q tx ln pt at_)))] _ _
    refine z_go 48 _ [.int (jn 48), .int (jn (sp_here tx ln (sm_q tx ln pt at_)))] _ c_85_46 rfl ?_
    refine z_go 49 _ [.int (((jn (sp_here tx ln (sm_q tx ln pt at_)))) - (jn 48))] _ c_85_48 rfl ?_
    refine z_go 51 [some (.ref 92), some (.int (jn a)), some (.int (jb pt)), some (.int (jb true)), some (.int (jn (sp_lk (sp_here tx ln at_) pt))), some (.int (jn (sm_q tx ln pt at_))), some (.int (((jn (sp_here tx ln (sm_q tx ln pt at_)))) - (jn 48)))] [] _ c_85_49 rfl ?_
    refine z_cut 69 [some (.ref 92), some (.int (jn a)), some (.int (jb pt)), some (.int (jb true)), some (.int (jn (sp_lk (sp_here tx ln at_) pt))), some (.int (jn (sm_q tx ln pt at_))), some (.int (((jn (sp_here tx ln (sm_q tx ln pt at_)))) - (jn 48)))] [.int (jb (decide (49 ≤ sp_here tx ln (sm_q tx ln pt at_) ∧ sp_here tx ln (sm_q tx ln pt at_) ≤ 57)))] (fun kc => ?_) ?_
    · refine z_go 53 _ [.int (((jn (sp_here tx ln (sm_q tx ln pt at_)))) - (jn 48))] _ c_85_51 rfl ?_
      refine z_go 54 _ [.int (jn 1), .int (((jn (sp_here tx ln (sm_q tx ln pt at_)))) - (jn 48))] _ c_85_53 rfl ?_
      refine z_iltR 68 57 c_85_54 rfl Iff.rfl (fun h1 => ?_) (fun h1 => ?_)
      · refine z_go 69 _ [.int (jn 0)] _ c_85_68 rfl ?_
        exact z_v (by rw [decide_eq_false (fun q => by have := hjd.1.mp h1; omega)]; rfl) kc
      · refine z_go 59 _ [.int (((jn (sp_here tx ln (sm_q tx ln pt at_)))) - (jn 48))] _ c_85_57 rfl ?_
        refine z_go 61 _ [.int (jn 9), .int (((jn (sp_here tx ln (sm_q tx ln pt at_)))) - (jn 48))] _ c_85_59 rfl ?_
        refine z_igtR 68 64 c_85_61 rfl Iff.rfl (fun h2 => ?_) (fun h2 => ?_)
        · refine z_go 69 _ [.int (jn 0)] _ c_85_68 rfl ?_
          exact z_v (by rw [decide_eq_false (fun q => by have := hjd.2.mp h2; omega)]; rfl) kc
        · refine z_go 65 _ [.int (jn 1)] _ c_85_64 rfl ?_
          refine z_go 69 _ [.int (jn 1)] _ c_85_65 rfl ?_
          exact z_v (by rw [decide_eq_true ⟨Nat.le_of_not_lt (fun q => h1 (hjd.1.mpr q)), Nat.le_of_not_lt (fun q => h2 (hjd.2.mpr q))⟩]; rfl) kc
    refine z_go 70 [some (.ref 92), some (.int (jn a)), some (.int (jb pt)), some (.int (jb (decide (49 ≤ sp_here tx ln (sm_q tx ln pt at_) ∧ sp_here tx ln (sm_q tx ln pt at_) ≤ 57)))), some (.int (jn (sp_lk (sp_here tx ln at_) pt))), some (.int (jn (sm_q tx ln pt at_))), some (.int (((jn (sp_here tx ln (sm_q tx ln pt at_)))) - (jn 48)))] [] _ c_85_69 rfl ?_
    refine z_go 71 _ [.int (jb (decide (49 ≤ sp_here tx ln (sm_q tx ln pt at_) ∧ sp_here tx ln (sm_q tx ln pt at_) ≤ 57)))] _ c_85_70 rfl ?_
    refine z_ifeq 192 74 c_85_71 rfl jb_t (fun hd => ?_) (fun hd => ?_)
    · refine z_go 2 _ [] _ c_85_192 rfl ?_
      refine z_go 3 _ [.int (jb (decide (49 ≤ sp_here tx ln (sm_q tx ln pt at_) ∧ sp_here tx ln (sm_q tx ln pt at_) ≤ 57)))] _ c_85_2 rfl ?_
      refine z_ifeq 195 6 c_85_3 rfl jb_t (fun _ => ?_) (fun q => absurd hd q)
      refine z_ret c_85_195 ?_
      rw [show sm_clo tx ln pt A a (k + 1) (at_, gd, bm, oa, ol) = (at_, gd, bm, oa, ol) from by rw [sm_clo, if_neg (of_decide_eq_false hd)]]
      exact ⟨rfl, H0, sm_r _ _ M⟩
    · have hdt : 49 ≤ sp_here tx ln (sm_q tx ln pt at_) ∧ sp_here tx ln (sm_q tx ln pt at_) ≤ 57 := of_decide_eq_true (by cases h : decide (49 ≤ sp_here tx ln (sm_q tx ln pt at_) ∧ sp_here tx ln (sm_q tx ln pt at_) ≤ 57) <;> simp_all)
      have hqlt := here_pos (tx := tx) (ln := ln) (p := sm_q tx ln pt at_) (by omega)
      have hmore : decide (49 ≤ sp_here tx ln (sm_q tx ln pt at_) ∧ sp_here tx ln (sm_q tx ln pt at_) ≤ 57) = true := decide_eq_true hdt
      rw [hmore, jn_sub (show 48 ≤ sp_here tx ln (sm_q tx ln pt at_) by omega)]
      show jZ _ _ _ [some (.ref 92), some (.int (jn a)), some (.int (jb pt)), some (.int (jb true)), some (.int (jn (sp_lk (sp_here tx ln at_) pt))), some (.int (jn (sm_q tx ln pt at_))), some (.int (jn (sp_here tx ln (sm_q tx ln pt at_) - 48)))] _ _ _
      have hD10 : sp_here tx ln (sm_q tx ln pt at_) - 48 < 10 := by omega
      refine z_go 75 _ [.ref 92] _ c_85_74 rfl ?_
      refine z_go 77 _ [.int (jn (sm_q tx ln pt at_)), .ref 92] _ c_85_75 rfl ?_
      refine z_go 78 _ [.int (jn 1), .int (jn (sm_q tx ln pt at_)), .ref 92] _ c_85_77 rfl ?_
      refine z_go 79 _ [.int ((jn (sm_q tx ln pt at_)) + (jn 1)), .ref 92] _ c_85_78 rfl ?_
      refine z_v (jn_add _ _) ?_
      refine z_putf (M' := jm [(92, mW w ln ((sm_q tx ln pt at_) + 1) n gd)] M) 82 c_85_79 rfl h92 (rfl) (Nat.le_of_ble_eq_true rfl) rfl ?_
      refine z_go 83 _ [.ref 92] _ c_85_82 rfl ?_
      refine z_getf (v := .ref 102) 86 c_85_83 rfl rfl rfl ?_
      refine z_go 88 _ [.int (jn (sp_here tx ln (sm_q tx ln pt at_) - 48)), .ref 102] _ c_85_86 rfl ?_
      refine z_iald 89 c_85_88 rfl h102 (Or.inl rfl) (by omega) (by omega) ?_
      show jZ _ _ _ _ ([.int (jo (oa (sp_here tx ln (sm_q tx ln pt at_) - 48)))]) _ _
      cases ho : oa (sp_here tx ln (sm_q tx ln pt at_) - 48) with
      | none =>
        show jZ _ _ _ _ [.int (jo none)] _ _
        refine z_ifge 112 92 c_85_89 rfl (jo_lt (by intro k q; cases q)) (fun hz => ?_) (fun hz => ?_)
        · refine z_go 93 _ [.ref 92] _ c_85_92 rfl ?_
          refine z_getf (v := .ref 102) 96 c_85_93 rfl rfl rfl ?_
          refine z_go 98 _ [.int (jn (sp_here tx ln (sm_q tx ln pt at_) - 48)), .ref 102] _ c_85_96 rfl ?_
          refine z_go 99 _ [.int (jn a), .int (jn (sp_here tx ln (sm_q tx ln pt at_) - 48)), .ref 102] _ c_85_98 rfl ?_
          refine z_iast (M' := jm [(102, .inl (0, 10, .inl (jao (nu oa (sp_here tx ln (sm_q tx ln pt at_) - 48) (some a))))), (92, mW w ln ((sm_q tx ln pt at_) + 1) n gd)] M) 100 c_85_99 rfl h102 (by omega) (by omega) ((congrArg (fun f => jx_st _ 102 (.inl (0, 10, .inl f))) (jao_upd (f := oa) (k := sp_here tx ln (sm_q tx ln pt at_) - 48) (x := some a))).trans rfl) ?_
          refine z_go 101 _ [.ref 92] _ c_85_100 rfl ?_
          refine z_getf (v := .ref 103) 104 c_85_101 rfl rfl rfl ?_
          refine z_go 106 _ [.int (jn (sp_here tx ln (sm_q tx ln pt at_) - 48)), .ref 103] _ c_85_104 rfl ?_
          refine z_go 108 _ [.int (jn (sp_lk (sp_here tx ln at_) pt)), .int (jn (sp_here tx ln (sm_q tx ln pt at_) - 48)), .ref 103] _ c_85_106 rfl ?_
          refine z_iast (M' := jm [(103, .inl (0, 10, .inl (ja (nu ol (sp_here tx ln (sm_q tx ln pt at_) - 48) (sp_lk (sp_here tx ln at_) pt))))), (102, .inl (0, 10, .inl (jao (nu oa (sp_here tx ln (sm_q tx ln pt at_) - 48) (some a))))), (92, mW w ln ((sm_q tx ln pt at_) + 1) n gd)] M) 109 c_85_108 rfl h103 (by omega) (by omega) (by rw [ja_upd]; exact rfl) ?_
          refine z_go 192 _ [] _ c_85_109 rfl ?_
          refine z_go 2 _ [] _ c_85_192 rfl ?_
          rw [show sm_clo tx ln pt A a (k + 1) (at_, gd, bm, oa, ol) = sm_clo tx ln pt A a k (sm_q tx ln pt at_ + 1, gd, bm, nu oa (sp_here tx ln (sm_q tx ln pt at_) - 48) (some a), nu ol (sp_here tx ln (sm_q tx ln pt at_) - 48) (sp_lk (sp_here tx ln at_) pt)) by rw [sm_clo, if_pos hdt, ho]]
          refine (ih (M := jm [(103, .inl (0, 10, .inl (ja (nu ol (sp_here tx ln (sm_q tx ln pt at_) - 48) (sp_lk (sp_here tx ln at_) pt))))), (102, .inl (0, 10, .inl (jao (nu oa (sp_here tx ln (sm_q tx ln pt at_) - 48) (some a))))), (92, mW w ln ((sm_q tx ln pt at_) + 1) n gd)] M) (by omega) (by omega) ⟨rfl, h93, ⟨h94, h95, h96, h97, h98, h99⟩, h100, h101, rfl, rfl⟩ hbm (fun d hd k q => ?_)).mono fun r M1 q => ⟨q.1, q.2.1, (sm_jm rfl).tr q.2.2⟩
          by_cases e : d = sp_here tx ln (sm_q tx ln pt at_) - 48
          · subst e; rw [nu_at'] at q; cases q; rw [nu_at']; exact ⟨ha, hlk⟩
          · rw [nu_ne e] at q; rw [nu_ne e]; exact hoa d hd k q
        · exact absurd rfl hz
      | some f =>
        have hof := hoa _ hD10 f ho
        show jZ _ _ _ _ [.int (jn f)] _ _
        refine z_ifge 112 92 c_85_89 rfl (jn_nl (by omega)) (fun hz => ?_) (fun hz => ?_)
        · exact hz.elim
        · have hofo : ∀ k, oa (sp_here tx ln (sm_q tx ln pt at_) - 48) = some k → k < 2 ^ 31 := fun k q => by have := (hoa _ hD10 k q).1; omega
          refine z_go 113 _ [.ref 92] _ c_85_112 rfl ?_
          refine z_cut 152 [some (.ref 92), some (.int (jn a)), some (.int (jb pt)), some (.int (jb true)), some (.int (jn (sp_lk (sp_here tx ln at_) pt))), some (.int (jn (sm_q tx ln pt at_))), some (.int (jn (sp_here tx ln (sm_q tx ln pt at_) - 48)))] [.int (jb (gd && decide (sp_lk (sp_here tx ln at_) pt = 0 ∨ ol (sp_here tx ln (sm_q tx ln pt at_) - 48) = 0 ∨ sp_lk (sp_here tx ln at_) pt = ol (sp_here tx ln (sm_q tx ln pt at_) - 48)))), .ref 92] (fun kc => ?_) ?_
          · refine z_go 114 _ [.ref 92, .ref 92] _ c_85_113 rfl ?_
            refine z_getf (v := .int (jb gd)) 117 c_85_114 rfl rfl rfl ?_
            refine z_ifeq 151 120 c_85_117 rfl jb_t (fun g0 => ?_) (fun g0 => ?_)
            · refine z_go 152 _ [.int (jn 0), .ref 92] _ c_85_151 rfl ?_
              exact z_v (by rw [g0]; rfl) kc
            · have g0t : gd = true := by cases gd <;> simp_all
              refine z_go 122 _ [.int (jn (sp_lk (sp_here tx ln at_) pt)), .ref 92] _ c_85_120 rfl ?_
              refine z_ifeq 147 125 c_85_122 rfl (jn_z (by omega)) (fun g1 => ?_) (fun g1 => ?_)
              · refine z_go 148 _ [.int (jn 1), .ref 92] _ c_85_147 rfl ?_
                refine z_go 152 _ [.int (jn 1), .ref 92] _ c_85_148 rfl ?_
                exact z_v (by rw [g0t, decide_eq_true (show sp_lk (sp_here tx ln at_) pt = 0 ∨ ol (sp_here tx ln (sm_q tx ln pt at_) - 48) = 0 ∨ sp_lk (sp_here tx ln at_) pt = ol (sp_here tx ln (sm_q tx ln pt at_) - 48) from Or.inl g1)]; rfl) kc
              · refine z_go 126 _ [.ref 92, .ref 92] _ c_85_125 rfl ?_
                refine z_getf (v := .ref 103) 129 c_85_126 rfl rfl rfl ?_
                refine z_go 131 _ [.int (jn (sp_here tx ln (sm_q tx ln pt at_) - 48)), .ref 103, .ref 92] _ c_85_129 rfl ?_
                refine z_iald 132 c_85_131 rfl h103 (Or.inl rfl) (by omega) (by omega) ?_
                show jZ _ _ _ _ ([.int (jn (ol (sp_here tx ln (sm_q tx ln pt at_) - 48))), .ref 92]) _ _
                refine z_ifeq 147 135 c_85_132 rfl (jn_z (by omega)) (fun g2 => ?_) (fun g2 => ?_)
                · refine z_go 148 _ [.int (jn 1), .ref 92] _ c_85_147 rfl ?_
                  refine z_go 152 _ [.int (jn 1), .ref 92] _ c_85_148 rfl ?_
                  exact z_v (by rw [g0t, decide_eq_true (show sp_lk (sp_here tx ln at_) pt = 0 ∨ ol (sp_here tx ln (sm_q tx ln pt at_) - 48) = 0 ∨ sp_lk (sp_here tx ln at_) pt = ol (sp_here tx ln (sm_q tx ln pt at_) - 48) from Or.inr (Or.inl g2))]; rfl) kc
                · refine z_go 137 _ [.int (jn (sp_lk (sp_here tx ln at_) pt)), .ref 92] _ c_85_135 rfl ?_
                  refine z_go 138 _ [.ref 92, .int (jn (sp_lk (sp_here tx ln at_) pt)), .ref 92] _ c_85_137 rfl ?_
                  refine z_getf (v := .ref 103) 141 c_85_138 rfl rfl rfl ?_
                  refine z_go 143 _ [.int (jn (sp_here tx ln (sm_q tx ln pt at_) - 48)), .ref 103, .int (jn (sp_lk (sp_here tx ln at_) pt)), .ref 92] _ c_85_141 rfl ?_
                  refine z_iald 144 c_85_143 rfl h103 (Or.inl rfl) (by omega) (by omega) ?_
                  show jZ _ _ _ _ ([.int (jn (ol (sp_here tx ln (sm_q tx ln pt at_) - 48))), .int (jn (sp_lk (sp_here tx ln at_) pt)), .ref 92]) _ _
                  refine z_ine 151 147 c_85_144 rfl (jn_inj (by omega) (by omega)) (fun g3 => ?_) (fun g3 => ?_)
                  · refine z_go 148 _ [.int (jn 1), .ref 92] _ c_85_147 rfl ?_
                    refine z_go 152 _ [.int (jn 1), .ref 92] _ c_85_148 rfl ?_
                    exact z_v (by rw [g0t, decide_eq_true (show sp_lk (sp_here tx ln at_) pt = 0 ∨ ol (sp_here tx ln (sm_q tx ln pt at_) - 48) = 0 ∨ sp_lk (sp_here tx ln at_) pt = ol (sp_here tx ln (sm_q tx ln pt at_) - 48) from Or.inr (Or.inr g3))]; rfl) kc
                  · refine z_go 152 _ [.int (jn 0), .ref 92] _ c_85_151 rfl ?_
                    exact z_v (by rw [decide_eq_false (show ¬ (sp_lk (sp_here tx ln at_) pt = 0 ∨ ol (sp_here tx ln (sm_q tx ln pt at_) - 48) = 0 ∨ sp_lk (sp_here tx ln at_) pt = ol (sp_here tx ln (sm_q tx ln pt at_) - 48)) from fun q => q.elim g1 (fun q => q.elim g2 g3)), Bool.and_false]; rfl) kc
          refine z_putf (M' := jm [(92, mW w ln ((sm_q tx ln pt at_) + 1) n (gd && decide (sp_lk (sp_here tx ln at_) pt = 0 ∨ ol (sp_here tx ln (sm_q tx ln pt at_) - 48) = 0 ∨ sp_lk (sp_here tx ln at_) pt = ol (sp_here tx ln (sm_q tx ln pt at_) - 48))))] M) 155 c_85_152 rfl rfl (jb_ok) (Nat.le_of_ble_eq_true rfl) (jm_w rfl) ?_
          refine z_go 156 _ [.ref 92] _ c_85_155 rfl ?_
          refine z_go 157 _ [.ref 92, .ref 92] _ c_85_156 rfl ?_
          refine z_getf (v := .ref 102) 160 c_85_157 rfl rfl rfl ?_
          refine z_go 162 _ [.int (jn (sp_here tx ln (sm_q tx ln pt at_) - 48)), .ref 102, .ref 92] _ c_85_160 rfl ?_
          refine z_iald 163 c_85_162 rfl h102 (Or.inl rfl) (by omega) (by omega) ?_
          show jZ _ _ _ _ ([.int (jo (oa (sp_here tx ln (sm_q tx ln pt at_) - 48))), .ref 92]) _ _
          rw [ho]
          show jZ _ _ _ _ [.int (jn f), .ref 92] _ _
          refine z_go 164 _ [.int (jn a), .int (jn f), .ref 92] _ c_85_163 rfl ?_
          refine z_cut 181 [some (.ref 92), some (.int (jn a)), some (.int (jb pt)), some (.int (jb true)), some (.int (jn (sp_lk (sp_here tx ln at_) pt))), some (.int (jn (sm_q tx ln pt at_))), some (.int (jn (sp_here tx ln (sm_q tx ln pt at_) - 48)))] [.int (jn (if sp_lk (sp_here tx ln at_) pt ≠ 0 then sp_lk (sp_here tx ln at_) pt else ol (sp_here tx ln (sm_q tx ln pt at_) - 48))), .int (jn a), .int (jn f), .ref 92] (fun kc => ?_) ?_
          · refine z_go 166 _ [.int (jn (sp_lk (sp_here tx ln at_) pt)), .int (jn a), .int (jn f), .ref 92] _ c_85_164 rfl ?_
            refine z_ifeq 174 169 c_85_166 rfl (jn_z (by omega)) (fun g1 => ?_) (fun g1 => ?_)
            · refine z_go 175 _ [.ref 92, .int (jn a), .int (jn f), .ref 92] _ c_85_174 rfl ?_
              refine z_getf (v := .ref 103) 178 c_85_175 rfl rfl rfl ?_
              refine z_go 180 _ [.int (jn (sp_here tx ln (sm_q tx ln pt at_) - 48)), .ref 103, .int (jn a), .int (jn f), .ref 92] _ c_85_178 rfl ?_
              refine z_iald 181 c_85_180 rfl h103 (Or.inl rfl) (by omega) (by omega) ?_
              show jZ _ _ _ _ ([.int (jn (ol (sp_here tx ln (sm_q tx ln pt at_) - 48))), .int (jn a), .int (jn f), .ref 92]) _ _
              exact z_v (by rw [if_neg (fun q => q g1)]) kc
            · refine z_go 171 _ [.int (jn (sp_lk (sp_here tx ln at_) pt)), .int (jn a), .int (jn f), .ref 92] _ c_85_169 rfl ?_
              refine z_go 181 _ [.int (jn (sp_lk (sp_here tx ln at_) pt)), .int (jn a), .int (jn f), .ref 92] _ c_85_171 rfl ?_
              exact z_v (by rw [if_pos g1]) kc
          have hll : (if sp_lk (sp_here tx ln at_) pt ≠ 0 then sp_lk (sp_here tx ln at_) pt else ol (sp_here tx ln (sm_q tx ln pt at_) - 48)) < 8 := by split <;> omega
          have HM : mRd (jm [(92, mW w ln ((sm_q tx ln pt at_) + 1) n (gd && decide (sp_lk (sp_here tx ln at_) pt = 0 ∨ ol (sp_here tx ln (sm_q tx ln pt at_) - 48) = 0 ∨ sp_lk (sp_here tx ln at_) pt = ol (sp_here tx ln (sm_q tx ln pt at_) - 48))))] M) w tx ln (sm_q tx ln pt at_ + 1) n (gd && decide (sp_lk (sp_here tx ln at_) pt = 0 ∨ ol (sp_here tx ln (sm_q tx ln pt at_) - 48) = 0 ∨ sp_lk (sp_here tx ln at_) pt = ol (sp_here tx ln (sm_q tx ln pt at_) - 48))) A bm bk oa ol := ⟨rfl, h93, ⟨h94, h95, h96, h97, h98, h99⟩, h100, h101, h102, h103⟩
          refine z_callvV 184 6 84 3 92 c_85_181 rfl ⟨Nat.le_of_ble_eq_true rfl, Nat.le_of_ble_eq_true rfl⟩ rfl rfl [.ref 92, .int (jn f), .int (jn a), .int (jn (if sp_lk (sp_here tx ln at_) pt ≠ 0 then sp_lk (sp_here tx ln at_) pt else ol (sp_here tx ln (sm_q tx ln pt at_) - 48)))] rfl rfl [some (.ref 92), some (.int (jn f)), some (.int (jn a)), some (.int (jn (if sp_lk (sp_here tx ln at_) pt ≠ 0 then sp_lk (sp_here tx ln at_) pt else ol (sp_here tx ln (sm_q tx ln pt at_) - 48)))), none, none, none, none] rfl rfl (t_mbind (d := d) (i := f) (j := a) (link := if sp_lk (sp_here tx ln at_) pt ≠ 0 then sp_lk (sp_here tx ln at_) pt else ol (sp_here tx ln (sm_q tx ln pt at_) - 48)) HM hn (by omega) ha hll hbm hA) ?_
          intro M1 ⟨hQ, qs⟩
          have hQ0 := hQ
          obtain ⟨q92, q93, ⟨q94, q95, q96, q97, q98, q99⟩, q100, q101, q102, q103⟩ := hQ
          show jZ _ _ _ _ [] _ _
          refine z_go 185 _ [.ref 92] _ c_85_184 rfl ?_
          refine z_getf (v := .ref 102) 188 c_85_185 rfl q92 rfl ?_
          refine z_go 190 _ [.int (jn (sp_here tx ln (sm_q tx ln pt at_) - 48)), .ref 102] _ c_85_188 rfl ?_
          refine z_go 191 _ [.int (jo none), .int (jn (sp_here tx ln (sm_q tx ln pt at_) - 48)), .ref 102] _ c_85_190 rfl ?_
          refine z_iast (M' := jm [(102, .inl (0, 10, .inl (jao (nu oa (sp_here tx ln (sm_q tx ln pt at_) - 48) none))))] M1) 192 c_85_191 rfl q102 (by omega) (by omega) ((congrArg (fun f => jx_st _ 102 (.inl (0, 10, .inl f))) (jao_upd (f := oa) (k := sp_here tx ln (sm_q tx ln pt at_) - 48) (x := none))).trans rfl) ?_
          refine z_go 2 _ [] _ c_85_192 rfl ?_
          rw [show sm_clo tx ln pt A a (k + 1) (at_, gd, bm, oa, ol) = sm_clo tx ln pt A a k (sm_q tx ln pt at_ + 1, (gd && decide (sp_lk (sp_here tx ln at_) pt = 0 ∨ ol (sp_here tx ln (sm_q tx ln pt at_) - 48) = 0 ∨ sp_lk (sp_here tx ln at_) pt = ol (sp_here tx ln (sm_q tx ln pt at_) - 48))) && sm_ok A bm f a (if sp_lk (sp_here tx ln at_) pt ≠ 0 then sp_lk (sp_here tx ln at_) pt else ol (sp_here tx ln (sm_q tx ln pt at_) - 48)), sm_put bm f a (sm_k (A f) (A a) (if sp_lk (sp_here tx ln at_) pt ≠ 0 then sp_lk (sp_here tx ln at_) pt else ol (sp_here tx ln (sm_q tx ln pt at_) - 48))), nu oa (sp_here tx ln (sm_q tx ln pt at_) - 48) none, ol) by rw [sm_clo, if_pos hdt, ho]]
          refine (ih (M := jm [(102, .inl (0, 10, .inl (jao (nu oa (sp_here tx ln (sm_q tx ln pt at_) - 48) none))))] M1) (by omega) (by omega) ⟨q92, q93, ⟨q94, q95, q96, q97, q98, q99⟩, q100, q101, rfl, q103⟩ (bmS_put hbm (sm_k_8 hll)) (fun d hd k q => ?_)).mono fun r M2 q => ⟨q.1, q.2.1, (((sm_jm rfl).tr qs).tr (sm_jm rfl)).tr q.2.2⟩
          by_cases e : d = sp_here tx ln (sm_q tx ln pt at_) - 48
          · subst e; rw [nu_at'] at q; cases q
          · rw [nu_ne e] at q; exact hoa d hd k q
theorem t_mclo {d : Nat} {w : MW} {tx : Nat → Nat} {ln at_ n : Nat} {gd : Bool} {A : Nat → MA} {bm bk : Nat → Nat} {oa : Nat → Option Nat} {ol : Nat → Nat} {M : jx_M} {a : Nat} {pt : Bool} (hl : ln ≤ 40) (ht : ∀ j, tx j < 127) (hn : n ≤ 40) (ha : a < n) (hA : ∀ q, q < n → aL A q < 64) (hat : at_ ≤ ln) (H : mRd M w tx ln at_ n gd A bm bk oa ol) (hbm : bmS n bm) (hoa : ∀ d, d < 10 → ∀ k, oa d = some k → k < n ∧ ol d < 8) : jZ (d + 1) 85 0 [some (.ref 92), some (.int (jn a)), some (.int (jb pt)), none, none, none, none] [] M (jV none fun M' => mRd M' w tx ln (sm_clo tx ln pt A a 40 (at_, gd, bm, oa, ol)).1 n (sm_clo tx ln pt A a 40 (at_, gd, bm, oa, ol)).2.1 A (sm_clo tx ln pt A a 40 (at_, gd, bm, oa, ol)).2.2.1 bk (sm_clo tx ln pt A a 40 (at_, gd, bm, oa, ol)).2.2.2.1 (sm_clo tx ln pt A a 40 (at_, gd, bm, oa, ol)).2.2.2.2 ∧ sm 92 103 M M') := by
  refine z_go 1 _ [.int (jn 1)] _ c_85_0 rfl ?_
  refine z_go 2 [some (.ref 92), some (.int (jn a)), some (.int (jb pt)), some (.int (jn 1)), none, none, none] [] _ c_85_1 rfl ?_
  exact t_mclo_l (k := 40) hl ht hn ha hA (by omega) hat H hbm hoa
