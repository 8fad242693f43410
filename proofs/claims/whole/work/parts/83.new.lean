/-! WHAT THE LAW MAKES; printed by wip/whole/p83.py -/
theorem c_1_0 : jx_cd 1 0 = some (o_ald 0 1) := rfl
theorem c_1_1 : jx_cd 1 1 = some (o_oinit) := rfl
theorem c_1_4 : jx_cd 1 4 = some (o_ald 0 1) := rfl
theorem c_1_5 : jx_cd 1 5 = some (o_push (.int 10) 2) := rfl
theorem c_1_7 : jx_cd 1 7 = some (o_newa 0 jx_zi) := rfl
theorem c_1_9 : jx_cd 1 9 = some (o_putf 0 0 jx_okR) := rfl
theorem c_1_12 : jx_cd 1 12 = some (o_ald 0 1) := rfl
theorem c_1_13 : jx_cd 1 13 = some (o_push (.int 100) 2) := rfl
theorem c_1_15 : jx_cd 1 15 = some (o_newa 0 jx_zi) := rfl
theorem c_1_17 : jx_cd 1 17 = some (o_putf 0 1 jx_okR) := rfl
theorem c_1_20 : jx_cd 1 20 = some (o_ald 0 1) := rfl
theorem c_1_21 : jx_cd 1 21 = some (o_push (.int 60) 2) := rfl
theorem c_1_23 : jx_cd 1 23 = some (o_newa 0 jx_zi) := rfl
theorem c_1_25 : jx_cd 1 25 = some (o_putf 0 2 jx_okR) := rfl
theorem c_1_28 : jx_cd 1 28 = some (o_ret) := rfl
theorem c_11_0 : jx_cd 11 0 = some (o_ald 0 1) := rfl
theorem c_11_1 : jx_cd 11 1 = some (o_oinit) := rfl
theorem c_11_4 : jx_cd 11 4 = some (o_ald 0 1) := rfl
theorem c_11_5 : jx_cd 11 5 = some (o_new 0 [.null, .null, .null, .int 0, .int 0]) := rfl
theorem c_11_8 : jx_cd 11 8 = some (o_dup) := rfl
theorem c_11_9 : jx_cd 11 9 = some (o_callv 0 1 0) := rfl
theorem c_11_12 : jx_cd 11 12 = some (o_putf 1 3 jx_okR) := rfl
theorem c_11_15 : jx_cd 11 15 = some (o_ret) := rfl
theorem c_14_0 : jx_cd 14 0 = some (o_ald 0 1) := rfl
theorem c_14_1 : jx_cd 14 1 = some (o_oinit) := rfl
theorem c_14_4 : jx_cd 14 4 = some (o_ald 0 1) := rfl
theorem c_14_5 : jx_cd 14 5 = some (o_push (.int 10) 2) := rfl
theorem c_14_7 : jx_cd 14 7 = some (o_newa 0 jx_zi) := rfl
theorem c_14_9 : jx_cd 14 9 = some (o_putf 2 0 jx_okR) := rfl
theorem c_14_12 : jx_cd 14 12 = some (o_ald 0 1) := rfl
theorem c_14_13 : jx_cd 14 13 = some (o_push (.int 10) 2) := rfl
theorem c_14_15 : jx_cd 14 15 = some (o_newa 0 jx_zi) := rfl
theorem c_14_17 : jx_cd 14 17 = some (o_putf 2 1 jx_okR) := rfl
theorem c_14_20 : jx_cd 14 20 = some (o_ret) := rfl
theorem c_22_0 : jx_cd 22 0 = some (o_ald 0 1) := rfl
theorem c_22_1 : jx_cd 22 1 = some (o_oinit) := rfl
theorem c_22_4 : jx_cd 22 4 = some (o_ald 0 1) := rfl
theorem c_22_5 : jx_cd 22 5 = some (o_push (.int 40) 2) := rfl
theorem c_22_7 : jx_cd 22 7 = some (o_newa 1 jx_zi) := rfl
theorem c_22_9 : jx_cd 22 9 = some (o_putf 3 0 jx_okR) := rfl
theorem c_22_12 : jx_cd 22 12 = some (o_ald 0 1) := rfl
theorem c_22_13 : jx_cd 22 13 = some (o_push (.int 40) 2) := rfl
theorem c_22_15 : jx_cd 22 15 = some (o_newa 0 jx_zi) := rfl
theorem c_22_17 : jx_cd 22 17 = some (o_putf 3 4 jx_okR) := rfl
theorem c_22_20 : jx_cd 22 20 = some (o_ald 0 1) := rfl
theorem c_22_21 : jx_cd 22 21 = some (o_push (.int 40) 2) := rfl
theorem c_22_23 : jx_cd 22 23 = some (o_newa 0 jx_zi) := rfl
theorem c_22_25 : jx_cd 22 25 = some (o_putf 3 5 jx_okR) := rfl
theorem c_22_28 : jx_cd 22 28 = some (o_ald 0 1) := rfl
theorem c_22_29 : jx_cd 22 29 = some (o_push (.int 40) 2) := rfl
theorem c_22_31 : jx_cd 22 31 = some (o_newa 0 jx_zi) := rfl
theorem c_22_33 : jx_cd 22 33 = some (o_putf 3 7 jx_okR) := rfl
theorem c_22_36 : jx_cd 22 36 = some (o_ald 0 1) := rfl
theorem c_22_37 : jx_cd 22 37 = some (o_push (.int 40) 2) := rfl
theorem c_22_39 : jx_cd 22 39 = some (o_newa 0 jx_zi) := rfl
theorem c_22_41 : jx_cd 22 41 = some (o_putf 3 8 jx_okR) := rfl
theorem c_22_44 : jx_cd 22 44 = some (o_ald 0 1) := rfl
theorem c_22_45 : jx_cd 22 45 = some (o_push (.int 40) 2) := rfl
theorem c_22_47 : jx_cd 22 47 = some (o_newa 0 jx_zi) := rfl
theorem c_22_49 : jx_cd 22 49 = some (o_putf 3 9 jx_okR) := rfl
theorem c_22_52 : jx_cd 22 52 = some (o_ald 0 1) := rfl
theorem c_22_53 : jx_cd 22 53 = some (o_push (.int 10) 2) := rfl
theorem c_22_55 : jx_cd 22 55 = some (o_newa 0 jx_zi) := rfl
theorem c_22_57 : jx_cd 22 57 = some (o_putf 3 11 jx_okR) := rfl
theorem c_22_60 : jx_cd 22 60 = some (o_ald 0 1) := rfl
theorem c_22_61 : jx_cd 22 61 = some (o_push (.int 10) 2) := rfl
theorem c_22_63 : jx_cd 22 63 = some (o_newa 0 jx_zi) := rfl
theorem c_22_65 : jx_cd 22 65 = some (o_putf 3 12 jx_okR) := rfl
theorem c_22_68 : jx_cd 22 68 = some (o_ald 0 1) := rfl
theorem c_22_69 : jx_cd 22 69 = some (o_push (.int 40) 2) := rfl
theorem c_22_71 : jx_cd 22 71 = some (o_newa 0 jx_zi) := rfl
theorem c_22_73 : jx_cd 22 73 = some (o_putf 3 13 jx_okR) := rfl
theorem c_22_76 : jx_cd 22 76 = some (o_ret) := rfl
theorem c_43_0 : jx_cd 43 0 = some (o_ald 0 1) := rfl
theorem c_43_1 : jx_cd 43 1 = some (o_oinit) := rfl
theorem c_43_4 : jx_cd 43 4 = some (o_ald 0 1) := rfl
theorem c_43_5 : jx_cd 43 5 = some (o_push (.int 12) 2) := rfl
theorem c_43_7 : jx_cd 43 7 = some (o_newa 4 jx_zq) := rfl
theorem c_43_10 : jx_cd 43 10 = some (o_putf 4 0 jx_okR) := rfl
theorem c_43_13 : jx_cd 43 13 = some (o_ald 0 1) := rfl
theorem c_43_14 : jx_cd 43 14 = some (o_push (.int 12) 2) := rfl
theorem c_43_16 : jx_cd 43 16 = some (o_newa 0 jx_zi) := rfl
theorem c_43_18 : jx_cd 43 18 = some (o_putf 4 1 jx_okR) := rfl
theorem c_43_21 : jx_cd 43 21 = some (o_push (.int 0) 1) := rfl
theorem c_43_22 : jx_cd 43 22 = some (o_ist 1 1) := rfl
theorem c_43_23 : jx_cd 43 23 = some (o_ild 1 1) := rfl
theorem c_43_24 : jx_cd 43 24 = some (o_push (.int 12) 2) := rfl
theorem c_43_26 : jx_cd 43 26 = some (o_ige 48) := rfl
theorem c_43_29 : jx_cd 43 29 = some (o_ald 0 1) := rfl
theorem c_43_30 : jx_cd 43 30 = some (o_getf 4 0) := rfl
theorem c_43_33 : jx_cd 43 33 = some (o_ild 1 1) := rfl
theorem c_43_34 : jx_cd 43 34 = some (o_new 0 [.null, .null, .null, .int 0, .int 0]) := rfl
theorem c_43_37 : jx_cd 43 37 = some (o_dup) := rfl
theorem c_43_38 : jx_cd 43 38 = some (o_callv 0 1 0) := rfl
theorem c_43_41 : jx_cd 43 41 = some (o_aast 0) := rfl
theorem c_43_42 : jx_cd 43 42 = some (o_iinc 1 1) := rfl
theorem c_43_45 : jx_cd 43 45 = some (o_goto 23) := rfl
theorem c_43_48 : jx_cd 43 48 = some (o_ret) := rfl
theorem c_69_0 : jx_cd 69 0 = some (o_ald 0 1) := rfl
theorem c_69_1 : jx_cd 69 1 = some (o_oinit) := rfl
theorem c_69_4 : jx_cd 69 4 = some (o_ald 0 1) := rfl
theorem c_69_5 : jx_cd 69 5 = some (o_push (.int 40) 2) := rfl
theorem c_69_7 : jx_cd 69 7 = some (o_newa 0 jx_zi) := rfl
theorem c_69_9 : jx_cd 69 9 = some (o_putf 6 2 jx_okR) := rfl
theorem c_69_12 : jx_cd 69 12 = some (o_ald 0 1) := rfl
theorem c_69_13 : jx_cd 69 13 = some (o_push (.int 40) 2) := rfl
theorem c_69_15 : jx_cd 69 15 = some (o_newa 0 jx_zi) := rfl
theorem c_69_17 : jx_cd 69 17 = some (o_putf 6 5 jx_okR) := rfl
theorem c_69_20 : jx_cd 69 20 = some (o_ald 0 1) := rfl
theorem c_69_21 : jx_cd 69 21 = some (o_push (.int 40) 2) := rfl
theorem c_69_23 : jx_cd 69 23 = some (o_newa 2 jx_zi) := rfl
theorem c_69_25 : jx_cd 69 25 = some (o_putf 6 6 jx_okR) := rfl
theorem c_69_28 : jx_cd 69 28 = some (o_ald 0 1) := rfl
theorem c_69_29 : jx_cd 69 29 = some (o_push (.int 40) 2) := rfl
theorem c_69_31 : jx_cd 69 31 = some (o_newa 0 jx_zi) := rfl
theorem c_69_33 : jx_cd 69 33 = some (o_putf 6 7 jx_okR) := rfl
theorem c_69_36 : jx_cd 69 36 = some (o_ald 0 1) := rfl
theorem c_69_37 : jx_cd 69 37 = some (o_push (.int 40) 2) := rfl
theorem c_69_39 : jx_cd 69 39 = some (o_newa 0 jx_zi) := rfl
theorem c_69_41 : jx_cd 69 41 = some (o_putf 6 8 jx_okR) := rfl
theorem c_69_44 : jx_cd 69 44 = some (o_ald 0 1) := rfl
theorem c_69_45 : jx_cd 69 45 = some (o_push (.int 40) 2) := rfl
theorem c_69_47 : jx_cd 69 47 = some (o_newa 2 jx_zi) := rfl
theorem c_69_49 : jx_cd 69 49 = some (o_putf 6 9 jx_okR) := rfl
theorem c_69_52 : jx_cd 69 52 = some (o_ald 0 1) := rfl
theorem c_69_53 : jx_cd 69 53 = some (o_push (.int 40) 2) := rfl
theorem c_69_55 : jx_cd 69 55 = some (o_newa 0 jx_zi) := rfl
theorem c_69_57 : jx_cd 69 57 = some (o_putf 6 10 jx_okR) := rfl
theorem c_69_60 : jx_cd 69 60 = some (o_ald 0 1) := rfl
theorem c_69_61 : jx_cd 69 61 = some (o_push (.int 1600) 3) := rfl
theorem c_69_64 : jx_cd 69 64 = some (o_newa 0 jx_zi) := rfl
theorem c_69_66 : jx_cd 69 66 = some (o_putf 6 11 jx_okR) := rfl
theorem c_69_69 : jx_cd 69 69 = some (o_ald 0 1) := rfl
theorem c_69_70 : jx_cd 69 70 = some (o_push (.int 40) 2) := rfl
theorem c_69_72 : jx_cd 69 72 = some (o_newa 0 jx_zi) := rfl
theorem c_69_74 : jx_cd 69 74 = some (o_putf 6 12 jx_okR) := rfl
theorem c_69_77 : jx_cd 69 77 = some (o_ald 0 1) := rfl
theorem c_69_78 : jx_cd 69 78 = some (o_push (.int 10) 2) := rfl
theorem c_69_80 : jx_cd 69 80 = some (o_newa 0 jx_zi) := rfl
theorem c_69_82 : jx_cd 69 82 = some (o_putf 6 13 jx_okR) := rfl
theorem c_69_85 : jx_cd 69 85 = some (o_ald 0 1) := rfl
theorem c_69_86 : jx_cd 69 86 = some (o_push (.int 10) 2) := rfl
theorem c_69_88 : jx_cd 69 88 = some (o_newa 0 jx_zi) := rfl
theorem c_69_90 : jx_cd 69 90 = some (o_putf 6 14 jx_okR) := rfl
theorem c_69_93 : jx_cd 69 93 = some (o_ald 0 1) := rfl
theorem c_69_94 : jx_cd 69 94 = some (o_push (.int 12) 2) := rfl
theorem c_69_96 : jx_cd 69 96 = some (o_newa 0 jx_zi) := rfl
theorem c_69_98 : jx_cd 69 98 = some (o_putf 6 18 jx_okR) := rfl
theorem c_69_101 : jx_cd 69 101 = some (o_ald 0 1) := rfl
theorem c_69_102 : jx_cd 69 102 = some (o_push (.int 12) 2) := rfl
theorem c_69_104 : jx_cd 69 104 = some (o_newa 0 jx_zi) := rfl
theorem c_69_106 : jx_cd 69 106 = some (o_putf 6 19 jx_okR) := rfl
theorem c_69_109 : jx_cd 69 109 = some (o_ald 0 1) := rfl
theorem c_69_110 : jx_cd 69 110 = some (o_push (.int 120) 2) := rfl
theorem c_69_112 : jx_cd 69 112 = some (o_newa 0 jx_zi) := rfl
theorem c_69_114 : jx_cd 69 114 = some (o_putf 6 20 jx_okR) := rfl
theorem c_69_117 : jx_cd 69 117 = some (o_ald 0 1) := rfl
theorem c_69_118 : jx_cd 69 118 = some (o_push (.int 120) 2) := rfl
theorem c_69_120 : jx_cd 69 120 = some (o_newa 2 jx_zi) := rfl
theorem c_69_122 : jx_cd 69 122 = some (o_putf 6 21 jx_okR) := rfl
theorem c_69_125 : jx_cd 69 125 = some (o_ald 0 1) := rfl
theorem c_69_126 : jx_cd 69 126 = some (o_push (.int 120) 2) := rfl
theorem c_69_128 : jx_cd 69 128 = some (o_newa 0 jx_zi) := rfl
theorem c_69_130 : jx_cd 69 130 = some (o_putf 6 22 jx_okR) := rfl
theorem c_69_133 : jx_cd 69 133 = some (o_ald 0 1) := rfl
theorem c_69_134 : jx_cd 69 134 = some (o_push (.int 120) 2) := rfl
theorem c_69_136 : jx_cd 69 136 = some (o_newa 0 jx_zi) := rfl
theorem c_69_138 : jx_cd 69 138 = some (o_putf 6 23 jx_okR) := rfl
theorem c_69_141 : jx_cd 69 141 = some (o_ald 0 1) := rfl
theorem c_69_142 : jx_cd 69 142 = some (o_push (.int 1200) 3) := rfl
theorem c_69_145 : jx_cd 69 145 = some (o_newa 0 jx_zi) := rfl
theorem c_69_147 : jx_cd 69 147 = some (o_putf 6 24 jx_okR) := rfl
theorem c_69_150 : jx_cd 69 150 = some (o_ald 0 1) := rfl
theorem c_69_151 : jx_cd 69 151 = some (o_push (.int 11) 2) := rfl
theorem c_69_153 : jx_cd 69 153 = some (o_newa 0 jx_zi) := rfl
theorem c_69_155 : jx_cd 69 155 = some (o_putf 6 25 jx_okR) := rfl
theorem c_69_158 : jx_cd 69 158 = some (o_ald 0 1) := rfl
theorem c_69_159 : jx_cd 69 159 = some (o_push (.int 40) 2) := rfl
theorem c_69_161 : jx_cd 69 161 = some (o_newa 2 jx_zi) := rfl
theorem c_69_163 : jx_cd 69 163 = some (o_putf 6 26 jx_okR) := rfl
theorem c_69_166 : jx_cd 69 166 = some (o_ald 0 1) := rfl
theorem c_69_167 : jx_cd 69 167 = some (o_push (.int 10) 2) := rfl
theorem c_69_169 : jx_cd 69 169 = some (o_newa 0 jx_zi) := rfl
theorem c_69_171 : jx_cd 69 171 = some (o_putf 6 33 jx_okR) := rfl
theorem c_69_174 : jx_cd 69 174 = some (o_ald 0 1) := rfl
theorem c_69_175 : jx_cd 69 175 = some (o_push (.int 10) 2) := rfl
theorem c_69_177 : jx_cd 69 177 = some (o_newa 2 jx_zi) := rfl
theorem c_69_179 : jx_cd 69 179 = some (o_putf 6 34 jx_okR) := rfl
theorem c_69_182 : jx_cd 69 182 = some (o_ald 0 1) := rfl
theorem c_69_183 : jx_cd 69 183 = some (o_push (.int 10) 2) := rfl
theorem c_69_185 : jx_cd 69 185 = some (o_newa 0 jx_zi) := rfl
theorem c_69_187 : jx_cd 69 187 = some (o_putf 6 35 jx_okR) := rfl
theorem c_69_190 : jx_cd 69 190 = some (o_ald 0 1) := rfl
theorem c_69_191 : jx_cd 69 191 = some (o_push (.int 10) 2) := rfl
theorem c_69_193 : jx_cd 69 193 = some (o_newa 0 jx_zi) := rfl
theorem c_69_195 : jx_cd 69 195 = some (o_putf 6 36 jx_okR) := rfl
theorem c_69_198 : jx_cd 69 198 = some (o_ald 0 1) := rfl
theorem c_69_199 : jx_cd 69 199 = some (o_push (.int 100) 2) := rfl
set_option maxRecDepth 100000 in
theorem c_69_201 : jx_cd 69 201 = some (o_newa 0 jx_zi) := rfl
set_option maxRecDepth 100000 in
theorem c_69_203 : jx_cd 69 203 = some (o_putf 6 37 jx_okR) := rfl
set_option maxRecDepth 100000 in
theorem c_69_206 : jx_cd 69 206 = some (o_ald 0 1) := rfl
set_option maxRecDepth 100000 in
theorem c_69_207 : jx_cd 69 207 = some (o_push (.int 12) 2) := rfl
set_option maxRecDepth 100000 in
theorem c_69_209 : jx_cd 69 209 = some (o_newa 0 jx_zi) := rfl
set_option maxRecDepth 100000 in
theorem c_69_211 : jx_cd 69 211 = some (o_putf 6 39 jx_okR) := rfl
set_option maxRecDepth 100000 in
theorem c_69_214 : jx_cd 69 214 = some (o_ret) := rfl
/-- memory with new places -/
def jNw (l : List (Nat × jx_C)) (n c s : Nat) (M : jx_M) : jx_M := ((jm l M).1, n, c, s)
theorem jNw_0 {M : jx_M} {n c s : Nat} (h : M.2 = (n, c, s)) : M = jNw [] n c s M := Prod.ext rfl h
theorem jNw_w {l : List (Nat × jx_C)} {n c s a : Nat} {M : jx_M} {x : jx_C} (h : jhas a l = true) : jx_st (jNw l n c s M) a x = jNw (js1 a x l) n c s M := by
  have e := jm_w (M := M) (c := x) h
  have e1 : (jx_st (jm l M) a x).1 = (jm (js1 a x l) M).1 := congrArg Prod.fst e
  exact Prod.ext e1 rfl
theorem jNw_fr {l : List (Nat × jx_C)} {n c s a k : Nat} {M : jx_M} (h : (l.all fun q => decide (a ≤ q.1) && decide (q.1 ≤ 1000)) = true) (hk : k < a) : (jNw l n c s M).1 k = M.1 k := (sm_jm (M := M) h).1 k (Or.inl hk)
section ZN
variable {d mi pc : Nat} {L : jx_L} {st : List Value} {M : jx_M} {post : jx_R → jx_M → Prop} {l : List (Nat × jx_C)} {n c0 s0 : Nat}
theorem z_new (pc' n' c' s' : Nat) {ci : Nat} {fs : List Value} (hc : jx_cd mi pc = some (o_new ci fs)) (hp : pc + 3 = pc') (h1 : 1 ≤ c0) (h2 : fs.length ≤ s0) (e1 : n + 1 = n') (e2 : c0 - 1 = c') (e3 : s0 - fs.length = s') (kk : jZ d mi pc' L (.ref n :: st) (jNw ((n, .inr (ci, fs)) :: l) n' c' s' M) post) : jZ d mi pc L st (jNw l n c0 s0 M) post := by
  refine z_go pc' L (.ref n :: st) _ hc ?_ kk
  unfold o_new jx_pu
  rw [if_pos ⟨h1, h2⟩, ← hp, ← e1, ← e2, ← e3]
  rfl
theorem z_newa (pc' n' c' s' : Nat) {t k : Nat} {z : Nat → vp_A} {c : jx_C} (hc : jx_cd mi pc = some (o_newa t z)) (hp : pc + (if t = 4 then 3 else 2) = pc') (hk : k ≤ 100000) (hcell : .inl (t, z k) = c) (h1 : 1 ≤ c0) (h2 : k ≤ s0) (e1 : n + 1 = n') (e2 : c0 - 1 = c') (e3 : s0 - k = s') (kk : jZ d mi pc' L (.ref n :: st) (jNw ((n, c) :: l) n' c' s' M) post) : jZ d mi pc L (.int (jn k) :: st) (jNw l n c0 s0 M) post := by
  refine z_go pc' L (.ref n :: st) _ hc ?_ kk
  have hcl := jn_cl (a := k) (by omega)
  unfold o_newa
  dsimp only
  rw [hcl, if_pos ⟨jn_ge k (by omega), hk⟩, show jx_pu (jNw l n c0 s0 M) (.inl (t, z k)) k = some (jNw ((n, .inl (t, z k)) :: l) (n + 1) (c0 - 1) (s0 - k) M) from if_pos ⟨h1, h2⟩, ← hp, ← hcell, ← e1, ← e2, ← e3]
  rfl
end ZN
theorem trip {a a' b b' e e' : Nat} (h1 : a = a') (h2 : b = b') (h3 : e = e') : ((a, b, e) : Nat × Nat × Nat) = (a', b', e') := by rw [h1, h2, h3]
/-- an empty graph -/
def g00 : GR := (0, 0, fun _ => 0, fun _ => 0, fun _ => 0)
theorem t_ginit {d g c s : Nat} {M : jx_M} (hg : M.1 g = .inr (0, [.null, .null, .null, .int 0, .int 0])) (hM : M.2 = (g + 1, c, s)) (hc : 10 ≤ c) (hs : 500 ≤ s) : jZ d 1 0 [some (.ref g)] [] M (jV none fun M' => (jgr M' g g00) ∧ (∀ k, k < g → M'.1 k = M.1 k) ∧ M'.2 = (g + 4, c - 3, s - 170)) := by
  refine z_m (jNw_0 hM) ?_
  refine z_go 1 _ [.ref g] _ c_1_0 rfl ?_
  refine z_go 4 _ [] _ c_1_1 rfl ?_
  refine z_go 5 _ [.ref g] _ c_1_4 rfl ?_
  refine z_go 7 _ [.int (jn 10), .ref g] _ c_1_5 rfl ?_
  refine z_newa (c := .inl (0, 10, .inl (ja (fun _ => 0)))) 9 (g + 2) (c - 1) (s - 10) c_1_7 rfl (by decide) rfl (by omega) (show 10 ≤ s by omega) rfl (by omega) (show s - 10 = s - 10 by omega) ?_
  show jZ _ _ _ _ _ (jNw [(g + 1, .inl (0, 10, .inl (ja (fun _ => 0))))] (g + 2) (c - 1) (s - 10) M) _
  refine z_putf (M' := jNw [(g, .inr (0, [.ref (g + 1), .null, .null, .int 0, .int 0])), (g + 1, .inl (0, 10, .inl (ja (fun _ => 0))))] (g + 2) (c - 1) (s - 10) M) 12 c_1_9 rfl (jne (by omega) hg) rfl (Nat.le_of_ble_eq_true rfl) rfl ?_
  refine z_go 13 _ [.ref g] _ c_1_12 rfl ?_
  refine z_go 15 _ [.int (jn 100), .ref g] _ c_1_13 rfl ?_
  refine z_newa (c := .inl (0, 100, .inl (ja (fun _ => 0)))) 17 (g + 3) (c - 2) (s - 110) c_1_15 rfl (by decide) rfl (by omega) (show 100 ≤ s - 10 by omega) rfl (by omega) (show s - 10 - 100 = s - 110 by omega) ?_
  show jZ _ _ _ _ _ (jNw [(g + 2, .inl (0, 100, .inl (ja (fun _ => 0)))), (g, .inr (0, [.ref (g + 1), .null, .null, .int 0, .int 0])), (g + 1, .inl (0, 10, .inl (ja (fun _ => 0))))] (g + 3) (c - 2) (s - 110) M) _
  refine z_putf (M' := jNw [(g, .inr (0, [.ref (g + 1), .ref (g + 2), .null, .int 0, .int 0])), (g + 2, .inl (0, 100, .inl (ja (fun _ => 0)))), (g, .inr (0, [.ref (g + 1), .null, .null, .int 0, .int 0])), (g + 1, .inl (0, 10, .inl (ja (fun _ => 0))))] (g + 3) (c - 2) (s - 110) M) 20 c_1_17 rfl (jne (by omega) jhit) rfl (Nat.le_of_ble_eq_true rfl) rfl ?_
  refine z_go 21 _ [.ref g] _ c_1_20 rfl ?_
  refine z_go 23 _ [.int (jn 60), .ref g] _ c_1_21 rfl ?_
  refine z_newa (c := .inl (0, 60, .inl (ja (fun _ => 0)))) 25 (g + 4) (c - 3) (s - 170) c_1_23 rfl (by decide) rfl (by omega) (show 60 ≤ s - 110 by omega) rfl (by omega) (show s - 110 - 60 = s - 170 by omega) ?_
  show jZ _ _ _ _ _ (jNw [(g + 3, .inl (0, 60, .inl (ja (fun _ => 0)))), (g, .inr (0, [.ref (g + 1), .ref (g + 2), .null, .int 0, .int 0])), (g + 2, .inl (0, 100, .inl (ja (fun _ => 0)))), (g, .inr (0, [.ref (g + 1), .null, .null, .int 0, .int 0])), (g + 1, .inl (0, 10, .inl (ja (fun _ => 0))))] (g + 4) (c - 3) (s - 170) M) _
  refine z_putf (M' := jNw [(g, .inr (0, [.ref (g + 1), .ref (g + 2), .ref (g + 3), .int 0, .int 0])), (g + 3, .inl (0, 60, .inl (ja (fun _ => 0)))), (g, .inr (0, [.ref (g + 1), .ref (g + 2), .null, .int 0, .int 0])), (g + 2, .inl (0, 100, .inl (ja (fun _ => 0)))), (g, .inr (0, [.ref (g + 1), .null, .null, .int 0, .int 0])), (g + 1, .inl (0, 10, .inl (ja (fun _ => 0))))] (g + 4) (c - 3) (s - 170) M) 28 c_1_25 rfl (jne (by omega) jhit) rfl (Nat.le_of_ble_eq_true rfl) rfl ?_
  refine z_ret c_1_28 ?_
  refine ⟨rfl, ⟨⟨jhit, (jne (by omega) (jne (by omega) (jne (by omega) (jne (by omega) (jne (by omega) jhit))))), (jne (by omega) (jne (by omega) (jne (by omega) jhit))), (jne (by omega) jhit)⟩, fun _ _ => rfl, fun _ _ => rfl, fun _ _ => rfl⟩, fun k hk => ?_, rfl⟩
  exact (if_neg (by omega)).trans ((if_neg (by omega)).trans ((if_neg (by omega)).trans ((if_neg (by omega)).trans ((if_neg (by omega)).trans ((if_neg (by omega)).trans (rfl))))))
theorem t_rinit {d c s : Nat} {M : jx_M} (hg : M.1 18 = .inr (3, [.null, .int 0, .int 0, .int 0, .null, .null, .int 0, .null, .null, .null, .int 0, .null, .null, .null, .int 0])) (hM : M.2 = (19, c, s)) (hc : 100 ≤ c) (hs : 5000 ≤ s) : jZ d 22 0 [some (.ref 18)] [] M (jV none fun M' => (rSh M') ∧ (∀ k, k < 18 → M'.1 k = M.1 k) ∧ M'.2 = (28, c - 9, s - 300)) := by
  refine z_m (jNw_0 hM) ?_
  refine z_go 1 _ [.ref 18] _ c_22_0 rfl ?_
  refine z_go 4 _ [] _ c_22_1 rfl ?_
  refine z_go 5 _ [.ref 18] _ c_22_4 rfl ?_
  refine z_go 7 _ [.int (jn 40), .ref 18] _ c_22_5 rfl ?_
  refine z_newa (c := .inl (1, 40, .inl (ja (fun _ => 0)))) 9 20 (c - 1) (s - 40) c_22_7 rfl (by decide) rfl (by omega) (show 40 ≤ s by omega) rfl (by omega) (show s - 40 = s - 40 by omega) ?_
  show jZ _ _ _ _ _ (jNw [(19, .inl (1, 40, .inl (ja (fun _ => 0))))] 20 (c - 1) (s - 40) M) _
  refine z_putf (M' := jNw [(18, .inr (3, [.ref 19, .int 0, .int 0, .int 0, .null, .null, .int 0, .null, .null, .null, .int 0, .null, .null, .null, .int 0])), (19, .inl (1, 40, .inl (ja (fun _ => 0))))] 20 (c - 1) (s - 40) M) 12 c_22_9 rfl hg rfl (Nat.le_of_ble_eq_true rfl) rfl ?_
  refine z_go 13 _ [.ref 18] _ c_22_12 rfl ?_
  refine z_go 15 _ [.int (jn 40), .ref 18] _ c_22_13 rfl ?_
  refine z_newa (c := .inl (0, 40, .inl (ja (fun _ => 0)))) 17 21 (c - 2) (s - 80) c_22_15 rfl (by decide) rfl (by omega) (show 40 ≤ s - 40 by omega) rfl (by omega) (show s - 40 - 40 = s - 80 by omega) ?_
  show jZ _ _ _ _ _ (jNw [(20, .inl (0, 40, .inl (ja (fun _ => 0)))), (18, .inr (3, [.ref 19, .int 0, .int 0, .int 0, .null, .null, .int 0, .null, .null, .null, .int 0, .null, .null, .null, .int 0])), (19, .inl (1, 40, .inl (ja (fun _ => 0))))] 21 (c - 2) (s - 80) M) _
  refine z_putf (M' := jNw [(20, .inl (0, 40, .inl (ja (fun _ => 0)))), (18, .inr (3, [.ref 19, .int 0, .int 0, .int 0, .ref 20, .null, .int 0, .null, .null, .null, .int 0, .null, .null, .null, .int 0])), (19, .inl (1, 40, .inl (ja (fun _ => 0))))] 21 (c - 2) (s - 80) M) 20 c_22_17 rfl rfl rfl (Nat.le_of_ble_eq_true rfl) (jNw_w rfl) ?_
  refine z_go 21 _ [.ref 18] _ c_22_20 rfl ?_
  refine z_go 23 _ [.int (jn 40), .ref 18] _ c_22_21 rfl ?_
  refine z_newa (c := .inl (0, 40, .inl (jao (fun _ => some 0)))) 25 22 (c - 3) (s - 120) c_22_23 rfl (by decide) rfl (by omega) (show 40 ≤ s - 80 by omega) rfl (by omega) (show s - 80 - 40 = s - 120 by omega) ?_
  show jZ _ _ _ _ _ (jNw [(21, .inl (0, 40, .inl (jao (fun _ => some 0)))), (20, .inl (0, 40, .inl (ja (fun _ => 0)))), (18, .inr (3, [.ref 19, .int 0, .int 0, .int 0, .ref 20, .null, .int 0, .null, .null, .null, .int 0, .null, .null, .null, .int 0])), (19, .inl (1, 40, .inl (ja (fun _ => 0))))] 22 (c - 3) (s - 120) M) _
  refine z_putf (M' := jNw [(21, .inl (0, 40, .inl (jao (fun _ => some 0)))), (20, .inl (0, 40, .inl (ja (fun _ => 0)))), (18, .inr (3, [.ref 19, .int 0, .int 0, .int 0, .ref 20, .ref 21, .int 0, .null, .null, .null, .int 0, .null, .null, .null, .int 0])), (19, .inl (1, 40, .inl (ja (fun _ => 0))))] 22 (c - 3) (s - 120) M) 28 c_22_25 rfl rfl rfl (Nat.le_of_ble_eq_true rfl) (jNw_w rfl) ?_
  refine z_go 29 _ [.ref 18] _ c_22_28 rfl ?_
  refine z_go 31 _ [.int (jn 40), .ref 18] _ c_22_29 rfl ?_
  refine z_newa (c := .inl (0, 40, .inl (ja (fun _ => 0)))) 33 23 (c - 4) (s - 160) c_22_31 rfl (by decide) rfl (by omega) (show 40 ≤ s - 120 by omega) rfl (by omega) (show s - 120 - 40 = s - 160 by omega) ?_
  show jZ _ _ _ _ _ (jNw [(22, .inl (0, 40, .inl (ja (fun _ => 0)))), (21, .inl (0, 40, .inl (jao (fun _ => some 0)))), (20, .inl (0, 40, .inl (ja (fun _ => 0)))), (18, .inr (3, [.ref 19, .int 0, .int 0, .int 0, .ref 20, .ref 21, .int 0, .null, .null, .null, .int 0, .null, .null, .null, .int 0])), (19, .inl (1, 40, .inl (ja (fun _ => 0))))] 23 (c - 4) (s - 160) M) _
  refine z_putf (M' := jNw [(22, .inl (0, 40, .inl (ja (fun _ => 0)))), (21, .inl (0, 40, .inl (jao (fun _ => some 0)))), (20, .inl (0, 40, .inl (ja (fun _ => 0)))), (18, .inr (3, [.ref 19, .int 0, .int 0, .int 0, .ref 20, .ref 21, .int 0, .ref 22, .null, .null, .int 0, .null, .null, .null, .int 0])), (19, .inl (1, 40, .inl (ja (fun _ => 0))))] 23 (c - 4) (s - 160) M) 36 c_22_33 rfl rfl rfl (Nat.le_of_ble_eq_true rfl) (jNw_w rfl) ?_
  refine z_go 37 _ [.ref 18] _ c_22_36 rfl ?_
  refine z_go 39 _ [.int (jn 40), .ref 18] _ c_22_37 rfl ?_
  refine z_newa (c := .inl (0, 40, .inl (ja (fun _ => 0)))) 41 24 (c - 5) (s - 200) c_22_39 rfl (by decide) rfl (by omega) (show 40 ≤ s - 160 by omega) rfl (by omega) (show s - 160 - 40 = s - 200 by omega) ?_
  show jZ _ _ _ _ _ (jNw [(23, .inl (0, 40, .inl (ja (fun _ => 0)))), (22, .inl (0, 40, .inl (ja (fun _ => 0)))), (21, .inl (0, 40, .inl (jao (fun _ => some 0)))), (20, .inl (0, 40, .inl (ja (fun _ => 0)))), (18, .inr (3, [.ref 19, .int 0, .int 0, .int 0, .ref 20, .ref 21, .int 0, .ref 22, .null, .null, .int 0, .null, .null, .null, .int 0])), (19, .inl (1, 40, .inl (ja (fun _ => 0))))] 24 (c - 5) (s - 200) M) _
  refine z_putf (M' := jNw [(23, .inl (0, 40, .inl (ja (fun _ => 0)))), (22, .inl (0, 40, .inl (ja (fun _ => 0)))), (21, .inl (0, 40, .inl (jao (fun _ => some 0)))), (20, .inl (0, 40, .inl (ja (fun _ => 0)))), (18, .inr (3, [.ref 19, .int 0, .int 0, .int 0, .ref 20, .ref 21, .int 0, .ref 22, .ref 23, .null, .int 0, .null, .null, .null, .int 0])), (19, .inl (1, 40, .inl (ja (fun _ => 0))))] 24 (c - 5) (s - 200) M) 44 c_22_41 rfl rfl rfl (Nat.le_of_ble_eq_true rfl) (jNw_w rfl) ?_
  refine z_go 45 _ [.ref 18] _ c_22_44 rfl ?_
  refine z_go 47 _ [.int (jn 40), .ref 18] _ c_22_45 rfl ?_
  refine z_newa (c := .inl (0, 40, .inl (ja (fun _ => 0)))) 49 25 (c - 6) (s - 240) c_22_47 rfl (by decide) rfl (by omega) (show 40 ≤ s - 200 by omega) rfl (by omega) (show s - 200 - 40 = s - 240 by omega) ?_
  show jZ _ _ _ _ _ (jNw [(24, .inl (0, 40, .inl (ja (fun _ => 0)))), (23, .inl (0, 40, .inl (ja (fun _ => 0)))), (22, .inl (0, 40, .inl (ja (fun _ => 0)))), (21, .inl (0, 40, .inl (jao (fun _ => some 0)))), (20, .inl (0, 40, .inl (ja (fun _ => 0)))), (18, .inr (3, [.ref 19, .int 0, .int 0, .int 0, .ref 20, .ref 21, .int 0, .ref 22, .ref 23, .null, .int 0, .null, .null, .null, .int 0])), (19, .inl (1, 40, .inl (ja (fun _ => 0))))] 25 (c - 6) (s - 240) M) _
  refine z_putf (M' := jNw [(24, .inl (0, 40, .inl (ja (fun _ => 0)))), (23, .inl (0, 40, .inl (ja (fun _ => 0)))), (22, .inl (0, 40, .inl (ja (fun _ => 0)))), (21, .inl (0, 40, .inl (jao (fun _ => some 0)))), (20, .inl (0, 40, .inl (ja (fun _ => 0)))), (18, .inr (3, [.ref 19, .int 0, .int 0, .int 0, .ref 20, .ref 21, .int 0, .ref 22, .ref 23, .ref 24, .int 0, .null, .null, .null, .int 0])), (19, .inl (1, 40, .inl (ja (fun _ => 0))))] 25 (c - 6) (s - 240) M) 52 c_22_49 rfl rfl rfl (Nat.le_of_ble_eq_true rfl) (jNw_w rfl) ?_
  refine z_go 53 _ [.ref 18] _ c_22_52 rfl ?_
  refine z_go 55 _ [.int (jn 10), .ref 18] _ c_22_53 rfl ?_
  refine z_newa (c := .inl (0, 10, .inl (jao (fun _ => some 0)))) 57 26 (c - 7) (s - 250) c_22_55 rfl (by decide) rfl (by omega) (show 10 ≤ s - 240 by omega) rfl (by omega) (show s - 240 - 10 = s - 250 by omega) ?_
  show jZ _ _ _ _ _ (jNw [(25, .inl (0, 10, .inl (jao (fun _ => some 0)))), (24, .inl (0, 40, .inl (ja (fun _ => 0)))), (23, .inl (0, 40, .inl (ja (fun _ => 0)))), (22, .inl (0, 40, .inl (ja (fun _ => 0)))), (21, .inl (0, 40, .inl (jao (fun _ => some 0)))), (20, .inl (0, 40, .inl (ja (fun _ => 0)))), (18, .inr (3, [.ref 19, .int 0, .int 0, .int 0, .ref 20, .ref 21, .int 0, .ref 22, .ref 23, .ref 24, .int 0, .null, .null, .null, .int 0])), (19, .inl (1, 40, .inl (ja (fun _ => 0))))] 26 (c - 7) (s - 250) M) _
  refine z_putf (M' := jNw [(25, .inl (0, 10, .inl (jao (fun _ => some 0)))), (24, .inl (0, 40, .inl (ja (fun _ => 0)))), (23, .inl (0, 40, .inl (ja (fun _ => 0)))), (22, .inl (0, 40, .inl (ja (fun _ => 0)))), (21, .inl (0, 40, .inl (jao (fun _ => some 0)))), (20, .inl (0, 40, .inl (ja (fun _ => 0)))), (18, .inr (3, [.ref 19, .int 0, .int 0, .int 0, .ref 20, .ref 21, .int 0, .ref 22, .ref 23, .ref 24, .int 0, .ref 25, .null, .null, .int 0])), (19, .inl (1, 40, .inl (ja (fun _ => 0))))] 26 (c - 7) (s - 250) M) 60 c_22_57 rfl rfl rfl (Nat.le_of_ble_eq_true rfl) (jNw_w rfl) ?_
  refine z_go 61 _ [.ref 18] _ c_22_60 rfl ?_
  refine z_go 63 _ [.int (jn 10), .ref 18] _ c_22_61 rfl ?_
  refine z_newa (c := .inl (0, 10, .inl (ja (fun _ => 0)))) 65 27 (c - 8) (s - 260) c_22_63 rfl (by decide) rfl (by omega) (show 10 ≤ s - 250 by omega) rfl (by omega) (show s - 250 - 10 = s - 260 by omega) ?_
  show jZ _ _ _ _ _ (jNw [(26, .inl (0, 10, .inl (ja (fun _ => 0)))), (25, .inl (0, 10, .inl (jao (fun _ => some 0)))), (24, .inl (0, 40, .inl (ja (fun _ => 0)))), (23, .inl (0, 40, .inl (ja (fun _ => 0)))), (22, .inl (0, 40, .inl (ja (fun _ => 0)))), (21, .inl (0, 40, .inl (jao (fun _ => some 0)))), (20, .inl (0, 40, .inl (ja (fun _ => 0)))), (18, .inr (3, [.ref 19, .int 0, .int 0, .int 0, .ref 20, .ref 21, .int 0, .ref 22, .ref 23, .ref 24, .int 0, .ref 25, .null, .null, .int 0])), (19, .inl (1, 40, .inl (ja (fun _ => 0))))] 27 (c - 8) (s - 260) M) _
  refine z_putf (M' := jNw [(26, .inl (0, 10, .inl (ja (fun _ => 0)))), (25, .inl (0, 10, .inl (jao (fun _ => some 0)))), (24, .inl (0, 40, .inl (ja (fun _ => 0)))), (23, .inl (0, 40, .inl (ja (fun _ => 0)))), (22, .inl (0, 40, .inl (ja (fun _ => 0)))), (21, .inl (0, 40, .inl (jao (fun _ => some 0)))), (20, .inl (0, 40, .inl (ja (fun _ => 0)))), (18, .inr (3, [.ref 19, .int 0, .int 0, .int 0, .ref 20, .ref 21, .int 0, .ref 22, .ref 23, .ref 24, .int 0, .ref 25, .ref 26, .null, .int 0])), (19, .inl (1, 40, .inl (ja (fun _ => 0))))] 27 (c - 8) (s - 260) M) 68 c_22_65 rfl rfl rfl (Nat.le_of_ble_eq_true rfl) (jNw_w rfl) ?_
  refine z_go 69 _ [.ref 18] _ c_22_68 rfl ?_
  refine z_go 71 _ [.int (jn 40), .ref 18] _ c_22_69 rfl ?_
  refine z_newa (c := .inl (0, 40, .inl (ja (fun _ => 0)))) 73 28 (c - 9) (s - 300) c_22_71 rfl (by decide) rfl (by omega) (show 40 ≤ s - 260 by omega) rfl (by omega) (show s - 260 - 40 = s - 300 by omega) ?_
  show jZ _ _ _ _ _ (jNw [(27, .inl (0, 40, .inl (ja (fun _ => 0)))), (26, .inl (0, 10, .inl (ja (fun _ => 0)))), (25, .inl (0, 10, .inl (jao (fun _ => some 0)))), (24, .inl (0, 40, .inl (ja (fun _ => 0)))), (23, .inl (0, 40, .inl (ja (fun _ => 0)))), (22, .inl (0, 40, .inl (ja (fun _ => 0)))), (21, .inl (0, 40, .inl (jao (fun _ => some 0)))), (20, .inl (0, 40, .inl (ja (fun _ => 0)))), (18, .inr (3, [.ref 19, .int 0, .int 0, .int 0, .ref 20, .ref 21, .int 0, .ref 22, .ref 23, .ref 24, .int 0, .ref 25, .ref 26, .null, .int 0])), (19, .inl (1, 40, .inl (ja (fun _ => 0))))] 28 (c - 9) (s - 300) M) _
  refine z_putf (M' := jNw [(27, .inl (0, 40, .inl (ja (fun _ => 0)))), (26, .inl (0, 10, .inl (ja (fun _ => 0)))), (25, .inl (0, 10, .inl (jao (fun _ => some 0)))), (24, .inl (0, 40, .inl (ja (fun _ => 0)))), (23, .inl (0, 40, .inl (ja (fun _ => 0)))), (22, .inl (0, 40, .inl (ja (fun _ => 0)))), (21, .inl (0, 40, .inl (jao (fun _ => some 0)))), (20, .inl (0, 40, .inl (ja (fun _ => 0)))), (18, .inr (3, [.ref 19, .int 0, .int 0, .int 0, .ref 20, .ref 21, .int 0, .ref 22, .ref 23, .ref 24, .int 0, .ref 25, .ref 26, .ref 27, .int 0])), (19, .inl (1, 40, .inl (ja (fun _ => 0))))] 28 (c - 9) (s - 300) M) 76 c_22_73 rfl rfl rfl (Nat.le_of_ble_eq_true rfl) (jNw_w rfl) ?_
  refine z_ret c_22_76 ?_
  exact ⟨rfl, ⟨fun _ => 0, 0, false, 0, 0, fun _ => 0, fun _ => some 0, (fun _ => 0, fun _ => 0, fun _ => 0, 0, fun _ => some 0, fun _ => 0), fun _ => 0, 0, ⟨rfl, rfl, rfl, rfl, rfl, rfl, rfl, rfl, rfl, rfl⟩, fun _ => (by decide : (0 : Nat) < 128), fun _ => (by decide : (0 : Nat) < 40), fun _ k q => by cases q; decide, ⟨by decide, fun _ => (by decide : (0 : Nat) < 64), fun _ => (by decide : (0 : Nat) < 64), fun _ k q => by cases q; decide, fun _ => (by decide : (0 : Nat) < 8)⟩⟩, fun k hk => jNw_fr rfl hk, rfl⟩
theorem t_minit {d c s : Nat} {M : jx_M} (hg : M.1 32 = .inr (2, [.null, .null])) (hM : M.2 = (33, c, s)) (hc : 100 ≤ c) (hs : 5000 ≤ s) : jZ d 14 0 [some (.ref 32)] [] M (jV none fun M' => (mt M') ∧ (∀ k, k < 32 → M'.1 k = M.1 k) ∧ M'.2 = (35, c - 2, s - 20)) := by
  refine z_m (jNw_0 hM) ?_
  refine z_go 1 _ [.ref 32] _ c_14_0 rfl ?_
  refine z_go 4 _ [] _ c_14_1 rfl ?_
  refine z_go 5 _ [.ref 32] _ c_14_4 rfl ?_
  refine z_go 7 _ [.int (jn 10), .ref 32] _ c_14_5 rfl ?_
  refine z_newa (c := .inl (0, 10, .inl (ja (fun _ => 0)))) 9 34 (c - 1) (s - 10) c_14_7 rfl (by decide) rfl (by omega) (show 10 ≤ s by omega) rfl (by omega) (show s - 10 = s - 10 by omega) ?_
  show jZ _ _ _ _ _ (jNw [(33, .inl (0, 10, .inl (ja (fun _ => 0))))] 34 (c - 1) (s - 10) M) _
  refine z_putf (M' := jNw [(32, .inr (2, [.ref 33, .null])), (33, .inl (0, 10, .inl (ja (fun _ => 0))))] 34 (c - 1) (s - 10) M) 12 c_14_9 rfl hg rfl (Nat.le_of_ble_eq_true rfl) rfl ?_
  refine z_go 13 _ [.ref 32] _ c_14_12 rfl ?_
  refine z_go 15 _ [.int (jn 10), .ref 32] _ c_14_13 rfl ?_
  refine z_newa (c := .inl (0, 10, .inl (ja (fun _ => 0)))) 17 35 (c - 2) (s - 20) c_14_15 rfl (by decide) rfl (by omega) (show 10 ≤ s - 10 by omega) rfl (by omega) (show s - 10 - 10 = s - 20 by omega) ?_
  show jZ _ _ _ _ _ (jNw [(34, .inl (0, 10, .inl (ja (fun _ => 0)))), (32, .inr (2, [.ref 33, .null])), (33, .inl (0, 10, .inl (ja (fun _ => 0))))] 35 (c - 2) (s - 20) M) _
  refine z_putf (M' := jNw [(34, .inl (0, 10, .inl (ja (fun _ => 0)))), (32, .inr (2, [.ref 33, .ref 34])), (33, .inl (0, 10, .inl (ja (fun _ => 0))))] 35 (c - 2) (s - 20) M) 20 c_14_17 rfl rfl rfl (Nat.le_of_ble_eq_true rfl) (jNw_w rfl) ?_
  refine z_ret c_14_20 ?_
  exact ⟨rfl, ⟨rfl, ⟨fun _ => 0, rfl⟩, fun _ => 0, rfl, fun _ => (by decide : (0 : Nat) < 10)⟩, fun k hk => jNw_fr rfl hk, rfl⟩
theorem t_moinit {d c s : Nat} {M : jx_M} (hg : M.1 92 = .inr (6, [.int 0, .int 0, .null, .int 0, .int 0, .null, .null, .null, .null, .null, .null, .null, .null, .null, .null, .int 0, .int 0, .int 0, .null, .null, .null, .null, .null, .null, .null, .null, .null, .int 0, .int 0, .int 0, .int 0, .int 0, .int 0, .null, .null, .null, .null, .null, .int 0, .null])) (hM : M.2 = (93, c, s)) (hc : 100 ≤ c) (hs : 5000 ≤ s) : jZ d 69 0 [some (.ref 92)] [] M (jV none fun M' => (mI M' (0, 0, 0, 0, false, 0, 0, false, 0, 0) (fun _ => 0) 0 (fun _ => 0) (fun _ => 0) (fun _ => (0, false, 0, some 0, false, 0)) (fun _ => 0) (fun _ => (0, false, 0, some 0, false, 0)) (fun _ => 0) (fun _ => 0)) ∧ (∀ k, k < 92 → M'.1 k = M.1 k) ∧ M'.2 = (119, c - 26, s - 3847)) := by
  refine z_m (jNw_0 hM) ?_
  refine z_go 1 _ [.ref 92] _ c_69_0 rfl ?_
  refine z_go 4 _ [] _ c_69_1 rfl ?_
  refine z_go 5 _ [.ref 92] _ c_69_4 rfl ?_
  refine z_go 7 _ [.int (jn 40), .ref 92] _ c_69_5 rfl ?_
  refine z_newa (c := .inl (0, 40, .inl (ja (fun _ => 0)))) 9 94 (c - 1) (s - 40) c_69_7 rfl (by decide) rfl (by omega) (show 40 ≤ s by omega) rfl (by omega) (show s - 40 = s - 40 by omega) ?_
  show jZ _ _ _ _ _ (jNw [(93, .inl (0, 40, .inl (ja (fun _ => 0))))] 94 (c - 1) (s - 40) M) _
  refine z_putf (M' := jNw [(92, .inr (6, [.int 0, .int 0, .ref 93, .int 0, .int 0, .null, .null, .null, .null, .null, .null, .null, .null, .null, .null, .int 0, .int 0, .int 0, .null, .null, .null, .null, .null, .null, .null, .null, .null, .int 0, .int 0, .int 0, .int 0, .int 0, .int 0, .null, .null, .null, .null, .null, .int 0, .null])), (93, .inl (0, 40, .inl (ja (fun _ => 0))))] 94 (c - 1) (s - 40) M) 12 c_69_9 rfl hg rfl (Nat.le_of_ble_eq_true rfl) rfl ?_
  refine z_go 13 _ [.ref 92] _ c_69_12 rfl ?_
  refine z_go 15 _ [.int (jn 40), .ref 92] _ c_69_13 rfl ?_
  refine z_newa (c := .inl (0, 40, .inl (ja (fun _ => 0)))) 17 95 (c - 2) (s - 80) c_69_15 rfl (by decide) rfl (by omega) (show 40 ≤ s - 40 by omega) rfl (by omega) (show s - 40 - 40 = s - 80 by omega) ?_
  show jZ _ _ _ _ _ (jNw [(94, .inl (0, 40, .inl (ja (fun _ => 0)))), (92, .inr (6, [.int 0, .int 0, .ref 93, .int 0, .int 0, .null, .null, .null, .null, .null, .null, .null, .null, .null, .null, .int 0, .int 0, .int 0, .null, .null, .null, .null, .null, .null, .null, .null, .null, .int 0, .int 0, .int 0, .int 0, .int 0, .int 0, .null, .null, .null, .null, .null, .int 0, .null])), (93, .inl (0, 40, .inl (ja (fun _ => 0))))] 95 (c - 2) (s - 80) M) _
  refine z_putf (M' := jNw [(94, .inl (0, 40, .inl (ja (fun _ => 0)))), (92, .inr (6, [.int 0, .int 0, .ref 93, .int 0, .int 0, .ref 94, .null, .null, .null, .null, .null, .null, .null, .null, .null, .int 0, .int 0, .int 0, .null, .null, .null, .null, .null, .null, .null, .null, .null, .int 0, .int 0, .int 0, .int 0, .int 0, .int 0, .null, .null, .null, .null, .null, .int 0, .null])), (93, .inl (0, 40, .inl (ja (fun _ => 0))))] 95 (c - 2) (s - 80) M) 20 c_69_17 rfl rfl rfl (Nat.le_of_ble_eq_true rfl) (jNw_w rfl) ?_
  refine z_go 21 _ [.ref 92] _ c_69_20 rfl ?_
  refine z_go 23 _ [.int (jn 40), .ref 92] _ c_69_21 rfl ?_
  refine z_newa (c := .inl (2, 40, .inl (jab (fun _ => false)))) 25 96 (c - 3) (s - 120) c_69_23 rfl (by decide) rfl (by omega) (show 40 ≤ s - 80 by omega) rfl (by omega) (show s - 80 - 40 = s - 120 by omega) ?_
  show jZ _ _ _ _ _ (jNw [(95, .inl (2, 40, .inl (jab (fun _ => false)))), (94, .inl (0, 40, .inl (ja (fun _ => 0)))), (92, .inr (6, [.int 0, .int 0, .ref 93, .int 0, .int 0, .ref 94, .null, .null, .null, .null, .null, .null, .null, .null, .null, .int 0, .int 0, .int 0, .null, .null, .null, .null, .null, .null, .null, .null, .null, .int 0, .int 0, .int 0, .int 0, .int 0, .int 0, .null, .null, .null, .null, .null, .int 0, .null])), (93, .inl (0, 40, .inl (ja (fun _ => 0))))] 96 (c - 3) (s - 120) M) _
  refine z_putf (M' := jNw [(95, .inl (2, 40, .inl (jab (fun _ => false)))), (94, .inl (0, 40, .inl (ja (fun _ => 0)))), (92, .inr (6, [.int 0, .int 0, .ref 93, .int 0, .int 0, .ref 94, .ref 95, .null, .null, .null, .null, .null, .null, .null, .null, .int 0, .int 0, .int 0, .null, .null, .null, .null, .null, .null, .null, .null, .null, .int 0, .int 0, .int 0, .int 0, .int 0, .int 0, .null, .null, .null, .null, .null, .int 0, .null])), (93, .inl (0, 40, .inl (ja (fun _ => 0))))] 96 (c - 3) (s - 120) M) 28 c_69_25 rfl rfl rfl (Nat.le_of_ble_eq_true rfl) (jNw_w rfl) ?_
  refine z_go 29 _ [.ref 92] _ c_69_28 rfl ?_
  refine z_go 31 _ [.int (jn 40), .ref 92] _ c_69_29 rfl ?_
  refine z_newa (c := .inl (0, 40, .inl (ja (fun _ => 0)))) 33 97 (c - 4) (s - 160) c_69_31 rfl (by decide) rfl (by omega) (show 40 ≤ s - 120 by omega) rfl (by omega) (show s - 120 - 40 = s - 160 by omega) ?_
  show jZ _ _ _ _ _ (jNw [(96, .inl (0, 40, .inl (ja (fun _ => 0)))), (95, .inl (2, 40, .inl (jab (fun _ => false)))), (94, .inl (0, 40, .inl (ja (fun _ => 0)))), (92, .inr (6, [.int 0, .int 0, .ref 93, .int 0, .int 0, .ref 94, .ref 95, .null, .null, .null, .null, .null, .null, .null, .null, .int 0, .int 0, .int 0, .null, .null, .null, .null, .null, .null, .null, .null, .null, .int 0, .int 0, .int 0, .int 0, .int 0, .int 0, .null, .null, .null, .null, .null, .int 0, .null])), (93, .inl (0, 40, .inl (ja (fun _ => 0))))] 97 (c - 4) (s - 160) M) _
  refine z_putf (M' := jNw [(96, .inl (0, 40, .inl (ja (fun _ => 0)))), (95, .inl (2, 40, .inl (jab (fun _ => false)))), (94, .inl (0, 40, .inl (ja (fun _ => 0)))), (92, .inr (6, [.int 0, .int 0, .ref 93, .int 0, .int 0, .ref 94, .ref 95, .ref 96, .null, .null, .null, .null, .null, .null, .null, .int 0, .int 0, .int 0, .null, .null, .null, .null, .null, .null, .null, .null, .null, .int 0, .int 0, .int 0, .int 0, .int 0, .int 0, .null, .null, .null, .null, .null, .int 0, .null])), (93, .inl (0, 40, .inl (ja (fun _ => 0))))] 97 (c - 4) (s - 160) M) 36 c_69_33 rfl rfl rfl (Nat.le_of_ble_eq_true rfl) (jNw_w rfl) ?_
  refine z_go 37 _ [.ref 92] _ c_69_36 rfl ?_
  refine z_go 39 _ [.int (jn 40), .ref 92] _ c_69_37 rfl ?_
  refine z_newa (c := .inl (0, 40, .inl (jao (fun _ => some 0)))) 41 98 (c - 5) (s - 200) c_69_39 rfl (by decide) rfl (by omega) (show 40 ≤ s - 160 by omega) rfl (by omega) (show s - 160 - 40 = s - 200 by omega) ?_
  show jZ _ _ _ _ _ (jNw [(97, .inl (0, 40, .inl (jao (fun _ => some 0)))), (96, .inl (0, 40, .inl (ja (fun _ => 0)))), (95, .inl (2, 40, .inl (jab (fun _ => false)))), (94, .inl (0, 40, .inl (ja (fun _ => 0)))), (92, .inr (6, [.int 0, .int 0, .ref 93, .int 0, .int 0, .ref 94, .ref 95, .ref 96, .null, .null, .null, .null, .null, .null, .null, .int 0, .int 0, .int 0, .null, .null, .null, .null, .null, .null, .null, .null, .null, .int 0, .int 0, .int 0, .int 0, .int 0, .int 0, .null, .null, .null, .null, .null, .int 0, .null])), (93, .inl (0, 40, .inl (ja (fun _ => 0))))] 98 (c - 5) (s - 200) M) _
  refine z_putf (M' := jNw [(97, .inl (0, 40, .inl (jao (fun _ => some 0)))), (96, .inl (0, 40, .inl (ja (fun _ => 0)))), (95, .inl (2, 40, .inl (jab (fun _ => false)))), (94, .inl (0, 40, .inl (ja (fun _ => 0)))), (92, .inr (6, [.int 0, .int 0, .ref 93, .int 0, .int 0, .ref 94, .ref 95, .ref 96, .ref 97, .null, .null, .null, .null, .null, .null, .int 0, .int 0, .int 0, .null, .null, .null, .null, .null, .null, .null, .null, .null, .int 0, .int 0, .int 0, .int 0, .int 0, .int 0, .null, .null, .null, .null, .null, .int 0, .null])), (93, .inl (0, 40, .inl (ja (fun _ => 0))))] 98 (c - 5) (s - 200) M) 44 c_69_41 rfl rfl rfl (Nat.le_of_ble_eq_true rfl) (jNw_w rfl) ?_
  refine z_go 45 _ [.ref 92] _ c_69_44 rfl ?_
  refine z_go 47 _ [.int (jn 40), .ref 92] _ c_69_45 rfl ?_
  refine z_newa (c := .inl (2, 40, .inl (jab (fun _ => false)))) 49 99 (c - 6) (s - 240) c_69_47 rfl (by decide) rfl (by omega) (show 40 ≤ s - 200 by omega) rfl (by omega) (show s - 200 - 40 = s - 240 by omega) ?_
  show jZ _ _ _ _ _ (jNw [(98, .inl (2, 40, .inl (jab (fun _ => false)))), (97, .inl (0, 40, .inl (jao (fun _ => some 0)))), (96, .inl (0, 40, .inl (ja (fun _ => 0)))), (95, .inl (2, 40, .inl (jab (fun _ => false)))), (94, .inl (0, 40, .inl (ja (fun _ => 0)))), (92, .inr (6, [.int 0, .int 0, .ref 93, .int 0, .int 0, .ref 94, .ref 95, .ref 96, .ref 97, .null, .null, .null, .null, .null, .null, .int 0, .int 0, .int 0, .null, .null, .null, .null, .null, .null, .null, .null, .null, .int 0, .int 0, .int 0, .int 0, .int 0, .int 0, .null, .null, .null, .null, .null, .int 0, .null])), (93, .inl (0, 40, .inl (ja (fun _ => 0))))] 99 (c - 6) (s - 240) M) _
  refine z_putf (M' := jNw [(98, .inl (2, 40, .inl (jab (fun _ => false)))), (97, .inl (0, 40, .inl (jao (fun _ => some 0)))), (96, .inl (0, 40, .inl (ja (fun _ => 0)))), (95, .inl (2, 40, .inl (jab (fun _ => false)))), (94, .inl (0, 40, .inl (ja (fun _ => 0)))), (92, .inr (6, [.int 0, .int 0, .ref 93, .int 0, .int 0, .ref 94, .ref 95, .ref 96, .ref 97, .ref 98, .null, .null, .null, .null, .null, .int 0, .int 0, .int 0, .null, .null, .null, .null, .null, .null, .null, .null, .null, .int 0, .int 0, .int 0, .int 0, .int 0, .int 0, .null, .null, .null, .null, .null, .int 0, .null])), (93, .inl (0, 40, .inl (ja (fun _ => 0))))] 99 (c - 6) (s - 240) M) 52 c_69_49 rfl rfl rfl (Nat.le_of_ble_eq_true rfl) (jNw_w rfl) ?_
  refine z_go 53 _ [.ref 92] _ c_69_52 rfl ?_
  refine z_go 55 _ [.int (jn 40), .ref 92] _ c_69_53 rfl ?_
  refine z_newa (c := .inl (0, 40, .inl (ja (fun _ => 0)))) 57 100 (c - 7) (s - 280) c_69_55 rfl (by decide) rfl (by omega) (show 40 ≤ s - 240 by omega) rfl (by omega) (show s - 240 - 40 = s - 280 by omega) ?_
  show jZ _ _ _ _ _ (jNw [(99, .inl (0, 40, .inl (ja (fun _ => 0)))), (98, .inl (2, 40, .inl (jab (fun _ => false)))), (97, .inl (0, 40, .inl (jao (fun _ => some 0)))), (96, .inl (0, 40, .inl (ja (fun _ => 0)))), (95, .inl (2, 40, .inl (jab (fun _ => false)))), (94, .inl (0, 40, .inl (ja (fun _ => 0)))), (92, .inr (6, [.int 0, .int 0, .ref 93, .int 0, .int 0, .ref 94, .ref 95, .ref 96, .ref 97, .ref 98, .null, .null, .null, .null, .null, .int 0, .int 0, .int 0, .null, .null, .null, .null, .null, .null, .null, .null, .null, .int 0, .int 0, .int 0, .int 0, .int 0, .int 0, .null, .null, .null, .null, .null, .int 0, .null])), (93, .inl (0, 40, .inl (ja (fun _ => 0))))] 100 (c - 7) (s - 280) M) _
  refine z_putf (M' := jNw [(99, .inl (0, 40, .inl (ja (fun _ => 0)))), (98, .inl (2, 40, .inl (jab (fun _ => false)))), (97, .inl (0, 40, .inl (jao (fun _ => some 0)))), (96, .inl (0, 40, .inl (ja (fun _ => 0)))), (95, .inl (2, 40, .inl (jab (fun _ => false)))), (94, .inl (0, 40, .inl (ja (fun _ => 0)))), (92, .inr (6, [.int 0, .int 0, .ref 93, .int 0, .int 0, .ref 94, .ref 95, .ref 96, .ref 97, .ref 98, .ref 99, .null, .null, .null, .null, .int 0, .int 0, .int 0, .null, .null, .null, .null, .null, .null, .null, .null, .null, .int 0, .int 0, .int 0, .int 0, .int 0, .int 0, .null, .null, .null, .null, .null, .int 0, .null])), (93, .inl (0, 40, .inl (ja (fun _ => 0))))] 100 (c - 7) (s - 280) M) 60 c_69_57 rfl rfl rfl (Nat.le_of_ble_eq_true rfl) (jNw_w rfl) ?_
  refine z_go 61 _ [.ref 92] _ c_69_60 rfl ?_
  refine z_go 64 _ [.int (jn 1600), .ref 92] _ c_69_61 rfl ?_
  refine z_newa (c := .inl (0, 1600, .inl (ja (fun _ => 0)))) 66 101 (c - 8) (s - 1880) c_69_64 rfl (by decide) rfl (by omega) (show 1600 ≤ s - 280 by omega) rfl (by omega) (show s - 280 - 1600 = s - 1880 by omega) ?_
  show jZ _ _ _ _ _ (jNw [(100, .inl (0, 1600, .inl (ja (fun _ => 0)))), (99, .inl (0, 40, .inl (ja (fun _ => 0)))), (98, .inl (2, 40, .inl (jab (fun _ => false)))), (97, .inl (0, 40, .inl (jao (fun _ => some 0)))), (96, .inl (0, 40, .inl (ja (fun _ => 0)))), (95, .inl (2, 40, .inl (jab (fun _ => false)))), (94, .inl (0, 40, .inl (ja (fun _ => 0)))), (92, .inr (6, [.int 0, .int 0, .ref 93, .int 0, .int 0, .ref 94, .ref 95, .ref 96, .ref 97, .ref 98, .ref 99, .null, .null, .null, .null, .int 0, .int 0, .int 0, .null, .null, .null, .null, .null, .null, .null, .null, .null, .int 0, .int 0, .int 0, .int 0, .int 0, .int 0, .null, .null, .null, .null, .null, .int 0, .null])), (93, .inl (0, 40, .inl (ja (fun _ => 0))))] 101 (c - 8) (s - 1880) M) _
  refine z_putf (M' := jNw [(100, .inl (0, 1600, .inl (ja (fun _ => 0)))), (99, .inl (0, 40, .inl (ja (fun _ => 0)))), (98, .inl (2, 40, .inl (jab (fun _ => false)))), (97, .inl (0, 40, .inl (jao (fun _ => some 0)))), (96, .inl (0, 40, .inl (ja (fun _ => 0)))), (95, .inl (2, 40, .inl (jab (fun _ => false)))), (94, .inl (0, 40, .inl (ja (fun _ => 0)))), (92, .inr (6, [.int 0, .int 0, .ref 93, .int 0, .int 0, .ref 94, .ref 95, .ref 96, .ref 97, .ref 98, .ref 99, .ref 100, .null, .null, .null, .int 0, .int 0, .int 0, .null, .null, .null, .null, .null, .null, .null, .null, .null, .int 0, .int 0, .int 0, .int 0, .int 0, .int 0, .null, .null, .null, .null, .null, .int 0, .null])), (93, .inl (0, 40, .inl (ja (fun _ => 0))))] 101 (c - 8) (s - 1880) M) 69 c_69_66 rfl rfl rfl (Nat.le_of_ble_eq_true rfl) (jNw_w rfl) ?_
  refine z_go 70 _ [.ref 92] _ c_69_69 rfl ?_
  refine z_go 72 _ [.int (jn 40), .ref 92] _ c_69_70 rfl ?_
  refine z_newa (c := .inl (0, 40, .inl (ja (fun _ => 0)))) 74 102 (c - 9) (s - 1920) c_69_72 rfl (by decide) rfl (by omega) (show 40 ≤ s - 1880 by omega) rfl (by omega) (show s - 1880 - 40 = s - 1920 by omega) ?_
  show jZ _ _ _ _ _ (jNw [(101, .inl (0, 40, .inl (ja (fun _ => 0)))), (100, .inl (0, 1600, .inl (ja (fun _ => 0)))), (99, .inl (0, 40, .inl (ja (fun _ => 0)))), (98, .inl (2, 40, .inl (jab (fun _ => false)))), (97, .inl (0, 40, .inl (jao (fun _ => some 0)))), (96, .inl (0, 40, .inl (ja (fun _ => 0)))), (95, .inl (2, 40, .inl (jab (fun _ => false)))), (94, .inl (0, 40, .inl (ja (fun _ => 0)))), (92, .inr (6, [.int 0, .int 0, .ref 93, .int 0, .int 0, .ref 94, .ref 95, .ref 96, .ref 97, .ref 98, .ref 99, .ref 100, .null, .null, .null, .int 0, .int 0, .int 0, .null, .null, .null, .null, .null, .null, .null, .null, .null, .int 0, .int 0, .int 0, .int 0, .int 0, .int 0, .null, .null, .null, .null, .null, .int 0, .null])), (93, .inl (0, 40, .inl (ja (fun _ => 0))))] 102 (c - 9) (s - 1920) M) _
  refine z_putf (M' := jNw [(101, .inl (0, 40, .inl (ja (fun _ => 0)))), (100, .inl (0, 1600, .inl (ja (fun _ => 0)))), (99, .inl (0, 40, .inl (ja (fun _ => 0)))), (98, .inl (2, 40, .inl (jab (fun _ => false)))), (97, .inl (0, 40, .inl (jao (fun _ => some 0)))), (96, .inl (0, 40, .inl (ja (fun _ => 0)))), (95, .inl (2, 40, .inl (jab (fun _ => false)))), (94, .inl (0, 40, .inl (ja (fun _ => 0)))), (92, .inr (6, [.int 0, .int 0, .ref 93, .int 0, .int 0, .ref 94, .ref 95, .ref 96, .ref 97, .ref 98, .ref 99, .ref 100, .ref 101, .null, .null, .int 0, .int 0, .int 0, .null, .null, .null, .null, .null, .null, .null, .null, .null, .int 0, .int 0, .int 0, .int 0, .int 0, .int 0, .null, .null, .null, .null, .null, .int 0, .null])), (93, .inl (0, 40, .inl (ja (fun _ => 0))))] 102 (c - 9) (s - 1920) M) 77 c_69_74 rfl rfl rfl (Nat.le_of_ble_eq_true rfl) (jNw_w rfl) ?_
  refine z_go 78 _ [.ref 92] _ c_69_77 rfl ?_
  refine z_go 80 _ [.int (jn 10), .ref 92] _ c_69_78 rfl ?_
  refine z_newa (c := .inl (0, 10, .inl (jao (fun _ => some 0)))) 82 103 (c - 10) (s - 1930) c_69_80 rfl (by decide) rfl (by omega) (show 10 ≤ s - 1920 by omega) rfl (by omega) (show s - 1920 - 10 = s - 1930 by omega) ?_
  show jZ _ _ _ _ _ (jNw [(102, .inl (0, 10, .inl (jao (fun _ => some 0)))), (101, .inl (0, 40, .inl (ja (fun _ => 0)))), (100, .inl (0, 1600, .inl (ja (fun _ => 0)))), (99, .inl (0, 40, .inl (ja (fun _ => 0)))), (98, .inl (2, 40, .inl (jab (fun _ => false)))), (97, .inl (0, 40, .inl (jao (fun _ => some 0)))), (96, .inl (0, 40, .inl (ja (fun _ => 0)))), (95, .inl (2, 40, .inl (jab (fun _ => false)))), (94, .inl (0, 40, .inl (ja (fun _ => 0)))), (92, .inr (6, [.int 0, .int 0, .ref 93, .int 0, .int 0, .ref 94, .ref 95, .ref 96, .ref 97, .ref 98, .ref 99, .ref 100, .ref 101, .null, .null, .int 0, .int 0, .int 0, .null, .null, .null, .null, .null, .null, .null, .null, .null, .int 0, .int 0, .int 0, .int 0, .int 0, .int 0, .null, .null, .null, .null, .null, .int 0, .null])), (93, .inl (0, 40, .inl (ja (fun _ => 0))))] 103 (c - 10) (s - 1930) M) _
  refine z_putf (M' := jNw [(102, .inl (0, 10, .inl (jao (fun _ => some 0)))), (101, .inl (0, 40, .inl (ja (fun _ => 0)))), (100, .inl (0, 1600, .inl (ja (fun _ => 0)))), (99, .inl (0, 40, .inl (ja (fun _ => 0)))), (98, .inl (2, 40, .inl (jab (fun _ => false)))), (97, .inl (0, 40, .inl (jao (fun _ => some 0)))), (96, .inl (0, 40, .inl (ja (fun _ => 0)))), (95, .inl (2, 40, .inl (jab (fun _ => false)))), (94, .inl (0, 40, .inl (ja (fun _ => 0)))), (92, .inr (6, [.int 0, .int 0, .ref 93, .int 0, .int 0, .ref 94, .ref 95, .ref 96, .ref 97, .ref 98, .ref 99, .ref 100, .ref 101, .ref 102, .null, .int 0, .int 0, .int 0, .null, .null, .null, .null, .null, .null, .null, .null, .null, .int 0, .int 0, .int 0, .int 0, .int 0, .int 0, .null, .null, .null, .null, .null, .int 0, .null])), (93, .inl (0, 40, .inl (ja (fun _ => 0))))] 103 (c - 10) (s - 1930) M) 85 c_69_82 rfl rfl rfl (Nat.le_of_ble_eq_true rfl) (jNw_w rfl) ?_
  refine z_go 86 _ [.ref 92] _ c_69_85 rfl ?_
  refine z_go 88 _ [.int (jn 10), .ref 92] _ c_69_86 rfl ?_
  refine z_newa (c := .inl (0, 10, .inl (ja (fun _ => 0)))) 90 104 (c - 11) (s - 1940) c_69_88 rfl (by decide) rfl (by omega) (show 10 ≤ s - 1930 by omega) rfl (by omega) (show s - 1930 - 10 = s - 1940 by omega) ?_
  show jZ _ _ _ _ _ (jNw [(103, .inl (0, 10, .inl (ja (fun _ => 0)))), (102, .inl (0, 10, .inl (jao (fun _ => some 0)))), (101, .inl (0, 40, .inl (ja (fun _ => 0)))), (100, .inl (0, 1600, .inl (ja (fun _ => 0)))), (99, .inl (0, 40, .inl (ja (fun _ => 0)))), (98, .inl (2, 40, .inl (jab (fun _ => false)))), (97, .inl (0, 40, .inl (jao (fun _ => some 0)))), (96, .inl (0, 40, .inl (ja (fun _ => 0)))), (95, .inl (2, 40, .inl (jab (fun _ => false)))), (94, .inl (0, 40, .inl (ja (fun _ => 0)))), (92, .inr (6, [.int 0, .int 0, .ref 93, .int 0, .int 0, .ref 94, .ref 95, .ref 96, .ref 97, .ref 98, .ref 99, .ref 100, .ref 101, .ref 102, .null, .int 0, .int 0, .int 0, .null, .null, .null, .null, .null, .null, .null, .null, .null, .int 0, .int 0, .int 0, .int 0, .int 0, .int 0, .null, .null, .null, .null, .null, .int 0, .null])), (93, .inl (0, 40, .inl (ja (fun _ => 0))))] 104 (c - 11) (s - 1940) M) _
  refine z_putf (M' := jNw [(103, .inl (0, 10, .inl (ja (fun _ => 0)))), (102, .inl (0, 10, .inl (jao (fun _ => some 0)))), (101, .inl (0, 40, .inl (ja (fun _ => 0)))), (100, .inl (0, 1600, .inl (ja (fun _ => 0)))), (99, .inl (0, 40, .inl (ja (fun _ => 0)))), (98, .inl (2, 40, .inl (jab (fun _ => false)))), (97, .inl (0, 40, .inl (jao (fun _ => some 0)))), (96, .inl (0, 40, .inl (ja (fun _ => 0)))), (95, .inl (2, 40, .inl (jab (fun _ => false)))), (94, .inl (0, 40, .inl (ja (fun _ => 0)))), (92, .inr (6, [.int 0, .int 0, .ref 93, .int 0, .int 0, .ref 94, .ref 95, .ref 96, .ref 97, .ref 98, .ref 99, .ref 100, .ref 101, .ref 102, .ref 103, .int 0, .int 0, .int 0, .null, .null, .null, .null, .null, .null, .null, .null, .null, .int 0, .int 0, .int 0, .int 0, .int 0, .int 0, .null, .null, .null, .null, .null, .int 0, .null])), (93, .inl (0, 40, .inl (ja (fun _ => 0))))] 104 (c - 11) (s - 1940) M) 93 c_69_90 rfl rfl rfl (Nat.le_of_ble_eq_true rfl) (jNw_w rfl) ?_
  refine z_go 94 _ [.ref 92] _ c_69_93 rfl ?_
  refine z_go 96 _ [.int (jn 12), .ref 92] _ c_69_94 rfl ?_
  refine z_newa (c := .inl (0, 12, .inl (ja (fun _ => 0)))) 98 105 (c - 12) (s - 1952) c_69_96 rfl (by decide) rfl (by omega) (show 12 ≤ s - 1940 by omega) rfl (by omega) (show s - 1940 - 12 = s - 1952 by omega) ?_
  show jZ _ _ _ _ _ (jNw [(104, .inl (0, 12, .inl (ja (fun _ => 0)))), (103, .inl (0, 10, .inl (ja (fun _ => 0)))), (102, .inl (0, 10, .inl (jao (fun _ => some 0)))), (101, .inl (0, 40, .inl (ja (fun _ => 0)))), (100, .inl (0, 1600, .inl (ja (fun _ => 0)))), (99, .inl (0, 40, .inl (ja (fun _ => 0)))), (98, .inl (2, 40, .inl (jab (fun _ => false)))), (97, .inl (0, 40, .inl (jao (fun _ => some 0)))), (96, .inl (0, 40, .inl (ja (fun _ => 0)))), (95, .inl (2, 40, .inl (jab (fun _ => false)))), (94, .inl (0, 40, .inl (ja (fun _ => 0)))), (92, .inr (6, [.int 0, .int 0, .ref 93, .int 0, .int 0, .ref 94, .ref 95, .ref 96, .ref 97, .ref 98, .ref 99, .ref 100, .ref 101, .ref 102, .ref 103, .int 0, .int 0, .int 0, .null, .null, .null, .null, .null, .null, .null, .null, .null, .int 0, .int 0, .int 0, .int 0, .int 0, .int 0, .null, .null, .null, .null, .null, .int 0, .null])), (93, .inl (0, 40, .inl (ja (fun _ => 0))))] 105 (c - 12) (s - 1952) M) _
  refine z_putf (M' := jNw [(104, .inl (0, 12, .inl (ja (fun _ => 0)))), (103, .inl (0, 10, .inl (ja (fun _ => 0)))), (102, .inl (0, 10, .inl (jao (fun _ => some 0)))), (101, .inl (0, 40, .inl (ja (fun _ => 0)))), (100, .inl (0, 1600, .inl (ja (fun _ => 0)))), (99, .inl (0, 40, .inl (ja (fun _ => 0)))), (98, .inl (2, 40, .inl (jab (fun _ => false)))), (97, .inl (0, 40, .inl (jao (fun _ => some 0)))), (96, .inl (0, 40, .inl (ja (fun _ => 0)))), (95, .inl (2, 40, .inl (jab (fun _ => false)))), (94, .inl (0, 40, .inl (ja (fun _ => 0)))), (92, .inr (6, [.int 0, .int 0, .ref 93, .int 0, .int 0, .ref 94, .ref 95, .ref 96, .ref 97, .ref 98, .ref 99, .ref 100, .ref 101, .ref 102, .ref 103, .int 0, .int 0, .int 0, .ref 104, .null, .null, .null, .null, .null, .null, .null, .null, .int 0, .int 0, .int 0, .int 0, .int 0, .int 0, .null, .null, .null, .null, .null, .int 0, .null])), (93, .inl (0, 40, .inl (ja (fun _ => 0))))] 105 (c - 12) (s - 1952) M) 101 c_69_98 rfl rfl rfl (Nat.le_of_ble_eq_true rfl) (jNw_w rfl) ?_
  refine z_go 102 _ [.ref 92] _ c_69_101 rfl ?_
  refine z_go 104 _ [.int (jn 12), .ref 92] _ c_69_102 rfl ?_
  refine z_newa (c := .inl (0, 12, .inl (ja (fun _ => 0)))) 106 106 (c - 13) (s - 1964) c_69_104 rfl (by decide) rfl (by omega) (show 12 ≤ s - 1952 by omega) rfl (by omega) (show s - 1952 - 12 = s - 1964 by omega) ?_
  show jZ _ _ _ _ _ (jNw [(105, .inl (0, 12, .inl (ja (fun _ => 0)))), (104, .inl (0, 12, .inl (ja (fun _ => 0)))), (103, .inl (0, 10, .inl (ja (fun _ => 0)))), (102, .inl (0, 10, .inl (jao (fun _ => some 0)))), (101, .inl (0, 40, .inl (ja (fun _ => 0)))), (100, .inl (0, 1600, .inl (ja (fun _ => 0)))), (99, .inl (0, 40, .inl (ja (fun _ => 0)))), (98, .inl (2, 40, .inl (jab (fun _ => false)))), (97, .inl (0, 40, .inl (jao (fun _ => some 0)))), (96, .inl (0, 40, .inl (ja (fun _ => 0)))), (95, .inl (2, 40, .inl (jab (fun _ => false)))), (94, .inl (0, 40, .inl (ja (fun _ => 0)))), (92, .inr (6, [.int 0, .int 0, .ref 93, .int 0, .int 0, .ref 94, .ref 95, .ref 96, .ref 97, .ref 98, .ref 99, .ref 100, .ref 101, .ref 102, .ref 103, .int 0, .int 0, .int 0, .ref 104, .null, .null, .null, .null, .null, .null, .null, .null, .int 0, .int 0, .int 0, .int 0, .int 0, .int 0, .null, .null, .null, .null, .null, .int 0, .null])), (93, .inl (0, 40, .inl (ja (fun _ => 0))))] 106 (c - 13) (s - 1964) M) _
  refine z_putf (M' := jNw [(105, .inl (0, 12, .inl (ja (fun _ => 0)))), (104, .inl (0, 12, .inl (ja (fun _ => 0)))), (103, .inl (0, 10, .inl (ja (fun _ => 0)))), (102, .inl (0, 10, .inl (jao (fun _ => some 0)))), (101, .inl (0, 40, .inl (ja (fun _ => 0)))), (100, .inl (0, 1600, .inl (ja (fun _ => 0)))), (99, .inl (0, 40, .inl (ja (fun _ => 0)))), (98, .inl (2, 40, .inl (jab (fun _ => false)))), (97, .inl (0, 40, .inl (jao (fun _ => some 0)))), (96, .inl (0, 40, .inl (ja (fun _ => 0)))), (95, .inl (2, 40, .inl (jab (fun _ => false)))), (94, .inl (0, 40, .inl (ja (fun _ => 0)))), (92, .inr (6, [.int 0, .int 0, .ref 93, .int 0, .int 0, .ref 94, .ref 95, .ref 96, .ref 97, .ref 98, .ref 99, .ref 100, .ref 101, .ref 102, .ref 103, .int 0, .int 0, .int 0, .ref 104, .ref 105, .null, .null, .null, .null, .null, .null, .null, .int 0, .int 0, .int 0, .int 0, .int 0, .int 0, .null, .null, .null, .null, .null, .int 0, .null])), (93, .inl (0, 40, .inl (ja (fun _ => 0))))] 106 (c - 13) (s - 1964) M) 109 c_69_106 rfl rfl rfl (Nat.le_of_ble_eq_true rfl) (jNw_w rfl) ?_
  refine z_go 110 _ [.ref 92] _ c_69_109 rfl ?_
  refine z_go 112 _ [.int (jn 120), .ref 92] _ c_69_110 rfl ?_
  refine z_newa (c := .inl (0, 120, .inl (ja (fun _ => 0)))) 114 107 (c - 14) (s - 2084) c_69_112 rfl (by decide) rfl (by omega) (show 120 ≤ s - 1964 by omega) rfl (by omega) (show s - 1964 - 120 = s - 2084 by omega) ?_
  show jZ _ _ _ _ _ (jNw [(106, .inl (0, 120, .inl (ja (fun _ => 0)))), (105, .inl (0, 12, .inl (ja (fun _ => 0)))), (104, .inl (0, 12, .inl (ja (fun _ => 0)))), (103, .inl (0, 10, .inl (ja (fun _ => 0)))), (102, .inl (0, 10, .inl (jao (fun _ => some 0)))), (101, .inl (0, 40, .inl (ja (fun _ => 0)))), (100, .inl (0, 1600, .inl (ja (fun _ => 0)))), (99, .inl (0, 40, .inl (ja (fun _ => 0)))), (98, .inl (2, 40, .inl (jab (fun _ => false)))), (97, .inl (0, 40, .inl (jao (fun _ => some 0)))), (96, .inl (0, 40, .inl (ja (fun _ => 0)))), (95, .inl (2, 40, .inl (jab (fun _ => false)))), (94, .inl (0, 40, .inl (ja (fun _ => 0)))), (92, .inr (6, [.int 0, .int 0, .ref 93, .int 0, .int 0, .ref 94, .ref 95, .ref 96, .ref 97, .ref 98, .ref 99, .ref 100, .ref 101, .ref 102, .ref 103, .int 0, .int 0, .int 0, .ref 104, .ref 105, .null, .null, .null, .null, .null, .null, .null, .int 0, .int 0, .int 0, .int 0, .int 0, .int 0, .null, .null, .null, .null, .null, .int 0, .null])), (93, .inl (0, 40, .inl (ja (fun _ => 0))))] 107 (c - 14) (s - 2084) M) _
  refine z_putf (M' := jNw [(106, .inl (0, 120, .inl (ja (fun _ => 0)))), (105, .inl (0, 12, .inl (ja (fun _ => 0)))), (104, .inl (0, 12, .inl (ja (fun _ => 0)))), (103, .inl (0, 10, .inl (ja (fun _ => 0)))), (102, .inl (0, 10, .inl (jao (fun _ => some 0)))), (101, .inl (0, 40, .inl (ja (fun _ => 0)))), (100, .inl (0, 1600, .inl (ja (fun _ => 0)))), (99, .inl (0, 40, .inl (ja (fun _ => 0)))), (98, .inl (2, 40, .inl (jab (fun _ => false)))), (97, .inl (0, 40, .inl (jao (fun _ => some 0)))), (96, .inl (0, 40, .inl (ja (fun _ => 0)))), (95, .inl (2, 40, .inl (jab (fun _ => false)))), (94, .inl (0, 40, .inl (ja (fun _ => 0)))), (92, .inr (6, [.int 0, .int 0, .ref 93, .int 0, .int 0, .ref 94, .ref 95, .ref 96, .ref 97, .ref 98, .ref 99, .ref 100, .ref 101, .ref 102, .ref 103, .int 0, .int 0, .int 0, .ref 104, .ref 105, .ref 106, .null, .null, .null, .null, .null, .null, .int 0, .int 0, .int 0, .int 0, .int 0, .int 0, .null, .null, .null, .null, .null, .int 0, .null])), (93, .inl (0, 40, .inl (ja (fun _ => 0))))] 107 (c - 14) (s - 2084) M) 117 c_69_114 rfl rfl rfl (Nat.le_of_ble_eq_true rfl) (jNw_w rfl) ?_
  refine z_go 118 _ [.ref 92] _ c_69_117 rfl ?_
  refine z_go 120 _ [.int (jn 120), .ref 92] _ c_69_118 rfl ?_
  refine z_newa (c := .inl (2, 120, .inl (jab (fun _ => false)))) 122 108 (c - 15) (s - 2204) c_69_120 rfl (by decide) rfl (by omega) (show 120 ≤ s - 2084 by omega) rfl (by omega) (show s - 2084 - 120 = s - 2204 by omega) ?_
  show jZ _ _ _ _ _ (jNw [(107, .inl (2, 120, .inl (jab (fun _ => false)))), (106, .inl (0, 120, .inl (ja (fun _ => 0)))), (105, .inl (0, 12, .inl (ja (fun _ => 0)))), (104, .inl (0, 12, .inl (ja (fun _ => 0)))), (103, .inl (0, 10, .inl (ja (fun _ => 0)))), (102, .inl (0, 10, .inl (jao (fun _ => some 0)))), (101, .inl (0, 40, .inl (ja (fun _ => 0)))), (100, .inl (0, 1600, .inl (ja (fun _ => 0)))), (99, .inl (0, 40, .inl (ja (fun _ => 0)))), (98, .inl (2, 40, .inl (jab (fun _ => false)))), (97, .inl (0, 40, .inl (jao (fun _ => some 0)))), (96, .inl (0, 40, .inl (ja (fun _ => 0)))), (95, .inl (2, 40, .inl (jab (fun _ => false)))), (94, .inl (0, 40, .inl (ja (fun _ => 0)))), (92, .inr (6, [.int 0, .int 0, .ref 93, .int 0, .int 0, .ref 94, .ref 95, .ref 96, .ref 97, .ref 98, .ref 99, .ref 100, .ref 101, .ref 102, .ref 103, .int 0, .int 0, .int 0, .ref 104, .ref 105, .ref 106, .null, .null, .null, .null, .null, .null, .int 0, .int 0, .int 0, .int 0, .int 0, .int 0, .null, .null, .null, .null, .null, .int 0, .null])), (93, .inl (0, 40, .inl (ja (fun _ => 0))))] 108 (c - 15) (s - 2204) M) _
  refine z_putf (M' := jNw [(107, .inl (2, 120, .inl (jab (fun _ => false)))), (106, .inl (0, 120, .inl (ja (fun _ => 0)))), (105, .inl (0, 12, .inl (ja (fun _ => 0)))), (104, .inl (0, 12, .inl (ja (fun _ => 0)))), (103, .inl (0, 10, .inl (ja (fun _ => 0)))), (102, .inl (0, 10, .inl (jao (fun _ => some 0)))), (101, .inl (0, 40, .inl (ja (fun _ => 0)))), (100, .inl (0, 1600, .inl (ja (fun _ => 0)))), (99, .inl (0, 40, .inl (ja (fun _ => 0)))), (98, .inl (2, 40, .inl (jab (fun _ => false)))), (97, .inl (0, 40, .inl (jao (fun _ => some 0)))), (96, .inl (0, 40, .inl (ja (fun _ => 0)))), (95, .inl (2, 40, .inl (jab (fun _ => false)))), (94, .inl (0, 40, .inl (ja (fun _ => 0)))), (92, .inr (6, [.int 0, .int 0, .ref 93, .int 0, .int 0, .ref 94, .ref 95, .ref 96, .ref 97, .ref 98, .ref 99, .ref 100, .ref 101, .ref 102, .ref 103, .int 0, .int 0, .int 0, .ref 104, .ref 105, .ref 106, .ref 107, .null, .null, .null, .null, .null, .int 0, .int 0, .int 0, .int 0, .int 0, .int 0, .null, .null, .null, .null, .null, .int 0, .null])), (93, .inl (0, 40, .inl (ja (fun _ => 0))))] 108 (c - 15) (s - 2204) M) 125 c_69_122 rfl rfl rfl (Nat.le_of_ble_eq_true rfl) (jNw_w rfl) ?_
  refine z_go 126 _ [.ref 92] _ c_69_125 rfl ?_
  refine z_go 128 _ [.int (jn 120), .ref 92] _ c_69_126 rfl ?_
  refine z_newa (c := .inl (0, 120, .inl (ja (fun _ => 0)))) 130 109 (c - 16) (s - 2324) c_69_128 rfl (by decide) rfl (by omega) (show 120 ≤ s - 2204 by omega) rfl (by omega) (show s - 2204 - 120 = s - 2324 by omega) ?_
  show jZ _ _ _ _ _ (jNw [(108, .inl (0, 120, .inl (ja (fun _ => 0)))), (107, .inl (2, 120, .inl (jab (fun _ => false)))), (106, .inl (0, 120, .inl (ja (fun _ => 0)))), (105, .inl (0, 12, .inl (ja (fun _ => 0)))), (104, .inl (0, 12, .inl (ja (fun _ => 0)))), (103, .inl (0, 10, .inl (ja (fun _ => 0)))), (102, .inl (0, 10, .inl (jao (fun _ => some 0)))), (101, .inl (0, 40, .inl (ja (fun _ => 0)))), (100, .inl (0, 1600, .inl (ja (fun _ => 0)))), (99, .inl (0, 40, .inl (ja (fun _ => 0)))), (98, .inl (2, 40, .inl (jab (fun _ => false)))), (97, .inl (0, 40, .inl (jao (fun _ => some 0)))), (96, .inl (0, 40, .inl (ja (fun _ => 0)))), (95, .inl (2, 40, .inl (jab (fun _ => false)))), (94, .inl (0, 40, .inl (ja (fun _ => 0)))), (92, .inr (6, [.int 0, .int 0, .ref 93, .int 0, .int 0, .ref 94, .ref 95, .ref 96, .ref 97, .ref 98, .ref 99, .ref 100, .ref 101, .ref 102, .ref 103, .int 0, .int 0, .int 0, .ref 104, .ref 105, .ref 106, .ref 107, .null, .null, .null, .null, .null, .int 0, .int 0, .int 0, .int 0, .int 0, .int 0, .null, .null, .null, .null, .null, .int 0, .null])), (93, .inl (0, 40, .inl (ja (fun _ => 0))))] 109 (c - 16) (s - 2324) M) _
  refine z_putf (M' := jNw [(108, .inl (0, 120, .inl (ja (fun _ => 0)))), (107, .inl (2, 120, .inl (jab (fun _ => false)))), (106, .inl (0, 120, .inl (ja (fun _ => 0)))), (105, .inl (0, 12, .inl (ja (fun _ => 0)))), (104, .inl (0, 12, .inl (ja (fun _ => 0)))), (103, .inl (0, 10, .inl (ja (fun _ => 0)))), (102, .inl (0, 10, .inl (jao (fun _ => some 0)))), (101, .inl (0, 40, .inl (ja (fun _ => 0)))), (100, .inl (0, 1600, .inl (ja (fun _ => 0)))), (99, .inl (0, 40, .inl (ja (fun _ => 0)))), (98, .inl (2, 40, .inl (jab (fun _ => false)))), (97, .inl (0, 40, .inl (jao (fun _ => some 0)))), (96, .inl (0, 40, .inl (ja (fun _ => 0)))), (95, .inl (2, 40, .inl (jab (fun _ => false)))), (94, .inl (0, 40, .inl (ja (fun _ => 0)))), (92, .inr (6, [.int 0, .int 0, .ref 93, .int 0, .int 0, .ref 94, .ref 95, .ref 96, .ref 97, .ref 98, .ref 99, .ref 100, .ref 101, .ref 102, .ref 103, .int 0, .int 0, .int 0, .ref 104, .ref 105, .ref 106, .ref 107, .ref 108, .null, .null, .null, .null, .int 0, .int 0, .int 0, .int 0, .int 0, .int 0, .null, .null, .null, .null, .null, .int 0, .null])), (93, .inl (0, 40, .inl (ja (fun _ => 0))))] 109 (c - 16) (s - 2324) M) 133 c_69_130 rfl rfl rfl (Nat.le_of_ble_eq_true rfl) (jNw_w rfl) ?_
  refine z_go 134 _ [.ref 92] _ c_69_133 rfl ?_
  refine z_go 136 _ [.int (jn 120), .ref 92] _ c_69_134 rfl ?_
  refine z_newa (c := .inl (0, 120, .inl (jao (fun _ => some 0)))) 138 110 (c - 17) (s - 2444) c_69_136 rfl (by decide) rfl (by omega) (show 120 ≤ s - 2324 by omega) rfl (by omega) (show s - 2324 - 120 = s - 2444 by omega) ?_
  show jZ _ _ _ _ _ (jNw [(109, .inl (0, 120, .inl (jao (fun _ => some 0)))), (108, .inl (0, 120, .inl (ja (fun _ => 0)))), (107, .inl (2, 120, .inl (jab (fun _ => false)))), (106, .inl (0, 120, .inl (ja (fun _ => 0)))), (105, .inl (0, 12, .inl (ja (fun _ => 0)))), (104, .inl (0, 12, .inl (ja (fun _ => 0)))), (103, .inl (0, 10, .inl (ja (fun _ => 0)))), (102, .inl (0, 10, .inl (jao (fun _ => some 0)))), (101, .inl (0, 40, .inl (ja (fun _ => 0)))), (100, .inl (0, 1600, .inl (ja (fun _ => 0)))), (99, .inl (0, 40, .inl (ja (fun _ => 0)))), (98, .inl (2, 40, .inl (jab (fun _ => false)))), (97, .inl (0, 40, .inl (jao (fun _ => some 0)))), (96, .inl (0, 40, .inl (ja (fun _ => 0)))), (95, .inl (2, 40, .inl (jab (fun _ => false)))), (94, .inl (0, 40, .inl (ja (fun _ => 0)))), (92, .inr (6, [.int 0, .int 0, .ref 93, .int 0, .int 0, .ref 94, .ref 95, .ref 96, .ref 97, .ref 98, .ref 99, .ref 100, .ref 101, .ref 102, .ref 103, .int 0, .int 0, .int 0, .ref 104, .ref 105, .ref 106, .ref 107, .ref 108, .null, .null, .null, .null, .int 0, .int 0, .int 0, .int 0, .int 0, .int 0, .null, .null, .null, .null, .null, .int 0, .null])), (93, .inl (0, 40, .inl (ja (fun _ => 0))))] 110 (c - 17) (s - 2444) M) _
  refine z_putf (M' := jNw [(109, .inl (0, 120, .inl (jao (fun _ => some 0)))), (108, .inl (0, 120, .inl (ja (fun _ => 0)))), (107, .inl (2, 120, .inl (jab (fun _ => false)))), (106, .inl (0, 120, .inl (ja (fun _ => 0)))), (105, .inl (0, 12, .inl (ja (fun _ => 0)))), (104, .inl (0, 12, .inl (ja (fun _ => 0)))), (103, .inl (0, 10, .inl (ja (fun _ => 0)))), (102, .inl (0, 10, .inl (jao (fun _ => some 0)))), (101, .inl (0, 40, .inl (ja (fun _ => 0)))), (100, .inl (0, 1600, .inl (ja (fun _ => 0)))), (99, .inl (0, 40, .inl (ja (fun _ => 0)))), (98, .inl (2, 40, .inl (jab (fun _ => false)))), (97, .inl (0, 40, .inl (jao (fun _ => some 0)))), (96, .inl (0, 40, .inl (ja (fun _ => 0)))), (95, .inl (2, 40, .inl (jab (fun _ => false)))), (94, .inl (0, 40, .inl (ja (fun _ => 0)))), (92, .inr (6, [.int 0, .int 0, .ref 93, .int 0, .int 0, .ref 94, .ref 95, .ref 96, .ref 97, .ref 98, .ref 99, .ref 100, .ref 101, .ref 102, .ref 103, .int 0, .int 0, .int 0, .ref 104, .ref 105, .ref 106, .ref 107, .ref 108, .ref 109, .null, .null, .null, .int 0, .int 0, .int 0, .int 0, .int 0, .int 0, .null, .null, .null, .null, .null, .int 0, .null])), (93, .inl (0, 40, .inl (ja (fun _ => 0))))] 110 (c - 17) (s - 2444) M) 141 c_69_138 rfl rfl rfl (Nat.le_of_ble_eq_true rfl) (jNw_w rfl) ?_
  refine z_go 142 _ [.ref 92] _ c_69_141 rfl ?_
  refine z_go 145 _ [.int (jn 1200), .ref 92] _ c_69_142 rfl ?_
  refine z_newa (c := .inl (0, 1200, .inl (ja (fun _ => 0)))) 147 111 (c - 18) (s - 3644) c_69_145 rfl (by decide) rfl (by omega) (show 1200 ≤ s - 2444 by omega) rfl (by omega) (show s - 2444 - 1200 = s - 3644 by omega) ?_
  show jZ _ _ _ _ _ (jNw [(110, .inl (0, 1200, .inl (ja (fun _ => 0)))), (109, .inl (0, 120, .inl (jao (fun _ => some 0)))), (108, .inl (0, 120, .inl (ja (fun _ => 0)))), (107, .inl (2, 120, .inl (jab (fun _ => false)))), (106, .inl (0, 120, .inl (ja (fun _ => 0)))), (105, .inl (0, 12, .inl (ja (fun _ => 0)))), (104, .inl (0, 12, .inl (ja (fun _ => 0)))), (103, .inl (0, 10, .inl (ja (fun _ => 0)))), (102, .inl (0, 10, .inl (jao (fun _ => some 0)))), (101, .inl (0, 40, .inl (ja (fun _ => 0)))), (100, .inl (0, 1600, .inl (ja (fun _ => 0)))), (99, .inl (0, 40, .inl (ja (fun _ => 0)))), (98, .inl (2, 40, .inl (jab (fun _ => false)))), (97, .inl (0, 40, .inl (jao (fun _ => some 0)))), (96, .inl (0, 40, .inl (ja (fun _ => 0)))), (95, .inl (2, 40, .inl (jab (fun _ => false)))), (94, .inl (0, 40, .inl (ja (fun _ => 0)))), (92, .inr (6, [.int 0, .int 0, .ref 93, .int 0, .int 0, .ref 94, .ref 95, .ref 96, .ref 97, .ref 98, .ref 99, .ref 100, .ref 101, .ref 102, .ref 103, .int 0, .int 0, .int 0, .ref 104, .ref 105, .ref 106, .ref 107, .ref 108, .ref 109, .null, .null, .null, .int 0, .int 0, .int 0, .int 0, .int 0, .int 0, .null, .null, .null, .null, .null, .int 0, .null])), (93, .inl (0, 40, .inl (ja (fun _ => 0))))] 111 (c - 18) (s - 3644) M) _
  refine z_putf (M' := jNw [(110, .inl (0, 1200, .inl (ja (fun _ => 0)))), (109, .inl (0, 120, .inl (jao (fun _ => some 0)))), (108, .inl (0, 120, .inl (ja (fun _ => 0)))), (107, .inl (2, 120, .inl (jab (fun _ => false)))), (106, .inl (0, 120, .inl (ja (fun _ => 0)))), (105, .inl (0, 12, .inl (ja (fun _ => 0)))), (104, .inl (0, 12, .inl (ja (fun _ => 0)))), (103, .inl (0, 10, .inl (ja (fun _ => 0)))), (102, .inl (0, 10, .inl (jao (fun _ => some 0)))), (101, .inl (0, 40, .inl (ja (fun _ => 0)))), (100, .inl (0, 1600, .inl (ja (fun _ => 0)))), (99, .inl (0, 40, .inl (ja (fun _ => 0)))), (98, .inl (2, 40, .inl (jab (fun _ => false)))), (97, .inl (0, 40, .inl (jao (fun _ => some 0)))), (96, .inl (0, 40, .inl (ja (fun _ => 0)))), (95, .inl (2, 40, .inl (jab (fun _ => false)))), (94, .inl (0, 40, .inl (ja (fun _ => 0)))), (92, .inr (6, [.int 0, .int 0, .ref 93, .int 0, .int 0, .ref 94, .ref 95, .ref 96, .ref 97, .ref 98, .ref 99, .ref 100, .ref 101, .ref 102, .ref 103, .int 0, .int 0, .int 0, .ref 104, .ref 105, .ref 106, .ref 107, .ref 108, .ref 109, .ref 110, .null, .null, .int 0, .int 0, .int 0, .int 0, .int 0, .int 0, .null, .null, .null, .null, .null, .int 0, .null])), (93, .inl (0, 40, .inl (ja (fun _ => 0))))] 111 (c - 18) (s - 3644) M) 150 c_69_147 rfl rfl rfl (Nat.le_of_ble_eq_true rfl) (jNw_w rfl) ?_
  refine z_go 151 _ [.ref 92] _ c_69_150 rfl ?_
  refine z_go 153 _ [.int (jn 11), .ref 92] _ c_69_151 rfl ?_
  refine z_newa (c := .inl (0, 11, .inl (jao (fun _ => some 0)))) 155 112 (c - 19) (s - 3655) c_69_153 rfl (by decide) rfl (by omega) (show 11 ≤ s - 3644 by omega) rfl (by omega) (show s - 3644 - 11 = s - 3655 by omega) ?_
  show jZ _ _ _ _ _ (jNw [(111, .inl (0, 11, .inl (jao (fun _ => some 0)))), (110, .inl (0, 1200, .inl (ja (fun _ => 0)))), (109, .inl (0, 120, .inl (jao (fun _ => some 0)))), (108, .inl (0, 120, .inl (ja (fun _ => 0)))), (107, .inl (2, 120, .inl (jab (fun _ => false)))), (106, .inl (0, 120, .inl (ja (fun _ => 0)))), (105, .inl (0, 12, .inl (ja (fun _ => 0)))), (104, .inl (0, 12, .inl (ja (fun _ => 0)))), (103, .inl (0, 10, .inl (ja (fun _ => 0)))), (102, .inl (0, 10, .inl (jao (fun _ => some 0)))), (101, .inl (0, 40, .inl (ja (fun _ => 0)))), (100, .inl (0, 1600, .inl (ja (fun _ => 0)))), (99, .inl (0, 40, .inl (ja (fun _ => 0)))), (98, .inl (2, 40, .inl (jab (fun _ => false)))), (97, .inl (0, 40, .inl (jao (fun _ => some 0)))), (96, .inl (0, 40, .inl (ja (fun _ => 0)))), (95, .inl (2, 40, .inl (jab (fun _ => false)))), (94, .inl (0, 40, .inl (ja (fun _ => 0)))), (92, .inr (6, [.int 0, .int 0, .ref 93, .int 0, .int 0, .ref 94, .ref 95, .ref 96, .ref 97, .ref 98, .ref 99, .ref 100, .ref 101, .ref 102, .ref 103, .int 0, .int 0, .int 0, .ref 104, .ref 105, .ref 106, .ref 107, .ref 108, .ref 109, .ref 110, .null, .null, .int 0, .int 0, .int 0, .int 0, .int 0, .int 0, .null, .null, .null, .null, .null, .int 0, .null])), (93, .inl (0, 40, .inl (ja (fun _ => 0))))] 112 (c - 19) (s - 3655) M) _
  refine z_putf (M' := jNw [(111, .inl (0, 11, .inl (jao (fun _ => some 0)))), (110, .inl (0, 1200, .inl (ja (fun _ => 0)))), (109, .inl (0, 120, .inl (jao (fun _ => some 0)))), (108, .inl (0, 120, .inl (ja (fun _ => 0)))), (107, .inl (2, 120, .inl (jab (fun _ => false)))), (106, .inl (0, 120, .inl (ja (fun _ => 0)))), (105, .inl (0, 12, .inl (ja (fun _ => 0)))), (104, .inl (0, 12, .inl (ja (fun _ => 0)))), (103, .inl (0, 10, .inl (ja (fun _ => 0)))), (102, .inl (0, 10, .inl (jao (fun _ => some 0)))), (101, .inl (0, 40, .inl (ja (fun _ => 0)))), (100, .inl (0, 1600, .inl (ja (fun _ => 0)))), (99, .inl (0, 40, .inl (ja (fun _ => 0)))), (98, .inl (2, 40, .inl (jab (fun _ => false)))), (97, .inl (0, 40, .inl (jao (fun _ => some 0)))), (96, .inl (0, 40, .inl (ja (fun _ => 0)))), (95, .inl (2, 40, .inl (jab (fun _ => false)))), (94, .inl (0, 40, .inl (ja (fun _ => 0)))), (92, .inr (6, [.int 0, .int 0, .ref 93, .int 0, .int 0, .ref 94, .ref 95, .ref 96, .ref 97, .ref 98, .ref 99, .ref 100, .ref 101, .ref 102, .ref 103, .int 0, .int 0, .int 0, .ref 104, .ref 105, .ref 106, .ref 107, .ref 108, .ref 109, .ref 110, .ref 111, .null, .int 0, .int 0, .int 0, .int 0, .int 0, .int 0, .null, .null, .null, .null, .null, .int 0, .null])), (93, .inl (0, 40, .inl (ja (fun _ => 0))))] 112 (c - 19) (s - 3655) M) 158 c_69_155 rfl rfl rfl (Nat.le_of_ble_eq_true rfl) (jNw_w rfl) ?_
  refine z_go 159 _ [.ref 92] _ c_69_158 rfl ?_
  refine z_go 161 _ [.int (jn 40), .ref 92] _ c_69_159 rfl ?_
  refine z_newa (c := .inl (2, 40, .inl (jab (fun _ => false)))) 163 113 (c - 20) (s - 3695) c_69_161 rfl (by decide) rfl (by omega) (show 40 ≤ s - 3655 by omega) rfl (by omega) (show s - 3655 - 40 = s - 3695 by omega) ?_
  show jZ _ _ _ _ _ (jNw [(112, .inl (2, 40, .inl (jab (fun _ => false)))), (111, .inl (0, 11, .inl (jao (fun _ => some 0)))), (110, .inl (0, 1200, .inl (ja (fun _ => 0)))), (109, .inl (0, 120, .inl (jao (fun _ => some 0)))), (108, .inl (0, 120, .inl (ja (fun _ => 0)))), (107, .inl (2, 120, .inl (jab (fun _ => false)))), (106, .inl (0, 120, .inl (ja (fun _ => 0)))), (105, .inl (0, 12, .inl (ja (fun _ => 0)))), (104, .inl (0, 12, .inl (ja (fun _ => 0)))), (103, .inl (0, 10, .inl (ja (fun _ => 0)))), (102, .inl (0, 10, .inl (jao (fun _ => some 0)))), (101, .inl (0, 40, .inl (ja (fun _ => 0)))), (100, .inl (0, 1600, .inl (ja (fun _ => 0)))), (99, .inl (0, 40, .inl (ja (fun _ => 0)))), (98, .inl (2, 40, .inl (jab (fun _ => false)))), (97, .inl (0, 40, .inl (jao (fun _ => some 0)))), (96, .inl (0, 40, .inl (ja (fun _ => 0)))), (95, .inl (2, 40, .inl (jab (fun _ => false)))), (94, .inl (0, 40, .inl (ja (fun _ => 0)))), (92, .inr (6, [.int 0, .int 0, .ref 93, .int 0, .int 0, .ref 94, .ref 95, .ref 96, .ref 97, .ref 98, .ref 99, .ref 100, .ref 101, .ref 102, .ref 103, .int 0, .int 0, .int 0, .ref 104, .ref 105, .ref 106, .ref 107, .ref 108, .ref 109, .ref 110, .ref 111, .null, .int 0, .int 0, .int 0, .int 0, .int 0, .int 0, .null, .null, .null, .null, .null, .int 0, .null])), (93, .inl (0, 40, .inl (ja (fun _ => 0))))] 113 (c - 20) (s - 3695) M) _
  refine z_putf (M' := jNw [(112, .inl (2, 40, .inl (jab (fun _ => false)))), (111, .inl (0, 11, .inl (jao (fun _ => some 0)))), (110, .inl (0, 1200, .inl (ja (fun _ => 0)))), (109, .inl (0, 120, .inl (jao (fun _ => some 0)))), (108, .inl (0, 120, .inl (ja (fun _ => 0)))), (107, .inl (2, 120, .inl (jab (fun _ => false)))), (106, .inl (0, 120, .inl (ja (fun _ => 0)))), (105, .inl (0, 12, .inl (ja (fun _ => 0)))), (104, .inl (0, 12, .inl (ja (fun _ => 0)))), (103, .inl (0, 10, .inl (ja (fun _ => 0)))), (102, .inl (0, 10, .inl (jao (fun _ => some 0)))), (101, .inl (0, 40, .inl (ja (fun _ => 0)))), (100, .inl (0, 1600, .inl (ja (fun _ => 0)))), (99, .inl (0, 40, .inl (ja (fun _ => 0)))), (98, .inl (2, 40, .inl (jab (fun _ => false)))), (97, .inl (0, 40, .inl (jao (fun _ => some 0)))), (96, .inl (0, 40, .inl (ja (fun _ => 0)))), (95, .inl (2, 40, .inl (jab (fun _ => false)))), (94, .inl (0, 40, .inl (ja (fun _ => 0)))), (92, .inr (6, [.int 0, .int 0, .ref 93, .int 0, .int 0, .ref 94, .ref 95, .ref 96, .ref 97, .ref 98, .ref 99, .ref 100, .ref 101, .ref 102, .ref 103, .int 0, .int 0, .int 0, .ref 104, .ref 105, .ref 106, .ref 107, .ref 108, .ref 109, .ref 110, .ref 111, .ref 112, .int 0, .int 0, .int 0, .int 0, .int 0, .int 0, .null, .null, .null, .null, .null, .int 0, .null])), (93, .inl (0, 40, .inl (ja (fun _ => 0))))] 113 (c - 20) (s - 3695) M) 166 c_69_163 rfl rfl rfl (Nat.le_of_ble_eq_true rfl) (jNw_w rfl) ?_
  refine z_go 167 _ [.ref 92] _ c_69_166 rfl ?_
  refine z_go 169 _ [.int (jn 10), .ref 92] _ c_69_167 rfl ?_
  refine z_newa (c := .inl (0, 10, .inl (ja (fun _ => 0)))) 171 114 (c - 21) (s - 3705) c_69_169 rfl (by decide) rfl (by omega) (show 10 ≤ s - 3695 by omega) rfl (by omega) (show s - 3695 - 10 = s - 3705 by omega) ?_
  show jZ _ _ _ _ _ (jNw [(113, .inl (0, 10, .inl (ja (fun _ => 0)))), (112, .inl (2, 40, .inl (jab (fun _ => false)))), (111, .inl (0, 11, .inl (jao (fun _ => some 0)))), (110, .inl (0, 1200, .inl (ja (fun _ => 0)))), (109, .inl (0, 120, .inl (jao (fun _ => some 0)))), (108, .inl (0, 120, .inl (ja (fun _ => 0)))), (107, .inl (2, 120, .inl (jab (fun _ => false)))), (106, .inl (0, 120, .inl (ja (fun _ => 0)))), (105, .inl (0, 12, .inl (ja (fun _ => 0)))), (104, .inl (0, 12, .inl (ja (fun _ => 0)))), (103, .inl (0, 10, .inl (ja (fun _ => 0)))), (102, .inl (0, 10, .inl (jao (fun _ => some 0)))), (101, .inl (0, 40, .inl (ja (fun _ => 0)))), (100, .inl (0, 1600, .inl (ja (fun _ => 0)))), (99, .inl (0, 40, .inl (ja (fun _ => 0)))), (98, .inl (2, 40, .inl (jab (fun _ => false)))), (97, .inl (0, 40, .inl (jao (fun _ => some 0)))), (96, .inl (0, 40, .inl (ja (fun _ => 0)))), (95, .inl (2, 40, .inl (jab (fun _ => false)))), (94, .inl (0, 40, .inl (ja (fun _ => 0)))), (92, .inr (6, [.int 0, .int 0, .ref 93, .int 0, .int 0, .ref 94, .ref 95, .ref 96, .ref 97, .ref 98, .ref 99, .ref 100, .ref 101, .ref 102, .ref 103, .int 0, .int 0, .int 0, .ref 104, .ref 105, .ref 106, .ref 107, .ref 108, .ref 109, .ref 110, .ref 111, .ref 112, .int 0, .int 0, .int 0, .int 0, .int 0, .int 0, .null, .null, .null, .null, .null, .int 0, .null])), (93, .inl (0, 40, .inl (ja (fun _ => 0))))] 114 (c - 21) (s - 3705) M) _
  refine z_putf (M' := jNw [(113, .inl (0, 10, .inl (ja (fun _ => 0)))), (112, .inl (2, 40, .inl (jab (fun _ => false)))), (111, .inl (0, 11, .inl (jao (fun _ => some 0)))), (110, .inl (0, 1200, .inl (ja (fun _ => 0)))), (109, .inl (0, 120, .inl (jao (fun _ => some 0)))), (108, .inl (0, 120, .inl (ja (fun _ => 0)))), (107, .inl (2, 120, .inl (jab (fun _ => false)))), (106, .inl (0, 120, .inl (ja (fun _ => 0)))), (105, .inl (0, 12, .inl (ja (fun _ => 0)))), (104, .inl (0, 12, .inl (ja (fun _ => 0)))), (103, .inl (0, 10, .inl (ja (fun _ => 0)))), (102, .inl (0, 10, .inl (jao (fun _ => some 0)))), (101, .inl (0, 40, .inl (ja (fun _ => 0)))), (100, .inl (0, 1600, .inl (ja (fun _ => 0)))), (99, .inl (0, 40, .inl (ja (fun _ => 0)))), (98, .inl (2, 40, .inl (jab (fun _ => false)))), (97, .inl (0, 40, .inl (jao (fun _ => some 0)))), (96, .inl (0, 40, .inl (ja (fun _ => 0)))), (95, .inl (2, 40, .inl (jab (fun _ => false)))), (94, .inl (0, 40, .inl (ja (fun _ => 0)))), (92, .inr (6, [.int 0, .int 0, .ref 93, .int 0, .int 0, .ref 94, .ref 95, .ref 96, .ref 97, .ref 98, .ref 99, .ref 100, .ref 101, .ref 102, .ref 103, .int 0, .int 0, .int 0, .ref 104, .ref 105, .ref 106, .ref 107, .ref 108, .ref 109, .ref 110, .ref 111, .ref 112, .int 0, .int 0, .int 0, .int 0, .int 0, .int 0, .ref 113, .null, .null, .null, .null, .int 0, .null])), (93, .inl (0, 40, .inl (ja (fun _ => 0))))] 114 (c - 21) (s - 3705) M) 174 c_69_171 rfl rfl rfl (Nat.le_of_ble_eq_true rfl) (jNw_w rfl) ?_
  refine z_go 175 _ [.ref 92] _ c_69_174 rfl ?_
  refine z_go 177 _ [.int (jn 10), .ref 92] _ c_69_175 rfl ?_
  refine z_newa (c := .inl (2, 10, .inl (jab (fun _ => false)))) 179 115 (c - 22) (s - 3715) c_69_177 rfl (by decide) rfl (by omega) (show 10 ≤ s - 3705 by omega) rfl (by omega) (show s - 3705 - 10 = s - 3715 by omega) ?_
  show jZ _ _ _ _ _ (jNw [(114, .inl (2, 10, .inl (jab (fun _ => false)))), (113, .inl (0, 10, .inl (ja (fun _ => 0)))), (112, .inl (2, 40, .inl (jab (fun _ => false)))), (111, .inl (0, 11, .inl (jao (fun _ => some 0)))), (110, .inl (0, 1200, .inl (ja (fun _ => 0)))), (109, .inl (0, 120, .inl (jao (fun _ => some 0)))), (108, .inl (0, 120, .inl (ja (fun _ => 0)))), (107, .inl (2, 120, .inl (jab (fun _ => false)))), (106, .inl (0, 120, .inl (ja (fun _ => 0)))), (105, .inl (0, 12, .inl (ja (fun _ => 0)))), (104, .inl (0, 12, .inl (ja (fun _ => 0)))), (103, .inl (0, 10, .inl (ja (fun _ => 0)))), (102, .inl (0, 10, .inl (jao (fun _ => some 0)))), (101, .inl (0, 40, .inl (ja (fun _ => 0)))), (100, .inl (0, 1600, .inl (ja (fun _ => 0)))), (99, .inl (0, 40, .inl (ja (fun _ => 0)))), (98, .inl (2, 40, .inl (jab (fun _ => false)))), (97, .inl (0, 40, .inl (jao (fun _ => some 0)))), (96, .inl (0, 40, .inl (ja (fun _ => 0)))), (95, .inl (2, 40, .inl (jab (fun _ => false)))), (94, .inl (0, 40, .inl (ja (fun _ => 0)))), (92, .inr (6, [.int 0, .int 0, .ref 93, .int 0, .int 0, .ref 94, .ref 95, .ref 96, .ref 97, .ref 98, .ref 99, .ref 100, .ref 101, .ref 102, .ref 103, .int 0, .int 0, .int 0, .ref 104, .ref 105, .ref 106, .ref 107, .ref 108, .ref 109, .ref 110, .ref 111, .ref 112, .int 0, .int 0, .int 0, .int 0, .int 0, .int 0, .ref 113, .null, .null, .null, .null, .int 0, .null])), (93, .inl (0, 40, .inl (ja (fun _ => 0))))] 115 (c - 22) (s - 3715) M) _
  refine z_putf (M' := jNw [(114, .inl (2, 10, .inl (jab (fun _ => false)))), (113, .inl (0, 10, .inl (ja (fun _ => 0)))), (112, .inl (2, 40, .inl (jab (fun _ => false)))), (111, .inl (0, 11, .inl (jao (fun _ => some 0)))), (110, .inl (0, 1200, .inl (ja (fun _ => 0)))), (109, .inl (0, 120, .inl (jao (fun _ => some 0)))), (108, .inl (0, 120, .inl (ja (fun _ => 0)))), (107, .inl (2, 120, .inl (jab (fun _ => false)))), (106, .inl (0, 120, .inl (ja (fun _ => 0)))), (105, .inl (0, 12, .inl (ja (fun _ => 0)))), (104, .inl (0, 12, .inl (ja (fun _ => 0)))), (103, .inl (0, 10, .inl (ja (fun _ => 0)))), (102, .inl (0, 10, .inl (jao (fun _ => some 0)))), (101, .inl (0, 40, .inl (ja (fun _ => 0)))), (100, .inl (0, 1600, .inl (ja (fun _ => 0)))), (99, .inl (0, 40, .inl (ja (fun _ => 0)))), (98, .inl (2, 40, .inl (jab (fun _ => false)))), (97, .inl (0, 40, .inl (jao (fun _ => some 0)))), (96, .inl (0, 40, .inl (ja (fun _ => 0)))), (95, .inl (2, 40, .inl (jab (fun _ => false)))), (94, .inl (0, 40, .inl (ja (fun _ => 0)))), (92, .inr (6, [.int 0, .int 0, .ref 93, .int 0, .int 0, .ref 94, .ref 95, .ref 96, .ref 97, .ref 98, .ref 99, .ref 100, .ref 101, .ref 102, .ref 103, .int 0, .int 0, .int 0, .ref 104, .ref 105, .ref 106, .ref 107, .ref 108, .ref 109, .ref 110, .ref 111, .ref 112, .int 0, .int 0, .int 0, .int 0, .int 0, .int 0, .ref 113, .ref 114, .null, .null, .null, .int 0, .null])), (93, .inl (0, 40, .inl (ja (fun _ => 0))))] 115 (c - 22) (s - 3715) M) 182 c_69_179 rfl rfl rfl (Nat.le_of_ble_eq_true rfl) (jNw_w rfl) ?_
  refine z_go 183 _ [.ref 92] _ c_69_182 rfl ?_
  refine z_go 185 _ [.int (jn 10), .ref 92] _ c_69_183 rfl ?_
  refine z_newa (c := .inl (0, 10, .inl (ja (fun _ => 0)))) 187 116 (c - 23) (s - 3725) c_69_185 rfl (by decide) rfl (by omega) (show 10 ≤ s - 3715 by omega) rfl (by omega) (show s - 3715 - 10 = s - 3725 by omega) ?_
  show jZ _ _ _ _ _ (jNw [(115, .inl (0, 10, .inl (ja (fun _ => 0)))), (114, .inl (2, 10, .inl (jab (fun _ => false)))), (113, .inl (0, 10, .inl (ja (fun _ => 0)))), (112, .inl (2, 40, .inl (jab (fun _ => false)))), (111, .inl (0, 11, .inl (jao (fun _ => some 0)))), (110, .inl (0, 1200, .inl (ja (fun _ => 0)))), (109, .inl (0, 120, .inl (jao (fun _ => some 0)))), (108, .inl (0, 120, .inl (ja (fun _ => 0)))), (107, .inl (2, 120, .inl (jab (fun _ => false)))), (106, .inl (0, 120, .inl (ja (fun _ => 0)))), (105, .inl (0, 12, .inl (ja (fun _ => 0)))), (104, .inl (0, 12, .inl (ja (fun _ => 0)))), (103, .inl (0, 10, .inl (ja (fun _ => 0)))), (102, .inl (0, 10, .inl (jao (fun _ => some 0)))), (101, .inl (0, 40, .inl (ja (fun _ => 0)))), (100, .inl (0, 1600, .inl (ja (fun _ => 0)))), (99, .inl (0, 40, .inl (ja (fun _ => 0)))), (98, .inl (2, 40, .inl (jab (fun _ => false)))), (97, .inl (0, 40, .inl (jao (fun _ => some 0)))), (96, .inl (0, 40, .inl (ja (fun _ => 0)))), (95, .inl (2, 40, .inl (jab (fun _ => false)))), (94, .inl (0, 40, .inl (ja (fun _ => 0)))), (92, .inr (6, [.int 0, .int 0, .ref 93, .int 0, .int 0, .ref 94, .ref 95, .ref 96, .ref 97, .ref 98, .ref 99, .ref 100, .ref 101, .ref 102, .ref 103, .int 0, .int 0, .int 0, .ref 104, .ref 105, .ref 106, .ref 107, .ref 108, .ref 109, .ref 110, .ref 111, .ref 112, .int 0, .int 0, .int 0, .int 0, .int 0, .int 0, .ref 113, .ref 114, .null, .null, .null, .int 0, .null])), (93, .inl (0, 40, .inl (ja (fun _ => 0))))] 116 (c - 23) (s - 3725) M) _
  refine z_putf (M' := jNw [(115, .inl (0, 10, .inl (ja (fun _ => 0)))), (114, .inl (2, 10, .inl (jab (fun _ => false)))), (113, .inl (0, 10, .inl (ja (fun _ => 0)))), (112, .inl (2, 40, .inl (jab (fun _ => false)))), (111, .inl (0, 11, .inl (jao (fun _ => some 0)))), (110, .inl (0, 1200, .inl (ja (fun _ => 0)))), (109, .inl (0, 120, .inl (jao (fun _ => some 0)))), (108, .inl (0, 120, .inl (ja (fun _ => 0)))), (107, .inl (2, 120, .inl (jab (fun _ => false)))), (106, .inl (0, 120, .inl (ja (fun _ => 0)))), (105, .inl (0, 12, .inl (ja (fun _ => 0)))), (104, .inl (0, 12, .inl (ja (fun _ => 0)))), (103, .inl (0, 10, .inl (ja (fun _ => 0)))), (102, .inl (0, 10, .inl (jao (fun _ => some 0)))), (101, .inl (0, 40, .inl (ja (fun _ => 0)))), (100, .inl (0, 1600, .inl (ja (fun _ => 0)))), (99, .inl (0, 40, .inl (ja (fun _ => 0)))), (98, .inl (2, 40, .inl (jab (fun _ => false)))), (97, .inl (0, 40, .inl (jao (fun _ => some 0)))), (96, .inl (0, 40, .inl (ja (fun _ => 0)))), (95, .inl (2, 40, .inl (jab (fun _ => false)))), (94, .inl (0, 40, .inl (ja (fun _ => 0)))), (92, .inr (6, [.int 0, .int 0, .ref 93, .int 0, .int 0, .ref 94, .ref 95, .ref 96, .ref 97, .ref 98, .ref 99, .ref 100, .ref 101, .ref 102, .ref 103, .int 0, .int 0, .int 0, .ref 104, .ref 105, .ref 106, .ref 107, .ref 108, .ref 109, .ref 110, .ref 111, .ref 112, .int 0, .int 0, .int 0, .int 0, .int 0, .int 0, .ref 113, .ref 114, .ref 115, .null, .null, .int 0, .null])), (93, .inl (0, 40, .inl (ja (fun _ => 0))))] 116 (c - 23) (s - 3725) M) 190 c_69_187 rfl rfl rfl (Nat.le_of_ble_eq_true rfl) (jNw_w rfl) ?_
  refine z_go 191 _ [.ref 92] _ c_69_190 rfl ?_
  refine z_go 193 _ [.int (jn 10), .ref 92] _ c_69_191 rfl ?_
  refine z_newa (c := .inl (0, 10, .inl (jao (fun _ => some 0)))) 195 117 (c - 24) (s - 3735) c_69_193 rfl (by decide) rfl (by omega) (show 10 ≤ s - 3725 by omega) rfl (by omega) (show s - 3725 - 10 = s - 3735 by omega) ?_
  show jZ _ _ _ _ _ (jNw [(116, .inl (0, 10, .inl (jao (fun _ => some 0)))), (115, .inl (0, 10, .inl (ja (fun _ => 0)))), (114, .inl (2, 10, .inl (jab (fun _ => false)))), (113, .inl (0, 10, .inl (ja (fun _ => 0)))), (112, .inl (2, 40, .inl (jab (fun _ => false)))), (111, .inl (0, 11, .inl (jao (fun _ => some 0)))), (110, .inl (0, 1200, .inl (ja (fun _ => 0)))), (109, .inl (0, 120, .inl (jao (fun _ => some 0)))), (108, .inl (0, 120, .inl (ja (fun _ => 0)))), (107, .inl (2, 120, .inl (jab (fun _ => false)))), (106, .inl (0, 120, .inl (ja (fun _ => 0)))), (105, .inl (0, 12, .inl (ja (fun _ => 0)))), (104, .inl (0, 12, .inl (ja (fun _ => 0)))), (103, .inl (0, 10, .inl (ja (fun _ => 0)))), (102, .inl (0, 10, .inl (jao (fun _ => some 0)))), (101, .inl (0, 40, .inl (ja (fun _ => 0)))), (100, .inl (0, 1600, .inl (ja (fun _ => 0)))), (99, .inl (0, 40, .inl (ja (fun _ => 0)))), (98, .inl (2, 40, .inl (jab (fun _ => false)))), (97, .inl (0, 40, .inl (jao (fun _ => some 0)))), (96, .inl (0, 40, .inl (ja (fun _ => 0)))), (95, .inl (2, 40, .inl (jab (fun _ => false)))), (94, .inl (0, 40, .inl (ja (fun _ => 0)))), (92, .inr (6, [.int 0, .int 0, .ref 93, .int 0, .int 0, .ref 94, .ref 95, .ref 96, .ref 97, .ref 98, .ref 99, .ref 100, .ref 101, .ref 102, .ref 103, .int 0, .int 0, .int 0, .ref 104, .ref 105, .ref 106, .ref 107, .ref 108, .ref 109, .ref 110, .ref 111, .ref 112, .int 0, .int 0, .int 0, .int 0, .int 0, .int 0, .ref 113, .ref 114, .ref 115, .null, .null, .int 0, .null])), (93, .inl (0, 40, .inl (ja (fun _ => 0))))] 117 (c - 24) (s - 3735) M) _
  refine z_putf (M' := jNw [(116, .inl (0, 10, .inl (jao (fun _ => some 0)))), (115, .inl (0, 10, .inl (ja (fun _ => 0)))), (114, .inl (2, 10, .inl (jab (fun _ => false)))), (113, .inl (0, 10, .inl (ja (fun _ => 0)))), (112, .inl (2, 40, .inl (jab (fun _ => false)))), (111, .inl (0, 11, .inl (jao (fun _ => some 0)))), (110, .inl (0, 1200, .inl (ja (fun _ => 0)))), (109, .inl (0, 120, .inl (jao (fun _ => some 0)))), (108, .inl (0, 120, .inl (ja (fun _ => 0)))), (107, .inl (2, 120, .inl (jab (fun _ => false)))), (106, .inl (0, 120, .inl (ja (fun _ => 0)))), (105, .inl (0, 12, .inl (ja (fun _ => 0)))), (104, .inl (0, 12, .inl (ja (fun _ => 0)))), (103, .inl (0, 10, .inl (ja (fun _ => 0)))), (102, .inl (0, 10, .inl (jao (fun _ => some 0)))), (101, .inl (0, 40, .inl (ja (fun _ => 0)))), (100, .inl (0, 1600, .inl (ja (fun _ => 0)))), (99, .inl (0, 40, .inl (ja (fun _ => 0)))), (98, .inl (2, 40, .inl (jab (fun _ => false)))), (97, .inl (0, 40, .inl (jao (fun _ => some 0)))), (96, .inl (0, 40, .inl (ja (fun _ => 0)))), (95, .inl (2, 40, .inl (jab (fun _ => false)))), (94, .inl (0, 40, .inl (ja (fun _ => 0)))), (92, .inr (6, [.int 0, .int 0, .ref 93, .int 0, .int 0, .ref 94, .ref 95, .ref 96, .ref 97, .ref 98, .ref 99, .ref 100, .ref 101, .ref 102, .ref 103, .int 0, .int 0, .int 0, .ref 104, .ref 105, .ref 106, .ref 107, .ref 108, .ref 109, .ref 110, .ref 111, .ref 112, .int 0, .int 0, .int 0, .int 0, .int 0, .int 0, .ref 113, .ref 114, .ref 115, .ref 116, .null, .int 0, .null])), (93, .inl (0, 40, .inl (ja (fun _ => 0))))] 117 (c - 24) (s - 3735) M) 198 c_69_195 rfl rfl rfl (Nat.le_of_ble_eq_true rfl) (jNw_w rfl) ?_
  refine z_go 199 _ [.ref 92] _ c_69_198 rfl ?_
  refine z_go 201 _ [.int (jn 100), .ref 92] _ c_69_199 rfl ?_
  refine z_newa (c := .inl (0, 100, .inl (ja (fun _ => 0)))) 203 118 (c - 25) (s - 3835) c_69_201 rfl (by decide) rfl (by omega) (show 100 ≤ s - 3735 by omega) rfl (by omega) (show s - 3735 - 100 = s - 3835 by omega) ?_
  show jZ _ _ _ _ _ (jNw [(117, .inl (0, 100, .inl (ja (fun _ => 0)))), (116, .inl (0, 10, .inl (jao (fun _ => some 0)))), (115, .inl (0, 10, .inl (ja (fun _ => 0)))), (114, .inl (2, 10, .inl (jab (fun _ => false)))), (113, .inl (0, 10, .inl (ja (fun _ => 0)))), (112, .inl (2, 40, .inl (jab (fun _ => false)))), (111, .inl (0, 11, .inl (jao (fun _ => some 0)))), (110, .inl (0, 1200, .inl (ja (fun _ => 0)))), (109, .inl (0, 120, .inl (jao (fun _ => some 0)))), (108, .inl (0, 120, .inl (ja (fun _ => 0)))), (107, .inl (2, 120, .inl (jab (fun _ => false)))), (106, .inl (0, 120, .inl (ja (fun _ => 0)))), (105, .inl (0, 12, .inl (ja (fun _ => 0)))), (104, .inl (0, 12, .inl (ja (fun _ => 0)))), (103, .inl (0, 10, .inl (ja (fun _ => 0)))), (102, .inl (0, 10, .inl (jao (fun _ => some 0)))), (101, .inl (0, 40, .inl (ja (fun _ => 0)))), (100, .inl (0, 1600, .inl (ja (fun _ => 0)))), (99, .inl (0, 40, .inl (ja (fun _ => 0)))), (98, .inl (2, 40, .inl (jab (fun _ => false)))), (97, .inl (0, 40, .inl (jao (fun _ => some 0)))), (96, .inl (0, 40, .inl (ja (fun _ => 0)))), (95, .inl (2, 40, .inl (jab (fun _ => false)))), (94, .inl (0, 40, .inl (ja (fun _ => 0)))), (92, .inr (6, [.int 0, .int 0, .ref 93, .int 0, .int 0, .ref 94, .ref 95, .ref 96, .ref 97, .ref 98, .ref 99, .ref 100, .ref 101, .ref 102, .ref 103, .int 0, .int 0, .int 0, .ref 104, .ref 105, .ref 106, .ref 107, .ref 108, .ref 109, .ref 110, .ref 111, .ref 112, .int 0, .int 0, .int 0, .int 0, .int 0, .int 0, .ref 113, .ref 114, .ref 115, .ref 116, .null, .int 0, .null])), (93, .inl (0, 40, .inl (ja (fun _ => 0))))] 118 (c - 25) (s - 3835) M) _
  refine z_putf (M' := jNw [(117, .inl (0, 100, .inl (ja (fun _ => 0)))), (116, .inl (0, 10, .inl (jao (fun _ => some 0)))), (115, .inl (0, 10, .inl (ja (fun _ => 0)))), (114, .inl (2, 10, .inl (jab (fun _ => false)))), (113, .inl (0, 10, .inl (ja (fun _ => 0)))), (112, .inl (2, 40, .inl (jab (fun _ => false)))), (111, .inl (0, 11, .inl (jao (fun _ => some 0)))), (110, .inl (0, 1200, .inl (ja (fun _ => 0)))), (109, .inl (0, 120, .inl (jao (fun _ => some 0)))), (108, .inl (0, 120, .inl (ja (fun _ => 0)))), (107, .inl (2, 120, .inl (jab (fun _ => false)))), (106, .inl (0, 120, .inl (ja (fun _ => 0)))), (105, .inl (0, 12, .inl (ja (fun _ => 0)))), (104, .inl (0, 12, .inl (ja (fun _ => 0)))), (103, .inl (0, 10, .inl (ja (fun _ => 0)))), (102, .inl (0, 10, .inl (jao (fun _ => some 0)))), (101, .inl (0, 40, .inl (ja (fun _ => 0)))), (100, .inl (0, 1600, .inl (ja (fun _ => 0)))), (99, .inl (0, 40, .inl (ja (fun _ => 0)))), (98, .inl (2, 40, .inl (jab (fun _ => false)))), (97, .inl (0, 40, .inl (jao (fun _ => some 0)))), (96, .inl (0, 40, .inl (ja (fun _ => 0)))), (95, .inl (2, 40, .inl (jab (fun _ => false)))), (94, .inl (0, 40, .inl (ja (fun _ => 0)))), (92, .inr (6, [.int 0, .int 0, .ref 93, .int 0, .int 0, .ref 94, .ref 95, .ref 96, .ref 97, .ref 98, .ref 99, .ref 100, .ref 101, .ref 102, .ref 103, .int 0, .int 0, .int 0, .ref 104, .ref 105, .ref 106, .ref 107, .ref 108, .ref 109, .ref 110, .ref 111, .ref 112, .int 0, .int 0, .int 0, .int 0, .int 0, .int 0, .ref 113, .ref 114, .ref 115, .ref 116, .ref 117, .int 0, .null])), (93, .inl (0, 40, .inl (ja (fun _ => 0))))] 118 (c - 25) (s - 3835) M) 206 c_69_203 rfl rfl rfl (Nat.le_of_ble_eq_true rfl) (jNw_w rfl) ?_
  refine z_go 207 _ [.ref 92] _ c_69_206 rfl ?_
  refine z_go 209 _ [.int (jn 12), .ref 92] _ c_69_207 rfl ?_
  refine z_newa (c := .inl (0, 12, .inl (ja (fun _ => 0)))) 211 119 (c - 26) (s - 3847) c_69_209 rfl (by decide) rfl (by omega) (show 12 ≤ s - 3835 by omega) rfl (by omega) (show s - 3835 - 12 = s - 3847 by omega) ?_
  show jZ _ _ _ _ _ (jNw [(118, .inl (0, 12, .inl (ja (fun _ => 0)))), (117, .inl (0, 100, .inl (ja (fun _ => 0)))), (116, .inl (0, 10, .inl (jao (fun _ => some 0)))), (115, .inl (0, 10, .inl (ja (fun _ => 0)))), (114, .inl (2, 10, .inl (jab (fun _ => false)))), (113, .inl (0, 10, .inl (ja (fun _ => 0)))), (112, .inl (2, 40, .inl (jab (fun _ => false)))), (111, .inl (0, 11, .inl (jao (fun _ => some 0)))), (110, .inl (0, 1200, .inl (ja (fun _ => 0)))), (109, .inl (0, 120, .inl (jao (fun _ => some 0)))), (108, .inl (0, 120, .inl (ja (fun _ => 0)))), (107, .inl (2, 120, .inl (jab (fun _ => false)))), (106, .inl (0, 120, .inl (ja (fun _ => 0)))), (105, .inl (0, 12, .inl (ja (fun _ => 0)))), (104, .inl (0, 12, .inl (ja (fun _ => 0)))), (103, .inl (0, 10, .inl (ja (fun _ => 0)))), (102, .inl (0, 10, .inl (jao (fun _ => some 0)))), (101, .inl (0, 40, .inl (ja (fun _ => 0)))), (100, .inl (0, 1600, .inl (ja (fun _ => 0)))), (99, .inl (0, 40, .inl (ja (fun _ => 0)))), (98, .inl (2, 40, .inl (jab (fun _ => false)))), (97, .inl (0, 40, .inl (jao (fun _ => some 0)))), (96, .inl (0, 40, .inl (ja (fun _ => 0)))), (95, .inl (2, 40, .inl (jab (fun _ => false)))), (94, .inl (0, 40, .inl (ja (fun _ => 0)))), (92, .inr (6, [.int 0, .int 0, .ref 93, .int 0, .int 0, .ref 94, .ref 95, .ref 96, .ref 97, .ref 98, .ref 99, .ref 100, .ref 101, .ref 102, .ref 103, .int 0, .int 0, .int 0, .ref 104, .ref 105, .ref 106, .ref 107, .ref 108, .ref 109, .ref 110, .ref 111, .ref 112, .int 0, .int 0, .int 0, .int 0, .int 0, .int 0, .ref 113, .ref 114, .ref 115, .ref 116, .ref 117, .int 0, .null])), (93, .inl (0, 40, .inl (ja (fun _ => 0))))] 119 (c - 26) (s - 3847) M) _
  refine z_putf (M' := jNw [(118, .inl (0, 12, .inl (ja (fun _ => 0)))), (117, .inl (0, 100, .inl (ja (fun _ => 0)))), (116, .inl (0, 10, .inl (jao (fun _ => some 0)))), (115, .inl (0, 10, .inl (ja (fun _ => 0)))), (114, .inl (2, 10, .inl (jab (fun _ => false)))), (113, .inl (0, 10, .inl (ja (fun _ => 0)))), (112, .inl (2, 40, .inl (jab (fun _ => false)))), (111, .inl (0, 11, .inl (jao (fun _ => some 0)))), (110, .inl (0, 1200, .inl (ja (fun _ => 0)))), (109, .inl (0, 120, .inl (jao (fun _ => some 0)))), (108, .inl (0, 120, .inl (ja (fun _ => 0)))), (107, .inl (2, 120, .inl (jab (fun _ => false)))), (106, .inl (0, 120, .inl (ja (fun _ => 0)))), (105, .inl (0, 12, .inl (ja (fun _ => 0)))), (104, .inl (0, 12, .inl (ja (fun _ => 0)))), (103, .inl (0, 10, .inl (ja (fun _ => 0)))), (102, .inl (0, 10, .inl (jao (fun _ => some 0)))), (101, .inl (0, 40, .inl (ja (fun _ => 0)))), (100, .inl (0, 1600, .inl (ja (fun _ => 0)))), (99, .inl (0, 40, .inl (ja (fun _ => 0)))), (98, .inl (2, 40, .inl (jab (fun _ => false)))), (97, .inl (0, 40, .inl (jao (fun _ => some 0)))), (96, .inl (0, 40, .inl (ja (fun _ => 0)))), (95, .inl (2, 40, .inl (jab (fun _ => false)))), (94, .inl (0, 40, .inl (ja (fun _ => 0)))), (92, .inr (6, [.int 0, .int 0, .ref 93, .int 0, .int 0, .ref 94, .ref 95, .ref 96, .ref 97, .ref 98, .ref 99, .ref 100, .ref 101, .ref 102, .ref 103, .int 0, .int 0, .int 0, .ref 104, .ref 105, .ref 106, .ref 107, .ref 108, .ref 109, .ref 110, .ref 111, .ref 112, .int 0, .int 0, .int 0, .int 0, .int 0, .int 0, .ref 113, .ref 114, .ref 115, .ref 116, .ref 117, .int 0, .ref 118])), (93, .inl (0, 40, .inl (ja (fun _ => 0))))] 119 (c - 26) (s - 3847) M) 214 c_69_211 rfl rfl rfl (Nat.le_of_ble_eq_true rfl) (jNw_w rfl) ?_
  refine z_ret c_69_214 ?_
  exact ⟨rfl, ⟨⟨0, 0, false, (fun _ => (0, false, 0, some 0, false, 0)), fun _ => 0, fun _ => 0, fun _ => some 0, fun _ => 0, rfl, rfl, ⟨rfl, rfl, rfl, rfl, rfl, rfl⟩, rfl, rfl, rfl, rfl⟩, ⟨rfl, rfl, rfl, rfl, rfl, rfl, rfl⟩, ⟨rfl, rfl, rfl, rfl, rfl⟩, ⟨⟨fun _ => some 0, rfl⟩, fun _ => false, rfl⟩, rfl, fun _ => (by decide : (0 : Nat) < 8), fun _ => (by decide : (0 : Nat) < 8)⟩, fun k hk => jNw_fr rfl hk, rfl⟩
theorem t_linit {d c s : Nat} {M : jx_M} (hg : M.1 86 = .inr (1, [.int 0, .int 0, .int 0, .null])) (hM : M.2 = (87, c, s)) (hc : 100 ≤ c) (hs : 5000 ≤ s) : jZ (d + 1) 11 0 [some (.ref 86)] [] M (jV none fun M' => (M'.1 86 = lO false false 0 ∧ jgr M' 87 g00) ∧ (∀ k, k < 86 → M'.1 k = M.1 k) ∧ M'.2 = (91, c - 4, s - 175)) := by
  refine z_m (jNw_0 hM) ?_
  refine z_go 1 _ [.ref 86] _ c_11_0 rfl ?_
  refine z_go 4 _ [] _ c_11_1 rfl ?_
  refine z_go 5 _ [.ref 86] _ c_11_4 rfl ?_
  refine z_new 8 88 (c - 1) (s - 5) c_11_5 rfl (by omega) (show 5 ≤ s by omega) rfl (by omega) (show s - 5 = s - 5 by omega) ?_
  show jZ _ _ _ _ _ (jNw [(87, .inr (0, [.null, .null, .null, .int 0, .int 0]))] 88 (c - 1) (s - 5) M) _
  refine z_go 9 _ [.ref 87, .ref 87, .ref 86] _ c_11_8 rfl ?_
  refine z_callvV 12 0 1 0 87 c_11_9 rfl ⟨Nat.le_of_ble_eq_true rfl, Nat.le_of_ble_eq_true rfl⟩ rfl rfl [.ref 87] rfl rfl [some (.ref 87)] rfl rfl (t_ginit (d := d) (g := 87) (c := c - 1) (s := s - 5) (M := jNw [(87, .inr (0, [.null, .null, .null, .int 0, .int 0]))] 88 (c - 1) (s - 5) M) rfl rfl (by omega) (by omega)) ?_
  intro M1 ⟨g1, g2, g3⟩
  show jZ _ _ _ _ [.ref 87, .ref 86] _ _
  refine z_m (jNw_0 (c := c - 4) (s := s - 175) (g3.trans (trip rfl (by omega) (by omega)))) ?_
  refine z_putf (M' := jNw [(86, .inr (1, [.int 0, .int 0, .int 0, .ref 87]))] 91 (c - 4) (s - 175) M1) 15 c_11_12 rfl ((g2 86 (by decide)).trans hg) rfl (Nat.le_of_ble_eq_true rfl) rfl ?_
  refine z_ret c_11_15 ?_
  refine ⟨rfl, ⟨rfl, jgr_fr g1 fun k a b => if_neg (by omega)⟩, fun k hk => (jNw_fr (a := 86) rfl hk).trans ((g2 k (by omega)).trans (if_neg (by omega))), rfl⟩
def jqn (i : Nat) : Nat → Option Nat := fun s => if s < i then some (38 + 4 * s) else none
theorem jqn_0 : jqn 0 = fun _ => none := by
  funext s
  unfold jqn
  rw [if_neg (by omega)]
theorem jqn_s (i : Nat) : va_up (jqn i) i (some (38 + 4 * i)) = jqn (i + 1) := by
  funext s
  simp only [va_up, jqn]
  by_cases e : s = i
  · subst e; rw [if_pos rfl, if_pos (by omega)]
  · rw [if_neg e]
    by_cases h : s < i
    · rw [if_pos h, if_pos (by omega)]
    · rw [if_neg h, if_neg (by omega)]
theorem z_aastn {d mi pc : Nat} {L : jx_L} {r : List Value} {M M' : jx_M} {post : jx_R → jx_M → Prop} (pc' : Nat) {ci k a v : Nat} {f : Nat → Option Nat} {fs : List Value} (hc : jx_cd mi pc = some (o_aast ci)) (hp : pc + 1 = pc') (hM : M.1 a = .inl (4, 12, .inr (.inr (.inr (.inr f))))) (hv : M.1 v = .inr (ci, fs)) (hk : k < 12) (hM' : jx_st M a (.inl (4, 12, .inr (.inr (.inr (.inr (va_up f k (some v))))))) = M') (kk : jZ d mi pc' L r M' post) : jZ d mi pc L (.ref v :: .int (jn k) :: .ref a :: r) M post := by
  refine z_go pc' L r M' hc ?_ kk
  unfold o_aast
  dsimp only
  rw [hM, hv]
  dsimp only
  rw [if_pos ⟨rfl, rfl, jx_ix_n hk (by decide)⟩, ← hp, jn_cl (by omega), hM']
theorem t_sinit_l {d : Nat} : ∀ {k i c0 s0 : Nat} {M : jx_M}, i + k = 12 → M.1 35 = sO 0 0 → M.1 36 = .inl (4, 12, .inr (.inr (.inr (.inr (jqn i))))) → M.1 37 = .inl (0, 12, .inl (ja (fun _ => 0))) → (∀ s, s < i → jgr M (38 + 4 * s) g00) → M.2 = (38 + 4 * i, c0, s0) → 400 + 4 * k ≤ c0 → 30000 + 175 * k ≤ s0 → jZ (d + 1) 43 23 [some (.ref 35), some (.int (jn i))] [] M (jV none fun M' => (M'.1 35 = sO 0 0 ∧ M'.1 36 = jqc (fun s => 38 + 4 * s) ∧ M'.1 37 = .inl (0, 12, .inl (ja (fun _ => 0))) ∧ ∀ s, s < 12 → jgr M' (38 + 4 * s) g00) ∧ (∀ k, k < 35 → M'.1 k = M.1 k) ∧ M'.2 = (86, c0 - 4 * (12 - i), s0 - 175 * (12 - i))) := by
  intro k
  induction k with
  | zero =>
    intro i c0 s0 M hik h35 h36 h37 hG hM hc hs
    have e12 : i = 12 := by omega
    have h36e : M.1 36 = jqc (fun s => 38 + 4 * s) := by rw [h36, e12]; rfl
    have hMe : M.2 = (86, c0 - 4 * (12 - i), s0 - 175 * (12 - i)) := by rw [hM, e12]; rfl
    refine z_go 24 _ [.int (jn i)] _ c_43_23 rfl ?_
    refine z_go 26 _ [.int (jn 12), .int (jn i)] _ c_43_24 rfl ?_
    refine z_ige 48 29 c_43_26 rfl (by omega) (by omega) (fun hi => ?_) (fun hi => ?_)
    · omega
    · refine z_ret c_43_48 ?_
      exact ⟨rfl, ⟨h35, h36e, h37, fun s hs => hG s (by omega)⟩, fun _ _ => rfl, hMe⟩
  | succ k ih =>
    intro i c0 s0 M hik h35 h36 h37 hG hM hc hs
    refine z_go 24 _ [.int (jn i)] _ c_43_23 rfl ?_
    refine z_go 26 _ [.int (jn 12), .int (jn i)] _ c_43_24 rfl ?_
    refine z_ige 48 29 c_43_26 rfl (by omega) (by omega) (fun hi => ?_) (fun hi => ?_)
    · obtain ⟨g, hgd⟩ : ∃ g, g = 38 + 4 * i := ⟨_, rfl⟩
      rw [← hgd] at hM
      refine z_m (jNw_0 (n := g + 0) hM) ?_
      refine z_go 30 _ [.ref 35] _ c_43_29 rfl ?_
      refine z_getf (v := .ref 36) 33 c_43_30 rfl h35 rfl ?_
      refine z_go 34 _ [.int (jn i), .ref 36] _ c_43_33 rfl ?_
      refine z_new 37 (g + 1) (c0 - 1) (s0 - 5) c_43_34 rfl (by omega) (show 5 ≤ s0 by omega) rfl (by omega) (show s0 - 5 = s0 - 5 by omega) ?_
      show jZ _ _ _ _ _ (jNw [(g + 0, .inr (0, [.null, .null, .null, .int 0, .int 0]))] (g + 1) (c0 - 1) (s0 - 5) M) _
      refine z_go 38 _ [.ref (g + 0), .ref (g + 0), .int (jn i), .ref 36] _ c_43_37 rfl ?_
      show jZ _ _ _ _ [.ref g, .ref g, .int (jn i), .ref 36] (jNw [(g, .inr (0, [.null, .null, .null, .int 0, .int 0]))] (g + 1) (c0 - 1) (s0 - 5) M) _
      refine z_callvV 41 0 1 0 g c_43_38 rfl ⟨Nat.le_of_ble_eq_true rfl, Nat.le_of_ble_eq_true rfl⟩ rfl jhit [.ref g] rfl rfl [some (.ref g)] rfl rfl (t_ginit (d := d) (g := g) (c := c0 - 1) (s := s0 - 5) (M := jNw [(g, .inr (0, [.null, .null, .null, .int 0, .int 0]))] (g + 1) (c0 - 1) (s0 - 5) M) jhit rfl (by omega) (by omega)) ?_
      intro M1 ⟨g1, g2, g3⟩
      have hfr : ∀ k, k < g → M1.1 k = M.1 k := fun k hk => (g2 k hk).trans (if_neg (by omega))
      have h36m : M1.1 36 = .inl (4, 12, .inr (.inr (.inr (.inr (jqn i))))) := (hfr 36 (by omega)).trans h36
      show jZ _ _ _ _ [.ref g, .int (jn i), .ref 36] _ _
      refine z_aastn (M' := jm [(36, .inl (4, 12, .inr (.inr (.inr (.inr (jqn (i + 1)))))))] M1) 42 c_43_41 rfl h36m g1.1.1 hi (by rw [hgd, jqn_s]; rfl) ?_
      refine z_iinc 45 [some (.ref 35), some (.int (jn (i + 1)))] c_43_42 rfl rfl (jn_add _ _) rfl ?_
      refine z_go 23 _ [] _ c_43_45 rfl ?_
      refine (ih (i := i + 1) (M := jm [(36, .inl (4, 12, .inr (.inr (.inr (.inr (jqn (i + 1)))))))] M1) (c0 := c0 - 4) (s0 := s0 - 175) (by omega) ((hfr 35 (by omega)).trans h35) rfl ((hfr 37 (by omega)).trans h37) (fun s hs => ?_) ?_ (by omega) (by omega)).mono fun r M9 q => ⟨q.1, q.2.1, fun k hk => (q.2.2.1 k hk).trans ((if_neg (by omega)).trans (hfr k (by omega))), q.2.2.2.trans (trip rfl (by omega) (by omega))⟩
      · by_cases e : s = i
        · subst e; rw [← hgd]; exact jgr_fr g1 fun k a b => if_neg (by omega)
        · exact jgr_fr (hG s (by omega)) fun k a b => (if_neg (by omega)).trans (hfr k (by omega))
      · exact g3.trans (trip (by omega) (by omega) (by omega))
    · omega
theorem t_sinit {d c s : Nat} {M : jx_M} (hg : M.1 35 = .inr (4, [.null, .null, .int 0, .int 0])) (hM : M.2 = (36, c, s)) (hc : 1000 ≤ c) (hs : 40000 ≤ s) : jZ (d + 1) 43 0 [some (.ref 35), none] [] M (jV none fun M' => (M'.1 35 = sO 0 0 ∧ M'.1 36 = jqc (fun s => 38 + 4 * s) ∧ M'.1 37 = .inl (0, 12, .inl (ja (fun _ => 0))) ∧ ∀ s, s < 12 → jgr M' (38 + 4 * s) g00) ∧ (∀ k, k < 35 → M'.1 k = M.1 k) ∧ M'.2 = (86, c - 50, s - 2124)) := by
  refine z_m (jNw_0 hM) ?_
  refine z_go 1 _ [.ref 35] _ c_43_0 rfl ?_
  refine z_go 4 _ [] _ c_43_1 rfl ?_
  refine z_go 5 _ [.ref 35] _ c_43_4 rfl ?_
  refine z_go 7 _ [.int (jn 12), .ref 35] _ c_43_5 rfl ?_
  refine z_newa (c := .inl (4, jx_zq 12)) 10 37 (c - 1) (s - 12) c_43_7 rfl (by decide) rfl (by omega) (show 12 ≤ s by omega) rfl (by omega) (show s - 12 = s - 12 by omega) ?_
  show jZ _ _ _ _ _ (jNw [(36, .inl (4, jx_zq 12))] 37 (c - 1) (s - 12) M) _
  refine z_putf (M' := jNw [(35, .inr (4, [.ref 36, .null, .int 0, .int 0])), (36, .inl (4, jx_zq 12))] 37 (c - 1) (s - 12) M) 13 c_43_10 rfl hg rfl (Nat.le_of_ble_eq_true rfl) rfl ?_
  refine z_go 14 _ [.ref 35] _ c_43_13 rfl ?_
  refine z_go 16 _ [.int (jn 12), .ref 35] _ c_43_14 rfl ?_
  refine z_newa (c := .inl (0, 12, .inl (ja (fun _ => 0)))) 18 38 (c - 2) (s - 24) c_43_16 rfl (by decide) rfl (by omega) (show 12 ≤ s - 12 by omega) rfl (by omega) (show s - 12 - 12 = s - 24 by omega) ?_
  show jZ _ _ _ _ _ (jNw [(37, .inl (0, 12, .inl (ja (fun _ => 0)))), (35, .inr (4, [.ref 36, .null, .int 0, .int 0])), (36, .inl (4, jx_zq 12))] 38 (c - 2) (s - 24) M) _
  refine z_putf (M' := jNw [(37, .inl (0, 12, .inl (ja (fun _ => 0)))), (35, .inr (4, [.ref 36, .ref 37, .int 0, .int 0])), (36, .inl (4, jx_zq 12))] 38 (c - 2) (s - 24) M) 21 c_43_18 rfl rfl rfl (Nat.le_of_ble_eq_true rfl) (jNw_w rfl) ?_
  refine z_go 22 _ [.int (jn 0)] _ c_43_21 rfl ?_
  refine z_go 23 [some (.ref 35), some (.int (jn 0))] [] _ c_43_22 rfl ?_
  refine (t_sinit_l (d := d) (k := 12) (i := 0) (c0 := c - 2) (s0 := s - 24) (M := jNw [(37, .inl (0, 12, .inl (ja (fun _ => 0)))), (35, .inr (4, [.ref 36, .ref 37, .int 0, .int 0])), (36, .inl (4, jx_zq 12))] 38 (c - 2) (s - 24) M) (by decide) rfl (by rw [jqn_0]; rfl) rfl (fun s q => by omega) rfl (by omega) (by omega)).mono fun r M9 q => ⟨q.1, q.2.1, fun k hk => (q.2.2.1 k hk).trans (jNw_fr (a := 35) rfl hk), q.2.2.2.trans (trip rfl (by omega) (by omega))⟩
