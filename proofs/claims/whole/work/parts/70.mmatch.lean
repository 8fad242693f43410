/-! THE REFERENCE: matching; printed by wip/whole/p70.py -/
theorem c_89_0 : jx_cd 89 0 = some (o_push (.int 0) 1) := rfl
theorem c_89_1 : jx_cd 89 1 = some (o_ist 1 1) := rfl
theorem c_89_2 : jx_cd 89 2 = some (o_ild 1 1) := rfl
theorem c_89_3 : jx_cd 89 3 = some (o_ald 0 1) := rfl
theorem c_89_4 : jx_cd 89 4 = some (o_getf 6 4) := rfl
theorem c_89_7 : jx_cd 89 7 = some (o_ige 35) := rfl
theorem c_89_10 : jx_cd 89 10 = some (o_ald 0 1) := rfl
theorem c_89_11 : jx_cd 89 11 = some (o_getf 6 26) := rfl
theorem c_89_14 : jx_cd 89 14 = some (o_ild 1 1) := rfl
theorem c_89_15 : jx_cd 89 15 = some (o_ald 0 1) := rfl
theorem c_89_16 : jx_cd 89 16 = some (o_ild 1 1) := rfl
theorem c_89_17 : jx_cd 89 17 = some (o_callv 6 90 1) := rfl
theorem c_89_20 : jx_cd 89 20 = some (o_ifne 27) := rfl
theorem c_89_23 : jx_cd 89 23 = some (o_push (.int 1) 1) := rfl
theorem c_89_24 : jx_cd 89 24 = some (o_goto 28) := rfl
theorem c_89_27 : jx_cd 89 27 = some (o_push (.int 0) 1) := rfl
theorem c_89_28 : jx_cd 89 28 = some (o_zast) := rfl
theorem c_89_29 : jx_cd 89 29 = some (o_iinc 1 1) := rfl
theorem c_89_32 : jx_cd 89 32 = some (o_goto 2) := rfl
theorem c_89_35 : jx_cd 89 35 = some (o_push (.int 0) 1) := rfl
theorem c_89_36 : jx_cd 89 36 = some (o_ist 1 1) := rfl
theorem c_89_37 : jx_cd 89 37 = some (o_ald 0 1) := rfl
theorem c_89_38 : jx_cd 89 38 = some (o_callv 6 91 0) := rfl
theorem c_89_41 : jx_cd 89 41 = some (o_ist 2 1) := rfl
theorem c_89_42 : jx_cd 89 42 = some (o_ald 0 1) := rfl
theorem c_89_43 : jx_cd 89 43 = some (o_getf 6 12) := rfl
theorem c_89_46 : jx_cd 89 46 = some (o_push (.int 0) 1) := rfl
theorem c_89_47 : jx_cd 89 47 = some (o_ild 2 1) := rfl
theorem c_89_48 : jx_cd 89 48 = some (o_iast) := rfl
theorem c_89_49 : jx_cd 89 49 = some (o_ald 0 1) := rfl
theorem c_89_50 : jx_cd 89 50 = some (o_getf 6 25) := rfl
theorem c_89_53 : jx_cd 89 53 = some (o_push (.int 0) 1) := rfl
theorem c_89_54 : jx_cd 89 54 = some (o_push (.int (-1)) 1) := rfl
theorem c_89_55 : jx_cd 89 55 = some (o_iast) := rfl
theorem c_89_56 : jx_cd 89 56 = some (o_ild 1 1) := rfl
theorem c_89_57 : jx_cd 89 57 = some (o_iflt 224) := rfl
theorem c_89_60 : jx_cd 89 60 = some (o_ald 0 1) := rfl
theorem c_89_61 : jx_cd 89 61 = some (o_getf 6 12) := rfl
theorem c_89_64 : jx_cd 89 64 = some (o_ild 1 1) := rfl
theorem c_89_65 : jx_cd 89 65 = some (o_iald) := rfl
theorem c_89_66 : jx_cd 89 66 = some (o_ifge 71) := rfl
theorem c_89_69 : jx_cd 89 69 = some (o_push (.int 1) 1) := rfl
theorem c_89_70 : jx_cd 89 70 = some (o_zret) := rfl
theorem c_89_71 : jx_cd 89 71 = some (o_ald 0 1) := rfl
theorem c_89_72 : jx_cd 89 72 = some (o_getf 6 12) := rfl
theorem c_89_75 : jx_cd 89 75 = some (o_ild 1 1) := rfl
theorem c_89_76 : jx_cd 89 76 = some (o_iald) := rfl
theorem c_89_77 : jx_cd 89 77 = some (o_ist 3 1) := rfl
theorem c_89_78 : jx_cd 89 78 = some (o_ald 0 1) := rfl
theorem c_89_79 : jx_cd 89 79 = some (o_getf 6 25) := rfl
theorem c_89_82 : jx_cd 89 82 = some (o_ild 1 1) := rfl
theorem c_89_83 : jx_cd 89 83 = some (o_iald) := rfl
theorem c_89_84 : jx_cd 89 84 = some (o_iflt 106) := rfl
theorem c_89_87 : jx_cd 89 87 = some (o_ald 0 1) := rfl
theorem c_89_88 : jx_cd 89 88 = some (o_getf 6 26) := rfl
theorem c_89_91 : jx_cd 89 91 = some (o_ild 3 1) := rfl
theorem c_89_92 : jx_cd 89 92 = some (o_push (.int 0) 1) := rfl
theorem c_89_93 : jx_cd 89 93 = some (o_zast) := rfl
theorem c_89_94 : jx_cd 89 94 = some (o_ald 0 1) := rfl
theorem c_89_95 : jx_cd 89 95 = some (o_getf 6 26) := rfl
theorem c_89_98 : jx_cd 89 98 = some (o_ald 0 1) := rfl
theorem c_89_99 : jx_cd 89 99 = some (o_getf 6 25) := rfl
theorem c_89_102 : jx_cd 89 102 = some (o_ild 1 1) := rfl
theorem c_89_103 : jx_cd 89 103 = some (o_iald) := rfl
theorem c_89_104 : jx_cd 89 104 = some (o_push (.int 0) 1) := rfl
theorem c_89_105 : jx_cd 89 105 = some (o_zast) := rfl
theorem c_89_106 : jx_cd 89 106 = some (o_ald 0 1) := rfl
theorem c_89_107 : jx_cd 89 107 = some (o_getf 6 25) := rfl
theorem c_89_110 : jx_cd 89 110 = some (o_ild 1 1) := rfl
theorem c_89_111 : jx_cd 89 111 = some (o_iald) := rfl
theorem c_89_112 : jx_cd 89 112 = some (o_push (.int 1) 1) := rfl
theorem c_89_113 : jx_cd 89 113 = some (o_bin fun x y => x + y) := rfl
theorem c_89_114 : jx_cd 89 114 = some (o_ist 4 2) := rfl
theorem c_89_116 : jx_cd 89 116 = some (o_ild 4 2) := rfl
theorem c_89_118 : jx_cd 89 118 = some (o_ald 0 1) := rfl
theorem c_89_119 : jx_cd 89 119 = some (o_getf 6 4) := rfl
theorem c_89_122 : jx_cd 89 122 = some (o_ige 163) := rfl
theorem c_89_125 : jx_cd 89 125 = some (o_ald 0 1) := rfl
theorem c_89_126 : jx_cd 89 126 = some (o_getf 6 26) := rfl
theorem c_89_129 : jx_cd 89 129 = some (o_ild 4 2) := rfl
theorem c_89_131 : jx_cd 89 131 = some (o_xald 2) := rfl
theorem c_89_132 : jx_cd 89 132 = some (o_ifne 157) := rfl
theorem c_89_135 : jx_cd 89 135 = some (o_ild 4 2) := rfl
theorem c_89_137 : jx_cd 89 137 = some (o_ild 3 1) := rfl
theorem c_89_138 : jx_cd 89 138 = some (o_ieq 157) := rfl
theorem c_89_141 : jx_cd 89 141 = some (o_ald 0 1) := rfl
theorem c_89_142 : jx_cd 89 142 = some (o_getf 6 11) := rfl
theorem c_89_145 : jx_cd 89 145 = some (o_push (.int 40) 2) := rfl
theorem c_89_147 : jx_cd 89 147 = some (o_ild 3 1) := rfl
theorem c_89_148 : jx_cd 89 148 = some (o_bin fun x y => x * y) := rfl
theorem c_89_149 : jx_cd 89 149 = some (o_ild 4 2) := rfl
theorem c_89_151 : jx_cd 89 151 = some (o_bin fun x y => x + y) := rfl
theorem c_89_152 : jx_cd 89 152 = some (o_iald) := rfl
theorem c_89_153 : jx_cd 89 153 = some (o_push (.int 4) 1) := rfl
theorem c_89_154 : jx_cd 89 154 = some (o_ieq 163) := rfl
theorem c_89_157 : jx_cd 89 157 = some (o_iinc 4 1) := rfl
theorem c_89_160 : jx_cd 89 160 = some (o_goto 116) := rfl
theorem c_89_163 : jx_cd 89 163 = some (o_ild 4 2) := rfl
theorem c_89_165 : jx_cd 89 165 = some (o_ald 0 1) := rfl
theorem c_89_166 : jx_cd 89 166 = some (o_getf 6 4) := rfl
theorem c_89_169 : jx_cd 89 169 = some (o_ige 218) := rfl
theorem c_89_172 : jx_cd 89 172 = some (o_ald 0 1) := rfl
theorem c_89_173 : jx_cd 89 173 = some (o_getf 6 25) := rfl
theorem c_89_176 : jx_cd 89 176 = some (o_ild 1 1) := rfl
theorem c_89_177 : jx_cd 89 177 = some (o_ild 4 2) := rfl
theorem c_89_179 : jx_cd 89 179 = some (o_iast) := rfl
theorem c_89_180 : jx_cd 89 180 = some (o_ald 0 1) := rfl
theorem c_89_181 : jx_cd 89 181 = some (o_getf 6 26) := rfl
theorem c_89_184 : jx_cd 89 184 = some (o_ild 3 1) := rfl
theorem c_89_185 : jx_cd 89 185 = some (o_push (.int 1) 1) := rfl
theorem c_89_186 : jx_cd 89 186 = some (o_zast) := rfl
theorem c_89_187 : jx_cd 89 187 = some (o_ald 0 1) := rfl
theorem c_89_188 : jx_cd 89 188 = some (o_getf 6 26) := rfl
theorem c_89_191 : jx_cd 89 191 = some (o_ild 4 2) := rfl
theorem c_89_193 : jx_cd 89 193 = some (o_push (.int 1) 1) := rfl
theorem c_89_194 : jx_cd 89 194 = some (o_zast) := rfl
theorem c_89_195 : jx_cd 89 195 = some (o_iinc 1 1) := rfl
theorem c_89_198 : jx_cd 89 198 = some (o_ald 0 1) := rfl
theorem c_89_199 : jx_cd 89 199 = some (o_getf 6 12) := rfl
set_option maxRecDepth 100000 in
theorem c_89_202 : jx_cd 89 202 = some (o_ild 1 1) := rfl
set_option maxRecDepth 100000 in
theorem c_89_203 : jx_cd 89 203 = some (o_ald 0 1) := rfl
set_option maxRecDepth 100000 in
theorem c_89_204 : jx_cd 89 204 = some (o_callv 6 91 0) := rfl
set_option maxRecDepth 100000 in
theorem c_89_207 : jx_cd 89 207 = some (o_iast) := rfl
set_option maxRecDepth 100000 in
theorem c_89_208 : jx_cd 89 208 = some (o_ald 0 1) := rfl
set_option maxRecDepth 100000 in
theorem c_89_209 : jx_cd 89 209 = some (o_getf 6 25) := rfl
set_option maxRecDepth 100000 in
theorem c_89_212 : jx_cd 89 212 = some (o_ild 1 1) := rfl
set_option maxRecDepth 100000 in
theorem c_89_213 : jx_cd 89 213 = some (o_push (.int (-1)) 1) := rfl
set_option maxRecDepth 100000 in
theorem c_89_214 : jx_cd 89 214 = some (o_iast) := rfl
set_option maxRecDepth 100000 in
theorem c_89_215 : jx_cd 89 215 = some (o_goto 221) := rfl
set_option maxRecDepth 100000 in
theorem c_89_218 : jx_cd 89 218 = some (o_iinc 1 (-1)) := rfl
set_option maxRecDepth 100000 in
theorem c_89_221 : jx_cd 89 221 = some (o_goto 56) := rfl
set_option maxRecDepth 100000 in
theorem c_89_224 : jx_cd 89 224 = some (o_push (.int 0) 1) := rfl
set_option maxRecDepth 100000 in
theorem c_89_225 : jx_cd 89 225 = some (o_zret) := rfl
theorem c_91_0 : jx_cd 91 0 = some (o_push (.int 0) 1) := rfl
theorem c_91_1 : jx_cd 91 1 = some (o_ist 1 1) := rfl
theorem c_91_2 : jx_cd 91 2 = some (o_ild 1 1) := rfl
theorem c_91_3 : jx_cd 91 3 = some (o_ald 0 1) := rfl
theorem c_91_4 : jx_cd 91 4 = some (o_getf 6 4) := rfl
theorem c_91_7 : jx_cd 91 7 = some (o_ige 27) := rfl
theorem c_91_10 : jx_cd 91 10 = some (o_ald 0 1) := rfl
theorem c_91_11 : jx_cd 91 11 = some (o_getf 6 26) := rfl
theorem c_91_14 : jx_cd 91 14 = some (o_ild 1 1) := rfl
theorem c_91_15 : jx_cd 91 15 = some (o_xald 2) := rfl
theorem c_91_16 : jx_cd 91 16 = some (o_ifne 21) := rfl
theorem c_91_19 : jx_cd 91 19 = some (o_ild 1 1) := rfl
theorem c_91_20 : jx_cd 91 20 = some (o_iret) := rfl
theorem c_91_21 : jx_cd 91 21 = some (o_iinc 1 1) := rfl
theorem c_91_24 : jx_cd 91 24 = some (o_goto 2) := rfl
theorem c_91_27 : jx_cd 91 27 = some (o_push (.int (-1)) 1) := rfl
theorem c_91_28 : jx_cd 91 28 = some (o_iret) := rfl
/-- the cells of the reference's searches: back, put, taken -/
def mX (M : jx_M) (bo pu : Nat → Option Nat) (tk : Nat → Bool) : Prop := M.1 101 = .inl (0, 40, .inl (jao bo)) ∧ M.1 111 = .inl (0, 11, .inl (jao pu)) ∧ M.1 112 = .inl (2, 40, .inl (jab tk))
def mXS (M : jx_M) : Prop := ∃ bo pu tk, mX M bo pu tk
def fK (M M' : jx_M) : Prop := (∀ k, k ≠ 101 → k ≠ 111 → k ≠ 112 → M'.1 k = M.1 k) ∧ M'.2 = M.2
theorem fK_r (M : jx_M) : fK M M := ⟨fun _ _ _ _ => rfl, rfl⟩
theorem fK.tr {M M1 M2 : jx_M} (h : fK M M1) (k : fK M1 M2) : fK M M2 := ⟨fun q a b c => (k.1 q a b c).trans (h.1 q a b c), k.2.trans h.2⟩
theorem fK_w {q : Nat} {M M1 : jx_M} {c : jx_C} (h : q = 101 ∨ q = 111 ∨ q = 112) (k : fK M M1) : fK M (jx_st M1 q c) := ⟨fun j a b e => (if_neg (by omega)).trans (k.1 j a b e), k.2⟩
theorem fK_jm {M : jx_M} : ∀ {l : List (Nat × jx_C)}, (l.all fun q => decide (q.1 = 101 ∨ q.1 = 111 ∨ q.1 = 112)) = true → fK M (jm l M)
  | [], _ => fK_r M
  | (q, c) :: t, h => by
    rw [List.all_cons, Bool.and_eq_true] at h
    exact fK_w (of_decide_eq_true h.1) (fK_jm (M := M) h.2)
theorem cnt_nu {tk : Nat → Bool} {i : Nat} : ∀ {n : Nat}, i < n → tk i = false → cnt (fun j => !nu tk i true j) n + 1 = cnt (fun j => !tk j) n := by
  intro n
  induction n with
  | zero => intro h; omega
  | succ n ih =>
    intro h1 h2
    rw [cnt, cnt]
    by_cases e : n = i
    · subst e
      have h3 : cnt (fun j => !nu tk n true j) n = cnt (fun j => !tk j) n := cnt_ext fun j hj => by rw [nu_ne (by omega)]
      rw [h3, nu_at', h2]
      rfl
    · rw [nu_ne e, ← ih (by omega) h2]
      omega
theorem cnt_0 {p : Nat → Bool} : ∀ {n : Nat}, cnt p n = 0 → ∀ j, j < n → p j = false := by
  intro n
  induction n with
  | zero => intro _ j hj; omega
  | succ n ih =>
    intro h j hj
    rw [cnt] at h
    by_cases e : j = n
    · subst e
      cases hp : p j with
      | false => rfl
      | true => rw [hp, if_pos rfl] at h; omega
    · exact ih (by omega) j (by omega)
theorem cnt_le {p : Nat → Bool} : ∀ {n : Nat}, cnt p n ≤ n := by
  intro n
  induction n with
  | zero => exact Nat.le_refl _
  | succ n ih =>
    rw [cnt]
    split <;> omega
theorem sm_fr_ext {tk tk' : Nat → Bool} : ∀ {k i : Nat}, (∀ j, j < i + k → tk j = tk' j) → sm_fr tk k i = sm_fr tk' k i := by
  intro k
  induction k with
  | zero => intro i _; rfl
  | succ k ih =>
    intro i h
    rw [sm_fr, sm_fr, h i (by omega), ih fun j hj => h j (by omega)]
theorem sm_mt_ext {bm : Nat → Nat} {n : Nat} : ∀ {f : Nat} {tk tk' : Nat → Bool}, (∀ j, j < n → tk j = tk' j) → sm_mt bm n f tk = sm_mt bm n f tk' := by
  intro f
  induction f with
  | zero => intro tk tk' _; rfl
  | succ f ih =>
    intro tk tk' h
    rw [sm_mt, sm_mt, sm_fr_ext (tk' := tk') fun j hj => h j (by omega)]
    cases sm_fr tk' n 0 with
    | none => rfl
    | some i =>
      dsimp only
      have key : ∀ j, j < n → (decide (tk j = false ∧ j ≠ i ∧ bm (40 * i + j) = 4) && sm_mt bm n f (nu (nu tk i true) j true)) = (decide (tk' j = false ∧ j ≠ i ∧ bm (40 * i + j) = 4) && sm_mt bm n f (nu (nu tk' i true) j true)) := by
        intro j hj
        rw [h j hj, ih (tk' := nu (nu tk' i true) j true) fun q hq => by unfold nu; rw [h q hq]]
      exact sp_any_ext ⟨fun ⟨j, a, b, c⟩ => ⟨j, a, b, by rw [← key j (by omega)]; exact c⟩, fun ⟨j, a, b, c⟩ => ⟨j, a, b, by rw [key j (by omega)]; exact c⟩⟩
theorem sm_fr_lt {tk : Nat → Bool} : ∀ {k i a : Nat}, sm_fr tk k i = some a → i ≤ a ∧ a < i + k ∧ tk a = false := by
  intro k
  induction k with
  | zero => intro i a h; cases h
  | succ k ih =>
    intro i a h
    rw [sm_fr] at h
    split at h
    · rename_i q; cases h; exact ⟨Nat.le_refl _, by omega, q⟩
    · obtain ⟨a1, a2, a3⟩ := ih h
      exact ⟨by omega, by omega, a3⟩
theorem jn_up (e : Nat) : jn (e + 1) + -1 = jn e := by
  rw [← jn_add]
  show jn e + 1 + -1 = jn e
  rw [Int32.add_assoc]
  exact Int32.add_zero _
theorem tk_back {tk : Nat → Bool} {i j : Nat} (hi : tk i = false) (hj : tk j = false) : nu (nu (nu (nu tk i true) j true) i false) j false = tk := by
  funext q
  unfold nu
  by_cases e1 : q = j
  · rw [if_pos e1, e1, hj]
  · rw [if_neg e1]
    by_cases e2 : q = i
    · rw [if_pos e2, e2, hi]
    · rw [if_neg e2, if_neg e1, if_neg e2]
/-- taken at the start -/
def tkf (n : Nat) (A : Nat → MA) (i : Nat) (tk : Nat → Bool) : Nat → Bool := fun j => if i ≤ j ∧ j < n then !sm_pr (A j) else tk j
theorem tkf_e {n : Nat} {A : Nat → MA} {tk : Nat → Bool} : tkf n A n tk = tk := by
  funext j
  unfold tkf
  rw [if_neg (by omega)]
theorem tkf_s {n : Nat} {A : Nat → MA} {i : Nat} {tk : Nat → Bool} (h : i < n) : tkf n A (i + 1) (nu tk i (!sm_pr (A i))) = tkf n A i tk := by
  funext j
  unfold tkf nu
  by_cases h1 : i + 1 ≤ j ∧ j < n
  · rw [if_pos h1, if_pos (by omega)]
  · rw [if_neg h1]
    by_cases e : j = i
    · subst e; rw [if_pos rfl, if_pos (by omega)]
    · rw [if_neg e, if_neg (by omega)]
theorem t_mfr_l {d : Nat} {w : MW} {ln at_ n : Nat} {gd : Bool} {tk : Nat → Bool} {M : jx_M} (h92 : M.1 92 = mW w ln at_ n gd) (h112 : M.1 112 = .inl (2, 40, .inl (jab tk))) (hn : n ≤ 10) : ∀ {k i : Nat}, i + k = n → jZ d 91 2 [some (.ref 92), some (.int (jn i))] [] M (jR (some (.int (jo (sm_fr tk k i)))) M) := by
  intro k
  induction k with
  | zero =>
    intro i hk
    refine z_go 3 _ [.int (jn i)] _ c_91_2 rfl ?_
    refine z_go 4 _ [.ref 92, .int (jn i)] _ c_91_3 rfl ?_
    refine z_getf (v := .int (jn n)) 7 c_91_4 rfl h92 rfl ?_
    refine z_ige 27 10 c_91_7 rfl (by omega) (by omega) (fun hi => ?_) (fun hi => ?_)
    · omega
    · refine z_go 28 _ [.int (jo none)] _ c_91_27 rfl ?_
      refine z_iret c_91_28 ?_
      exact ⟨rfl, rfl⟩
  | succ k ih =>
    intro i hk
    refine z_go 3 _ [.int (jn i)] _ c_91_2 rfl ?_
    refine z_go 4 _ [.ref 92, .int (jn i)] _ c_91_3 rfl ?_
    refine z_getf (v := .int (jn n)) 7 c_91_4 rfl h92 rfl ?_
    refine z_ige 27 10 c_91_7 rfl (by omega) (by omega) (fun hi => ?_) (fun hi => ?_)
    · refine z_go 11 _ [.ref 92] _ c_91_10 rfl ?_
      refine z_getf (v := .ref 112) 14 c_91_11 rfl h92 rfl ?_
      refine z_go 15 _ [.int (jn i), .ref 112] _ c_91_14 rfl ?_
      refine z_xald 16 c_91_15 rfl h112 (by omega) (by omega) ?_
      show jZ _ _ _ _ ([.int (jb (tk i))]) _ _
      refine z_ifne 21 19 c_91_16 rfl jb_t (fun h1 => ?_) (fun h1 => ?_)
      · refine z_go 20 _ [.int (jn i)] _ c_91_19 rfl ?_
        refine z_iret c_91_20 ?_
        exact ⟨by rw [sm_fr, if_pos h1]; rfl, rfl⟩
      · refine z_iinc 24 [some (.ref 92), some (.int (jn (i + 1)))] c_91_21 rfl rfl (jn_add _ _) rfl ?_
        refine z_go 2 _ [] _ c_91_24 rfl ?_
        refine (ih (i := i + 1) (by omega)).mono fun r M1 q => ⟨q.1.trans ?_, q.2⟩
        rw [sm_fr, if_neg h1]
    · omega
theorem t_mfr {d : Nat} {w : MW} {ln at_ n : Nat} {gd : Bool} {tk : Nat → Bool} {M : jx_M} (h92 : M.1 92 = mW w ln at_ n gd) (h112 : M.1 112 = .inl (2, 40, .inl (jab tk))) (hn : n ≤ 10) : jZ d 91 0 [some (.ref 92), none] [] M (jR (some (.int (jo (sm_fr tk n 0)))) M) := by
  refine z_go 1 _ [.int (jn 0)] _ c_91_0 rfl ?_
  refine z_go 2 [some (.ref 92), some (.int (jn 0))] [] _ c_91_1 rfl ?_
  exact t_mfr_l h92 h112 hn (by omega)
theorem t_mm_in {w : MW} {ln at_ n : Nat} {gd : Bool} {bm : Nat → Nat} {d : Nat} {post : jx_R → jx_M → Prop} {f ee i : Nat} {tk : Nat → Bool} (hn : n ≤ 10) (hbm : bmS n bm) (hef : ee + 1 + f ≤ 10) (hcn : cnt (fun j => !tk j) n ≤ f + 1) (hi : i < n) (hti : tk i = false) (hC : ∀ {ee : Nat} {tk : Nat → Bool} {bo pu : Nat → Option Nat} {z2 : Int32} {z3 z4 : Option Value} {M : jx_M}, ee + f ≤ 10 → cnt (fun j => !tk j) n ≤ f → M.1 92 = mW w ln at_ n gd → M.1 100 = .inl (0, 1600, .inl (ja bm)) → mX M bo pu tk → bo ee = sm_fr tk n 0 → pu ee = none → (sm_mt bm n f tk = true → ∀ M', fK M M' → mXS M' → post (.inl (some (.int (jb true)))) M') → (sm_mt bm n f tk = false → ∀ M' bo' pu' y2 y3 y4, fK M M' → mX M' bo' pu' tk → (∀ j, j < ee → bo' j = bo j ∧ pu' j = pu j) → jZ (d + 1) 89 56 [some (.ref 92), some (.int (jn ee + -1)), some (.int y2), y3, y4] [] M' post) → jZ (d + 1) 89 56 [some (.ref 92), some (.int (jn ee)), some (.int z2), z3, z4] [] M post) : ∀ {k j0 : Nat} {bo pu : Nat → Option Nat} {z2 : Int32} {M : jx_M}, j0 + k = n → M.1 92 = mW w ln at_ n gd → M.1 100 = .inl (0, 1600, .inl (ja bm)) → mX M bo pu tk → bo ee = some i → (sp_any (fun j => decide (tk j = false ∧ j ≠ i ∧ bm (40 * i + j) = 4) && sm_mt bm n f (nu (nu tk i true) j true)) k j0 = true → ∀ M', fK M M' → mXS M' → post (.inl (some (.int (jb true)))) M') → (sp_any (fun j => decide (tk j = false ∧ j ≠ i ∧ bm (40 * i + j) = 4) && sm_mt bm n f (nu (nu tk i true) j true)) k j0 = false → ∀ M' bo' pu' y2 y3 y4, fK M M' → mX M' bo' pu' tk → (∀ j, j < ee → bo' j = bo j ∧ pu' j = pu j) → jZ (d + 1) 89 56 [some (.ref 92), some (.int (jn ee + -1)), some (.int y2), y3, y4] [] M' post) → jZ (d + 1) 89 116 [some (.ref 92), some (.int (jn ee)), some (.int z2), some (.int (jn i)), some (.int (jn j0))] [] M post := by
  intro k
  induction k with
  | zero =>
    intro j0 bo pu z2 M hk h92 h100 hX hbe hT hF
    refine z_go 118 _ [.int (jn j0)] _ c_89_116 rfl ?_
    refine z_go 119 _ [.ref 92, .int (jn j0)] _ c_89_118 rfl ?_
    refine z_getf (v := .int (jn n)) 122 c_89_119 rfl h92 rfl ?_
    refine z_ige 163 125 c_89_122 rfl (by omega) (by omega) (fun hj => ?_) (fun hj => ?_)
    · omega
    · refine z_go 165 _ [.int (jn j0)] _ c_89_163 rfl ?_
      refine z_go 166 _ [.ref 92, .int (jn j0)] _ c_89_165 rfl ?_
      refine z_getf (v := .int (jn n)) 169 c_89_166 rfl h92 rfl ?_
      refine z_ige 218 172 c_89_169 rfl (by omega) (by omega) (fun hj2 => ?_) (fun hj2 => ?_)
      · omega
      · refine z_iinc 221 [some (.ref 92), some (.int (jn ee + -1)), some (.int z2), some (.int (jn i)), some (.int (jn j0))] c_89_218 rfl rfl rfl rfl ?_
        refine z_go 56 _ [] _ c_89_221 rfl ?_
        exact hF rfl M bo pu z2 _ _ (fK_r M) hX (fun j _ => ⟨rfl, rfl⟩)
  | succ k ih =>
    intro j0 bo pu z2 M hk h92 h100 hX hbe hT hF
    have hb8 := hbm i j0 hi (by omega)
    refine z_go 118 _ [.int (jn j0)] _ c_89_116 rfl ?_
    refine z_go 119 _ [.ref 92, .int (jn j0)] _ c_89_118 rfl ?_
    refine z_getf (v := .int (jn n)) 122 c_89_119 rfl h92 rfl ?_
    refine z_ige 163 125 c_89_122 rfl (by omega) (by omega) (fun hj => ?_) (fun hj => ?_)
    · refine z_go 126 _ [.ref 92] _ c_89_125 rfl ?_
      refine z_getf (v := .ref 112) 129 c_89_126 rfl h92 rfl ?_
      refine z_go 131 _ [.int (jn j0), .ref 112] _ c_89_129 rfl ?_
      refine z_xald 132 c_89_131 rfl hX.2.2 (by omega) (by omega) ?_
      show jZ _ _ _ _ ([.int (jb (tk j0))]) _ _
      refine z_ifne 157 135 c_89_132 rfl jb_t (fun h1 => ?_) (fun h1 => ?_)
      · refine z_go 137 _ [.int (jn j0)] _ c_89_135 rfl ?_
        refine z_go 138 _ [.int (jn i), .int (jn j0)] _ c_89_137 rfl ?_
        refine z_ieq 157 141 c_89_138 rfl (jn_inj (by omega) (by omega)) (fun h2 => ?_) (fun h2 => ?_)
        · refine z_iinc 160 [some (.ref 92), some (.int (jn ee)), some (.int z2), some (.int (jn i)), some (.int (jn (j0 + 1)))] c_89_157 rfl rfl (jn_add _ _) rfl ?_
          refine z_go 116 _ [] _ c_89_160 rfl ?_
          have e0 : ¬ (decide (tk j0 = false ∧ j0 ≠ i ∧ bm (40 * i + j0) = 4) && sm_mt bm n f (nu (nu tk i true) j0 true)) = true := fun q => by rw [Bool.and_eq_true, decide_eq_true_iff] at q; exact q.1.2.1 h2
          rw [sp_any, if_neg e0] at hT hF
          exact ih (j0 := j0 + 1) (by omega) h92 h100 hX hbe hT hF
        · refine z_go 142 _ [.ref 92] _ c_89_141 rfl ?_
          refine z_getf (v := .ref 100) 145 c_89_142 rfl h92 rfl ?_
          refine z_go 147 _ [.int (jn 40), .ref 100] _ c_89_145 rfl ?_
          refine z_go 148 _ [.int (jn i), .int (jn 40), .ref 100] _ c_89_147 rfl ?_
          refine z_go 149 _ [.int ((jn 40) * (jn i)), .ref 100] _ c_89_148 rfl ?_
          refine z_v (jn_mul _ _) ?_
          refine z_go 151 _ [.int (jn j0), .int (jn (40 * i)), .ref 100] _ c_89_149 rfl ?_
          refine z_go 152 _ [.int ((jn (40 * i)) + (jn j0)), .ref 100] _ c_89_151 rfl ?_
          refine z_v (jn_add _ _) ?_
          refine z_iald 153 c_89_152 rfl h100 (Or.inl rfl) (by omega) (by omega) ?_
          show jZ _ _ _ _ ([.int (jn (bm ((40 * i) + j0)))]) _ _
          refine z_go 154 _ [.int (jn 4), .int (jn (bm ((40 * i) + j0)))] _ c_89_153 rfl ?_
          refine z_ieq 163 157 c_89_154 rfl (jn_inj (by omega) (by omega)) (fun h3 => ?_) (fun h3 => ?_)
          · refine z_go 165 _ [.int (jn j0)] _ c_89_163 rfl ?_
            refine z_go 166 _ [.ref 92, .int (jn j0)] _ c_89_165 rfl ?_
            refine z_getf (v := .int (jn n)) 169 c_89_166 rfl h92 rfl ?_
            refine z_ige 218 172 c_89_169 rfl (by omega) (by omega) (fun hj3 => ?_) (fun hj3 => ?_)
            · refine z_go 173 _ [.ref 92] _ c_89_172 rfl ?_
              refine z_getf (v := .ref 111) 176 c_89_173 rfl h92 rfl ?_
              refine z_go 177 _ [.int (jn ee), .ref 111] _ c_89_176 rfl ?_
              refine z_go 179 _ [.int (jn j0), .int (jn ee), .ref 111] _ c_89_177 rfl ?_
              refine z_iast (M' := jm [(111, .inl (0, 11, .inl (jao (nu pu ee (some j0)))))] M) 180 c_89_179 rfl hX.2.1 (by omega) (by omega) ((congrArg (fun f => jx_st _ 111 (.inl (0, 11, .inl f))) (jao_upd (f := pu) (k := ee) (x := some j0))).trans rfl) ?_
              refine z_go 181 _ [.ref 92] _ c_89_180 rfl ?_
              refine z_getf (v := .ref 112) 184 c_89_181 rfl h92 rfl ?_
              refine z_go 185 _ [.int (jn i), .ref 112] _ c_89_184 rfl ?_
              refine z_go 186 _ [.int (jn 1), .int (jn i), .ref 112] _ c_89_185 rfl ?_
              refine z_zast (M' := jm [(112, .inl (2, 40, .inl (jab (nu tk i true)))), (111, .inl (0, 11, .inl (jao (nu pu ee (some j0)))))] M) 187 c_89_186 rfl hX.2.2 (by omega) (by omega) (show vp_nar .boolean (jn 1) = jb true by decide) (by rw [jab_upd]; exact rfl) ?_
              refine z_go 188 _ [.ref 92] _ c_89_187 rfl ?_
              refine z_getf (v := .ref 112) 191 c_89_188 rfl h92 rfl ?_
              refine z_go 193 _ [.int (jn j0), .ref 112] _ c_89_191 rfl ?_
              refine z_go 194 _ [.int (jn 1), .int (jn j0), .ref 112] _ c_89_193 rfl ?_
              refine z_zast (M' := jm [(112, .inl (2, 40, .inl (jab (nu (nu tk i true) j0 true)))), (111, .inl (0, 11, .inl (jao (nu pu ee (some j0)))))] M) 195 c_89_194 rfl rfl (by omega) (by omega) (show vp_nar .boolean (jn 1) = jb true by decide) (by rw [jab_upd]; exact (jm_w rfl)) ?_
              refine z_iinc 198 [some (.ref 92), some (.int (jn (ee + 1))), some (.int z2), some (.int (jn i)), some (.int (jn j0))] c_89_195 rfl rfl (jn_add _ _) rfl ?_
              refine z_go 199 _ [.ref 92] _ c_89_198 rfl ?_
              refine z_getf (v := .ref 101) 202 c_89_199 rfl h92 rfl ?_
              refine z_go 203 _ [.int (jn (ee + 1)), .ref 101] _ c_89_202 rfl ?_
              refine z_go 204 _ [.ref 92, .int (jn (ee + 1)), .ref 101] _ c_89_203 rfl ?_
              refine z_callv 207 6 91 0 92 c_89_204 rfl ⟨Nat.le_of_ble_eq_true rfl, Nat.le_of_ble_eq_true rfl⟩ rfl h92 [.ref 92] rfl rfl [some (.ref 92), none] rfl rfl (t_mfr (tk := nu (nu tk i true) j0 true) (M := jm [(112, .inl (2, 40, .inl (jab (nu (nu tk i true) j0 true)))), (111, .inl (0, 11, .inl (jao (nu pu ee (some j0)))))] M) h92 rfl hn) ?_
              show jZ _ _ _ _ [.int (jo (sm_fr (nu (nu tk i true) j0 true) n 0)), .int (jn (ee + 1)), .ref 101] _ _
              refine z_iast (M' := jm [(101, .inl (0, 40, .inl (jao (nu bo (ee + 1) (sm_fr (nu (nu tk i true) j0 true) n 0))))), (112, .inl (2, 40, .inl (jab (nu (nu tk i true) j0 true)))), (111, .inl (0, 11, .inl (jao (nu pu ee (some j0)))))] M) 208 c_89_207 rfl hX.1 (by omega) (by omega) ((congrArg (fun f => jx_st _ 101 (.inl (0, 40, .inl f))) (jao_upd (f := bo) (k := ee + 1) (x := sm_fr (nu (nu tk i true) j0 true) n 0))).trans rfl) ?_
              refine z_go 209 _ [.ref 92] _ c_89_208 rfl ?_
              refine z_getf (v := .ref 111) 212 c_89_209 rfl h92 rfl ?_
              refine z_go 213 _ [.int (jn (ee + 1)), .ref 111] _ c_89_212 rfl ?_
              refine z_go 214 _ [.int (jo none), .int (jn (ee + 1)), .ref 111] _ c_89_213 rfl ?_
              refine z_iast (M' := jm [(101, .inl (0, 40, .inl (jao (nu bo (ee + 1) (sm_fr (nu (nu tk i true) j0 true) n 0))))), (112, .inl (2, 40, .inl (jab (nu (nu tk i true) j0 true)))), (111, .inl (0, 11, .inl (jao (nu (nu pu ee (some j0)) (ee + 1) none))))] M) 215 c_89_214 rfl rfl (by omega) (by omega) ((congrArg (fun f => jx_st _ 111 (.inl (0, 11, .inl f))) (jao_upd (f := nu pu ee (some j0)) (k := ee + 1) (x := none))).trans (jm_w rfl)) ?_
              refine z_go 221 _ [] _ c_89_215 rfl ?_
              refine z_go 56 _ [] _ c_89_221 rfl ?_
              have hc1 := cnt_nu (tk := tk) (i := i) (n := n) hi hti
              have hc2 := cnt_nu (tk := nu tk i true) (i := j0) (n := n) hj (by rw [nu_ne h2]; exact h1)
              refine hC (M := jm [(101, .inl (0, 40, .inl (jao (nu bo (ee + 1) (sm_fr (nu (nu tk i true) j0 true) n 0))))), (112, .inl (2, 40, .inl (jab (nu (nu tk i true) j0 true)))), (111, .inl (0, 11, .inl (jao (nu (nu pu ee (some j0)) (ee + 1) none))))] M) (ee := ee + 1) (tk := nu (nu tk i true) j0 true) (bo := nu bo (ee + 1) (sm_fr (nu (nu tk i true) j0 true) n 0)) (pu := nu (nu pu ee (some j0)) (ee + 1) none) (by omega) (by omega) h92 h100 ⟨rfl, rfl, rfl⟩ nu_at' nu_at' (fun q M' h1' h2' => ?_) (fun q M' bo' pu' y2 y3 y4 hf hX' hag => ?_)
              · exact hT (by rw [sp_any, if_pos (by rw [decide_eq_true ⟨h1, h2, h3⟩, q]; rfl)]) M' ((fK_jm rfl).tr h1') h2'
              · have hff : fK M M' := (fK_jm rfl).tr hf
                have h92' : M'.1 92 = mW w ln at_ n gd := (hff.1 92 (by decide) (by decide) (by decide)).trans h92
                have h100' : M'.1 100 = .inl (0, 1600, .inl (ja bm)) := (hff.1 100 (by decide) (by decide) (by decide)).trans h100
                have eb : bo' ee = some i := ((hag ee (by omega)).1).trans (by rw [nu_ne (by omega)]; exact hbe)
                have ep : pu' ee = some j0 := ((hag ee (by omega)).2).trans (by rw [nu_ne (by omega), nu_at'])
                rw [jn_up]
                refine z_go 57 _ [.int (jn ee)] _ c_89_56 rfl ?_
                refine z_iflt 224 60 c_89_57 rfl (jn_nl (by omega)) (fun hz => ?_) (fun hz => ?_)
                · exact hz.elim
                · refine z_go 61 _ [.ref 92] _ c_89_60 rfl ?_
                  refine z_getf (v := .ref 101) 64 c_89_61 rfl h92' rfl ?_
                  refine z_go 65 _ [.int (jn ee), .ref 101] _ c_89_64 rfl ?_
                  refine z_iald 66 c_89_65 rfl hX'.1 (Or.inl rfl) (by omega) (by omega) ?_
                  show jZ _ _ _ _ ([.int (jo (bo' ee))]) _ _
                  rw [eb]
                  show jZ _ _ _ _ [.int (jn i)] _ _
                  refine z_ifge 71 69 c_89_66 rfl (jn_nl (by omega)) (fun hz2 => ?_) (fun hz2 => ?_)
                  · exact hz2.elim
                  · refine z_go 72 _ [.ref 92] _ c_89_71 rfl ?_
                    refine z_getf (v := .ref 101) 75 c_89_72 rfl h92' rfl ?_
                    refine z_go 76 _ [.int (jn ee), .ref 101] _ c_89_75 rfl ?_
                    refine z_iald 77 c_89_76 rfl hX'.1 (Or.inl rfl) (by omega) (by omega) ?_
                    show jZ _ _ _ _ ([.int (jo (bo' ee))]) _ _
                    rw [eb]
                    show jZ _ _ _ _ [.int (jn i)] _ _
                    refine z_go 78 [some (.ref 92), some (.int (jn ee)), some (.int y2), some (.int (jn i)), y4] [] _ c_89_77 rfl ?_
                    refine z_go 79 _ [.ref 92] _ c_89_78 rfl ?_
                    refine z_getf (v := .ref 111) 82 c_89_79 rfl h92' rfl ?_
                    refine z_go 83 _ [.int (jn ee), .ref 111] _ c_89_82 rfl ?_
                    refine z_iald 84 c_89_83 rfl hX'.2.1 (Or.inl rfl) (by omega) (by omega) ?_
                    show jZ _ _ _ _ ([.int (jo (pu' ee))]) _ _
                    rw [ep]
                    show jZ _ _ _ _ [.int (jn j0)] _ _
                    refine z_iflt 106 87 c_89_84 rfl (jn_nl (by omega)) (fun hz3 => ?_) (fun hz3 => ?_)
                    · exact hz3.elim
                    · refine z_go 88 _ [.ref 92] _ c_89_87 rfl ?_
                      refine z_getf (v := .ref 112) 91 c_89_88 rfl h92' rfl ?_
                      refine z_go 92 _ [.int (jn i), .ref 112] _ c_89_91 rfl ?_
                      refine z_go 93 _ [.int (jn 0), .int (jn i), .ref 112] _ c_89_92 rfl ?_
                      refine z_zast (M' := jm [(112, .inl (2, 40, .inl (jab (nu (nu (nu tk i true) j0 true) i false))))] M') 94 c_89_93 rfl hX'.2.2 (by omega) (by omega) (show vp_nar .boolean (jn 0) = jb false by decide) (by rw [jab_upd]; exact rfl) ?_
                      refine z_go 95 _ [.ref 92] _ c_89_94 rfl ?_
                      refine z_getf (v := .ref 112) 98 c_89_95 rfl h92' rfl ?_
                      refine z_go 99 _ [.ref 92, .ref 112] _ c_89_98 rfl ?_
                      refine z_getf (v := .ref 111) 102 c_89_99 rfl h92' rfl ?_
                      refine z_go 103 _ [.int (jn ee), .ref 111, .ref 112] _ c_89_102 rfl ?_
                      refine z_iald 104 c_89_103 rfl hX'.2.1 (Or.inl rfl) (by omega) (by omega) ?_
                      show jZ _ _ _ _ ([.int (jo (pu' ee)), .ref 112]) _ _
                      rw [ep]
                      show jZ _ _ _ _ [.int (jn j0), .ref 112] _ _
                      refine z_go 105 _ [.int (jn 0), .int (jn j0), .ref 112] _ c_89_104 rfl ?_
                      refine z_zast (M' := jm [(112, .inl (2, 40, .inl (jab (nu (nu (nu (nu tk i true) j0 true) i false) j0 false))))] M') 106 c_89_105 rfl rfl (by omega) (by omega) (show vp_nar .boolean (jn 0) = jb false by decide) (by rw [jab_upd]; exact (jm_w rfl)) ?_
                      refine z_go 107 _ [.ref 92] _ c_89_106 rfl ?_
                      refine z_getf (v := .ref 111) 110 c_89_107 rfl h92' rfl ?_
                      refine z_go 111 _ [.int (jn ee), .ref 111] _ c_89_110 rfl ?_
                      refine z_iald 112 c_89_111 rfl hX'.2.1 (Or.inl rfl) (by omega) (by omega) ?_
                      show jZ _ _ _ _ ([.int (jo (pu' ee))]) _ _
                      rw [ep]
                      show jZ _ _ _ _ [.int (jn j0)] _ _
                      refine z_go 113 _ [.int (jn 1), .int (jn j0)] _ c_89_112 rfl ?_
                      refine z_go 114 _ [.int ((jn j0) + (jn 1))] _ c_89_113 rfl ?_
                      refine z_v (jn_add _ _) ?_
                      refine z_go 116 [some (.ref 92), some (.int (jn ee)), some (.int y2), some (.int (jn i)), some (.int (jn (j0 + 1)))] [] _ c_89_114 rfl ?_
                      have hX2 : mX (jm [(112, .inl (2, 40, .inl (jab (nu (nu (nu (nu tk i true) j0 true) i false) j0 false))))] M') bo' pu' tk := ⟨hX'.1, hX'.2.1, congrArg (fun g => (.inl (2, 40, .inl (jab g)) : jx_C)) (tk_back hti h1)⟩
                      have e0 : ¬ (decide (tk j0 = false ∧ j0 ≠ i ∧ bm (40 * i + j0) = 4) && sm_mt bm n f (nu (nu tk i true) j0 true)) = true := fun t => by rw [q, Bool.and_false] at t; cases t
                      rw [sp_any, if_neg e0] at hT hF
                      have hfe : fK M (jm [(112, .inl (2, 40, .inl (jab (nu (nu (nu (nu tk i true) j0 true) i false) j0 false))))] M') := hff.tr (fK_jm rfl)
                      exact ih (M := jm [(112, .inl (2, 40, .inl (jab (nu (nu (nu (nu tk i true) j0 true) i false) j0 false))))] M') (j0 := j0 + 1) (by omega) h92' h100' hX2 eb (fun t M9 g1 g2 => hT t M9 (hfe.tr g1) g2) (fun t M9 bo9 pu9 w2 w3 w4 g1 g2 g3 => hF t M9 bo9 pu9 w2 w3 w4 (hfe.tr g1) g2 (fun j hj => ⟨(g3 j hj).1.trans (((hag j (by omega)).1).trans (nu_ne (by omega))), (g3 j hj).2.trans (((hag j (by omega)).2).trans ((nu_ne (by omega)).trans (nu_ne (by omega))))⟩))
            · omega
          · refine z_iinc 160 [some (.ref 92), some (.int (jn ee)), some (.int z2), some (.int (jn i)), some (.int (jn (j0 + 1)))] c_89_157 rfl rfl (jn_add _ _) rfl ?_
            refine z_go 116 _ [] _ c_89_160 rfl ?_
            have e0 : ¬ (decide (tk j0 = false ∧ j0 ≠ i ∧ bm (40 * i + j0) = 4) && sm_mt bm n f (nu (nu tk i true) j0 true)) = true := fun q => by rw [Bool.and_eq_true, decide_eq_true_iff] at q; exact h3 q.1.2.2
            rw [sp_any, if_neg e0] at hT hF
            exact ih (j0 := j0 + 1) (by omega) h92 h100 hX hbe hT hF
      · refine z_iinc 160 [some (.ref 92), some (.int (jn ee)), some (.int z2), some (.int (jn i)), some (.int (jn (j0 + 1)))] c_89_157 rfl rfl (jn_add _ _) rfl ?_
        refine z_go 116 _ [] _ c_89_160 rfl ?_
        have e0 : ¬ (decide (tk j0 = false ∧ j0 ≠ i ∧ bm (40 * i + j0) = 4) && sm_mt bm n f (nu (nu tk i true) j0 true)) = true := fun q => by rw [Bool.and_eq_true, decide_eq_true_iff] at q; exact h1 q.1.1
        rw [sp_any, if_neg e0] at hT hF
        exact ih (j0 := j0 + 1) (by omega) h92 h100 hX hbe hT hF
    · omega
theorem t_mm {w : MW} {ln at_ n : Nat} {gd : Bool} {bm : Nat → Nat} {d : Nat} {post : jx_R → jx_M → Prop} (hn : n ≤ 10) (hbm : bmS n bm) : ∀ {f : Nat}, ∀ {ee : Nat} {tk : Nat → Bool} {bo pu : Nat → Option Nat} {z2 : Int32} {z3 z4 : Option Value} {M : jx_M}, ee + f ≤ 10 → cnt (fun j => !tk j) n ≤ f → M.1 92 = mW w ln at_ n gd → M.1 100 = .inl (0, 1600, .inl (ja bm)) → mX M bo pu tk → bo ee = sm_fr tk n 0 → pu ee = none → (sm_mt bm n f tk = true → ∀ M', fK M M' → mXS M' → post (.inl (some (.int (jb true)))) M') → (sm_mt bm n f tk = false → ∀ M' bo' pu' y2 y3 y4, fK M M' → mX M' bo' pu' tk → (∀ j, j < ee → bo' j = bo j ∧ pu' j = pu j) → jZ (d + 1) 89 56 [some (.ref 92), some (.int (jn ee + -1)), some (.int y2), y3, y4] [] M' post) → jZ (d + 1) 89 56 [some (.ref 92), some (.int (jn ee)), some (.int z2), z3, z4] [] M post := by
  intro f
  induction f with
  | zero =>
    intro ee tk bo pu z2 z3 z4 M hef hc h92 h100 hX hbe hpe hT hF
    have hfr : sm_fr tk n 0 = none := sm_fr_none fun j _ hj => by have := cnt_0 (Nat.le_zero.mp hc) j (by omega); cases h : tk j <;> simp_all
    rw [hfr] at hbe
    refine z_go 57 _ [.int (jn ee)] _ c_89_56 rfl ?_
    refine z_iflt 224 60 c_89_57 rfl (jn_nl (by omega)) (fun hz => ?_) (fun hz => ?_)
    · exact hz.elim
    · refine z_go 61 _ [.ref 92] _ c_89_60 rfl ?_
      refine z_getf (v := .ref 101) 64 c_89_61 rfl h92 rfl ?_
      refine z_go 65 _ [.int (jn ee), .ref 101] _ c_89_64 rfl ?_
      refine z_iald 66 c_89_65 rfl hX.1 (Or.inl rfl) (by omega) (by omega) ?_
      show jZ _ _ _ _ ([.int (jo (bo ee))]) _ _
      rw [hbe]
      show jZ _ _ _ _ [.int (jo none)] _ _
      refine z_ifge 71 69 c_89_66 rfl (jo_lt (by intro k q; cases q)) (fun hz2 => ?_) (fun hz2 => ?_)
      · refine z_go 70 _ [.int (jn 1)] _ c_89_69 rfl ?_
        refine z_zret (b := true) c_89_70 ?_
        exact hT rfl M (fK_r M) ⟨bo, pu, tk, hX⟩
      · exact absurd rfl hz2
  | succ f ih =>
    intro ee tk bo pu z2 z3 z4 M hef hc h92 h100 hX hbe hpe hT hF
    cases hfr : sm_fr tk n 0 with
    | none =>
      rw [hfr] at hbe
      refine z_go 57 _ [.int (jn ee)] _ c_89_56 rfl ?_
      refine z_iflt 224 60 c_89_57 rfl (jn_nl (by omega)) (fun hz => ?_) (fun hz => ?_)
      · exact hz.elim
      · refine z_go 61 _ [.ref 92] _ c_89_60 rfl ?_
        refine z_getf (v := .ref 101) 64 c_89_61 rfl h92 rfl ?_
        refine z_go 65 _ [.int (jn ee), .ref 101] _ c_89_64 rfl ?_
        refine z_iald 66 c_89_65 rfl hX.1 (Or.inl rfl) (by omega) (by omega) ?_
        show jZ _ _ _ _ ([.int (jo (bo ee))]) _ _
        rw [hbe]
        show jZ _ _ _ _ [.int (jo none)] _ _
        refine z_ifge 71 69 c_89_66 rfl (jo_lt (by intro k q; cases q)) (fun hz2 => ?_) (fun hz2 => ?_)
        · refine z_go 70 _ [.int (jn 1)] _ c_89_69 rfl ?_
          refine z_zret (b := true) c_89_70 ?_
          exact hT (by rw [sm_mt, hfr]) M (fK_r M) ⟨bo, pu, tk, hX⟩
        · exact absurd rfl hz2
    | some i =>
      rw [hfr] at hbe
      obtain ⟨-, hi0, hti⟩ := sm_fr_lt hfr
      have hi : i < n := by omega
      refine z_go 57 _ [.int (jn ee)] _ c_89_56 rfl ?_
      refine z_iflt 224 60 c_89_57 rfl (jn_nl (by omega)) (fun hz => ?_) (fun hz => ?_)
      · exact hz.elim
      · refine z_go 61 _ [.ref 92] _ c_89_60 rfl ?_
        refine z_getf (v := .ref 101) 64 c_89_61 rfl h92 rfl ?_
        refine z_go 65 _ [.int (jn ee), .ref 101] _ c_89_64 rfl ?_
        refine z_iald 66 c_89_65 rfl hX.1 (Or.inl rfl) (by omega) (by omega) ?_
        show jZ _ _ _ _ ([.int (jo (bo ee))]) _ _
        rw [hbe]
        show jZ _ _ _ _ [.int (jn i)] _ _
        refine z_ifge 71 69 c_89_66 rfl (jn_nl (by omega)) (fun hz2 => ?_) (fun hz2 => ?_)
        · exact hz2.elim
        · refine z_go 72 _ [.ref 92] _ c_89_71 rfl ?_
          refine z_getf (v := .ref 101) 75 c_89_72 rfl h92 rfl ?_
          refine z_go 76 _ [.int (jn ee), .ref 101] _ c_89_75 rfl ?_
          refine z_iald 77 c_89_76 rfl hX.1 (Or.inl rfl) (by omega) (by omega) ?_
          show jZ _ _ _ _ ([.int (jo (bo ee))]) _ _
          rw [hbe]
          show jZ _ _ _ _ [.int (jn i)] _ _
          refine z_go 78 [some (.ref 92), some (.int (jn ee)), some (.int z2), some (.int (jn i)), z4] [] _ c_89_77 rfl ?_
          refine z_go 79 _ [.ref 92] _ c_89_78 rfl ?_
          refine z_getf (v := .ref 111) 82 c_89_79 rfl h92 rfl ?_
          refine z_go 83 _ [.int (jn ee), .ref 111] _ c_89_82 rfl ?_
          refine z_iald 84 c_89_83 rfl hX.2.1 (Or.inl rfl) (by omega) (by omega) ?_
          show jZ _ _ _ _ ([.int (jo (pu ee))]) _ _
          rw [hpe]
          show jZ _ _ _ _ [.int (jo none)] _ _
          refine z_iflt 106 87 c_89_84 rfl (jo_lt (by intro k q; cases q)) (fun hz3 => ?_) (fun hz3 => ?_)
          · refine z_go 107 _ [.ref 92] _ c_89_106 rfl ?_
            refine z_getf (v := .ref 111) 110 c_89_107 rfl h92 rfl ?_
            refine z_go 111 _ [.int (jn ee), .ref 111] _ c_89_110 rfl ?_
            refine z_iald 112 c_89_111 rfl hX.2.1 (Or.inl rfl) (by omega) (by omega) ?_
            show jZ _ _ _ _ ([.int (jo (pu ee))]) _ _
            rw [hpe]
            show jZ _ _ _ _ [.int (jo none)] _ _
            refine z_go 113 _ [.int (jn 1), .int (jo none)] _ c_89_112 rfl ?_
            refine z_go 114 _ [.int (((jo none)) + (jn 1))] _ c_89_113 rfl ?_
            refine z_v (show jo none + jn 1 = jn 0 by decide) ?_
            refine z_go 116 [some (.ref 92), some (.int (jn ee)), some (.int z2), some (.int (jn i)), some (.int (jn 0))] [] _ c_89_114 rfl ?_
            exact t_mm_in (f := f) (k := n) (tk := tk) hn hbm (by omega) hc hi hti ih (by omega) h92 h100 hX hbe (fun q => hT (by rw [sm_mt, hfr]; exact q)) (fun q => hF (by rw [sm_mt, hfr]; exact q))
          · exact absurd rfl hz3
theorem ja_jao {f : Nat → Nat} : ja f = jao (fun j => some (f j)) := rfl
def jk (f : Nat → Option Nat) : Nat → Nat := fun j => match f j with
  | none => 4294967295
  | some k => k
theorem jao_ja {f : Nat → Option Nat} : jao f = ja (jk f) := by
  funext j
  unfold jao ja jk
  cases f j with
  | none => decide
  | some k => rfl
theorem t_mm_t {d : Nat} {w : MW} {tx : Nat → Nat} {ln at_ n : Nat} {gd : Bool} {A : Nat → MA} {bm bk : Nat → Nat} {oa : Nat → Option Nat} {ol : Nat → Nat} {post : jx_R → jx_M → Prop} (hn : n ≤ 10) (hE : ∀ q, q < n → aE A q < 128) : ∀ {k i : Nat} {tk : Nat → Bool} {M : jx_M}, i + k = n → mRd M w tx ln at_ n gd A bm bk oa ol → M.1 112 = .inl (2, 40, .inl (jab tk)) → (∀ z, jZ (d + 1) 89 35 [some (.ref 92), some (.int z), none, none, none] [] (jm [(112, .inl (2, 40, .inl (jab (tkf n A i tk))))] M) post) → jZ (d + 1) 89 2 [some (.ref 92), some (.int (jn i)), none, none, none] [] M post := by
  intro k
  induction k with
  | zero =>
    intro i tk M hik H h112 hk
    have H0 := H
    obtain ⟨h92, h93, ⟨h94, h95, h96, h97, h98, h99⟩, h100, h101, h102, h103⟩ := H
    refine z_go 3 _ [.int (jn i)] _ c_89_2 rfl ?_
    refine z_go 4 _ [.ref 92, .int (jn i)] _ c_89_3 rfl ?_
    refine z_getf (v := .int (jn n)) 7 c_89_4 rfl h92 rfl ?_
    refine z_ige 35 10 c_89_7 rfl (by omega) (by omega) (fun hi => ?_) (fun hi => ?_)
    · omega
    · have e0 : i = n := by omega
      subst e0
      have e1 : jm [(112, .inl (2, 40, .inl (jab (tkf i A i tk))))] M = M := by rw [tkf_e]; exact jx_st_id h112
      rw [e1] at hk
      exact hk _
  | succ k ih =>
    intro i tk M hik H h112 hk
    have H0 := H
    obtain ⟨h92, h93, ⟨h94, h95, h96, h97, h98, h99⟩, h100, h101, h102, h103⟩ := H
    refine z_go 3 _ [.int (jn i)] _ c_89_2 rfl ?_
    refine z_go 4 _ [.ref 92, .int (jn i)] _ c_89_3 rfl ?_
    refine z_getf (v := .int (jn n)) 7 c_89_4 rfl h92 rfl ?_
    refine z_ige 35 10 c_89_7 rfl (by omega) (by omega) (fun hi => ?_) (fun hi => ?_)
    · refine z_go 11 _ [.ref 92] _ c_89_10 rfl ?_
      refine z_getf (v := .ref 112) 14 c_89_11 rfl h92 rfl ?_
      refine z_go 15 _ [.int (jn i), .ref 112] _ c_89_14 rfl ?_
      refine z_go 16 _ [.ref 92, .int (jn i), .ref 112] _ c_89_15 rfl ?_
      refine z_go 17 _ [.int (jn i), .ref 92, .int (jn i), .ref 112] _ c_89_16 rfl ?_
      refine z_callv 20 6 90 1 92 c_89_17 rfl ⟨Nat.le_of_ble_eq_true rfl, Nat.le_of_ble_eq_true rfl⟩ rfl h92 [.ref 92, .int (jn i)] rfl rfl [some (.ref 92), some (.int (jn i))] rfl rfl (t_mpr H0 (by omega) hi hE) ?_
      show jZ _ _ _ _ [.int (jb (sm_pr (A i))), .int (jn i), .ref 112] _ _
      refine z_cut 28 [some (.ref 92), some (.int (jn i)), none, none, none] [.int (jb (!sm_pr (A i))), .int (jn i), .ref 112] (fun kc => ?_) ?_
      · refine z_ifne 27 23 c_89_20 rfl jb_t (fun g => ?_) (fun g => ?_)
        · refine z_go 24 _ [.int (jn 1), .int (jn i), .ref 112] _ c_89_23 rfl ?_
          refine z_go 28 _ [.int (jn 1), .int (jn i), .ref 112] _ c_89_24 rfl ?_
          exact z_v (by rw [g]; rfl) kc
        · have gt : sm_pr (A i) = true := by cases h : sm_pr (A i) <;> simp_all
          refine z_go 28 _ [.int (jn 0), .int (jn i), .ref 112] _ c_89_27 rfl ?_
          exact z_v (by rw [gt]; rfl) kc
      refine z_zast (M' := jm [(112, .inl (2, 40, .inl (jab (nu tk i (!sm_pr (A i))))))] M) 29 c_89_28 rfl h112 (by omega) (by omega) vp_b (by rw [jab_upd]; exact rfl) ?_
      refine z_iinc 32 [some (.ref 92), some (.int (jn (i + 1))), none, none, none] c_89_29 rfl rfl (jn_add _ _) rfl ?_
      refine z_go 2 _ [] _ c_89_32 rfl ?_
      refine ih (i := i + 1) (M := jm [(112, .inl (2, 40, .inl (jab (nu tk i (!sm_pr (A i))))))] M) (by omega) ⟨h92, h93, ⟨h94, h95, h96, h97, h98, h99⟩, h100, h101, h102, h103⟩ rfl (fun z => ?_)
      rw [tkf_s hi]
      refine z_m (jx_st_st M 112 _ _) ?_
      exact hk z
    · omega
theorem t_mmat {d : Nat} {w : MW} {tx : Nat → Nat} {ln at_ n : Nat} {gd : Bool} {A : Nat → MA} {bm bk : Nat → Nat} {oa : Nat → Option Nat} {ol : Nat → Nat} {M : jx_M} {pu : Nat → Option Nat} {tk : Nat → Bool} (H : mRd M w tx ln at_ n gd A bm bk oa ol) (h111 : M.1 111 = .inl (0, 11, .inl (jao pu))) (h112 : M.1 112 = .inl (2, 40, .inl (jab tk))) (hn : n ≤ 10) (hE : ∀ q, q < n → aE A q < 128) (hbm : bmS n bm) : jZ (d + 1) 89 0 [some (.ref 92), none, none, none, none] [] M (jV (some (.int (jb (sm_mt bm n 10 (sm_tk A))))) fun M' => mXS M' ∧ fK M M') := by
  have H0 := H
  obtain ⟨h92, h93, ⟨h94, h95, h96, h97, h98, h99⟩, h100, h101, h102, h103⟩ := H
  refine z_go 1 _ [.int (jn 0)] _ c_89_0 rfl ?_
  refine z_go 2 [some (.ref 92), some (.int (jn 0)), none, none, none] [] _ c_89_1 rfl ?_
  refine t_mm_t (k := n) hn hE (by omega) H0 h112 (fun z => ?_)
  show jZ _ _ _ _ _ (jm [(112, .inl (2, 40, .inl (jab (tkf n A 0 tk))))] M) _
  refine z_go 36 _ [.int (jn 0)] _ c_89_35 rfl ?_
  refine z_go 37 [some (.ref 92), some (.int (jn 0)), none, none, none] [] _ c_89_36 rfl ?_
  refine z_go 38 _ [.ref 92] _ c_89_37 rfl ?_
  refine z_callv 41 6 91 0 92 c_89_38 rfl ⟨Nat.le_of_ble_eq_true rfl, Nat.le_of_ble_eq_true rfl⟩ rfl h92 [.ref 92] rfl rfl [some (.ref 92), none] rfl rfl (t_mfr (tk := tkf n A 0 tk) (M := jm [(112, .inl (2, 40, .inl (jab (tkf n A 0 tk))))] M) h92 rfl hn) ?_
  show jZ _ _ _ _ [.int (jo (sm_fr (tkf n A 0 tk) n 0))] _ _
  refine z_go 42 [some (.ref 92), some (.int (jn 0)), some (.int (jo (sm_fr (tkf n A 0 tk) n 0))), none, none] [] _ c_89_41 rfl ?_
  refine z_go 43 _ [.ref 92] _ c_89_42 rfl ?_
  refine z_getf (v := .ref 101) 46 c_89_43 rfl h92 rfl ?_
  refine z_go 47 _ [.int (jn 0), .ref 101] _ c_89_46 rfl ?_
  refine z_go 48 _ [.int (jo (sm_fr (tkf n A 0 tk) n 0)), .int (jn 0), .ref 101] _ c_89_47 rfl ?_
  refine z_iast (M' := jm [(101, .inl (0, 40, .inl (jao (nu (fun j => some (bk j)) 0 (sm_fr (tkf n A 0 tk) n 0))))), (112, .inl (2, 40, .inl (jab (tkf n A 0 tk))))] M) 49 c_89_48 rfl h101 (by omega) (by omega) ((congrArg (fun f => jx_st _ 101 (.inl (0, 40, .inl f))) (jao_upd (f := fun j => some (bk j)) (k := 0) (x := sm_fr (tkf n A 0 tk) n 0))).trans rfl) ?_
  refine z_go 50 _ [.ref 92] _ c_89_49 rfl ?_
  refine z_getf (v := .ref 111) 53 c_89_50 rfl h92 rfl ?_
  refine z_go 54 _ [.int (jn 0), .ref 111] _ c_89_53 rfl ?_
  refine z_go 55 _ [.int (jo none), .int (jn 0), .ref 111] _ c_89_54 rfl ?_
  refine z_iast (M' := jm [(111, .inl (0, 11, .inl (jao (nu pu 0 none)))), (101, .inl (0, 40, .inl (jao (nu (fun j => some (bk j)) 0 (sm_fr (tkf n A 0 tk) n 0))))), (112, .inl (2, 40, .inl (jab (tkf n A 0 tk))))] M) 56 c_89_55 rfl h111 (by omega) (by omega) ((congrArg (fun f => jx_st _ 111 (.inl (0, 11, .inl f))) (jao_upd (f := pu) (k := 0) (x := none))).trans rfl) ?_
  have hex : sm_mt bm n 10 (tkf n A 0 tk) = sm_mt bm n 10 (sm_tk A) := sm_mt_ext fun j hj => by unfold tkf sm_tk; rw [if_pos ⟨Nat.zero_le _, hj⟩]
  have hcl : cnt (fun j => !tkf n A 0 tk j) n ≤ 10 := Nat.le_trans cnt_le hn
  refine t_mm (f := 10) (ee := 0) (M := jm [(111, .inl (0, 11, .inl (jao (nu pu 0 none)))), (101, .inl (0, 40, .inl (jao (nu (fun j => some (bk j)) 0 (sm_fr (tkf n A 0 tk) n 0))))), (112, .inl (2, 40, .inl (jab (tkf n A 0 tk))))] M) (pu := nu pu 0 none) hn hbm (by decide) hcl h92 h100 ⟨rfl, rfl, rfl⟩ nu_at' nu_at' (fun q M' g1 g2 => ?_) (fun q M' bo' pu' y2 y3 y4 g1 g2 g3 => ?_)
  · rw [hex] at q
    rw [q]
    have hf := (fK_jm (M := M) (l := [(111, .inl (0, 11, .inl (jao (nu pu 0 none)))), (101, .inl (0, 40, .inl (jao (nu (fun j => some (bk j)) 0 (sm_fr (tkf n A 0 tk) n 0))))), (112, .inl (2, 40, .inl (jab (tkf n A 0 tk))))]) rfl).tr g1
    exact ⟨rfl, g2, hf⟩
  · rw [hex] at q
    rw [q]
    have hf := (fK_jm (M := M) (l := [(111, .inl (0, 11, .inl (jao (nu pu 0 none)))), (101, .inl (0, 40, .inl (jao (nu (fun j => some (bk j)) 0 (sm_fr (tkf n A 0 tk) n 0))))), (112, .inl (2, 40, .inl (jab (tkf n A 0 tk))))]) rfl).tr g1
    refine z_go 57 _ [.int (jn 0 + -1)] _ c_89_56 rfl ?_
    refine z_iflt 224 60 c_89_57 rfl Iff.rfl (fun hz => ?_) (fun hz => ?_)
    · refine z_go 225 _ [.int (jn 0)] _ c_89_224 rfl ?_
      refine z_zret (b := false) c_89_225 ?_
      exact ⟨rfl, ⟨bo', pu', _, g2⟩, hf⟩
    · exact absurd (show jn 0 + -1 < 0 by decide) hz
