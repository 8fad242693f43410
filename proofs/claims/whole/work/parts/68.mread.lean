/-! THE REFERENCE: its reading; printed by wip/whole/p68.py -/
theorem c_76_0 : jx_cd 76 0 = some (o_ald 0 1) := rfl
theorem c_76_1 : jx_cd 76 1 = some (o_push (.int 0) 1) := rfl
theorem c_76_2 : jx_cd 76 2 = some (o_putf 6 3 jx_okI) := rfl
theorem c_76_5 : jx_cd 76 5 = some (o_ald 0 1) := rfl
theorem c_76_6 : jx_cd 76 6 = some (o_push (.int 0) 1) := rfl
theorem c_76_7 : jx_cd 76 7 = some (o_putf 6 4 jx_okI) := rfl
theorem c_76_10 : jx_cd 76 10 = some (o_ald 0 1) := rfl
theorem c_76_11 : jx_cd 76 11 = some (o_push (.int 1) 1) := rfl
theorem c_76_12 : jx_cd 76 12 = some (o_putf 6 15 jx_okZ) := rfl
theorem c_76_15 : jx_cd 76 15 = some (o_push (.int 0) 1) := rfl
theorem c_76_16 : jx_cd 76 16 = some (o_ist 2 1) := rfl
theorem c_76_36 : jx_cd 76 36 = some (o_push (.int 0) 1) := rfl
theorem c_76_37 : jx_cd 76 37 = some (o_ist 2 1) := rfl
theorem c_76_38 : jx_cd 76 38 = some (o_push (.int (-1)) 1) := rfl
theorem c_76_39 : jx_cd 76 39 = some (o_ist 3 1) := rfl
theorem c_76_40 : jx_cd 76 40 = some (o_push (.int 0) 1) := rfl
theorem c_76_41 : jx_cd 76 41 = some (o_ist 4 2) := rfl
theorem c_76_43 : jx_cd 76 43 = some (o_ald 0 1) := rfl
theorem c_76_44 : jx_cd 76 44 = some (o_getf 6 15) := rfl
theorem c_76_47 : jx_cd 76 47 = some (o_ifeq 259) := rfl
theorem c_76_50 : jx_cd 76 50 = some (o_ild 4 2) := rfl
theorem c_76_52 : jx_cd 76 52 = some (o_ifne 259) := rfl
theorem c_76_55 : jx_cd 76 55 = some (o_ild 3 1) := rfl
theorem c_76_56 : jx_cd 76 56 = some (o_ifge 63) := rfl
theorem c_76_59 : jx_cd 76 59 = some (o_push (.int 0) 1) := rfl
theorem c_76_60 : jx_cd 76 60 = some (o_goto 75) := rfl
theorem c_76_63 : jx_cd 76 63 = some (o_ald 0 1) := rfl
theorem c_76_64 : jx_cd 76 64 = some (o_ald 0 1) := rfl
theorem c_76_65 : jx_cd 76 65 = some (o_getf 6 3) := rfl
theorem c_76_68 : jx_cd 76 68 = some (o_callv 6 77 1) := rfl
theorem c_76_71 : jx_cd 76 71 = some (o_ild 1 1) := rfl
theorem c_76_72 : jx_cd 76 72 = some (o_call 78 2) := rfl
theorem c_76_75 : jx_cd 76 75 = some (o_ist 5 2) := rfl
theorem c_76_77 : jx_cd 76 77 = some (o_ald 0 1) := rfl
theorem c_76_78 : jx_cd 76 78 = some (o_ild 5 2) := rfl
theorem c_76_80 : jx_cd 76 80 = some (o_ifeq 92) := rfl
theorem c_76_83 : jx_cd 76 83 = some (o_ald 0 1) := rfl
theorem c_76_84 : jx_cd 76 84 = some (o_getf 6 3) := rfl
theorem c_76_87 : jx_cd 76 87 = some (o_push (.int 1) 1) := rfl
theorem c_76_88 : jx_cd 76 88 = some (o_bin fun x y => x + y) := rfl
theorem c_76_89 : jx_cd 76 89 = some (o_goto 96) := rfl
theorem c_76_92 : jx_cd 76 92 = some (o_ald 0 1) := rfl
theorem c_76_93 : jx_cd 76 93 = some (o_getf 6 3) := rfl
theorem c_76_96 : jx_cd 76 96 = some (o_putf 6 3 jx_okI) := rfl
theorem c_76_99 : jx_cd 76 99 = some (o_ald 0 1) := rfl
theorem c_76_100 : jx_cd 76 100 = some (o_ild 1 1) := rfl
theorem c_76_101 : jx_cd 76 101 = some (o_callv 6 79 1) := rfl
theorem c_76_104 : jx_cd 76 104 = some (o_ifne 109) := rfl
theorem c_76_107 : jx_cd 76 107 = some (o_push (.int 0) 1) := rfl
theorem c_76_108 : jx_cd 76 108 = some (o_zret) := rfl
theorem c_76_109 : jx_cd 76 109 = some (o_ald 0 1) := rfl
theorem c_76_110 : jx_cd 76 110 = some (o_getf 6 4) := rfl
theorem c_76_113 : jx_cd 76 113 = some (o_push (.int 1) 1) := rfl
theorem c_76_114 : jx_cd 76 114 = some (o_bin fun x y => x - y) := rfl
theorem c_76_115 : jx_cd 76 115 = some (o_ist 6 2) := rfl
theorem c_76_117 : jx_cd 76 117 = some (o_ild 3 1) := rfl
theorem c_76_118 : jx_cd 76 118 = some (o_iflt 130) := rfl
theorem c_76_121 : jx_cd 76 121 = some (o_ald 0 1) := rfl
theorem c_76_122 : jx_cd 76 122 = some (o_ild 3 1) := rfl
theorem c_76_123 : jx_cd 76 123 = some (o_ild 6 2) := rfl
theorem c_76_125 : jx_cd 76 125 = some (o_ild 5 2) := rfl
theorem c_76_127 : jx_cd 76 127 = some (o_callv 6 84 3) := rfl
theorem c_76_130 : jx_cd 76 130 = some (o_ald 0 1) := rfl
theorem c_76_131 : jx_cd 76 131 = some (o_ild 6 2) := rfl
theorem c_76_133 : jx_cd 76 133 = some (o_ild 1 1) := rfl
theorem c_76_134 : jx_cd 76 134 = some (o_callv 6 85 2) := rfl
theorem c_76_137 : jx_cd 76 137 = some (o_ild 6 2) := rfl
theorem c_76_139 : jx_cd 76 139 = some (o_ist 3 1) := rfl
theorem c_76_140 : jx_cd 76 140 = some (o_push (.int 1) 1) := rfl
theorem c_76_141 : jx_cd 76 141 = some (o_ist 7 2) := rfl
set_option maxRecDepth 100000 in
theorem c_76_202 : jx_cd 76 202 = some (o_ald 0 1) := rfl
set_option maxRecDepth 100000 in
theorem c_76_203 : jx_cd 76 203 = some (o_ald 0 1) := rfl
set_option maxRecDepth 100000 in
theorem c_76_204 : jx_cd 76 204 = some (o_getf 6 3) := rfl
set_option maxRecDepth 100000 in
theorem c_76_207 : jx_cd 76 207 = some (o_callv 6 77 1) := rfl
set_option maxRecDepth 100000 in
theorem c_76_210 : jx_cd 76 210 = some (o_push (.int 40) 2) := rfl
set_option maxRecDepth 100000 in
theorem c_76_212 : jx_cd 76 212 = some (o_ine 238) := rfl
set_option maxRecDepth 100000 in
theorem c_76_215 : jx_cd 76 215 = some (o_ald 0 1) := rfl
set_option maxRecDepth 100000 in
theorem c_76_216 : jx_cd 76 216 = some (o_getf 6 12) := rfl
set_option maxRecDepth 100000 in
theorem c_76_219 : jx_cd 76 219 = some (o_ild 2 1) := rfl
set_option maxRecDepth 100000 in
theorem c_76_220 : jx_cd 76 220 = some (o_ild 3 1) := rfl
set_option maxRecDepth 100000 in
theorem c_76_221 : jx_cd 76 221 = some (o_iast) := rfl
set_option maxRecDepth 100000 in
theorem c_76_222 : jx_cd 76 222 = some (o_iinc 2 1) := rfl
set_option maxRecDepth 100000 in
theorem c_76_225 : jx_cd 76 225 = some (o_ald 0 1) := rfl
set_option maxRecDepth 100000 in
theorem c_76_226 : jx_cd 76 226 = some (o_dup) := rfl
set_option maxRecDepth 100000 in
theorem c_76_227 : jx_cd 76 227 = some (o_getf 6 3) := rfl
set_option maxRecDepth 100000 in
theorem c_76_230 : jx_cd 76 230 = some (o_push (.int 1) 1) := rfl
set_option maxRecDepth 100000 in
theorem c_76_231 : jx_cd 76 231 = some (o_bin fun x y => x + y) := rfl
set_option maxRecDepth 100000 in
theorem c_76_232 : jx_cd 76 232 = some (o_putf 6 3 jx_okI) := rfl
set_option maxRecDepth 100000 in
theorem c_76_235 : jx_cd 76 235 = some (o_goto 256) := rfl
set_option maxRecDepth 100000 in
theorem c_76_238 : jx_cd 76 238 = some (o_ald 0 1) := rfl
set_option maxRecDepth 100000 in
theorem c_76_239 : jx_cd 76 239 = some (o_getf 6 3) := rfl
set_option maxRecDepth 100000 in
theorem c_76_242 : jx_cd 76 242 = some (o_ald 0 1) := rfl
set_option maxRecDepth 100000 in
theorem c_76_243 : jx_cd 76 243 = some (o_getf 6 1) := rfl
set_option maxRecDepth 100000 in
theorem c_76_246 : jx_cd 76 246 = some (o_ilt 253) := rfl
set_option maxRecDepth 100000 in
theorem c_76_249 : jx_cd 76 249 = some (o_push (.int 1) 1) := rfl
set_option maxRecDepth 100000 in
theorem c_76_250 : jx_cd 76 250 = some (o_goto 254) := rfl
set_option maxRecDepth 100000 in
theorem c_76_253 : jx_cd 76 253 = some (o_push (.int 0) 1) := rfl
set_option maxRecDepth 100000 in
theorem c_76_254 : jx_cd 76 254 = some (o_ist 4 2) := rfl
set_option maxRecDepth 100000 in
theorem c_76_256 : jx_cd 76 256 = some (o_goto 43) := rfl
theorem sm_clo_inv {tx : Nat → Nat} {ln n a : Nat} {pt : Bool} {A : Nat → MA} (ha : a < n) : ∀ {k at_ : Nat} {gd : Bool} {bm : Nat → Nat} {oa : Nat → Option Nat} {ol : Nat → Nat}, at_ ≤ ln → bmS n bm → (∀ d, d < 10 → ∀ k, oa d = some k → k < n ∧ ol d < 8) → at_ ≤ (sm_clo tx ln pt A a k (at_, gd, bm, oa, ol)).1 ∧ (sm_clo tx ln pt A a k (at_, gd, bm, oa, ol)).1 ≤ ln ∧ bmS n (sm_clo tx ln pt A a k (at_, gd, bm, oa, ol)).2.2.1 ∧ (∀ d, d < 10 → ∀ q, (sm_clo tx ln pt A a k (at_, gd, bm, oa, ol)).2.2.2.1 d = some q → q < n ∧ (sm_clo tx ln pt A a k (at_, gd, bm, oa, ol)).2.2.2.2 d < 8) := by
  intro k
  induction k with
  | zero => intro at_ gd bm oa ol h1 h2 h3; exact ⟨Nat.le_refl _, h1, h2, h3⟩
  | succ k ih =>
    intro at_ gd bm oa ol h1 h2 h3
    have hq : at_ ≤ sm_q tx ln pt at_ := by unfold sm_q; omega
    have hlk := sp_lk_lt (h := sp_here tx ln at_) (pt := pt)
    rw [sm_clo]
    by_cases hd : 49 ≤ sp_here tx ln (sm_q tx ln pt at_) ∧ sp_here tx ln (sm_q tx ln pt at_) ≤ 57
    · rw [if_pos hd]
      have hlt := here_pos (tx := tx) (ln := ln) (p := sm_q tx ln pt at_) (by omega)
      cases ho : oa (sp_here tx ln (sm_q tx ln pt at_) - 48) with
      | none =>
        dsimp only
        obtain ⟨i1, i2, i3, i4⟩ := ih (at_ := sm_q tx ln pt at_ + 1) (gd := gd) (bm := bm) (oa := nu oa (sp_here tx ln (sm_q tx ln pt at_) - 48) (some a)) (ol := nu ol (sp_here tx ln (sm_q tx ln pt at_) - 48) (sp_lk (sp_here tx ln at_) pt)) (by omega) h2 (fun d hd' k q => by
          by_cases e : d = sp_here tx ln (sm_q tx ln pt at_) - 48
          · subst e; rw [nu_at'] at q; cases q; rw [nu_at']; exact ⟨ha, hlk⟩
          · rw [nu_ne e] at q; rw [nu_ne e]; exact h3 d hd' k q)
        exact ⟨by omega, i2, i3, i4⟩
      | some f =>
        dsimp only
        have hf := h3 _ (show sp_here tx ln (sm_q tx ln pt at_) - 48 < 10 by omega) f ho
        obtain ⟨i1, i2, i3, i4⟩ := ih (at_ := sm_q tx ln pt at_ + 1) (gd := (gd && decide (sp_lk (sp_here tx ln at_) pt = 0 ∨ ol (sp_here tx ln (sm_q tx ln pt at_) - 48) = 0 ∨ sp_lk (sp_here tx ln at_) pt = ol (sp_here tx ln (sm_q tx ln pt at_) - 48))) && sm_ok A bm f a (if sp_lk (sp_here tx ln at_) pt ≠ 0 then sp_lk (sp_here tx ln at_) pt else ol (sp_here tx ln (sm_q tx ln pt at_) - 48))) (bm := sm_put bm f a (sm_k (A f) (A a) (if sp_lk (sp_here tx ln at_) pt ≠ 0 then sp_lk (sp_here tx ln at_) pt else ol (sp_here tx ln (sm_q tx ln pt at_) - 48)))) (oa := nu oa (sp_here tx ln (sm_q tx ln pt at_) - 48) none) (ol := ol) (by omega) (bmS_put h2 (sm_k_8 (by split <;> omega))) (fun d hd' k q => by
          by_cases e : d = sp_here tx ln (sm_q tx ln pt at_) - 48
          · subst e; rw [nu_at'] at q; cases q
          · rw [nu_ne e] at q; exact h3 d hd' k q)
        exact ⟨by omega, i2, i3, i4⟩
    · rw [if_neg hd]
      exact ⟨Nat.le_refl _, h1, h2, h3⟩
theorem bmS_zb {n : Nat} {bm : Nat → Nat} (hn : n < 40) (h : bmS n bm) : bmS (n + 1) (sm_zb bm n) := by
  intro i j hi hj
  unfold sm_zb
  by_cases e : i = n ∨ j = n
  · rw [if_pos (by omega)]; decide
  · rw [if_neg (by omega)]; exact h i j (by omega) (by omega)
theorem okA_L {pt : Bool} {m : MA} (h : okA pt m) : m.2.2.2.2.2 < 64 := by
  rcases h.2.2.2 with q | q
  · rw [q.1]; decide
  · omega
/-- a text read, or not -/
def jRd (M : jx_M) (w : MW) (tx : Nat → Nat) (ln : Nat) (o : Option (Nat × (Nat → MA) × (Nat → Nat))) : jx_R → jx_M → Prop := match o with
  | none => jV (some (.int (jb false))) fun M' => mSh M' w tx ln ∧ sm 92 103 M M'
  | some (n, A, bm) => jV (some (.int (jb true))) fun M' => (∃ at_ bk oa ol, mRd M' w tx ln at_ n true A bm bk oa ol) ∧ sm 92 103 M M'
theorem jRd_sm {M M1 : jx_M} {w : MW} {tx : Nat → Nat} {ln : Nat} {o : Option (Nat × (Nat → MA) × (Nat → Nat))} {r : jx_R} {M' : jx_M} (k : sm 92 103 M M1) (h : jRd M1 w tx ln o r M') : jRd M w tx ln o r M' := by
  cases o with
  | none => exact ⟨h.1, h.2.1, k.tr h.2.2⟩
  | some x => exact ⟨h.1, h.2.1, k.tr h.2.2⟩
theorem sm_at_end {tx : Nat → Nat} {ln : Nat} {pt : Bool} {ow : Option Nat} {ps : Nat} (h : ln ≤ ps) : sm_at tx ln pt (sp_p1 tx ln pt ow ps) = none := by
  have h0 : sp_here tx ln (sp_p1 tx ln pt ow ps) = 0 := by
    refine here_ge ?_
    unfold sp_p1
    split
    · exact h
    · omega
  unfold sm_at
  rw [h0]
  rfl
theorem mSh_of {M : jx_M} {w : MW} {tx : Nat → Nat} {ln at_ n : Nat} {gd : Bool} {A : Nat → MA} {bm bk : Nat → Nat} {oa : Nat → Option Nat} {ol : Nat → Nat} (h : mRd M w tx ln at_ n gd A bm bk oa ol) : mSh M w tx ln := ⟨_, _, _, _, _, _, _, _, h⟩
theorem mRd_at {M : jx_M} {w : MW} {tx : Nat → Nat} {ln at_ n : Nat} {gd : Bool} {A : Nat → MA} {bm bk : Nat → Nat} {oa : Nat → Option Nat} {ol : Nat → Nat} (p : Nat) (h : mRd M w tx ln at_ n gd A bm bk oa ol) : mRd (jm [(92, mW w ln p n gd)] M) w tx ln p n gd A bm bk oa ol := by
  obtain ⟨h92, h93, ⟨h94, h95, h96, h97, h98, h99⟩, h100, h101, h102, h103⟩ := h
  exact ⟨rfl, h93, ⟨h94, h95, h96, h97, h98, h99⟩, h100, h101, h102, h103⟩
theorem t_mrd_l {d : Nat} {w : MW} {tx : Nat → Nat} {ln : Nat} {pt : Bool} (hl : ln ≤ 40) (ht : ∀ j, tx j < 127) : ∀ {k at_ n dp : Nat} {ow : Option Nat} {A : Nat → MA} {bm bk : Nat → Nat} {oa : Nat → Option Nat} {ol : Nat → Nat} {z5 z6 z7 : Option Value} {M : jx_M}, ln ≤ at_ + k → at_ ≤ ln → n ≤ at_ → dp ≤ at_ → (∀ o, ow = some o → o < n) → (∀ j, j < dp → bk j < n) → (∀ j, j < n → okA pt (A j)) → bmS n bm → (∀ d, d < 10 → ∀ k, oa d = some k → k < n ∧ ol d < 8) → mRd M w tx ln at_ n true A bm bk oa ol → jZ (d + 4) 76 43 [some (.ref 92), some (.int (jb pt)), some (.int (jn dp)), some (.int (jo ow)), some (.int (jb false)), z5, z6, z7] [] M (jRd M w tx ln (sm_rd tx ln pt k ow at_ n A bm oa ol bk dp)) := by
  intro k
  induction k with
  | zero =>
    intro at_ n dp ow A bm bk oa ol z5 z6 z7 M hk0 hat0 hna hda how hb0 hok hbm hoa H
    cases ow with
    | none =>
      have H0 := H
      obtain ⟨h92, h93, ⟨h94, h95, h96, h97, h98, h99⟩, h100, h101, h102, h103⟩ := H
      have hc0 := sp_here_128 (tx := tx) (ln := ln) (p := at_) ht
      have hlk := sp_lk_lt (h := sp_here tx ln at_) (pt := pt)
      have hq1 : sm_q tx ln pt at_ ≤ at_ + 1 ∧ at_ ≤ sm_q tx ln pt at_ := by unfold sm_q; split <;> omega
      refine z_go 44 _ [.ref 92] _ c_76_43 rfl ?_
      refine z_getf (v := .int (jb true)) 47 c_76_44 rfl h92 rfl ?_
      refine z_ifeq 259 50 c_76_47 rfl jb_t (fun h => absurd h (by decide)) (fun _ => ?_)
      refine z_go 52 _ [.int (jb false)] _ c_76_50 rfl ?_
      refine z_ifne 259 55 c_76_52 rfl jb_t (fun _ => ?_) (fun h => absurd rfl h)
      refine z_go 56 _ [.int (jo none)] _ c_76_55 rfl ?_
      refine z_ifge 63 59 c_76_56 rfl (jo_lt (by intro k q; cases q)) (fun hz => ?_) (fun hz => ?_)
      · refine z_go 60 _ [.int (jn 0)] _ c_76_59 rfl ?_
        refine z_go 75 _ [.int (jn 0)] _ c_76_60 rfl ?_
        refine z_go 77 [some (.ref 92), some (.int (jb pt)), some (.int (jn dp)), some (.int (jo none)), some (.int (jb false)), some (.int (jn 0)), z6, z7] [] _ c_76_75 rfl ?_
        refine z_go 78 _ [.ref 92] _ c_76_77 rfl ?_
        refine z_go 80 _ [.int (jn 0), .ref 92] _ c_76_78 rfl ?_
        refine z_ifeq 92 83 c_76_80 rfl (jn_z (by decide)) (fun _ => ?_) (fun h => absurd rfl h)
        refine z_go 93 _ [.ref 92, .ref 92] _ c_76_92 rfl ?_
        refine z_getf (v := .int (jn at_)) 96 c_76_93 rfl h92 rfl ?_
        refine z_putf (M' := jm [(92, mW w ln at_ n true)] M) 99 c_76_96 rfl h92 (rfl) (Nat.le_of_ble_eq_true rfl) rfl ?_
        refine z_go 100 _ [.ref 92] _ c_76_99 rfl ?_
        refine z_go 101 _ [.int (jb pt), .ref 92] _ c_76_100 rfl ?_
        have HM : mRd (jm [(92, mW w ln at_ n true)] M) w tx ln (at_) n true A bm bk oa ol := ⟨rfl, h93, ⟨h94, h95, h96, h97, h98, h99⟩, h100, h101, h102, h103⟩
        have hsm : sm 92 103 M (jm [(92, mW w ln at_ n true)] M) := sm_jm rfl
        have hatc := t_mat (d := d) (pt := pt) HM (by omega) hl ht (by omega)
        have hP : sp_p1 tx ln pt none at_ = at_ := rfl
        have hat : sm_at tx ln pt (at_) = none := sm_at_end (ow := none) (by omega)
        rw [hat] at hatc
        refine z_callvV 104 6 79 1 92 c_76_101 rfl ⟨Nat.le_of_ble_eq_true rfl, Nat.le_of_ble_eq_true rfl⟩ rfl rfl [.ref 92, .int (jb pt)] rfl rfl [some (.ref 92), some (.int (jb pt)), none] rfl rfl (hatc) ?_
        intro M1 ⟨g1, g2⟩
        show jZ _ _ _ _ [.int (jb false)] _ _
        refine z_ifne 109 107 c_76_104 rfl jb_t (fun _ => ?_) (fun h => absurd rfl h)
        refine z_go 108 _ [.int (jn 0)] _ c_76_107 rfl ?_
        refine z_zret (b := false) c_76_108 ?_
        rw [show sm_rd tx ln pt 0 none at_ n A bm oa ol bk dp = none by rfl]
        exact ⟨rfl, g1, hsm.tr g2⟩
      · exact absurd rfl hz
    | some o =>
      show jZ _ _ _ [some (.ref 92), some (.int (jb pt)), some (.int (jn dp)), some (.int (jn o)), some (.int (jb false)), z5, z6, z7] _ _ _
      have ho := how o rfl
      have H0 := H
      obtain ⟨h92, h93, ⟨h94, h95, h96, h97, h98, h99⟩, h100, h101, h102, h103⟩ := H
      have hc0 := sp_here_128 (tx := tx) (ln := ln) (p := at_) ht
      have hlk := sp_lk_lt (h := sp_here tx ln at_) (pt := pt)
      have hq1 : sm_q tx ln pt at_ ≤ at_ + 1 ∧ at_ ≤ sm_q tx ln pt at_ := by unfold sm_q; split <;> omega
      refine z_go 44 _ [.ref 92] _ c_76_43 rfl ?_
      refine z_getf (v := .int (jb true)) 47 c_76_44 rfl h92 rfl ?_
      refine z_ifeq 259 50 c_76_47 rfl jb_t (fun h => absurd h (by decide)) (fun _ => ?_)
      refine z_go 52 _ [.int (jb false)] _ c_76_50 rfl ?_
      refine z_ifne 259 55 c_76_52 rfl jb_t (fun _ => ?_) (fun h => absurd rfl h)
      refine z_go 56 _ [.int (jn o)] _ c_76_55 rfl ?_
      refine z_ifge 63 59 c_76_56 rfl (jn_nl (by omega)) (fun hz => ?_) (fun hz => ?_)
      · exact hz.elim
      · refine z_go 64 _ [.ref 92] _ c_76_63 rfl ?_
        refine z_go 65 _ [.ref 92, .ref 92] _ c_76_64 rfl ?_
        refine z_getf (v := .int (jn at_)) 68 c_76_65 rfl h92 rfl ?_
        refine z_callv 71 6 77 1 92 c_76_68 rfl ⟨Nat.le_of_ble_eq_true rfl, Nat.le_of_ble_eq_true rfl⟩ rfl h92 [.ref 92, .int (jn at_)] rfl rfl [some (.ref 92), some (.int (jn at_))] rfl rfl (t_mch h92 h93 hl (by omega)) ?_
        show jZ _ _ _ _ [.int (jn (sp_here tx ln at_))] _ _
        refine z_go 72 _ [.int (jb pt), .int (jn (sp_here tx ln at_))] _ c_76_71 rfl ?_
        refine z_call 75 78 2 c_76_72 rfl ⟨Nat.le_of_ble_eq_true rfl, Nat.le_of_ble_eq_true rfl⟩ [.int (jn (sp_here tx ln at_)), .int (jb pt)] rfl rfl [some (.int (jn (sp_here tx ln at_))), some (.int (jb pt))] rfl rfl (t_mlk (by omega)) ?_
        show jZ _ _ _ _ [.int (jn (sp_lk (sp_here tx ln at_) pt))] _ _
        refine z_go 77 [some (.ref 92), some (.int (jb pt)), some (.int (jn dp)), some (.int (jn o)), some (.int (jb false)), some (.int (jn (sp_lk (sp_here tx ln at_) pt))), z6, z7] [] _ c_76_75 rfl ?_
        refine z_go 78 _ [.ref 92] _ c_76_77 rfl ?_
        refine z_cut 96 [some (.ref 92), some (.int (jb pt)), some (.int (jn dp)), some (.int (jn o)), some (.int (jb false)), some (.int (jn (sp_lk (sp_here tx ln at_) pt))), z6, z7] [.int (jn (sm_q tx ln pt at_)), .ref 92] (fun kc => ?_) ?_
        · refine z_go 80 _ [.int (jn (sp_lk (sp_here tx ln at_) pt)), .ref 92] _ c_76_78 rfl ?_
          refine z_ifeq 92 83 c_76_80 rfl (jn_z (by omega)) (fun g1 => ?_) (fun g1 => ?_)
          · refine z_go 93 _ [.ref 92, .ref 92] _ c_76_92 rfl ?_
            refine z_getf (v := .int (jn at_)) 96 c_76_93 rfl h92 rfl ?_
            exact z_v (by unfold sm_q; rw [if_pos g1, Nat.add_zero]) kc
          · refine z_go 84 _ [.ref 92, .ref 92] _ c_76_83 rfl ?_
            refine z_getf (v := .int (jn at_)) 87 c_76_84 rfl h92 rfl ?_
            refine z_go 88 _ [.int (jn 1), .int (jn at_), .ref 92] _ c_76_87 rfl ?_
            refine z_go 89 _ [.int ((jn at_) + (jn 1)), .ref 92] _ c_76_88 rfl ?_
            refine z_v (jn_add _ _) ?_
            refine z_go 96 _ [.int (jn (at_ + 1)), .ref 92] _ c_76_89 rfl ?_
            exact z_v (by unfold sm_q; rw [if_neg g1]) kc
        refine z_putf (M' := jm [(92, mW w ln (sm_q tx ln pt at_) n true)] M) 99 c_76_96 rfl h92 (rfl) (Nat.le_of_ble_eq_true rfl) rfl ?_
        refine z_go 100 _ [.ref 92] _ c_76_99 rfl ?_
        refine z_go 101 _ [.int (jb pt), .ref 92] _ c_76_100 rfl ?_
        have HM : mRd (jm [(92, mW w ln (sm_q tx ln pt at_) n true)] M) w tx ln (sm_q tx ln pt at_) n true A bm bk oa ol := ⟨rfl, h93, ⟨h94, h95, h96, h97, h98, h99⟩, h100, h101, h102, h103⟩
        have hsm : sm 92 103 M (jm [(92, mW w ln (sm_q tx ln pt at_) n true)] M) := sm_jm rfl
        have hatc := t_mat (d := d) (pt := pt) HM (by omega) hl ht (by omega)
        have hP : sp_p1 tx ln pt (some o) at_ = sm_q tx ln pt at_ := rfl
        have hat : sm_at tx ln pt (sm_q tx ln pt at_) = none := sm_at_end (ow := (some o)) (by omega)
        rw [hat] at hatc
        refine z_callvV 104 6 79 1 92 c_76_101 rfl ⟨Nat.le_of_ble_eq_true rfl, Nat.le_of_ble_eq_true rfl⟩ rfl rfl [.ref 92, .int (jb pt)] rfl rfl [some (.ref 92), some (.int (jb pt)), none] rfl rfl (hatc) ?_
        intro M1 ⟨g1, g2⟩
        show jZ _ _ _ _ [.int (jb false)] _ _
        refine z_ifne 109 107 c_76_104 rfl jb_t (fun _ => ?_) (fun h => absurd rfl h)
        refine z_go 108 _ [.int (jn 0)] _ c_76_107 rfl ?_
        refine z_zret (b := false) c_76_108 ?_
        rw [show sm_rd tx ln pt 0 (some o) at_ n A bm oa ol bk dp = none by rfl]
        exact ⟨rfl, g1, hsm.tr g2⟩
  | succ k ih =>
    intro at_ n dp ow A bm bk oa ol z5 z6 z7 M hk0 hat0 hna hda how hb0 hok hbm hoa H
    cases ow with
    | none =>
      have H0 := H
      obtain ⟨h92, h93, ⟨h94, h95, h96, h97, h98, h99⟩, h100, h101, h102, h103⟩ := H
      have hc0 := sp_here_128 (tx := tx) (ln := ln) (p := at_) ht
      have hlk := sp_lk_lt (h := sp_here tx ln at_) (pt := pt)
      have hq1 : sm_q tx ln pt at_ ≤ at_ + 1 ∧ at_ ≤ sm_q tx ln pt at_ := by unfold sm_q; split <;> omega
      refine z_go 44 _ [.ref 92] _ c_76_43 rfl ?_
      refine z_getf (v := .int (jb true)) 47 c_76_44 rfl h92 rfl ?_
      refine z_ifeq 259 50 c_76_47 rfl jb_t (fun h => absurd h (by decide)) (fun _ => ?_)
      refine z_go 52 _ [.int (jb false)] _ c_76_50 rfl ?_
      refine z_ifne 259 55 c_76_52 rfl jb_t (fun _ => ?_) (fun h => absurd rfl h)
      refine z_go 56 _ [.int (jo none)] _ c_76_55 rfl ?_
      refine z_ifge 63 59 c_76_56 rfl (jo_lt (by intro k q; cases q)) (fun hz => ?_) (fun hz => ?_)
      · refine z_go 60 _ [.int (jn 0)] _ c_76_59 rfl ?_
        refine z_go 75 _ [.int (jn 0)] _ c_76_60 rfl ?_
        refine z_go 77 [some (.ref 92), some (.int (jb pt)), some (.int (jn dp)), some (.int (jo none)), some (.int (jb false)), some (.int (jn 0)), z6, z7] [] _ c_76_75 rfl ?_
        refine z_go 78 _ [.ref 92] _ c_76_77 rfl ?_
        refine z_go 80 _ [.int (jn 0), .ref 92] _ c_76_78 rfl ?_
        refine z_ifeq 92 83 c_76_80 rfl (jn_z (by decide)) (fun _ => ?_) (fun h => absurd rfl h)
        refine z_go 93 _ [.ref 92, .ref 92] _ c_76_92 rfl ?_
        refine z_getf (v := .int (jn at_)) 96 c_76_93 rfl h92 rfl ?_
        refine z_putf (M' := jm [(92, mW w ln at_ n true)] M) 99 c_76_96 rfl h92 (rfl) (Nat.le_of_ble_eq_true rfl) rfl ?_
        refine z_go 100 _ [.ref 92] _ c_76_99 rfl ?_
        refine z_go 101 _ [.int (jb pt), .ref 92] _ c_76_100 rfl ?_
        have HM : mRd (jm [(92, mW w ln at_ n true)] M) w tx ln (at_) n true A bm bk oa ol := ⟨rfl, h93, ⟨h94, h95, h96, h97, h98, h99⟩, h100, h101, h102, h103⟩
        have hsm : sm 92 103 M (jm [(92, mW w ln at_ n true)] M) := sm_jm rfl
        have hatc := t_mat (d := d) (pt := pt) HM (by omega) hl ht (by omega)
        have hP : sp_p1 tx ln pt none at_ = at_ := rfl
        cases hat : sm_at tx ln pt (at_) with
        | none =>
          rw [hat] at hatc
          refine z_callvV 104 6 79 1 92 c_76_101 rfl ⟨Nat.le_of_ble_eq_true rfl, Nat.le_of_ble_eq_true rfl⟩ rfl rfl [.ref 92, .int (jb pt)] rfl rfl [some (.ref 92), some (.int (jb pt)), none] rfl rfl (hatc) ?_
          intro M1 ⟨g1, g2⟩
          show jZ _ _ _ _ [.int (jb false)] _ _
          refine z_ifne 109 107 c_76_104 rfl jb_t (fun _ => ?_) (fun h => absurd rfl h)
          refine z_go 108 _ [.int (jn 0)] _ c_76_107 rfl ?_
          refine z_zret (b := false) c_76_108 ?_
          rw [show sm_rd tx ln pt (k + 1) none at_ n A bm oa ol bk dp = none by rw [sm_rd, hP, hat]]
          exact ⟨rfl, g1, hsm.tr g2⟩
        | some mq =>
          obtain ⟨m, p2⟩ := mq
          obtain ⟨okm, hp2⟩ := sm_at_ok hat
          have hp2l := sm_at_le hl (fun {x hy r} q => sp_atom_le q) hat
          rw [hat] at hatc
          refine z_callvV 104 6 79 1 92 c_76_101 rfl ⟨Nat.le_of_ble_eq_true rfl, Nat.le_of_ble_eq_true rfl⟩ rfl rfl [.ref 92, .int (jb pt)] rfl rfl [some (.ref 92), some (.int (jb pt)), none] rfl rfl (hatc) ?_
          intro M1 ⟨hQ, g2⟩
          have hs1 := hsm.tr g2
          have hA1 : ∀ j, j < n + 1 → okA pt (nu A n m j) := fun j hj => by by_cases e : j = n; subst e; rw [nu_at']; exact okm; rw [nu_ne e]; exact hok j (by omega)
          have hL1 : ∀ q, q < n + 1 → aL (nu A n m) q < 64 := fun q hq => okA_L (hA1 q hq)
          have hb1 := bmS_zb (by omega) hbm
          have hoa1 : ∀ d, d < 10 → ∀ k, oa d = some k → k < n + 1 ∧ ol d < 8 := fun d hd k q => ⟨by have := (hoa d hd k q).1; omega, (hoa d hd k q).2⟩
          have hQ0 := hQ
          obtain ⟨q92, q93, qA, q100, q101, q102, q103⟩ := hQ
          show jZ _ _ _ _ [.int (jb true)] _ _
          refine z_ifne 109 107 c_76_104 rfl jb_t (fun h => absurd h (by decide)) (fun _ => ?_)
          refine z_go 110 _ [.ref 92] _ c_76_109 rfl ?_
          refine z_getf (v := .int (jn (n + 1))) 113 c_76_110 rfl q92 rfl ?_
          refine z_go 114 _ [.int (jn 1), .int (jn (n + 1))] _ c_76_113 rfl ?_
          refine z_go 115 _ [.int ((jn (n + 1)) - (jn 1))] _ c_76_114 rfl ?_
          refine z_v (jn_sub (by omega)) ?_
          refine z_v (by rw [Nat.add_sub_cancel]) ?_
          refine z_go 117 [some (.ref 92), some (.int (jb pt)), some (.int (jn dp)), some (.int (jo none)), some (.int (jb false)), some (.int (jn 0)), some (.int (jn n)), z7] [] _ c_76_115 rfl ?_
          refine z_go 118 _ [.int (jo none)] _ c_76_117 rfl ?_
          refine z_iflt 130 121 c_76_118 rfl (jo_lt (by intro k q; cases q)) (fun hz3 => ?_) (fun hz3 => ?_)
          · refine z_go 131 _ [.ref 92] _ c_76_130 rfl ?_
            refine z_go 133 _ [.int (jn n), .ref 92] _ c_76_131 rfl ?_
            refine z_go 134 _ [.int (jb pt), .int (jn n), .ref 92] _ c_76_133 rfl ?_
            have hci := sm_clo_inv (tx := tx) (ln := ln) (n := n + 1) (a := n) (pt := pt) (A := nu A n m) (by omega) (k := 40) (at_ := p2) (gd := (sm_on (nu A n m) (sm_zb bm n) none n (0)).1) (bm := (sm_on (nu A n m) (sm_zb bm n) none n (0)).2) (oa := oa) (ol := ol) hp2l hb1 hoa1
            have hcl := t_mclo (d := d + 2) (a := n) (pt := pt) hl ht (by omega) (by omega) hL1 hp2l hQ0 hb1 hoa1
            have hcl : jZ (d + 3) 85 0 [some (.ref 92), some (.int (jn n)), some (.int (jb pt)), none, none, none, none] [] M1 (jV none fun M' => mRd M' w tx ln (sm_clo tx ln pt (nu A n m) n 40 (p2, (sm_on (nu A n m) (sm_zb bm n) none n (0)).1, (sm_on (nu A n m) (sm_zb bm n) none n (0)).2, oa, ol)).1 (n + 1) (sm_clo tx ln pt (nu A n m) n 40 (p2, (sm_on (nu A n m) (sm_zb bm n) none n (0)).1, (sm_on (nu A n m) (sm_zb bm n) none n (0)).2, oa, ol)).2.1 (nu A n m) (sm_clo tx ln pt (nu A n m) n 40 (p2, (sm_on (nu A n m) (sm_zb bm n) none n (0)).1, (sm_on (nu A n m) (sm_zb bm n) none n (0)).2, oa, ol)).2.2.1 bk (sm_clo tx ln pt (nu A n m) n 40 (p2, (sm_on (nu A n m) (sm_zb bm n) none n (0)).1, (sm_on (nu A n m) (sm_zb bm n) none n (0)).2, oa, ol)).2.2.2.1 (sm_clo tx ln pt (nu A n m) n 40 (p2, (sm_on (nu A n m) (sm_zb bm n) none n (0)).1, (sm_on (nu A n m) (sm_zb bm n) none n (0)).2, oa, ol)).2.2.2.2 ∧ sm 92 103 M1 M') := hcl
            have hr : sm_rd tx ln pt (k + 1) none at_ n A bm oa ol bk dp = match sm_clo tx ln pt (nu A n m) n 40 (p2, (sm_on (nu A n m) (sm_zb bm n) none n (sp_l1 tx ln pt none at_)).1, (sm_on (nu A n m) (sm_zb bm n) none n (sp_l1 tx ln pt none at_)).2, oa, ol) with | (p3, g, bm2, oa2, ol2) => (match sp_pe tx ln bk 40 p3 dp n with | none => none | some (o', p4, dp') => if g = true then (if sp_here tx ln p4 = 40 then sm_rd tx ln pt k (some o') (p4 + 1) (n + 1) (nu A n m) bm2 oa2 ol2 (nu bk dp' o') (dp' + 1) else if p4 < ln then sm_rd tx ln pt k (some o') p4 (n + 1) (nu A n m) bm2 oa2 ol2 bk dp' else if dp' = 0 ∧ sp_op oa2 9 1 = false then some (n + 1, nu A n m, bm2) else none) else none) := by rw [sm_rd, hP, hat]; rfl
            have hl1 : sp_l1 tx ln pt none at_ = 0 := rfl
            rw [hl1] at hr
            generalize hSS : sm_clo tx ln pt (nu A n m) n 40 (p2, (sm_on (nu A n m) (sm_zb bm n) none n (0)).1, (sm_on (nu A n m) (sm_zb bm n) none n (0)).2, oa, ol) = S at hci hcl hr
            obtain ⟨p3, g, bm2, oa2, ol2⟩ := S
            dsimp only at hci hcl hr
            obtain ⟨hp3, hp3l, hb3, hoa3⟩ := hci
            refine z_callvV 137 6 85 2 92 c_76_134 rfl ⟨Nat.le_of_ble_eq_true rfl, Nat.le_of_ble_eq_true rfl⟩ rfl q92 [.ref 92, .int (jn n), .int (jb pt)] rfl rfl [some (.ref 92), some (.int (jn n)), some (.int (jb pt)), none, none, none, none] rfl rfl (hcl) ?_
            intro M3 ⟨hQ3, g4⟩
            have hs3 := hs1.tr g4
            show jZ _ _ _ _ [] _ _
            refine z_go 139 _ [.int (jn n)] _ c_76_137 rfl ?_
            refine z_go 140 [some (.ref 92), some (.int (jb pt)), some (.int (jn dp)), some (.int (jn n)), some (.int (jb false)), some (.int (jn 0)), some (.int (jn n)), z7] [] _ c_76_139 rfl ?_
            refine z_go 141 _ [.int (jn 1)] _ c_76_140 rfl ?_
            refine z_go 143 [some (.ref 92), some (.int (jb pt)), some (.int (jn dp)), some (.int (jn n)), some (.int (jb false)), some (.int (jn 0)), some (.int (jn n)), some (.int (jn 1))] [] _ c_76_141 rfl ?_
            show jZ _ _ _ [some (.ref 92), some (.int (jb pt)), some (.int (jn dp)), some (.int (jn n)), some (.int (jb false)), some (.int (jn 0)), some (.int (jn n)), some (.int (jb true))] _ _ _
            have hpb : ∀ j, j < dp → bk j = bk j ∧ bk j < n + 1 := fun j hj => ⟨rfl, by have := hb0 j hj; omega⟩
            obtain ⟨-, hpe0⟩ := pe_rel (tx := tx) (ln := ln) (k := 40) (ps := p3) (o := n) hpb (by omega) hp3l
            refine t_mrd_s (d := d + 3) (k := 40) (bk := bk) (o := n) hl ht (by omega) (by omega) hQ3.1 hQ3.2.1 hQ3.2.2.2.2.1 (fun j hj => by have := hb0 j hj; omega) (fun q p1 => ?_) (fun o' p4 dp' hq => ?_)
            · rw [hr, q]
              exact ⟨rfl, mSh_of (mRd_at p1 hQ3), hs3.tr (sm_jm rfl)⟩
            · obtain ⟨r1, r2, r3, r4⟩ := hpe0 o' p4 dp' hq
              rw [hr, hq]
              dsimp only
              have hc4 := sp_here_128 (tx := tx) (ln := ln) (p := p4) ht
              have hQ4 := mRd_at p4 hQ3
              have hs4 : sm 92 103 M (jm [(92, mW w ln p4 (n + 1) g)] M3) := hs3.tr (sm_jm rfl)
              refine z_go 203 _ [.ref 92] _ c_76_202 rfl ?_
              refine z_go 204 _ [.ref 92, .ref 92] _ c_76_203 rfl ?_
              refine z_getf (v := .int (jn p4)) 207 c_76_204 rfl rfl rfl ?_
              refine z_callv 210 6 77 1 92 c_76_207 rfl ⟨Nat.le_of_ble_eq_true rfl, Nat.le_of_ble_eq_true rfl⟩ rfl rfl [.ref 92, .int (jn p4)] rfl rfl [some (.ref 92), some (.int (jn p4))] rfl rfl (t_mch (at_ := p4) rfl hQ3.2.1 hl (by omega)) ?_
              show jZ _ _ _ _ [.int (jn (sp_here tx ln p4))] _ _
              refine z_go 212 _ [.int (jn 40), .int (jn (sp_here tx ln p4))] _ c_76_210 rfl ?_
              refine z_ine 238 215 c_76_212 rfl (jn_inj (by omega) (by omega)) (fun h40 => ?_) (fun h40 => ?_)
              · have hlt := here_pos (tx := tx) (ln := ln) (p := p4) (by omega)
                refine z_go 216 _ [.ref 92] _ c_76_215 rfl ?_
                refine z_getf (v := .ref 101) 219 c_76_216 rfl rfl rfl ?_
                refine z_go 220 _ [.int (jn dp'), .ref 101] _ c_76_219 rfl ?_
                refine z_go 221 _ [.int (jn o'), .int (jn dp'), .ref 101] _ c_76_220 rfl ?_
                refine z_iast (M' := jm [(101, .inl (0, 40, .inl (ja (nu bk dp' o')))), (92, mW w ln p4 (n + 1) g)] M3) 222 c_76_221 rfl hQ3.2.2.2.2.1 (by omega) (by omega) (by rw [ja_upd]; exact rfl) ?_
                refine z_iinc 225 [some (.ref 92), some (.int (jb pt)), some (.int (jn (dp' + 1))), some (.int (jn o')), some (.int (jb false)), some (.int (jn 0)), some (.int (jn n)), some (.int (jb true))] c_76_222 rfl rfl (jn_add _ _) rfl ?_
                refine z_go 226 _ [.ref 92] _ c_76_225 rfl ?_
                refine z_go 227 _ [.ref 92, .ref 92] _ c_76_226 rfl ?_
                refine z_getf (v := .int (jn p4)) 230 c_76_227 rfl rfl rfl ?_
                refine z_go 231 _ [.int (jn 1), .int (jn p4), .ref 92] _ c_76_230 rfl ?_
                refine z_go 232 _ [.int ((jn p4) + (jn 1)), .ref 92] _ c_76_231 rfl ?_
                refine z_v (jn_add _ _) ?_
                refine z_putf (M' := jm [(101, .inl (0, 40, .inl (ja (nu bk dp' o')))), (92, mW w ln (p4 + 1) (n + 1) g)] M3) 235 c_76_232 rfl rfl (rfl) (Nat.le_of_ble_eq_true rfl) (jm_w rfl) ?_
                refine z_go 256 _ [] _ c_76_235 rfl ?_
                refine z_go 43 _ [] _ c_76_256 rfl ?_
                show jZ _ _ _ [some (.ref 92), some (.int (jb pt)), some (.int (jn (dp' + 1))), some (.int (jn o')), some (.int (jb false)), some (.int (jn 0)), some (.int (jn n)), some (.int (jb true))] _ _ _
                cases g with
                | false =>
                  refine z_go 44 _ [.ref 92] _ c_76_43 rfl ?_
                  refine z_getf (v := .int (jb false)) 47 c_76_44 rfl rfl rfl ?_
                  refine z_ifeq 259 50 c_76_47 rfl jb_t (fun _ => ?_) (fun h => absurd rfl h)
                  refine (t_mrd_x (M := jm [(101, .inl (0, 40, .inl (ja (nu bk dp' o')))), (92, mW w ln (p4 + 1) (n + 1) false)] M3) (w := w) (ln := ln) (at_ := p4 + 1) (n := n + 1) (dp := dp' + 1) (gd := false) (en := false) (oa := oa2) rfl hQ3.2.2.2.2.2.1 (fun d hd k q => by have := (hoa3 d hd k q).1; omega) (by omega)).mono fun r M9 qq => ?_
                  obtain ⟨rfl, rfl⟩ := qq
                  rw [if_neg (by decide)]
                  exact ⟨rfl, ⟨_, _, _, _, _, _, _, _, ⟨rfl, hQ3.2.1, hQ3.2.2.1, hQ3.2.2.2.1, rfl, hQ3.2.2.2.2.2.1, hQ3.2.2.2.2.2.2⟩⟩, hs3.tr (sm_jm rfl)⟩
                | true =>
                  rw [if_pos rfl]
                  rw [if_pos h40]
                  exact (ih (at_ := p4 + 1) (n := n + 1) (dp := dp' + 1) (ow := some o') (bk := nu bk dp' o') (M := jm [(101, .inl (0, 40, .inl (ja (nu bk dp' o')))), (92, mW w ln (p4 + 1) (n + 1) true)] M3) (by omega) (by omega) (by omega) (by omega) (fun o q => by cases q; exact r1) (fun j hj => by by_cases e : j = dp'; subst e; rw [nu_at']; exact r1; rw [nu_ne e]; exact (hpb j (by omega)).2) hA1 hb3 hoa3 ⟨rfl, hQ3.2.1, hQ3.2.2.1, hQ3.2.2.2.1, rfl, hQ3.2.2.2.2.2.1, hQ3.2.2.2.2.2.2⟩).mono fun r M9 qq => jRd_sm (hs3.tr (sm_jm rfl)) qq
              · refine z_go 239 _ [.ref 92] _ c_76_238 rfl ?_
                refine z_getf (v := .int (jn p4)) 242 c_76_239 rfl rfl rfl ?_
                refine z_go 243 _ [.ref 92, .int (jn p4)] _ c_76_242 rfl ?_
                refine z_getf (v := .int (jn ln)) 246 c_76_243 rfl rfl rfl ?_
                refine z_ilt 253 249 c_76_246 rfl (by omega) (by omega) (fun h5 => ?_) (fun h5 => ?_)
                · refine z_go 254 _ [.int (jn 0)] _ c_76_253 rfl ?_
                  refine z_go 256 [some (.ref 92), some (.int (jb pt)), some (.int (jn dp')), some (.int (jn o')), some (.int (jn 0)), some (.int (jn 0)), some (.int (jn n)), some (.int (jb true))] [] _ c_76_254 rfl ?_
                  refine z_go 43 _ [] _ c_76_256 rfl ?_
                  show jZ _ _ _ [some (.ref 92), some (.int (jb pt)), some (.int (jn dp')), some (.int (jn o')), some (.int (jb false)), some (.int (jn 0)), some (.int (jn n)), some (.int (jb true))] _ _ _
                  cases g with
                  | false =>
                    refine z_go 44 _ [.ref 92] _ c_76_43 rfl ?_
                    refine z_getf (v := .int (jb false)) 47 c_76_44 rfl rfl rfl ?_
                    refine z_ifeq 259 50 c_76_47 rfl jb_t (fun _ => ?_) (fun h => absurd rfl h)
                    refine (t_mrd_x (M := jm [(92, mW w ln p4 (n + 1) false)] M3) (w := w) (ln := ln) (at_ := p4) (n := n + 1) (dp := dp') (gd := false) (en := false) (oa := oa2) rfl hQ3.2.2.2.2.2.1 (fun d hd k q => by have := (hoa3 d hd k q).1; omega) (by omega)).mono fun r M9 qq => ?_
                    obtain ⟨rfl, rfl⟩ := qq
                    rw [if_neg (by decide)]
                    exact ⟨rfl, ⟨_, _, _, _, _, _, _, _, ⟨rfl, hQ3.2.1, hQ3.2.2.1, hQ3.2.2.2.1, hQ3.2.2.2.2.1, hQ3.2.2.2.2.2.1, hQ3.2.2.2.2.2.2⟩⟩, hs3.tr (sm_jm rfl)⟩
                  | true =>
                    rw [if_pos rfl]
                    rw [if_neg h40, if_pos h5]
                    exact (ih (at_ := p4) (n := n + 1) (dp := dp') (ow := some o') (M := jm [(92, mW w ln p4 (n + 1) true)] M3) (by omega) (by omega) (by omega) (by omega) (fun o q => by cases q; exact r1) (fun j hj => (hpb j (by omega)).2) hA1 hb3 hoa3 ⟨rfl, hQ3.2.1, hQ3.2.2.1, hQ3.2.2.2.1, hQ3.2.2.2.2.1, hQ3.2.2.2.2.2.1, hQ3.2.2.2.2.2.2⟩).mono fun r M9 qq => jRd_sm (hs3.tr (sm_jm rfl)) qq
                · refine z_go 250 _ [.int (jn 1)] _ c_76_249 rfl ?_
                  refine z_go 254 _ [.int (jn 1)] _ c_76_250 rfl ?_
                  refine z_go 256 [some (.ref 92), some (.int (jb pt)), some (.int (jn dp')), some (.int (jn o')), some (.int (jn 1)), some (.int (jn 0)), some (.int (jn n)), some (.int (jb true))] [] _ c_76_254 rfl ?_
                  refine z_go 43 _ [] _ c_76_256 rfl ?_
                  show jZ _ _ _ [some (.ref 92), some (.int (jb pt)), some (.int (jn dp')), some (.int (jn o')), some (.int (jb true)), some (.int (jn 0)), some (.int (jn n)), some (.int (jb true))] _ _ _
                  cases g with
                  | false =>
                    refine z_go 44 _ [.ref 92] _ c_76_43 rfl ?_
                    refine z_getf (v := .int (jb false)) 47 c_76_44 rfl rfl rfl ?_
                    refine z_ifeq 259 50 c_76_47 rfl jb_t (fun _ => ?_) (fun h => absurd rfl h)
                    refine (t_mrd_x (M := jm [(92, mW w ln p4 (n + 1) false)] M3) (w := w) (ln := ln) (at_ := p4) (n := n + 1) (dp := dp') (gd := false) (en := true) (oa := oa2) rfl hQ3.2.2.2.2.2.1 (fun d hd k q => by have := (hoa3 d hd k q).1; omega) (by omega)).mono fun r M9 qq => ?_
                    obtain ⟨rfl, rfl⟩ := qq
                    rw [if_neg (by decide)]
                    exact ⟨rfl, ⟨_, _, _, _, _, _, _, _, ⟨rfl, hQ3.2.1, hQ3.2.2.1, hQ3.2.2.2.1, hQ3.2.2.2.2.1, hQ3.2.2.2.2.2.1, hQ3.2.2.2.2.2.2⟩⟩, hs3.tr (sm_jm rfl)⟩
                  | true =>
                    rw [if_pos rfl]
                    rw [if_neg h40, if_neg h5]
                    refine z_go 44 _ [.ref 92] _ c_76_43 rfl ?_
                    refine z_getf (v := .int (jb true)) 47 c_76_44 rfl rfl rfl ?_
                    refine z_ifeq 259 50 c_76_47 rfl jb_t (fun h => absurd h (by decide)) (fun _ => ?_)
                    refine z_go 52 _ [.int (jb true)] _ c_76_50 rfl ?_
                    refine z_ifne 259 55 c_76_52 rfl jb_t (fun h => absurd h (by decide)) (fun _ => ?_)
                    refine (t_mrd_x (M := jm [(92, mW w ln p4 (n + 1) true)] M3) (w := w) (ln := ln) (at_ := p4) (n := n + 1) (dp := dp') (gd := true) (en := true) (oa := oa2) rfl hQ3.2.2.2.2.2.1 (fun d hd k q => by have := (hoa3 d hd k q).1; omega) (by omega)).mono fun r M9 qq => ?_
                    obtain ⟨rfl, rfl⟩ := qq
                    by_cases hf : dp' = 0 ∧ sp_op oa2 9 1 = false
                    · rw [if_pos hf]
                      exact ⟨by rw [decide_eq_true hf.1, hf.2]; rfl, ⟨_, _, _, _, ⟨rfl, hQ3.2.1, hQ3.2.2.1, hQ3.2.2.2.1, hQ3.2.2.2.2.1, hQ3.2.2.2.2.2.1, hQ3.2.2.2.2.2.2⟩⟩, hs3.tr (sm_jm rfl)⟩
                    · rw [if_neg hf]
                      exact ⟨by rw [show (true && true && decide (dp' = 0) && !sp_op oa2 9 1) = false by cases hh : sp_op oa2 9 1 <;> simp_all], ⟨_, _, _, _, _, _, _, _, ⟨rfl, hQ3.2.1, hQ3.2.2.1, hQ3.2.2.2.1, hQ3.2.2.2.2.1, hQ3.2.2.2.2.2.1, hQ3.2.2.2.2.2.2⟩⟩, hs3.tr (sm_jm rfl)⟩
          · exact absurd rfl hz3
      · exact absurd rfl hz
    | some o =>
      show jZ _ _ _ [some (.ref 92), some (.int (jb pt)), some (.int (jn dp)), some (.int (jn o)), some (.int (jb false)), z5, z6, z7] _ _ _
      have ho := how o rfl
      have H0 := H
      obtain ⟨h92, h93, ⟨h94, h95, h96, h97, h98, h99⟩, h100, h101, h102, h103⟩ := H
      have hc0 := sp_here_128 (tx := tx) (ln := ln) (p := at_) ht
      have hlk := sp_lk_lt (h := sp_here tx ln at_) (pt := pt)
      have hq1 : sm_q tx ln pt at_ ≤ at_ + 1 ∧ at_ ≤ sm_q tx ln pt at_ := by unfold sm_q; split <;> omega
      refine z_go 44 _ [.ref 92] _ c_76_43 rfl ?_
      refine z_getf (v := .int (jb true)) 47 c_76_44 rfl h92 rfl ?_
      refine z_ifeq 259 50 c_76_47 rfl jb_t (fun h => absurd h (by decide)) (fun _ => ?_)
      refine z_go 52 _ [.int (jb false)] _ c_76_50 rfl ?_
      refine z_ifne 259 55 c_76_52 rfl jb_t (fun _ => ?_) (fun h => absurd rfl h)
      refine z_go 56 _ [.int (jn o)] _ c_76_55 rfl ?_
      refine z_ifge 63 59 c_76_56 rfl (jn_nl (by omega)) (fun hz => ?_) (fun hz => ?_)
      · exact hz.elim
      · refine z_go 64 _ [.ref 92] _ c_76_63 rfl ?_
        refine z_go 65 _ [.ref 92, .ref 92] _ c_76_64 rfl ?_
        refine z_getf (v := .int (jn at_)) 68 c_76_65 rfl h92 rfl ?_
        refine z_callv 71 6 77 1 92 c_76_68 rfl ⟨Nat.le_of_ble_eq_true rfl, Nat.le_of_ble_eq_true rfl⟩ rfl h92 [.ref 92, .int (jn at_)] rfl rfl [some (.ref 92), some (.int (jn at_))] rfl rfl (t_mch h92 h93 hl (by omega)) ?_
        show jZ _ _ _ _ [.int (jn (sp_here tx ln at_))] _ _
        refine z_go 72 _ [.int (jb pt), .int (jn (sp_here tx ln at_))] _ c_76_71 rfl ?_
        refine z_call 75 78 2 c_76_72 rfl ⟨Nat.le_of_ble_eq_true rfl, Nat.le_of_ble_eq_true rfl⟩ [.int (jn (sp_here tx ln at_)), .int (jb pt)] rfl rfl [some (.int (jn (sp_here tx ln at_))), some (.int (jb pt))] rfl rfl (t_mlk (by omega)) ?_
        show jZ _ _ _ _ [.int (jn (sp_lk (sp_here tx ln at_) pt))] _ _
        refine z_go 77 [some (.ref 92), some (.int (jb pt)), some (.int (jn dp)), some (.int (jn o)), some (.int (jb false)), some (.int (jn (sp_lk (sp_here tx ln at_) pt))), z6, z7] [] _ c_76_75 rfl ?_
        refine z_go 78 _ [.ref 92] _ c_76_77 rfl ?_
        refine z_cut 96 [some (.ref 92), some (.int (jb pt)), some (.int (jn dp)), some (.int (jn o)), some (.int (jb false)), some (.int (jn (sp_lk (sp_here tx ln at_) pt))), z6, z7] [.int (jn (sm_q tx ln pt at_)), .ref 92] (fun kc => ?_) ?_
        · refine z_go 80 _ [.int (jn (sp_lk (sp_here tx ln at_) pt)), .ref 92] _ c_76_78 rfl ?_
          refine z_ifeq 92 83 c_76_80 rfl (jn_z (by omega)) (fun g1 => ?_) (fun g1 => ?_)
          · refine z_go 93 _ [.ref 92, .ref 92] _ c_76_92 rfl ?_
            refine z_getf (v := .int (jn at_)) 96 c_76_93 rfl h92 rfl ?_
            exact z_v (by unfold sm_q; rw [if_pos g1, Nat.add_zero]) kc
          · refine z_go 84 _ [.ref 92, .ref 92] _ c_76_83 rfl ?_
            refine z_getf (v := .int (jn at_)) 87 c_76_84 rfl h92 rfl ?_
            refine z_go 88 _ [.int (jn 1), .int (jn at_), .ref 92] _ c_76_87 rfl ?_
            refine z_go 89 _ [.int ((jn at_) + (jn 1)), .ref 92] _ c_76_88 rfl ?_
            refine z_v (jn_add _ _) ?_
            refine z_go 96 _ [.int (jn (at_ + 1)), .ref 92] _ c_76_89 rfl ?_
            exact z_v (by unfold sm_q; rw [if_neg g1]) kc
        refine z_putf (M' := jm [(92, mW w ln (sm_q tx ln pt at_) n true)] M) 99 c_76_96 rfl h92 (rfl) (Nat.le_of_ble_eq_true rfl) rfl ?_
        refine z_go 100 _ [.ref 92] _ c_76_99 rfl ?_
        refine z_go 101 _ [.int (jb pt), .ref 92] _ c_76_100 rfl ?_
        have HM : mRd (jm [(92, mW w ln (sm_q tx ln pt at_) n true)] M) w tx ln (sm_q tx ln pt at_) n true A bm bk oa ol := ⟨rfl, h93, ⟨h94, h95, h96, h97, h98, h99⟩, h100, h101, h102, h103⟩
        have hsm : sm 92 103 M (jm [(92, mW w ln (sm_q tx ln pt at_) n true)] M) := sm_jm rfl
        have hatc := t_mat (d := d) (pt := pt) HM (by omega) hl ht (by omega)
        have hP : sp_p1 tx ln pt (some o) at_ = sm_q tx ln pt at_ := rfl
        cases hat : sm_at tx ln pt (sm_q tx ln pt at_) with
        | none =>
          rw [hat] at hatc
          refine z_callvV 104 6 79 1 92 c_76_101 rfl ⟨Nat.le_of_ble_eq_true rfl, Nat.le_of_ble_eq_true rfl⟩ rfl rfl [.ref 92, .int (jb pt)] rfl rfl [some (.ref 92), some (.int (jb pt)), none] rfl rfl (hatc) ?_
          intro M1 ⟨g1, g2⟩
          show jZ _ _ _ _ [.int (jb false)] _ _
          refine z_ifne 109 107 c_76_104 rfl jb_t (fun _ => ?_) (fun h => absurd rfl h)
          refine z_go 108 _ [.int (jn 0)] _ c_76_107 rfl ?_
          refine z_zret (b := false) c_76_108 ?_
          rw [show sm_rd tx ln pt (k + 1) (some o) at_ n A bm oa ol bk dp = none by rw [sm_rd, hP, hat]]
          exact ⟨rfl, g1, hsm.tr g2⟩
        | some mq =>
          obtain ⟨m, p2⟩ := mq
          obtain ⟨okm, hp2⟩ := sm_at_ok hat
          have hp2l := sm_at_le hl (fun {x hy r} q => sp_atom_le q) hat
          rw [hat] at hatc
          refine z_callvV 104 6 79 1 92 c_76_101 rfl ⟨Nat.le_of_ble_eq_true rfl, Nat.le_of_ble_eq_true rfl⟩ rfl rfl [.ref 92, .int (jb pt)] rfl rfl [some (.ref 92), some (.int (jb pt)), none] rfl rfl (hatc) ?_
          intro M1 ⟨hQ, g2⟩
          have hs1 := hsm.tr g2
          have hA1 : ∀ j, j < n + 1 → okA pt (nu A n m j) := fun j hj => by by_cases e : j = n; subst e; rw [nu_at']; exact okm; rw [nu_ne e]; exact hok j (by omega)
          have hL1 : ∀ q, q < n + 1 → aL (nu A n m) q < 64 := fun q hq => okA_L (hA1 q hq)
          have hb1 := bmS_zb (by omega) hbm
          have hoa1 : ∀ d, d < 10 → ∀ k, oa d = some k → k < n + 1 ∧ ol d < 8 := fun d hd k q => ⟨by have := (hoa d hd k q).1; omega, (hoa d hd k q).2⟩
          have hQ0 := hQ
          obtain ⟨q92, q93, qA, q100, q101, q102, q103⟩ := hQ
          show jZ _ _ _ _ [.int (jb true)] _ _
          refine z_ifne 109 107 c_76_104 rfl jb_t (fun h => absurd h (by decide)) (fun _ => ?_)
          refine z_go 110 _ [.ref 92] _ c_76_109 rfl ?_
          refine z_getf (v := .int (jn (n + 1))) 113 c_76_110 rfl q92 rfl ?_
          refine z_go 114 _ [.int (jn 1), .int (jn (n + 1))] _ c_76_113 rfl ?_
          refine z_go 115 _ [.int ((jn (n + 1)) - (jn 1))] _ c_76_114 rfl ?_
          refine z_v (jn_sub (by omega)) ?_
          refine z_v (by rw [Nat.add_sub_cancel]) ?_
          refine z_go 117 [some (.ref 92), some (.int (jb pt)), some (.int (jn dp)), some (.int (jn o)), some (.int (jb false)), some (.int (jn (sp_lk (sp_here tx ln at_) pt))), some (.int (jn n)), z7] [] _ c_76_115 rfl ?_
          refine z_go 118 _ [.int (jn o)] _ c_76_117 rfl ?_
          refine z_iflt 130 121 c_76_118 rfl (jn_nl (by omega)) (fun hz3 => ?_) (fun hz3 => ?_)
          · exact hz3.elim
          · refine z_go 122 _ [.ref 92] _ c_76_121 rfl ?_
            refine z_go 123 _ [.int (jn o), .ref 92] _ c_76_122 rfl ?_
            refine z_go 125 _ [.int (jn n), .int (jn o), .ref 92] _ c_76_123 rfl ?_
            refine z_go 127 _ [.int (jn (sp_lk (sp_here tx ln at_) pt)), .int (jn n), .int (jn o), .ref 92] _ c_76_125 rfl ?_
            refine z_callvV 130 6 84 3 92 c_76_127 rfl ⟨Nat.le_of_ble_eq_true rfl, Nat.le_of_ble_eq_true rfl⟩ rfl q92 [.ref 92, .int (jn o), .int (jn n), .int (jn (sp_lk (sp_here tx ln at_) pt))] rfl rfl [some (.ref 92), some (.int (jn o)), some (.int (jn n)), some (.int (jn (sp_lk (sp_here tx ln at_) pt))), none, none, none, none] rfl rfl (t_mbind (d := d + 3) (i := o) (j := n) (link := sp_lk (sp_here tx ln at_) pt) hQ0 (by omega) (by omega) (by omega) hlk hb1 hL1) ?_
            intro M2 ⟨hQ2, g3⟩
            have hs2 := hs1.tr g3
            have hb2 := bmS_put (i := o) (j := n) hb1 (sm_k_8 (mi := nu A n m o) (mj := nu A n m n) hlk)
            show jZ _ _ _ _ [] _ _
            refine z_go 131 _ [.ref 92] _ c_76_130 rfl ?_
            refine z_go 133 _ [.int (jn n), .ref 92] _ c_76_131 rfl ?_
            refine z_go 134 _ [.int (jb pt), .int (jn n), .ref 92] _ c_76_133 rfl ?_
            have hci := sm_clo_inv (tx := tx) (ln := ln) (n := n + 1) (a := n) (pt := pt) (A := nu A n m) (by omega) (k := 40) (at_ := p2) (gd := (sm_on (nu A n m) (sm_zb bm n) (some o) n (sp_lk (sp_here tx ln at_) pt)).1) (bm := (sm_on (nu A n m) (sm_zb bm n) (some o) n (sp_lk (sp_here tx ln at_) pt)).2) (oa := oa) (ol := ol) hp2l hb2 hoa1
            have hcl := t_mclo (d := d + 2) (a := n) (pt := pt) hl ht (by omega) (by omega) hL1 hp2l hQ2 hb2 hoa1
            have hcl : jZ (d + 3) 85 0 [some (.ref 92), some (.int (jn n)), some (.int (jb pt)), none, none, none, none] [] M2 (jV none fun M' => mRd M' w tx ln (sm_clo tx ln pt (nu A n m) n 40 (p2, (sm_on (nu A n m) (sm_zb bm n) (some o) n (sp_lk (sp_here tx ln at_) pt)).1, (sm_on (nu A n m) (sm_zb bm n) (some o) n (sp_lk (sp_here tx ln at_) pt)).2, oa, ol)).1 (n + 1) (sm_clo tx ln pt (nu A n m) n 40 (p2, (sm_on (nu A n m) (sm_zb bm n) (some o) n (sp_lk (sp_here tx ln at_) pt)).1, (sm_on (nu A n m) (sm_zb bm n) (some o) n (sp_lk (sp_here tx ln at_) pt)).2, oa, ol)).2.1 (nu A n m) (sm_clo tx ln pt (nu A n m) n 40 (p2, (sm_on (nu A n m) (sm_zb bm n) (some o) n (sp_lk (sp_here tx ln at_) pt)).1, (sm_on (nu A n m) (sm_zb bm n) (some o) n (sp_lk (sp_here tx ln at_) pt)).2, oa, ol)).2.2.1 bk (sm_clo tx ln pt (nu A n m) n 40 (p2, (sm_on (nu A n m) (sm_zb bm n) (some o) n (sp_lk (sp_here tx ln at_) pt)).1, (sm_on (nu A n m) (sm_zb bm n) (some o) n (sp_lk (sp_here tx ln at_) pt)).2, oa, ol)).2.2.2.1 (sm_clo tx ln pt (nu A n m) n 40 (p2, (sm_on (nu A n m) (sm_zb bm n) (some o) n (sp_lk (sp_here tx ln at_) pt)).1, (sm_on (nu A n m) (sm_zb bm n) (some o) n (sp_lk (sp_here tx ln at_) pt)).2, oa, ol)).2.2.2.2 ∧ sm 92 103 M2 M') := hcl
            have hr : sm_rd tx ln pt (k + 1) (some o) at_ n A bm oa ol bk dp = match sm_clo tx ln pt (nu A n m) n 40 (p2, (sm_on (nu A n m) (sm_zb bm n) (some o) n (sp_l1 tx ln pt (some o) at_)).1, (sm_on (nu A n m) (sm_zb bm n) (some o) n (sp_l1 tx ln pt (some o) at_)).2, oa, ol) with | (p3, g, bm2, oa2, ol2) => (match sp_pe tx ln bk 40 p3 dp n with | none => none | some (o', p4, dp') => if g = true then (if sp_here tx ln p4 = 40 then sm_rd tx ln pt k (some o') (p4 + 1) (n + 1) (nu A n m) bm2 oa2 ol2 (nu bk dp' o') (dp' + 1) else if p4 < ln then sm_rd tx ln pt k (some o') p4 (n + 1) (nu A n m) bm2 oa2 ol2 bk dp' else if dp' = 0 ∧ sp_op oa2 9 1 = false then some (n + 1, nu A n m, bm2) else none) else none) := by rw [sm_rd, hP, hat]; rfl
            have hl1 : sp_l1 tx ln pt (some o) at_ = sp_lk (sp_here tx ln at_) pt := rfl
            rw [hl1] at hr
            generalize hSS : sm_clo tx ln pt (nu A n m) n 40 (p2, (sm_on (nu A n m) (sm_zb bm n) (some o) n (sp_lk (sp_here tx ln at_) pt)).1, (sm_on (nu A n m) (sm_zb bm n) (some o) n (sp_lk (sp_here tx ln at_) pt)).2, oa, ol) = S at hci hcl hr
            obtain ⟨p3, g, bm2, oa2, ol2⟩ := S
            dsimp only at hci hcl hr
            obtain ⟨hp3, hp3l, hb3, hoa3⟩ := hci
            refine z_callvV 137 6 85 2 92 c_76_134 rfl ⟨Nat.le_of_ble_eq_true rfl, Nat.le_of_ble_eq_true rfl⟩ rfl hQ2.1 [.ref 92, .int (jn n), .int (jb pt)] rfl rfl [some (.ref 92), some (.int (jn n)), some (.int (jb pt)), none, none, none, none] rfl rfl (hcl) ?_
            intro M3 ⟨hQ3, g4⟩
            have hs3 := hs2.tr g4
            show jZ _ _ _ _ [] _ _
            refine z_go 139 _ [.int (jn n)] _ c_76_137 rfl ?_
            refine z_go 140 [some (.ref 92), some (.int (jb pt)), some (.int (jn dp)), some (.int (jn n)), some (.int (jb false)), some (.int (jn (sp_lk (sp_here tx ln at_) pt))), some (.int (jn n)), z7] [] _ c_76_139 rfl ?_
            refine z_go 141 _ [.int (jn 1)] _ c_76_140 rfl ?_
            refine z_go 143 [some (.ref 92), some (.int (jb pt)), some (.int (jn dp)), some (.int (jn n)), some (.int (jb false)), some (.int (jn (sp_lk (sp_here tx ln at_) pt))), some (.int (jn n)), some (.int (jn 1))] [] _ c_76_141 rfl ?_
            show jZ _ _ _ [some (.ref 92), some (.int (jb pt)), some (.int (jn dp)), some (.int (jn n)), some (.int (jb false)), some (.int (jn (sp_lk (sp_here tx ln at_) pt))), some (.int (jn n)), some (.int (jb true))] _ _ _
            have hpb : ∀ j, j < dp → bk j = bk j ∧ bk j < n + 1 := fun j hj => ⟨rfl, by have := hb0 j hj; omega⟩
            obtain ⟨-, hpe0⟩ := pe_rel (tx := tx) (ln := ln) (k := 40) (ps := p3) (o := n) hpb (by omega) hp3l
            refine t_mrd_s (d := d + 3) (k := 40) (bk := bk) (o := n) hl ht (by omega) (by omega) hQ3.1 hQ3.2.1 hQ3.2.2.2.2.1 (fun j hj => by have := hb0 j hj; omega) (fun q p1 => ?_) (fun o' p4 dp' hq => ?_)
            · rw [hr, q]
              exact ⟨rfl, mSh_of (mRd_at p1 hQ3), hs3.tr (sm_jm rfl)⟩
            · obtain ⟨r1, r2, r3, r4⟩ := hpe0 o' p4 dp' hq
              rw [hr, hq]
              dsimp only
              have hc4 := sp_here_128 (tx := tx) (ln := ln) (p := p4) ht
              have hQ4 := mRd_at p4 hQ3
              have hs4 : sm 92 103 M (jm [(92, mW w ln p4 (n + 1) g)] M3) := hs3.tr (sm_jm rfl)
              refine z_go 203 _ [.ref 92] _ c_76_202 rfl ?_
              refine z_go 204 _ [.ref 92, .ref 92] _ c_76_203 rfl ?_
              refine z_getf (v := .int (jn p4)) 207 c_76_204 rfl rfl rfl ?_
              refine z_callv 210 6 77 1 92 c_76_207 rfl ⟨Nat.le_of_ble_eq_true rfl, Nat.le_of_ble_eq_true rfl⟩ rfl rfl [.ref 92, .int (jn p4)] rfl rfl [some (.ref 92), some (.int (jn p4))] rfl rfl (t_mch (at_ := p4) rfl hQ3.2.1 hl (by omega)) ?_
              show jZ _ _ _ _ [.int (jn (sp_here tx ln p4))] _ _
              refine z_go 212 _ [.int (jn 40), .int (jn (sp_here tx ln p4))] _ c_76_210 rfl ?_
              refine z_ine 238 215 c_76_212 rfl (jn_inj (by omega) (by omega)) (fun h40 => ?_) (fun h40 => ?_)
              · have hlt := here_pos (tx := tx) (ln := ln) (p := p4) (by omega)
                refine z_go 216 _ [.ref 92] _ c_76_215 rfl ?_
                refine z_getf (v := .ref 101) 219 c_76_216 rfl rfl rfl ?_
                refine z_go 220 _ [.int (jn dp'), .ref 101] _ c_76_219 rfl ?_
                refine z_go 221 _ [.int (jn o'), .int (jn dp'), .ref 101] _ c_76_220 rfl ?_
                refine z_iast (M' := jm [(101, .inl (0, 40, .inl (ja (nu bk dp' o')))), (92, mW w ln p4 (n + 1) g)] M3) 222 c_76_221 rfl hQ3.2.2.2.2.1 (by omega) (by omega) (by rw [ja_upd]; exact rfl) ?_
                refine z_iinc 225 [some (.ref 92), some (.int (jb pt)), some (.int (jn (dp' + 1))), some (.int (jn o')), some (.int (jb false)), some (.int (jn (sp_lk (sp_here tx ln at_) pt))), some (.int (jn n)), some (.int (jb true))] c_76_222 rfl rfl (jn_add _ _) rfl ?_
                refine z_go 226 _ [.ref 92] _ c_76_225 rfl ?_
                refine z_go 227 _ [.ref 92, .ref 92] _ c_76_226 rfl ?_
                refine z_getf (v := .int (jn p4)) 230 c_76_227 rfl rfl rfl ?_
                refine z_go 231 _ [.int (jn 1), .int (jn p4), .ref 92] _ c_76_230 rfl ?_
                refine z_go 232 _ [.int ((jn p4) + (jn 1)), .ref 92] _ c_76_231 rfl ?_
                refine z_v (jn_add _ _) ?_
                refine z_putf (M' := jm [(101, .inl (0, 40, .inl (ja (nu bk dp' o')))), (92, mW w ln (p4 + 1) (n + 1) g)] M3) 235 c_76_232 rfl rfl (rfl) (Nat.le_of_ble_eq_true rfl) (jm_w rfl) ?_
                refine z_go 256 _ [] _ c_76_235 rfl ?_
                refine z_go 43 _ [] _ c_76_256 rfl ?_
                show jZ _ _ _ [some (.ref 92), some (.int (jb pt)), some (.int (jn (dp' + 1))), some (.int (jn o')), some (.int (jb false)), some (.int (jn (sp_lk (sp_here tx ln at_) pt))), some (.int (jn n)), some (.int (jb true))] _ _ _
                cases g with
                | false =>
                  refine z_go 44 _ [.ref 92] _ c_76_43 rfl ?_
                  refine z_getf (v := .int (jb false)) 47 c_76_44 rfl rfl rfl ?_
                  refine z_ifeq 259 50 c_76_47 rfl jb_t (fun _ => ?_) (fun h => absurd rfl h)
                  refine (t_mrd_x (M := jm [(101, .inl (0, 40, .inl (ja (nu bk dp' o')))), (92, mW w ln (p4 + 1) (n + 1) false)] M3) (w := w) (ln := ln) (at_ := p4 + 1) (n := n + 1) (dp := dp' + 1) (gd := false) (en := false) (oa := oa2) rfl hQ3.2.2.2.2.2.1 (fun d hd k q => by have := (hoa3 d hd k q).1; omega) (by omega)).mono fun r M9 qq => ?_
                  obtain ⟨rfl, rfl⟩ := qq
                  rw [if_neg (by decide)]
                  exact ⟨rfl, ⟨_, _, _, _, _, _, _, _, ⟨rfl, hQ3.2.1, hQ3.2.2.1, hQ3.2.2.2.1, rfl, hQ3.2.2.2.2.2.1, hQ3.2.2.2.2.2.2⟩⟩, hs3.tr (sm_jm rfl)⟩
                | true =>
                  rw [if_pos rfl]
                  rw [if_pos h40]
                  exact (ih (at_ := p4 + 1) (n := n + 1) (dp := dp' + 1) (ow := some o') (bk := nu bk dp' o') (M := jm [(101, .inl (0, 40, .inl (ja (nu bk dp' o')))), (92, mW w ln (p4 + 1) (n + 1) true)] M3) (by omega) (by omega) (by omega) (by omega) (fun o q => by cases q; exact r1) (fun j hj => by by_cases e : j = dp'; subst e; rw [nu_at']; exact r1; rw [nu_ne e]; exact (hpb j (by omega)).2) hA1 hb3 hoa3 ⟨rfl, hQ3.2.1, hQ3.2.2.1, hQ3.2.2.2.1, rfl, hQ3.2.2.2.2.2.1, hQ3.2.2.2.2.2.2⟩).mono fun r M9 qq => jRd_sm (hs3.tr (sm_jm rfl)) qq
              · refine z_go 239 _ [.ref 92] _ c_76_238 rfl ?_
                refine z_getf (v := .int (jn p4)) 242 c_76_239 rfl rfl rfl ?_
                refine z_go 243 _ [.ref 92, .int (jn p4)] _ c_76_242 rfl ?_
                refine z_getf (v := .int (jn ln)) 246 c_76_243 rfl rfl rfl ?_
                refine z_ilt 253 249 c_76_246 rfl (by omega) (by omega) (fun h5 => ?_) (fun h5 => ?_)
                · refine z_go 254 _ [.int (jn 0)] _ c_76_253 rfl ?_
                  refine z_go 256 [some (.ref 92), some (.int (jb pt)), some (.int (jn dp')), some (.int (jn o')), some (.int (jn 0)), some (.int (jn (sp_lk (sp_here tx ln at_) pt))), some (.int (jn n)), some (.int (jb true))] [] _ c_76_254 rfl ?_
                  refine z_go 43 _ [] _ c_76_256 rfl ?_
                  show jZ _ _ _ [some (.ref 92), some (.int (jb pt)), some (.int (jn dp')), some (.int (jn o')), some (.int (jb false)), some (.int (jn (sp_lk (sp_here tx ln at_) pt))), some (.int (jn n)), some (.int (jb true))] _ _ _
                  cases g with
                  | false =>
                    refine z_go 44 _ [.ref 92] _ c_76_43 rfl ?_
                    refine z_getf (v := .int (jb false)) 47 c_76_44 rfl rfl rfl ?_
                    refine z_ifeq 259 50 c_76_47 rfl jb_t (fun _ => ?_) (fun h => absurd rfl h)
                    refine (t_mrd_x (M := jm [(92, mW w ln p4 (n + 1) false)] M3) (w := w) (ln := ln) (at_ := p4) (n := n + 1) (dp := dp') (gd := false) (en := false) (oa := oa2) rfl hQ3.2.2.2.2.2.1 (fun d hd k q => by have := (hoa3 d hd k q).1; omega) (by omega)).mono fun r M9 qq => ?_
                    obtain ⟨rfl, rfl⟩ := qq
                    rw [if_neg (by decide)]
                    exact ⟨rfl, ⟨_, _, _, _, _, _, _, _, ⟨rfl, hQ3.2.1, hQ3.2.2.1, hQ3.2.2.2.1, hQ3.2.2.2.2.1, hQ3.2.2.2.2.2.1, hQ3.2.2.2.2.2.2⟩⟩, hs3.tr (sm_jm rfl)⟩
                  | true =>
                    rw [if_pos rfl]
                    rw [if_neg h40, if_pos h5]
                    exact (ih (at_ := p4) (n := n + 1) (dp := dp') (ow := some o') (M := jm [(92, mW w ln p4 (n + 1) true)] M3) (by omega) (by omega) (by omega) (by omega) (fun o q => by cases q; exact r1) (fun j hj => (hpb j (by omega)).2) hA1 hb3 hoa3 ⟨rfl, hQ3.2.1, hQ3.2.2.1, hQ3.2.2.2.1, hQ3.2.2.2.2.1, hQ3.2.2.2.2.2.1, hQ3.2.2.2.2.2.2⟩).mono fun r M9 qq => jRd_sm (hs3.tr (sm_jm rfl)) qq
                · refine z_go 250 _ [.int (jn 1)] _ c_76_249 rfl ?_
                  refine z_go 254 _ [.int (jn 1)] _ c_76_250 rfl ?_
                  refine z_go 256 [some (.ref 92), some (.int (jb pt)), some (.int (jn dp')), some (.int (jn o')), some (.int (jn 1)), some (.int (jn (sp_lk (sp_here tx ln at_) pt))), some (.int (jn n)), some (.int (jb true))] [] _ c_76_254 rfl ?_
                  refine z_go 43 _ [] _ c_76_256 rfl ?_
                  show jZ _ _ _ [some (.ref 92), some (.int (jb pt)), some (.int (jn dp')), some (.int (jn o')), some (.int (jb true)), some (.int (jn (sp_lk (sp_here tx ln at_) pt))), some (.int (jn n)), some (.int (jb true))] _ _ _
                  cases g with
                  | false =>
                    refine z_go 44 _ [.ref 92] _ c_76_43 rfl ?_
                    refine z_getf (v := .int (jb false)) 47 c_76_44 rfl rfl rfl ?_
                    refine z_ifeq 259 50 c_76_47 rfl jb_t (fun _ => ?_) (fun h => absurd rfl h)
                    refine (t_mrd_x (M := jm [(92, mW w ln p4 (n + 1) false)] M3) (w := w) (ln := ln) (at_ := p4) (n := n + 1) (dp := dp') (gd := false) (en := true) (oa := oa2) rfl hQ3.2.2.2.2.2.1 (fun d hd k q => by have := (hoa3 d hd k q).1; omega) (by omega)).mono fun r M9 qq => ?_
                    obtain ⟨rfl, rfl⟩ := qq
                    rw [if_neg (by decide)]
                    exact ⟨rfl, ⟨_, _, _, _, _, _, _, _, ⟨rfl, hQ3.2.1, hQ3.2.2.1, hQ3.2.2.2.1, hQ3.2.2.2.2.1, hQ3.2.2.2.2.2.1, hQ3.2.2.2.2.2.2⟩⟩, hs3.tr (sm_jm rfl)⟩
                  | true =>
                    rw [if_pos rfl]
                    rw [if_neg h40, if_neg h5]
                    refine z_go 44 _ [.ref 92] _ c_76_43 rfl ?_
                    refine z_getf (v := .int (jb true)) 47 c_76_44 rfl rfl rfl ?_
                    refine z_ifeq 259 50 c_76_47 rfl jb_t (fun h => absurd h (by decide)) (fun _ => ?_)
                    refine z_go 52 _ [.int (jb true)] _ c_76_50 rfl ?_
                    refine z_ifne 259 55 c_76_52 rfl jb_t (fun h => absurd h (by decide)) (fun _ => ?_)
                    refine (t_mrd_x (M := jm [(92, mW w ln p4 (n + 1) true)] M3) (w := w) (ln := ln) (at_ := p4) (n := n + 1) (dp := dp') (gd := true) (en := true) (oa := oa2) rfl hQ3.2.2.2.2.2.1 (fun d hd k q => by have := (hoa3 d hd k q).1; omega) (by omega)).mono fun r M9 qq => ?_
                    obtain ⟨rfl, rfl⟩ := qq
                    by_cases hf : dp' = 0 ∧ sp_op oa2 9 1 = false
                    · rw [if_pos hf]
                      exact ⟨by rw [decide_eq_true hf.1, hf.2]; rfl, ⟨_, _, _, _, ⟨rfl, hQ3.2.1, hQ3.2.2.1, hQ3.2.2.2.1, hQ3.2.2.2.2.1, hQ3.2.2.2.2.2.1, hQ3.2.2.2.2.2.2⟩⟩, hs3.tr (sm_jm rfl)⟩
                    · rw [if_neg hf]
                      exact ⟨by rw [show (true && true && decide (dp' = 0) && !sp_op oa2 9 1) = false by cases hh : sp_op oa2 9 1 <;> simp_all], ⟨_, _, _, _, _, _, _, _, ⟨rfl, hQ3.2.1, hQ3.2.2.1, hQ3.2.2.2.1, hQ3.2.2.2.2.1, hQ3.2.2.2.2.2.1, hQ3.2.2.2.2.2.2⟩⟩, hs3.tr (sm_jm rfl)⟩
theorem t_mrd {d : Nat} {w : MW} {tx : Nat → Nat} {ln at_ n : Nat} {gd : Bool} {A : Nat → MA} {bm bk : Nat → Nat} {oa : Nat → Option Nat} {ol : Nat → Nat} {M : jx_M} {pt : Bool} (H : mRd M w tx ln at_ n gd A bm bk oa ol) (hl : ln ≤ 40) (ht : ∀ j, tx j < 127) : jZ (d + 4) 76 0 [some (.ref 92), some (.int (jb pt)), none, none, none, none, none, none] [] M (jRd M w tx ln (sm_rd tx ln pt 40 none 0 0 A bm (sp_none oa 10) ol bk 0)) := by
  obtain ⟨h92, h93, ⟨h94, h95, h96, h97, h98, h99⟩, h100, h101, h102, h103⟩ := H
  refine z_go 1 _ [.ref 92] _ c_76_0 rfl ?_
  refine z_go 2 _ [.int (jn 0), .ref 92] _ c_76_1 rfl ?_
  refine z_putf (M' := jm [(92, mW w ln 0 n gd)] M) 5 c_76_2 rfl h92 (rfl) (Nat.le_of_ble_eq_true rfl) rfl ?_
  refine z_go 6 _ [.ref 92] _ c_76_5 rfl ?_
  refine z_go 7 _ [.int (jn 0), .ref 92] _ c_76_6 rfl ?_
  refine z_putf (M' := jm [(92, mW w ln 0 0 gd)] M) 10 c_76_7 rfl rfl (rfl) (Nat.le_of_ble_eq_true rfl) (jm_w rfl) ?_
  refine z_go 11 _ [.ref 92] _ c_76_10 rfl ?_
  refine z_go 12 _ [.int (jn 1), .ref 92] _ c_76_11 rfl ?_
  refine z_putf (M' := jm [(92, mW w ln 0 0 true)] M) 15 c_76_12 rfl rfl (by decide) (Nat.le_of_ble_eq_true rfl) (jm_w rfl) ?_
  refine z_go 16 _ [.int (jn 0)] _ c_76_15 rfl ?_
  refine z_go 17 [some (.ref 92), some (.int (jb pt)), some (.int (jn 0)), none, none, none, none, none] [] _ c_76_16 rfl ?_
  refine t_mrd_o (k := 10) (i := 0) (oa := oa) (M := jm [(92, mW w ln 0 0 true)] M) (by decide) rfl h102 (fun z => ?_)
  rw [sp_nf_0]
  show jZ _ _ _ _ _ (jm [(102, .inl (0, 10, .inl (jao (sp_none oa 10)))), (92, mW w ln 0 0 true)] M) _
  refine z_go 37 _ [.int (jn 0)] _ c_76_36 rfl ?_
  refine z_go 38 [some (.ref 92), some (.int (jb pt)), some (.int (jn 0)), none, none, none, none, none] [] _ c_76_37 rfl ?_
  refine z_go 39 _ [.int (jo none)] _ c_76_38 rfl ?_
  refine z_go 40 [some (.ref 92), some (.int (jb pt)), some (.int (jn 0)), some (.int (jo none)), none, none, none, none] [] _ c_76_39 rfl ?_
  refine z_go 41 _ [.int (jn 0)] _ c_76_40 rfl ?_
  refine z_go 43 [some (.ref 92), some (.int (jb pt)), some (.int (jn 0)), some (.int (jo none)), some (.int (jn 0)), none, none, none] [] _ c_76_41 rfl ?_
  show jZ _ _ _ [some (.ref 92), some (.int (jb pt)), some (.int (jn 0)), some (.int (jo none)), some (.int (jb false)), none, none, none] _ _ _
  exact (t_mrd_l (d := d) (k := 40) (ow := none) (M := jm [(102, .inl (0, 10, .inl (jao (sp_none oa 10)))), (92, mW w ln 0 0 true)] M) hl ht (by omega) (by omega) (by omega) (by omega) (fun o q => (by cases q)) (fun j q => by omega) (fun j q => by omega) (fun i j q => by omega) (fun d hd k q => by rw [show sp_none oa 10 d = none from if_pos hd] at q; cases q) ⟨rfl, h93, ⟨h94, h95, h96, h97, h98, h99⟩, h100, h101, rfl, h103⟩).mono fun r M9 qq => jRd_sm (sm_jm rfl) qq
