/-! THE REFERENCE: register, lookup, search; printed by wip/whole/p76.py -/
theorem c_73_0 : jx_cd 73 0 = some (o_ald 0 1) := rfl
theorem c_73_1 : jx_cd 73 1 = some (o_getf 6 28) := rfl
theorem c_73_4 : jx_cd 73 4 = some (o_ifeq 13) := rfl
theorem c_73_7 : jx_cd 73 7 = some (o_ald 0 1) := rfl
theorem c_73_8 : jx_cd 73 8 = some (o_push (.int 1) 1) := rfl
theorem c_73_9 : jx_cd 73 9 = some (o_callv 6 74 1) := rfl
theorem c_73_12 : jx_cd 73 12 = some (o_iret) := rfl
theorem c_73_13 : jx_cd 73 13 = some (o_ald 0 1) := rfl
theorem c_73_14 : jx_cd 73 14 = some (o_callv 6 75 0) := rfl
theorem c_73_17 : jx_cd 73 17 = some (o_ist 1 1) := rfl
theorem c_73_18 : jx_cd 73 18 = some (o_ild 1 1) := rfl
theorem c_73_19 : jx_cd 73 19 = some (o_ifle 30) := rfl
theorem c_73_22 : jx_cd 73 22 = some (o_ald 0 1) := rfl
theorem c_73_23 : jx_cd 73 23 = some (o_ild 1 1) := rfl
theorem c_73_24 : jx_cd 73 24 = some (o_push (.int 1) 1) := rfl
theorem c_73_25 : jx_cd 73 25 = some (o_bin fun x y => x + y) := rfl
theorem c_73_26 : jx_cd 73 26 = some (o_callv 6 74 1) := rfl
theorem c_73_29 : jx_cd 73 29 = some (o_iret) := rfl
theorem c_73_30 : jx_cd 73 30 = some (o_ald 0 1) := rfl
theorem c_73_31 : jx_cd 73 31 = some (o_callv 6 92 0) := rfl
theorem c_73_34 : jx_cd 73 34 = some (o_ist 2 1) := rfl
theorem c_73_35 : jx_cd 73 35 = some (o_ild 2 1) := rfl
theorem c_73_36 : jx_cd 73 36 = some (o_ifge 54) := rfl
theorem c_73_39 : jx_cd 73 39 = some (o_ald 0 1) := rfl
theorem c_73_40 : jx_cd 73 40 = some (o_getf 6 16) := rfl
theorem c_73_43 : jx_cd 73 43 = some (o_push (.int 12) 2) := rfl
theorem c_73_45 : jx_cd 73 45 = some (o_ine 54) := rfl
theorem c_73_48 : jx_cd 73 48 = some (o_ald 0 1) := rfl
theorem c_73_49 : jx_cd 73 49 = some (o_push (.int 5) 1) := rfl
theorem c_73_50 : jx_cd 73 50 = some (o_callv 6 74 1) := rfl
theorem c_73_53 : jx_cd 73 53 = some (o_iret) := rfl
theorem c_73_54 : jx_cd 73 54 = some (o_ald 0 1) := rfl
theorem c_73_55 : jx_cd 73 55 = some (o_push (.int 0) 1) := rfl
theorem c_73_56 : jx_cd 73 56 = some (o_putf 6 0 jx_okI) := rfl
theorem c_73_59 : jx_cd 73 59 = some (o_ald 0 1) := rfl
theorem c_73_60 : jx_cd 73 60 = some (o_push (.int 0) 1) := rfl
theorem c_73_61 : jx_cd 73 61 = some (o_putf 6 1 jx_okI) := rfl
theorem c_73_64 : jx_cd 73 64 = some (o_ild 2 1) := rfl
theorem c_73_65 : jx_cd 73 65 = some (o_iflt 75) := rfl
theorem c_73_68 : jx_cd 73 68 = some (o_ald 0 1) := rfl
theorem c_73_69 : jx_cd 73 69 = some (o_getf 6 18) := rfl
theorem c_73_72 : jx_cd 73 72 = some (o_ild 2 1) := rfl
theorem c_73_73 : jx_cd 73 73 = some (o_iald) := rfl
theorem c_73_74 : jx_cd 73 74 = some (o_iret) := rfl
theorem c_73_75 : jx_cd 73 75 = some (o_ald 0 1) := rfl
theorem c_73_76 : jx_cd 73 76 = some (o_callv 6 96 0) := rfl
theorem c_73_79 : jx_cd 73 79 = some (o_ald 0 1) := rfl
theorem c_73_80 : jx_cd 73 80 = some (o_getf 6 17) := rfl
theorem c_73_83 : jx_cd 73 83 = some (o_push (.int 1) 1) := rfl
theorem c_73_84 : jx_cd 73 84 = some (o_bin fun x y => x + y) := rfl
theorem c_73_85 : jx_cd 73 85 = some (o_ist 3 1) := rfl
theorem c_73_86 : jx_cd 73 86 = some (o_ald 0 1) := rfl
theorem c_73_87 : jx_cd 73 87 = some (o_push (.int 1) 1) := rfl
theorem c_73_88 : jx_cd 73 88 = some (o_ild 3 1) := rfl
theorem c_73_89 : jx_cd 73 89 = some (o_callv 6 97 2) := rfl
theorem c_73_92 : jx_cd 73 92 = some (o_ifeq 99) := rfl
theorem c_73_95 : jx_cd 73 95 = some (o_ild 3 1) := rfl
theorem c_73_96 : jx_cd 73 96 = some (o_goto 101) := rfl
theorem c_73_99 : jx_cd 73 99 = some (o_push (.int (-2)) 2) := rfl
theorem c_73_101 : jx_cd 73 101 = some (o_iret) := rfl
theorem c_75_0 : jx_cd 75 0 = some (o_ald 0 1) := rfl
theorem c_75_1 : jx_cd 75 1 = some (o_push (.int 0) 1) := rfl
theorem c_75_2 : jx_cd 75 2 = some (o_callv 6 76 1) := rfl
theorem c_75_5 : jx_cd 75 5 = some (o_ifne 10) := rfl
theorem c_75_8 : jx_cd 75 8 = some (o_push (.int 1) 1) := rfl
theorem c_75_9 : jx_cd 75 9 = some (o_iret) := rfl
theorem c_75_10 : jx_cd 75 10 = some (o_ald 0 1) := rfl
theorem c_75_11 : jx_cd 75 11 = some (o_getf 6 4) := rfl
theorem c_75_14 : jx_cd 75 14 = some (o_push (.int 10) 2) := rfl
theorem c_75_16 : jx_cd 75 16 = some (o_ile 21) := rfl
theorem c_75_19 : jx_cd 75 19 = some (o_push (.int 2) 1) := rfl
theorem c_75_20 : jx_cd 75 20 = some (o_iret) := rfl
theorem c_75_21 : jx_cd 75 21 = some (o_ald 0 1) := rfl
theorem c_75_22 : jx_cd 75 22 = some (o_callv 6 86 0) := rfl
theorem c_75_25 : jx_cd 75 25 = some (o_ifeq 39) := rfl
theorem c_75_28 : jx_cd 75 28 = some (o_ald 0 1) := rfl
theorem c_75_29 : jx_cd 75 29 = some (o_callv 6 89 0) := rfl
theorem c_75_32 : jx_cd 75 32 = some (o_ifeq 39) := rfl
theorem c_75_35 : jx_cd 75 35 = some (o_push (.int 0) 1) := rfl
theorem c_75_36 : jx_cd 75 36 = some (o_goto 40) := rfl
theorem c_75_39 : jx_cd 75 39 = some (o_push (.int 3) 1) := rfl
theorem c_75_40 : jx_cd 75 40 = some (o_iret) := rfl
theorem c_92_0 : jx_cd 92 0 = some (o_push (.int 0) 1) := rfl
theorem c_92_1 : jx_cd 92 1 = some (o_ist 1 1) := rfl
theorem c_92_2 : jx_cd 92 2 = some (o_ild 1 1) := rfl
theorem c_92_3 : jx_cd 92 3 = some (o_ald 0 1) := rfl
theorem c_92_4 : jx_cd 92 4 = some (o_getf 6 16) := rfl
theorem c_92_7 : jx_cd 92 7 = some (o_ige 27) := rfl
theorem c_92_10 : jx_cd 92 10 = some (o_ald 0 1) := rfl
theorem c_92_11 : jx_cd 92 11 = some (o_ild 1 1) := rfl
theorem c_92_12 : jx_cd 92 12 = some (o_push (.int 1) 1) := rfl
theorem c_92_13 : jx_cd 92 13 = some (o_callv 6 93 2) := rfl
theorem c_92_16 : jx_cd 92 16 = some (o_ifeq 21) := rfl
theorem c_92_19 : jx_cd 92 19 = some (o_ild 1 1) := rfl
theorem c_92_20 : jx_cd 92 20 = some (o_iret) := rfl
theorem c_92_21 : jx_cd 92 21 = some (o_iinc 1 1) := rfl
theorem c_92_24 : jx_cd 92 24 = some (o_goto 2) := rfl
theorem c_92_27 : jx_cd 92 27 = some (o_push (.int (-1)) 1) := rfl
theorem c_92_28 : jx_cd 92 28 = some (o_iret) := rfl
theorem c_101_0 : jx_cd 101 0 = some (o_ald 0 1) := rfl
theorem c_101_1 : jx_cd 101 1 = some (o_getf 6 28) := rfl
theorem c_101_4 : jx_cd 101 4 = some (o_ifeq 13) := rfl
theorem c_101_7 : jx_cd 101 7 = some (o_ald 0 1) := rfl
theorem c_101_8 : jx_cd 101 8 = some (o_push (.int 1) 1) := rfl
theorem c_101_9 : jx_cd 101 9 = some (o_callv 6 74 1) := rfl
theorem c_101_12 : jx_cd 101 12 = some (o_iret) := rfl
theorem c_101_13 : jx_cd 101 13 = some (o_ald 0 1) := rfl
theorem c_101_14 : jx_cd 101 14 = some (o_callv 6 75 0) := rfl
theorem c_101_17 : jx_cd 101 17 = some (o_ist 1 1) := rfl
theorem c_101_18 : jx_cd 101 18 = some (o_ild 1 1) := rfl
theorem c_101_19 : jx_cd 101 19 = some (o_ifle 30) := rfl
theorem c_101_22 : jx_cd 101 22 = some (o_ald 0 1) := rfl
theorem c_101_23 : jx_cd 101 23 = some (o_ild 1 1) := rfl
theorem c_101_24 : jx_cd 101 24 = some (o_push (.int 1) 1) := rfl
theorem c_101_25 : jx_cd 101 25 = some (o_bin fun x y => x + y) := rfl
theorem c_101_26 : jx_cd 101 26 = some (o_callv 6 74 1) := rfl
theorem c_101_29 : jx_cd 101 29 = some (o_iret) := rfl
theorem c_101_30 : jx_cd 101 30 = some (o_ald 0 1) := rfl
theorem c_101_31 : jx_cd 101 31 = some (o_push (.int 0) 1) := rfl
theorem c_101_32 : jx_cd 101 32 = some (o_putf 6 0 jx_okI) := rfl
theorem c_101_35 : jx_cd 101 35 = some (o_ald 0 1) := rfl
theorem c_101_36 : jx_cd 101 36 = some (o_push (.int 0) 1) := rfl
theorem c_101_37 : jx_cd 101 37 = some (o_putf 6 1 jx_okI) := rfl
theorem c_101_40 : jx_cd 101 40 = some (o_ald 0 1) := rfl
theorem c_101_41 : jx_cd 101 41 = some (o_callv 6 92 0) := rfl
theorem c_101_44 : jx_cd 101 44 = some (o_ist 2 1) := rfl
theorem c_101_45 : jx_cd 101 45 = some (o_ild 2 1) := rfl
theorem c_101_46 : jx_cd 101 46 = some (o_ifge 53) := rfl
theorem c_101_49 : jx_cd 101 49 = some (o_push (.int 0) 1) := rfl
theorem c_101_50 : jx_cd 101 50 = some (o_goto 59) := rfl
theorem c_101_53 : jx_cd 101 53 = some (o_ald 0 1) := rfl
theorem c_101_54 : jx_cd 101 54 = some (o_getf 6 18) := rfl
theorem c_101_57 : jx_cd 101 57 = some (o_ild 2 1) := rfl
theorem c_101_58 : jx_cd 101 58 = some (o_iald) := rfl
theorem c_101_59 : jx_cd 101 59 = some (o_iret) := rfl
theorem sm_rd_ok {tx : Nat → Nat} {ln : Nat} (hl : ln ≤ 40) {pt : Bool} {A : Nat → MA} {bm : Nat → Nat} {oa : Nat → Option Nat} {ol bk : Nat → Nat} {n : Nat} {A2 : Nat → MA} {bm2 : Nat → Nat} (h : sm_rd tx ln pt 40 none 0 0 A bm (sp_none oa 10) ol bk 0 = some (n, A2, bm2)) : n ≤ 40 ∧ (∀ j, j < n → okA pt (A2 j)) ∧ (∀ i j, i < n → j < n → bm2 (40 * i + j) < kOf pt) ∧ bmS n bm2 := by
  have q := rd_any (tx := tx) (T := tx) (ln := ln) hl (fun _ => rfl) (pt := pt) (cs := fun _ => 0) (wr := fun _ => none) (bf := fun _ => 0) (bs := fun _ => 0) (bk := fun _ => 0) (ol := fun _ => 0) (oa := fun _ => none) (br := fun _ => 0) A bm oa ol bk
  rw [h] at q
  obtain ⟨cs2, wr2, B2, -, -, h3, h4, h5⟩ := q
  have hk := kOf_56 pt
  have h6 : ∀ i j, i < n → j < n → bm2 (40 * i + j) < kOf pt := fun i j hi hj => RB_lt (by omega) h4 i j hi hj
  exact ⟨h5, fun j hj => (h3 j hj).2.2, h6, fun i j hi hj => by have := h6 i j hi hj; omega⟩
theorem mSh_sm {M M1 : jx_M} {w : MW} {tx : Nat → Nat} {ln : Nat} {ids szs : Nat → Nat} {E : Nat → MA} {al : Nat → Nat} {S : Nat → MA} {sb fnd : Nat → Nat} (h : mSh M1 w tx ln) (hK : mKp M ids szs E al) (hS : mSt M S sb) (hX : mXs M) (h118 : M.1 118 = .inl (0, 12, .inl (ja fnd))) (hal : ∀ x, al x < 8) (hsb : ∀ x, sb x < 8) (hs : sm 92 103 M M1) : mI M1 w tx ln ids szs E al S sb fnd := ⟨h, mKp_fr hK fun k a b => hs.1 k (by omega), mSt_fr hS fun k a b => hs.1 k (by omega), mXs_fr hX fun k a b => hs.1 k (by omega), (hs.1 118 (by decide)).trans h118, hal, hsb⟩
/-- the reference's comparison of what was read with the molecule m -/
def mPM (ex : Bool) (n : Nat) (A : Nat → MA) (bm szs : Nat → Nat) (E : Nat → MA) (al : Nat → Nat) (m : Nat) : Bool := decide (n ≤ szs m ∧ (ex = true → n = szs m)) && sm_bt n (szs m) (sm_ag (mfit ex A E m) ex bm al m) 10 0 (fun _ => 0)
theorem okA_4 {pt : Bool} {m : MA} (h : okA pt m) : m.2.2.2.2.2 < 64 ∧ m.1 < 128 ∧ m.2.2.1 < 100 ∧ q3 m.2.2.2.1 := ⟨okA_L h, okA_E h, by have := h.1; omega, h.2.2.1⟩
theorem okM_4 {m : MA} (h : okM m) : m.2.2.2.2.2 < 64 ∧ m.1 < 128 ∧ m.2.2.1 < 100 ∧ q3 m.2.2.2.1 := ⟨by rw [h.2.2.1]; decide, by rcases h.2.2.2 with q | q | q | q | q <;> rw [q] <;> decide, by have := h.1; omega, h.2.1⟩
theorem t_mw1 {d : Nat} {th ct li fl lg li2 ss fd : Nat} {dn dn2 : Bool} {tx : Nat → Nat} {ln at_ n : Nat} {gd : Bool} {A : Nat → MA} {bm bk : Nat → Nat} {oa : Nat → Option Nat} {ol : Nat → Nat} {ids szs : Nat → Nat} {E : Nat → MA} {al : Nat → Nat} {S : Nat → MA} {sb fnd : Nat → Nat} {M : jx_M} (H : mRd M (th, ct, li, fl, dn, lg, li2, dn2, ss, fd) tx ln at_ n gd A bm bk oa ol) (hK : mKp M ids szs E al) (hS : mSt M S sb) (hX : mXs M) (h118 : M.1 118 = .inl (0, 12, .inl (ja fnd))) (hal : ∀ x, al x < 8) (hsb : ∀ x, sb x < 8) (hl : ln ≤ 40) (ht : ∀ j, tx j < 127) (hm : sm_rd tx ln false 40 none 0 0 A bm (sp_none oa 10) ol bk 0 = none) : jZ (d + 7) 75 0 [some (.ref 92)] [] M (jV (some (.int (jn 1))) fun M' => mI M' (th, ct, li, fl, dn, lg, li2, dn2, ss, fd) tx ln ids szs E al S sb fnd ∧ sm 92 118 M M') := by
  have hrd := t_mrd (d := d + 2) (pt := false) H hl ht
  refine z_go 1 _ [.ref 92] _ c_75_0 rfl ?_
  refine z_go 2 _ [.int (jn 0), .ref 92] _ c_75_1 rfl ?_
  rw [hm] at hrd
  refine z_callvV 5 6 76 1 92 c_75_2 rfl ⟨Nat.le_of_ble_eq_true rfl, Nat.le_of_ble_eq_true rfl⟩ rfl H.1 [.ref 92, .int (jb false)] rfl rfl [some (.ref 92), some (.int (jb false)), none, none, none, none, none, none] rfl rfl (hrd) ?_
  intro M1 ⟨g1, g2⟩
  show jZ _ _ _ _ [.int (jb false)] _ _
  refine z_ifne 10 8 c_75_5 rfl jb_t (fun _ => ?_) (fun h => absurd rfl h)
  refine z_go 9 _ [.int (jn 1)] _ c_75_8 rfl ?_
  refine z_iret c_75_9 ?_
  exact ⟨rfl, mSh_sm g1 hK hS hX h118 hal hsb g2, g2.wd (by decide) (by decide)⟩
theorem t_mw2 {d : Nat} {th ct li fl lg li2 ss fd : Nat} {dn dn2 : Bool} {tx : Nat → Nat} {ln at_ n : Nat} {gd : Bool} {A : Nat → MA} {bm bk : Nat → Nat} {oa : Nat → Option Nat} {ol : Nat → Nat} {ids szs : Nat → Nat} {E : Nat → MA} {al : Nat → Nat} {S : Nat → MA} {sb fnd : Nat → Nat} {M : jx_M} (H : mRd M (th, ct, li, fl, dn, lg, li2, dn2, ss, fd) tx ln at_ n gd A bm bk oa ol) (hK : mKp M ids szs E al) (hS : mSt M S sb) (hX : mXs M) (h118 : M.1 118 = .inl (0, 12, .inl (ja fnd))) (hal : ∀ x, al x < 8) (hsb : ∀ x, sb x < 8) (hl : ln ≤ 40) (ht : ∀ j, tx j < 127) {n2 : Nat} {A2 : Nat → MA} {bm2 : Nat → Nat} (hm : sm_rd tx ln false 40 none 0 0 A bm (sp_none oa 10) ol bk 0 = some (n2, A2, bm2)) (hn : 10 < n2) : jZ (d + 7) 75 0 [some (.ref 92)] [] M (jV (some (.int (jn 2))) fun M' => mI M' (th, ct, li, fl, dn, lg, li2, dn2, ss, fd) tx ln ids szs E al S sb fnd ∧ sm 92 118 M M') := by
  have hrd := t_mrd (d := d + 2) (pt := false) H hl ht
  refine z_go 1 _ [.ref 92] _ c_75_0 rfl ?_
  refine z_go 2 _ [.int (jn 0), .ref 92] _ c_75_1 rfl ?_
  rw [hm] at hrd
  obtain ⟨h40, hok, hk5, hbs⟩ := sm_rd_ok hl hm
  refine z_callvV 5 6 76 1 92 c_75_2 rfl ⟨Nat.le_of_ble_eq_true rfl, Nat.le_of_ble_eq_true rfl⟩ rfl H.1 [.ref 92, .int (jb false)] rfl rfl [some (.ref 92), some (.int (jb false)), none, none, none, none, none, none] rfl rfl (hrd) ?_
  intro M1 ⟨⟨at1, bk1, oa1, ol1, H1⟩, g2⟩
  show jZ _ _ _ _ [.int (jb true)] _ _
  refine z_ifne 10 8 c_75_5 rfl jb_t (fun h => absurd h (by decide)) (fun _ => ?_)
  refine z_go 11 _ [.ref 92] _ c_75_10 rfl ?_
  refine z_getf (v := .int (jn n2)) 14 c_75_11 rfl H1.1 rfl ?_
  refine z_go 16 _ [.int (jn 10), .int (jn n2)] _ c_75_14 rfl ?_
  refine z_ile 21 19 c_75_16 rfl (by omega) (by omega) (fun h10 => ?_) (fun h10 => ?_)
  · refine z_go 20 _ [.int (jn 2)] _ c_75_19 rfl ?_
    refine z_iret c_75_20 ?_
    exact ⟨rfl, mSh_sm (mSh_of H1) hK hS hX h118 hal hsb g2, g2.wd (by decide) (by decide)⟩
  · omega
theorem sm_tk_vl {bm : Nat → Nat} {n : Nat} {A : Nat → MA} : sm_tk (sm_vl bm n n 0 true A).2 = sm_tk A := by
  funext j
  obtain ⟨a, b, -⟩ := sm_vl_k (bm := bm) (n := n) (k := n) (i := 0) (r := true) (A := A) j
  unfold sm_tk sm_pr
  rw [a, b]
theorem t_mw3 {d : Nat} {th ct li fl lg li2 ss fd : Nat} {dn dn2 : Bool} {tx : Nat → Nat} {ln at_ n : Nat} {gd : Bool} {A : Nat → MA} {bm bk : Nat → Nat} {oa : Nat → Option Nat} {ol : Nat → Nat} {ids szs : Nat → Nat} {E : Nat → MA} {al : Nat → Nat} {S : Nat → MA} {sb fnd : Nat → Nat} {M : jx_M} (H : mRd M (th, ct, li, fl, dn, lg, li2, dn2, ss, fd) tx ln at_ n gd A bm bk oa ol) (hK : mKp M ids szs E al) (hS : mSt M S sb) (hX : mXs M) (h118 : M.1 118 = .inl (0, 12, .inl (ja fnd))) (hal : ∀ x, al x < 8) (hsb : ∀ x, sb x < 8) (hl : ln ≤ 40) (ht : ∀ j, tx j < 127) {n2 : Nat} {A2 : Nat → MA} {bm2 : Nat → Nat} (hm : sm_rd tx ln false 40 none 0 0 A bm (sp_none oa 10) ol bk 0 = some (n2, A2, bm2)) (hn : n2 ≤ 10) (hgd : sm_good n2 A2 bm2 = false) : jZ (d + 7) 75 0 [some (.ref 92)] [] M (jV (some (.int (jn 3))) fun M' => mI M' (th, ct, li, fl, dn, lg, li2, dn2, ss, fd) tx ln ids szs E al S sb fnd ∧ sm 92 118 M M') := by
  have hrd := t_mrd (d := d + 2) (pt := false) H hl ht
  refine z_go 1 _ [.ref 92] _ c_75_0 rfl ?_
  refine z_go 2 _ [.int (jn 0), .ref 92] _ c_75_1 rfl ?_
  rw [hm] at hrd
  obtain ⟨h40, hok, hk5, hbs⟩ := sm_rd_ok hl hm
  refine z_callvV 5 6 76 1 92 c_75_2 rfl ⟨Nat.le_of_ble_eq_true rfl, Nat.le_of_ble_eq_true rfl⟩ rfl H.1 [.ref 92, .int (jb false)] rfl rfl [some (.ref 92), some (.int (jb false)), none, none, none, none, none, none] rfl rfl (hrd) ?_
  intro M1 ⟨⟨at1, bk1, oa1, ol1, H1⟩, g2⟩
  show jZ _ _ _ _ [.int (jb true)] _ _
  refine z_ifne 10 8 c_75_5 rfl jb_t (fun h => absurd h (by decide)) (fun _ => ?_)
  refine z_go 11 _ [.ref 92] _ c_75_10 rfl ?_
  refine z_getf (v := .int (jn n2)) 14 c_75_11 rfl H1.1 rfl ?_
  refine z_go 16 _ [.int (jn 10), .int (jn n2)] _ c_75_14 rfl ?_
  refine z_ile 21 19 c_75_16 rfl (by omega) (by omega) (fun h10 => ?_) (fun h10 => ?_)
  · omega
  · refine z_go 22 _ [.ref 92] _ c_75_21 rfl ?_
    have hvl := t_mvl (d := d + 5) H1 h40 hbs hok
    cases hv : (sm_vl bm2 n2 n2 0 true A2).1 with
    | false =>
      rw [hv] at hvl
      refine z_callvV 25 6 86 0 92 c_75_22 rfl ⟨Nat.le_of_ble_eq_true rfl, Nat.le_of_ble_eq_true rfl⟩ rfl H1.1 [.ref 92] rfl rfl [some (.ref 92), none, none, none, none, none] rfl rfl (hvl) ?_
      intro M2 ⟨H2, g3⟩
      show jZ _ _ _ _ [.int (jb false)] _ _
      refine z_ifeq 39 28 c_75_25 rfl jb_t (fun _ => ?_) (fun h => absurd rfl h)
      refine z_go 40 _ [.int (jn 3)] _ c_75_39 rfl ?_
      refine z_iret c_75_40 ?_
      exact ⟨rfl, mSh_sm (mSh_of H2) hK hS hX h118 hal hsb (g2.tr g3), (g2.tr g3).wd (by decide) (by decide)⟩
    | true =>
      unfold sm_good at hgd
      rw [hv, Bool.true_and] at hgd
      rw [hv] at hvl
      refine z_callvV 25 6 86 0 92 c_75_22 rfl ⟨Nat.le_of_ble_eq_true rfl, Nat.le_of_ble_eq_true rfl⟩ rfl H1.1 [.ref 92] rfl rfl [some (.ref 92), none, none, none, none, none] rfl rfl (hvl) ?_
      intro M2 ⟨H2, g3⟩
      have hE : ∀ q, q < n2 → aE (sm_vl bm2 n2 n2 0 true A2).2 q < 128 := fun q hq => by have e := (sm_vl_k (bm := bm2) (n := n2) (k := n2) (i := 0) (r := true) (A := A2) q).1; show ((sm_vl bm2 n2 n2 0 true A2).2 q).1 < 128; rw [e]; exact okA_E (hok q hq)
      have hs2 := g2.tr g3
      have hX2 : mXs M2 := mXs_fr hX fun k a b => hs2.1 k (by omega)
      obtain ⟨⟨pu, hpu⟩, tk, htk⟩ := hX2
      show jZ _ _ _ _ [.int (jb true)] _ _
      refine z_ifeq 39 28 c_75_25 rfl jb_t (fun h => absurd h (by decide)) (fun _ => ?_)
      refine z_go 29 _ [.ref 92] _ c_75_28 rfl ?_
      have hmt := t_mmat (d := d + 5) H2 hpu htk hn hE hbs
      rw [sm_tk_vl] at hmt
      rw [hgd] at hmt
      refine z_callvV 32 6 89 0 92 c_75_29 rfl ⟨Nat.le_of_ble_eq_true rfl, Nat.le_of_ble_eq_true rfl⟩ rfl H2.1 [.ref 92] rfl rfl [some (.ref 92), none, none, none, none] rfl rfl (hmt) ?_
      intro M3 ⟨⟨bo, pu3, tk3, hX3⟩, g4⟩
      have H3 : mRd M3 (th, ct, li, fl, dn, lg, li2, dn2, ss, fd) tx ln at1 n2 true (sm_vl bm2 n2 n2 0 true A2).2 bm2 (jk bo) oa1 ol1 := by
        obtain ⟨h92, h93, ⟨h94, h95, h96, h97, h98, h99⟩, h100, h101, h102, h103⟩ := H2
        exact ⟨(g4.1 92 (by decide) (by decide) (by decide)).trans h92, (g4.1 93 (by decide) (by decide) (by decide)).trans h93, ⟨(g4.1 94 (by decide) (by decide) (by decide)).trans h94, (g4.1 95 (by decide) (by decide) (by decide)).trans h95, (g4.1 96 (by decide) (by decide) (by decide)).trans h96, (g4.1 97 (by decide) (by decide) (by decide)).trans h97, (g4.1 98 (by decide) (by decide) (by decide)).trans h98, (g4.1 99 (by decide) (by decide) (by decide)).trans h99⟩, (g4.1 100 (by decide) (by decide) (by decide)).trans h100, by rw [← jao_ja]; exact hX3.1, (g4.1 102 (by decide) (by decide) (by decide)).trans h102, (g4.1 103 (by decide) (by decide) (by decide)).trans h103⟩
      have hX4 : mXs M3 := ⟨⟨pu3, hX3.2.1⟩, tk3, hX3.2.2⟩
      have hs3 : sm 92 118 M M3 := (hs2.wd (by decide) (by decide)).tr (fK_sm g4)
      have hK3 : mKp M3 ids szs E al := mKp_fr hK fun k a b => (g4.1 k (by omega) (by omega) (by omega)).trans (hs2.1 k (by omega))
      have hS3 : mSt M3 S sb := mSt_fr hS fun k a b => (g4.1 k (by omega) (by omega) (by omega)).trans (hs2.1 k (by omega))
      have h118x : M3.1 118 = _ := ((g4.1 118 (by decide) (by decide) (by decide)).trans (hs2.1 118 (by decide))).trans h118
      show jZ _ _ _ _ [.int (jb false)] _ _
      refine z_ifeq 39 35 c_75_32 rfl jb_t (fun _ => ?_) (fun h => absurd rfl h)
      refine z_go 40 _ [.int (jn 3)] _ c_75_39 rfl ?_
      refine z_iret c_75_40 ?_
      exact ⟨rfl, ⟨mSh_of H3, hK3, hS3, hX4, h118x, hal, hsb⟩, hs3⟩
theorem t_mw0 {d : Nat} {th ct li fl lg li2 ss fd : Nat} {dn dn2 : Bool} {tx : Nat → Nat} {ln at_ n : Nat} {gd : Bool} {A : Nat → MA} {bm bk : Nat → Nat} {oa : Nat → Option Nat} {ol : Nat → Nat} {ids szs : Nat → Nat} {E : Nat → MA} {al : Nat → Nat} {S : Nat → MA} {sb fnd : Nat → Nat} {M : jx_M} (H : mRd M (th, ct, li, fl, dn, lg, li2, dn2, ss, fd) tx ln at_ n gd A bm bk oa ol) (hK : mKp M ids szs E al) (hS : mSt M S sb) (hX : mXs M) (h118 : M.1 118 = .inl (0, 12, .inl (ja fnd))) (hal : ∀ x, al x < 8) (hsb : ∀ x, sb x < 8) (hl : ln ≤ 40) (ht : ∀ j, tx j < 127) {n2 : Nat} {A2 : Nat → MA} {bm2 : Nat → Nat} (hm : sm_rd tx ln false 40 none 0 0 A bm (sp_none oa 10) ol bk 0 = some (n2, A2, bm2)) (hn : n2 ≤ 10) (hgd : sm_good n2 A2 bm2 = true) : jZ (d + 7) 75 0 [some (.ref 92)] [] M (jV (some (.int (jn 0))) fun M' => (∃ at1 bk1 oa1 ol1, mRd M' (th, ct, li, fl, dn, lg, li2, dn2, ss, fd) tx ln at1 n2 true (sm_vl bm2 n2 n2 0 true A2).2 bm2 bk1 oa1 ol1) ∧ mKp M' ids szs E al ∧ mSt M' S sb ∧ mXs M' ∧ M'.1 118 = .inl (0, 12, .inl (ja fnd)) ∧ sm 92 118 M M') := by
  have hrd := t_mrd (d := d + 2) (pt := false) H hl ht
  refine z_go 1 _ [.ref 92] _ c_75_0 rfl ?_
  refine z_go 2 _ [.int (jn 0), .ref 92] _ c_75_1 rfl ?_
  rw [hm] at hrd
  obtain ⟨h40, hok, hk5, hbs⟩ := sm_rd_ok hl hm
  refine z_callvV 5 6 76 1 92 c_75_2 rfl ⟨Nat.le_of_ble_eq_true rfl, Nat.le_of_ble_eq_true rfl⟩ rfl H.1 [.ref 92, .int (jb false)] rfl rfl [some (.ref 92), some (.int (jb false)), none, none, none, none, none, none] rfl rfl (hrd) ?_
  intro M1 ⟨⟨at1, bk1, oa1, ol1, H1⟩, g2⟩
  show jZ _ _ _ _ [.int (jb true)] _ _
  refine z_ifne 10 8 c_75_5 rfl jb_t (fun h => absurd h (by decide)) (fun _ => ?_)
  refine z_go 11 _ [.ref 92] _ c_75_10 rfl ?_
  refine z_getf (v := .int (jn n2)) 14 c_75_11 rfl H1.1 rfl ?_
  refine z_go 16 _ [.int (jn 10), .int (jn n2)] _ c_75_14 rfl ?_
  refine z_ile 21 19 c_75_16 rfl (by omega) (by omega) (fun h10 => ?_) (fun h10 => ?_)
  · omega
  · refine z_go 22 _ [.ref 92] _ c_75_21 rfl ?_
    have hvl := t_mvl (d := d + 5) H1 h40 hbs hok
    unfold sm_good at hgd
    rw [Bool.and_eq_true] at hgd
    rw [hgd.1] at hvl
    refine z_callvV 25 6 86 0 92 c_75_22 rfl ⟨Nat.le_of_ble_eq_true rfl, Nat.le_of_ble_eq_true rfl⟩ rfl H1.1 [.ref 92] rfl rfl [some (.ref 92), none, none, none, none, none] rfl rfl (hvl) ?_
    intro M2 ⟨H2, g3⟩
    have hE : ∀ q, q < n2 → aE (sm_vl bm2 n2 n2 0 true A2).2 q < 128 := fun q hq => by have e := (sm_vl_k (bm := bm2) (n := n2) (k := n2) (i := 0) (r := true) (A := A2) q).1; show ((sm_vl bm2 n2 n2 0 true A2).2 q).1 < 128; rw [e]; exact okA_E (hok q hq)
    have hs2 := g2.tr g3
    have hX2 : mXs M2 := mXs_fr hX fun k a b => hs2.1 k (by omega)
    obtain ⟨⟨pu, hpu⟩, tk, htk⟩ := hX2
    show jZ _ _ _ _ [.int (jb true)] _ _
    refine z_ifeq 39 28 c_75_25 rfl jb_t (fun h => absurd h (by decide)) (fun _ => ?_)
    refine z_go 29 _ [.ref 92] _ c_75_28 rfl ?_
    have hmt := t_mmat (d := d + 5) H2 hpu htk hn hE hbs
    rw [sm_tk_vl] at hmt
    rw [hgd.2] at hmt
    refine z_callvV 32 6 89 0 92 c_75_29 rfl ⟨Nat.le_of_ble_eq_true rfl, Nat.le_of_ble_eq_true rfl⟩ rfl H2.1 [.ref 92] rfl rfl [some (.ref 92), none, none, none, none] rfl rfl (hmt) ?_
    intro M3 ⟨⟨bo, pu3, tk3, hX3⟩, g4⟩
    have H3 : mRd M3 (th, ct, li, fl, dn, lg, li2, dn2, ss, fd) tx ln at1 n2 true (sm_vl bm2 n2 n2 0 true A2).2 bm2 (jk bo) oa1 ol1 := by
      obtain ⟨h92, h93, ⟨h94, h95, h96, h97, h98, h99⟩, h100, h101, h102, h103⟩ := H2
      exact ⟨(g4.1 92 (by decide) (by decide) (by decide)).trans h92, (g4.1 93 (by decide) (by decide) (by decide)).trans h93, ⟨(g4.1 94 (by decide) (by decide) (by decide)).trans h94, (g4.1 95 (by decide) (by decide) (by decide)).trans h95, (g4.1 96 (by decide) (by decide) (by decide)).trans h96, (g4.1 97 (by decide) (by decide) (by decide)).trans h97, (g4.1 98 (by decide) (by decide) (by decide)).trans h98, (g4.1 99 (by decide) (by decide) (by decide)).trans h99⟩, (g4.1 100 (by decide) (by decide) (by decide)).trans h100, by rw [← jao_ja]; exact hX3.1, (g4.1 102 (by decide) (by decide) (by decide)).trans h102, (g4.1 103 (by decide) (by decide) (by decide)).trans h103⟩
    have hX4 : mXs M3 := ⟨⟨pu3, hX3.2.1⟩, tk3, hX3.2.2⟩
    have hs3 : sm 92 118 M M3 := (hs2.wd (by decide) (by decide)).tr (fK_sm g4)
    have hK3 : mKp M3 ids szs E al := mKp_fr hK fun k a b => (g4.1 k (by omega) (by omega) (by omega)).trans (hs2.1 k (by omega))
    have hS3 : mSt M3 S sb := mSt_fr hS fun k a b => (g4.1 k (by omega) (by omega) (by omega)).trans (hs2.1 k (by omega))
    have h118x : M3.1 118 = _ := ((g4.1 118 (by decide) (by decide) (by decide)).trans (hs2.1 118 (by decide))).trans h118
    show jZ _ _ _ _ [.int (jb true)] _ _
    refine z_ifeq 39 35 c_75_32 rfl jb_t (fun h => absurd h (by decide)) (fun _ => ?_)
    refine z_go 36 _ [.int (jn 0)] _ c_75_35 rfl ?_
    refine z_go 40 _ [.int (jn 0)] _ c_75_36 rfl ?_
    refine z_iret c_75_40 ?_
    exact ⟨rfl, ⟨at1, jk bo, oa1, ol1, H3⟩, hK3, hS3, hX4, h118x, hs3⟩
theorem t_msm_l {d : Nat} {th ct li fl lg li2 ss fd : Nat} {dn dn2 : Bool} {tx : Nat → Nat} {ln at_ n : Nat} {gd : Bool} {A : Nat → MA} {bm bk : Nat → Nat} {oa : Nat → Option Nat} {ol : Nat → Nat} {ids szs : Nat → Nat} {E : Nat → MA} {al : Nat → Nat} (hn : n ≤ 10) (hct : ct ≤ 12) (hA : ∀ q, q < n → aL A q < 64 ∧ aE A q < 128 ∧ aH A q < 100 ∧ q3 (aQ A q)) (hrow : ∀ g, g < ct → szs g ≤ 10 ∧ ∀ k, k < szs g → okM (E (10 * g + k))) (hbm : bmS n bm) (hal : ∀ x, al x < 8) : ∀ {k i : Nat} {pu : Nat → Option Nat} {M : jx_M}, i + k = ct → mRd M (th, ct, li, fl, dn, lg, li2, dn2, ss, fd) tx ln at_ n gd A bm bk oa ol → mKp M ids szs E al → M.1 111 = .inl (0, 11, .inl (jao pu)) → jZ (d + 4) 92 2 [some (.ref 92), some (.int (jn i))] [] M (jV (some (.int (jo (sp_first (mPM true n A bm szs E al) k i)))) fun M' => fP M M') := by
  intro k
  induction k with
  | zero =>
    intro i pu M hik H hK h111
    refine z_go 3 _ [.int (jn i)] _ c_92_2 rfl ?_
    refine z_go 4 _ [.ref 92, .int (jn i)] _ c_92_3 rfl ?_
    refine z_getf (v := .int (jn ct)) 7 c_92_4 rfl H.1 rfl ?_
    refine z_ige 27 10 c_92_7 rfl (by omega) (by omega) (fun hi => ?_) (fun hi => ?_)
    · omega
    · refine z_go 28 _ [.int (jo none)] _ c_92_27 rfl ?_
      refine z_iret c_92_28 ?_
      exact ⟨rfl, fP_r h111⟩
  | succ k ih =>
    intro i pu M hik H hK h111
    refine z_go 3 _ [.int (jn i)] _ c_92_2 rfl ?_
    refine z_go 4 _ [.ref 92, .int (jn i)] _ c_92_3 rfl ?_
    refine z_getf (v := .int (jn ct)) 7 c_92_4 rfl H.1 rfl ?_
    refine z_ige 27 10 c_92_7 rfl (by omega) (by omega) (fun hi => ?_) (fun hi => ?_)
    · obtain ⟨r1, r2⟩ := hrow i hi
      refine z_go 11 _ [.ref 92] _ c_92_10 rfl ?_
      refine z_go 12 _ [.int (jn i), .ref 92] _ c_92_11 rfl ?_
      refine z_go 13 _ [.int (jn 1), .int (jn i), .ref 92] _ c_92_12 rfl ?_
      refine z_callvV 16 6 93 2 92 c_92_13 rfl ⟨Nat.le_of_ble_eq_true rfl, Nat.le_of_ble_eq_true rfl⟩ rfl H.1 [.ref 92, .int (jn i), .int (jb true)] rfl rfl [some (.ref 92), some (.int (jn i)), some (.int (jb true)), none, none] rfl rfl (t_mcp (d := d) (m := i) (ex := true) hK H h111 hn (by omega) r1 hA r2 hbm hal) ?_
      intro M1 g1
      obtain ⟨pu1, hpu1⟩ := g1.2.2
      have H1 := mRd_fr H (M1 := M1) fun k a b => g1.1 k (by omega)
      have hK1 := mKp_fr hK (M1 := M1) fun k a b => g1.1 k (by omega)
      show jZ _ _ _ _ [.int (jb (mPM true n A bm szs E al i))] _ _
      refine z_ifeq 21 19 c_92_16 rfl jb_t (fun h1 => ?_) (fun h1 => ?_)
      · refine z_iinc 24 [some (.ref 92), some (.int (jn (i + 1)))] c_92_21 rfl rfl (jn_add _ _) rfl ?_
        refine z_go 2 _ [] _ c_92_24 rfl ?_
        refine (ih (i := i + 1) (by omega) H1 hK1 hpu1).mono fun r M2 q => ⟨q.1.trans ?_, g1.tr q.2⟩
        rw [sp_first, if_neg (by rw [h1]; decide)]
      · refine z_go 20 _ [.int (jn i)] _ c_92_19 rfl ?_
        refine z_iret c_92_20 ?_
        exact ⟨by rw [sp_first, if_pos (by cases hh : mPM true n A bm szs E al i <;> simp_all)]; rfl, g1⟩
    · omega
theorem t_msm {d : Nat} {th ct li fl lg li2 ss fd : Nat} {dn dn2 : Bool} {tx : Nat → Nat} {ln at_ n : Nat} {gd : Bool} {A : Nat → MA} {bm bk : Nat → Nat} {oa : Nat → Option Nat} {ol : Nat → Nat} {ids szs : Nat → Nat} {E : Nat → MA} {al : Nat → Nat} (hn : n ≤ 10) (hct : ct ≤ 12) (hA : ∀ q, q < n → aL A q < 64 ∧ aE A q < 128 ∧ aH A q < 100 ∧ q3 (aQ A q)) (hrow : ∀ g, g < ct → szs g ≤ 10 ∧ ∀ k, k < szs g → okM (E (10 * g + k))) (hbm : bmS n bm) (hal : ∀ x, al x < 8) {pu : Nat → Option Nat} {M : jx_M} (H : mRd M (th, ct, li, fl, dn, lg, li2, dn2, ss, fd) tx ln at_ n gd A bm bk oa ol) (hK : mKp M ids szs E al) (h111 : M.1 111 = .inl (0, 11, .inl (jao pu))) : jZ (d + 4) 92 0 [some (.ref 92), none] [] M (jV (some (.int (jo (sp_first (mPM true n A bm szs E al) ct 0)))) fun M' => fP M M') := by
  refine z_go 1 _ [.int (jn 0)] _ c_92_0 rfl ?_
  refine z_go 2 [some (.ref 92), some (.int (jn 0))] [] _ c_92_1 rfl ?_
  exact t_msm_l hn hct hA hrow hbm hal (by omega) H hK h111
theorem sp_first_lt {p : Nat → Bool} : ∀ {k i a : Nat}, sp_first p k i = some a → i ≤ a ∧ a < i + k ∧ p a = true := by
  intro k
  induction k with
  | zero => intro i a h; cases h
  | succ k ih =>
    intro i a h
    rw [sp_first] at h
    split at h
    · rename_i q; cases h; exact ⟨Nat.le_refl _, by omega, q⟩
    · obtain ⟨a1, a2, a3⟩ := ih h
      exact ⟨by omega, by omega, a3⟩
theorem t_mlooD {d : Nat} {th ct li fl lg li2 ss fd : Nat} {dn2 : Bool} {tx : Nat → Nat} {ln at_ n : Nat} {gd : Bool} {A : Nat → MA} {bm bk : Nat → Nat} {oa : Nat → Option Nat} {ol : Nat → Nat} {ids szs : Nat → Nat} {E : Nat → MA} {al : Nat → Nat} {S : Nat → MA} {sb fnd : Nat → Nat} {M : jx_M} (H : mRd M (th, ct, li, fl, true, lg, li2, dn2, ss, fd) tx ln at_ n gd A bm bk oa ol) (hK : mKp M ids szs E al) (hS : mSt M S sb) (hX : mXs M) (h118 : M.1 118 = .inl (0, 12, .inl (ja fnd))) (hal : ∀ x, al x < 8) (hsb : ∀ x, sb x < 8) (hl : ln ≤ 40) (ht : ∀ j, tx j < 127) : jZ (d + 8) 101 0 [some (.ref 92), none, none] [] M (jV (some (.int (jn 0))) fun M' => mI M' (1, ct, li, fl, true, lg, li2, dn2, ss, fd) tx ln ids szs E al S sb fnd ∧ sm 92 118 M M') := by
  have hI0 : mI M (th, ct, li, fl, true, lg, li2, dn2, ss, fd) tx ln ids szs E al S sb fnd := ⟨mSh_of H, hK, hS, hX, h118, hal, hsb⟩
  refine z_go 1 _ [.ref 92] _ c_101_0 rfl ?_
  refine z_getf (v := .int (jb true)) 4 c_101_1 rfl H.1 rfl ?_
  refine z_ifeq 13 7 c_101_4 rfl jb_t (fun h => absurd h (by decide)) (fun _ => ?_)
  refine z_go 8 _ [.ref 92] _ c_101_7 rfl ?_
  refine z_go 9 _ [.int (jn 1), .ref 92] _ c_101_8 rfl ?_
  refine z_callvV 12 6 74 1 92 c_101_9 rfl ⟨Nat.le_of_ble_eq_true rfl, Nat.le_of_ble_eq_true rfl⟩ rfl H.1 [.ref 92, .int (jn 1)] rfl rfl [some (.ref 92), some (.int (jn 1))] rfl rfl (t_mraise (d := d + 7) (c := 1) hI0) ?_
  intro M1 ⟨g1, g2⟩
  show jZ _ _ _ _ [.int (jn 0)] _ _
  refine z_iret c_101_12 ?_
  exact ⟨rfl, g1, g2⟩
theorem t_mloo1 {d : Nat} {th ct li fl lg li2 ss fd : Nat} {dn2 : Bool} {tx : Nat → Nat} {ln at_ n : Nat} {gd : Bool} {A : Nat → MA} {bm bk : Nat → Nat} {oa : Nat → Option Nat} {ol : Nat → Nat} {ids szs : Nat → Nat} {E : Nat → MA} {al : Nat → Nat} {S : Nat → MA} {sb fnd : Nat → Nat} {M : jx_M} (H : mRd M (th, ct, li, fl, false, lg, li2, dn2, ss, fd) tx ln at_ n gd A bm bk oa ol) (hK : mKp M ids szs E al) (hS : mSt M S sb) (hX : mXs M) (h118 : M.1 118 = .inl (0, 12, .inl (ja fnd))) (hal : ∀ x, al x < 8) (hsb : ∀ x, sb x < 8) (hl : ln ≤ 40) (ht : ∀ j, tx j < 127) (hm : sm_rd tx ln false 40 none 0 0 A bm (sp_none oa 10) ol bk 0 = none) : jZ (d + 8) 101 0 [some (.ref 92), none, none] [] M (jV (some (.int (jn 0))) fun M' => mI M' (2, ct, li, fl, false, lg, li2, dn2, ss, fd) tx ln ids szs E al S sb fnd ∧ sm 92 118 M M') := by
  have hI0 : mI M (th, ct, li, fl, false, lg, li2, dn2, ss, fd) tx ln ids szs E al S sb fnd := ⟨mSh_of H, hK, hS, hX, h118, hal, hsb⟩
  refine z_go 1 _ [.ref 92] _ c_101_0 rfl ?_
  refine z_getf (v := .int (jb false)) 4 c_101_1 rfl H.1 rfl ?_
  refine z_ifeq 13 7 c_101_4 rfl jb_t (fun _ => ?_) (fun h => absurd rfl h)
  refine z_go 14 _ [.ref 92] _ c_101_13 rfl ?_
  refine z_callvV 17 6 75 0 92 c_101_14 rfl ⟨Nat.le_of_ble_eq_true rfl, Nat.le_of_ble_eq_true rfl⟩ rfl H.1 [.ref 92] rfl rfl [some (.ref 92)] rfl rfl (t_mw1 (d := d) H hK hS hX h118 hal hsb hl ht hm) ?_
  intro M1 ⟨g1, g2⟩
  have g1a := g1
  obtain ⟨⟨at1, n1, gd1, A1, bm1, bk1, oa1, ol1, H1⟩, g1b⟩ := g1
  show jZ _ _ _ _ [.int (jn 1)] _ _
  refine z_go 18 [some (.ref 92), some (.int (jn 1)), none] [] _ c_101_17 rfl ?_
  refine z_go 19 _ [.int (jn 1)] _ c_101_18 rfl ?_
  refine z_ifle 30 22 c_101_19 rfl (jn_pos (by decide)) (fun _ => ?_) (fun h => absurd (by decide) h)
  refine z_go 23 _ [.ref 92] _ c_101_22 rfl ?_
  refine z_go 24 _ [.int (jn 1), .ref 92] _ c_101_23 rfl ?_
  refine z_go 25 _ [.int (jn 1), .int (jn 1), .ref 92] _ c_101_24 rfl ?_
  refine z_go 26 _ [.int ((jn 1) + (jn 1)), .ref 92] _ c_101_25 rfl ?_
  refine z_v (jn_add _ _) ?_
  refine z_callvV 29 6 74 1 92 c_101_26 rfl ⟨Nat.le_of_ble_eq_true rfl, Nat.le_of_ble_eq_true rfl⟩ rfl H1.1 [.ref 92, .int (jn (1 + 1))] rfl rfl [some (.ref 92), some (.int (jn (1 + 1)))] rfl rfl (t_mraise (d := d + 7) (c := 1 + 1) g1a) ?_
  intro M2 ⟨g3, g4⟩
  show jZ _ _ _ _ [.int (jn 0)] _ _
  refine z_iret c_101_29 ?_
  exact ⟨rfl, g3, g2.tr g4⟩
theorem t_mloo2 {d : Nat} {th ct li fl lg li2 ss fd : Nat} {dn2 : Bool} {tx : Nat → Nat} {ln at_ n : Nat} {gd : Bool} {A : Nat → MA} {bm bk : Nat → Nat} {oa : Nat → Option Nat} {ol : Nat → Nat} {ids szs : Nat → Nat} {E : Nat → MA} {al : Nat → Nat} {S : Nat → MA} {sb fnd : Nat → Nat} {M : jx_M} (H : mRd M (th, ct, li, fl, false, lg, li2, dn2, ss, fd) tx ln at_ n gd A bm bk oa ol) (hK : mKp M ids szs E al) (hS : mSt M S sb) (hX : mXs M) (h118 : M.1 118 = .inl (0, 12, .inl (ja fnd))) (hal : ∀ x, al x < 8) (hsb : ∀ x, sb x < 8) (hl : ln ≤ 40) (ht : ∀ j, tx j < 127) {n2 : Nat} {A2 : Nat → MA} {bm2 : Nat → Nat} (hm : sm_rd tx ln false 40 none 0 0 A bm (sp_none oa 10) ol bk 0 = some (n2, A2, bm2)) (hn : 10 < n2) : jZ (d + 8) 101 0 [some (.ref 92), none, none] [] M (jV (some (.int (jn 0))) fun M' => mI M' (3, ct, li, fl, false, lg, li2, dn2, ss, fd) tx ln ids szs E al S sb fnd ∧ sm 92 118 M M') := by
  have hI0 : mI M (th, ct, li, fl, false, lg, li2, dn2, ss, fd) tx ln ids szs E al S sb fnd := ⟨mSh_of H, hK, hS, hX, h118, hal, hsb⟩
  refine z_go 1 _ [.ref 92] _ c_101_0 rfl ?_
  refine z_getf (v := .int (jb false)) 4 c_101_1 rfl H.1 rfl ?_
  refine z_ifeq 13 7 c_101_4 rfl jb_t (fun _ => ?_) (fun h => absurd rfl h)
  refine z_go 14 _ [.ref 92] _ c_101_13 rfl ?_
  refine z_callvV 17 6 75 0 92 c_101_14 rfl ⟨Nat.le_of_ble_eq_true rfl, Nat.le_of_ble_eq_true rfl⟩ rfl H.1 [.ref 92] rfl rfl [some (.ref 92)] rfl rfl (t_mw2 (d := d) H hK hS hX h118 hal hsb hl ht hm hn) ?_
  intro M1 ⟨g1, g2⟩
  have g1a := g1
  obtain ⟨⟨at1, n1, gd1, A1, bm1, bk1, oa1, ol1, H1⟩, g1b⟩ := g1
  show jZ _ _ _ _ [.int (jn 2)] _ _
  refine z_go 18 [some (.ref 92), some (.int (jn 2)), none] [] _ c_101_17 rfl ?_
  refine z_go 19 _ [.int (jn 2)] _ c_101_18 rfl ?_
  refine z_ifle 30 22 c_101_19 rfl (jn_pos (by decide)) (fun _ => ?_) (fun h => absurd (by decide) h)
  refine z_go 23 _ [.ref 92] _ c_101_22 rfl ?_
  refine z_go 24 _ [.int (jn 2), .ref 92] _ c_101_23 rfl ?_
  refine z_go 25 _ [.int (jn 1), .int (jn 2), .ref 92] _ c_101_24 rfl ?_
  refine z_go 26 _ [.int ((jn 2) + (jn 1)), .ref 92] _ c_101_25 rfl ?_
  refine z_v (jn_add _ _) ?_
  refine z_callvV 29 6 74 1 92 c_101_26 rfl ⟨Nat.le_of_ble_eq_true rfl, Nat.le_of_ble_eq_true rfl⟩ rfl H1.1 [.ref 92, .int (jn (2 + 1))] rfl rfl [some (.ref 92), some (.int (jn (2 + 1)))] rfl rfl (t_mraise (d := d + 7) (c := 2 + 1) g1a) ?_
  intro M2 ⟨g3, g4⟩
  show jZ _ _ _ _ [.int (jn 0)] _ _
  refine z_iret c_101_29 ?_
  exact ⟨rfl, g3, g2.tr g4⟩
theorem t_mloo3 {d : Nat} {th ct li fl lg li2 ss fd : Nat} {dn2 : Bool} {tx : Nat → Nat} {ln at_ n : Nat} {gd : Bool} {A : Nat → MA} {bm bk : Nat → Nat} {oa : Nat → Option Nat} {ol : Nat → Nat} {ids szs : Nat → Nat} {E : Nat → MA} {al : Nat → Nat} {S : Nat → MA} {sb fnd : Nat → Nat} {M : jx_M} (H : mRd M (th, ct, li, fl, false, lg, li2, dn2, ss, fd) tx ln at_ n gd A bm bk oa ol) (hK : mKp M ids szs E al) (hS : mSt M S sb) (hX : mXs M) (h118 : M.1 118 = .inl (0, 12, .inl (ja fnd))) (hal : ∀ x, al x < 8) (hsb : ∀ x, sb x < 8) (hl : ln ≤ 40) (ht : ∀ j, tx j < 127) {n2 : Nat} {A2 : Nat → MA} {bm2 : Nat → Nat} (hm : sm_rd tx ln false 40 none 0 0 A bm (sp_none oa 10) ol bk 0 = some (n2, A2, bm2)) (hn : n2 ≤ 10) (hgd : sm_good n2 A2 bm2 = false) : jZ (d + 8) 101 0 [some (.ref 92), none, none] [] M (jV (some (.int (jn 0))) fun M' => mI M' (4, ct, li, fl, false, lg, li2, dn2, ss, fd) tx ln ids szs E al S sb fnd ∧ sm 92 118 M M') := by
  have hI0 : mI M (th, ct, li, fl, false, lg, li2, dn2, ss, fd) tx ln ids szs E al S sb fnd := ⟨mSh_of H, hK, hS, hX, h118, hal, hsb⟩
  refine z_go 1 _ [.ref 92] _ c_101_0 rfl ?_
  refine z_getf (v := .int (jb false)) 4 c_101_1 rfl H.1 rfl ?_
  refine z_ifeq 13 7 c_101_4 rfl jb_t (fun _ => ?_) (fun h => absurd rfl h)
  refine z_go 14 _ [.ref 92] _ c_101_13 rfl ?_
  refine z_callvV 17 6 75 0 92 c_101_14 rfl ⟨Nat.le_of_ble_eq_true rfl, Nat.le_of_ble_eq_true rfl⟩ rfl H.1 [.ref 92] rfl rfl [some (.ref 92)] rfl rfl (t_mw3 (d := d) H hK hS hX h118 hal hsb hl ht hm hn hgd) ?_
  intro M1 ⟨g1, g2⟩
  have g1a := g1
  obtain ⟨⟨at1, n1, gd1, A1, bm1, bk1, oa1, ol1, H1⟩, g1b⟩ := g1
  show jZ _ _ _ _ [.int (jn 3)] _ _
  refine z_go 18 [some (.ref 92), some (.int (jn 3)), none] [] _ c_101_17 rfl ?_
  refine z_go 19 _ [.int (jn 3)] _ c_101_18 rfl ?_
  refine z_ifle 30 22 c_101_19 rfl (jn_pos (by decide)) (fun _ => ?_) (fun h => absurd (by decide) h)
  refine z_go 23 _ [.ref 92] _ c_101_22 rfl ?_
  refine z_go 24 _ [.int (jn 3), .ref 92] _ c_101_23 rfl ?_
  refine z_go 25 _ [.int (jn 1), .int (jn 3), .ref 92] _ c_101_24 rfl ?_
  refine z_go 26 _ [.int ((jn 3) + (jn 1)), .ref 92] _ c_101_25 rfl ?_
  refine z_v (jn_add _ _) ?_
  refine z_callvV 29 6 74 1 92 c_101_26 rfl ⟨Nat.le_of_ble_eq_true rfl, Nat.le_of_ble_eq_true rfl⟩ rfl H1.1 [.ref 92, .int (jn (3 + 1))] rfl rfl [some (.ref 92), some (.int (jn (3 + 1)))] rfl rfl (t_mraise (d := d + 7) (c := 3 + 1) g1a) ?_
  intro M2 ⟨g3, g4⟩
  show jZ _ _ _ _ [.int (jn 0)] _ _
  refine z_iret c_101_29 ?_
  exact ⟨rfl, g3, g2.tr g4⟩
theorem t_mregD {d : Nat} {th ct li fl lg li2 ss fd : Nat} {dn2 : Bool} {tx : Nat → Nat} {ln at_ n : Nat} {gd : Bool} {A : Nat → MA} {bm bk : Nat → Nat} {oa : Nat → Option Nat} {ol : Nat → Nat} {ids szs : Nat → Nat} {E : Nat → MA} {al : Nat → Nat} {S : Nat → MA} {sb fnd : Nat → Nat} {M : jx_M} (H : mRd M (th, ct, li, fl, true, lg, li2, dn2, ss, fd) tx ln at_ n gd A bm bk oa ol) (hK : mKp M ids szs E al) (hS : mSt M S sb) (hX : mXs M) (h118 : M.1 118 = .inl (0, 12, .inl (ja fnd))) (hal : ∀ x, al x < 8) (hsb : ∀ x, sb x < 8) (hl : ln ≤ 40) (ht : ∀ j, tx j < 127) : jZ (d + 8) 73 0 [some (.ref 92), none, none, none] [] M (jV (some (.int (jn 0))) fun M' => mI M' (1, ct, li, fl, true, lg, li2, dn2, ss, fd) tx ln ids szs E al S sb fnd ∧ sm 92 118 M M') := by
  have hI0 : mI M (th, ct, li, fl, true, lg, li2, dn2, ss, fd) tx ln ids szs E al S sb fnd := ⟨mSh_of H, hK, hS, hX, h118, hal, hsb⟩
  refine z_go 1 _ [.ref 92] _ c_73_0 rfl ?_
  refine z_getf (v := .int (jb true)) 4 c_73_1 rfl H.1 rfl ?_
  refine z_ifeq 13 7 c_73_4 rfl jb_t (fun h => absurd h (by decide)) (fun _ => ?_)
  refine z_go 8 _ [.ref 92] _ c_73_7 rfl ?_
  refine z_go 9 _ [.int (jn 1), .ref 92] _ c_73_8 rfl ?_
  refine z_callvV 12 6 74 1 92 c_73_9 rfl ⟨Nat.le_of_ble_eq_true rfl, Nat.le_of_ble_eq_true rfl⟩ rfl H.1 [.ref 92, .int (jn 1)] rfl rfl [some (.ref 92), some (.int (jn 1))] rfl rfl (t_mraise (d := d + 7) (c := 1) hI0) ?_
  intro M1 ⟨g1, g2⟩
  show jZ _ _ _ _ [.int (jn 0)] _ _
  refine z_iret c_73_12 ?_
  exact ⟨rfl, g1, g2⟩
theorem t_mreg1 {d : Nat} {th ct li fl lg li2 ss fd : Nat} {dn2 : Bool} {tx : Nat → Nat} {ln at_ n : Nat} {gd : Bool} {A : Nat → MA} {bm bk : Nat → Nat} {oa : Nat → Option Nat} {ol : Nat → Nat} {ids szs : Nat → Nat} {E : Nat → MA} {al : Nat → Nat} {S : Nat → MA} {sb fnd : Nat → Nat} {M : jx_M} (H : mRd M (th, ct, li, fl, false, lg, li2, dn2, ss, fd) tx ln at_ n gd A bm bk oa ol) (hK : mKp M ids szs E al) (hS : mSt M S sb) (hX : mXs M) (h118 : M.1 118 = .inl (0, 12, .inl (ja fnd))) (hal : ∀ x, al x < 8) (hsb : ∀ x, sb x < 8) (hl : ln ≤ 40) (ht : ∀ j, tx j < 127) (hm : sm_rd tx ln false 40 none 0 0 A bm (sp_none oa 10) ol bk 0 = none) : jZ (d + 8) 73 0 [some (.ref 92), none, none, none] [] M (jV (some (.int (jn 0))) fun M' => mI M' (2, ct, li, fl, false, lg, li2, dn2, ss, fd) tx ln ids szs E al S sb fnd ∧ sm 92 118 M M') := by
  have hI0 : mI M (th, ct, li, fl, false, lg, li2, dn2, ss, fd) tx ln ids szs E al S sb fnd := ⟨mSh_of H, hK, hS, hX, h118, hal, hsb⟩
  refine z_go 1 _ [.ref 92] _ c_73_0 rfl ?_
  refine z_getf (v := .int (jb false)) 4 c_73_1 rfl H.1 rfl ?_
  refine z_ifeq 13 7 c_73_4 rfl jb_t (fun _ => ?_) (fun h => absurd rfl h)
  refine z_go 14 _ [.ref 92] _ c_73_13 rfl ?_
  refine z_callvV 17 6 75 0 92 c_73_14 rfl ⟨Nat.le_of_ble_eq_true rfl, Nat.le_of_ble_eq_true rfl⟩ rfl H.1 [.ref 92] rfl rfl [some (.ref 92)] rfl rfl (t_mw1 (d := d) H hK hS hX h118 hal hsb hl ht hm) ?_
  intro M1 ⟨g1, g2⟩
  have g1a := g1
  obtain ⟨⟨at1, n1, gd1, A1, bm1, bk1, oa1, ol1, H1⟩, g1b⟩ := g1
  show jZ _ _ _ _ [.int (jn 1)] _ _
  refine z_go 18 [some (.ref 92), some (.int (jn 1)), none, none] [] _ c_73_17 rfl ?_
  refine z_go 19 _ [.int (jn 1)] _ c_73_18 rfl ?_
  refine z_ifle 30 22 c_73_19 rfl (jn_pos (by decide)) (fun _ => ?_) (fun h => absurd (by decide) h)
  refine z_go 23 _ [.ref 92] _ c_73_22 rfl ?_
  refine z_go 24 _ [.int (jn 1), .ref 92] _ c_73_23 rfl ?_
  refine z_go 25 _ [.int (jn 1), .int (jn 1), .ref 92] _ c_73_24 rfl ?_
  refine z_go 26 _ [.int ((jn 1) + (jn 1)), .ref 92] _ c_73_25 rfl ?_
  refine z_v (jn_add _ _) ?_
  refine z_callvV 29 6 74 1 92 c_73_26 rfl ⟨Nat.le_of_ble_eq_true rfl, Nat.le_of_ble_eq_true rfl⟩ rfl H1.1 [.ref 92, .int (jn (1 + 1))] rfl rfl [some (.ref 92), some (.int (jn (1 + 1)))] rfl rfl (t_mraise (d := d + 7) (c := 1 + 1) g1a) ?_
  intro M2 ⟨g3, g4⟩
  show jZ _ _ _ _ [.int (jn 0)] _ _
  refine z_iret c_73_29 ?_
  exact ⟨rfl, g3, g2.tr g4⟩
theorem t_mreg2 {d : Nat} {th ct li fl lg li2 ss fd : Nat} {dn2 : Bool} {tx : Nat → Nat} {ln at_ n : Nat} {gd : Bool} {A : Nat → MA} {bm bk : Nat → Nat} {oa : Nat → Option Nat} {ol : Nat → Nat} {ids szs : Nat → Nat} {E : Nat → MA} {al : Nat → Nat} {S : Nat → MA} {sb fnd : Nat → Nat} {M : jx_M} (H : mRd M (th, ct, li, fl, false, lg, li2, dn2, ss, fd) tx ln at_ n gd A bm bk oa ol) (hK : mKp M ids szs E al) (hS : mSt M S sb) (hX : mXs M) (h118 : M.1 118 = .inl (0, 12, .inl (ja fnd))) (hal : ∀ x, al x < 8) (hsb : ∀ x, sb x < 8) (hl : ln ≤ 40) (ht : ∀ j, tx j < 127) {n2 : Nat} {A2 : Nat → MA} {bm2 : Nat → Nat} (hm : sm_rd tx ln false 40 none 0 0 A bm (sp_none oa 10) ol bk 0 = some (n2, A2, bm2)) (hn : 10 < n2) : jZ (d + 8) 73 0 [some (.ref 92), none, none, none] [] M (jV (some (.int (jn 0))) fun M' => mI M' (3, ct, li, fl, false, lg, li2, dn2, ss, fd) tx ln ids szs E al S sb fnd ∧ sm 92 118 M M') := by
  have hI0 : mI M (th, ct, li, fl, false, lg, li2, dn2, ss, fd) tx ln ids szs E al S sb fnd := ⟨mSh_of H, hK, hS, hX, h118, hal, hsb⟩
  refine z_go 1 _ [.ref 92] _ c_73_0 rfl ?_
  refine z_getf (v := .int (jb false)) 4 c_73_1 rfl H.1 rfl ?_
  refine z_ifeq 13 7 c_73_4 rfl jb_t (fun _ => ?_) (fun h => absurd rfl h)
  refine z_go 14 _ [.ref 92] _ c_73_13 rfl ?_
  refine z_callvV 17 6 75 0 92 c_73_14 rfl ⟨Nat.le_of_ble_eq_true rfl, Nat.le_of_ble_eq_true rfl⟩ rfl H.1 [.ref 92] rfl rfl [some (.ref 92)] rfl rfl (t_mw2 (d := d) H hK hS hX h118 hal hsb hl ht hm hn) ?_
  intro M1 ⟨g1, g2⟩
  have g1a := g1
  obtain ⟨⟨at1, n1, gd1, A1, bm1, bk1, oa1, ol1, H1⟩, g1b⟩ := g1
  show jZ _ _ _ _ [.int (jn 2)] _ _
  refine z_go 18 [some (.ref 92), some (.int (jn 2)), none, none] [] _ c_73_17 rfl ?_
  refine z_go 19 _ [.int (jn 2)] _ c_73_18 rfl ?_
  refine z_ifle 30 22 c_73_19 rfl (jn_pos (by decide)) (fun _ => ?_) (fun h => absurd (by decide) h)
  refine z_go 23 _ [.ref 92] _ c_73_22 rfl ?_
  refine z_go 24 _ [.int (jn 2), .ref 92] _ c_73_23 rfl ?_
  refine z_go 25 _ [.int (jn 1), .int (jn 2), .ref 92] _ c_73_24 rfl ?_
  refine z_go 26 _ [.int ((jn 2) + (jn 1)), .ref 92] _ c_73_25 rfl ?_
  refine z_v (jn_add _ _) ?_
  refine z_callvV 29 6 74 1 92 c_73_26 rfl ⟨Nat.le_of_ble_eq_true rfl, Nat.le_of_ble_eq_true rfl⟩ rfl H1.1 [.ref 92, .int (jn (2 + 1))] rfl rfl [some (.ref 92), some (.int (jn (2 + 1)))] rfl rfl (t_mraise (d := d + 7) (c := 2 + 1) g1a) ?_
  intro M2 ⟨g3, g4⟩
  show jZ _ _ _ _ [.int (jn 0)] _ _
  refine z_iret c_73_29 ?_
  exact ⟨rfl, g3, g2.tr g4⟩
theorem t_mreg3 {d : Nat} {th ct li fl lg li2 ss fd : Nat} {dn2 : Bool} {tx : Nat → Nat} {ln at_ n : Nat} {gd : Bool} {A : Nat → MA} {bm bk : Nat → Nat} {oa : Nat → Option Nat} {ol : Nat → Nat} {ids szs : Nat → Nat} {E : Nat → MA} {al : Nat → Nat} {S : Nat → MA} {sb fnd : Nat → Nat} {M : jx_M} (H : mRd M (th, ct, li, fl, false, lg, li2, dn2, ss, fd) tx ln at_ n gd A bm bk oa ol) (hK : mKp M ids szs E al) (hS : mSt M S sb) (hX : mXs M) (h118 : M.1 118 = .inl (0, 12, .inl (ja fnd))) (hal : ∀ x, al x < 8) (hsb : ∀ x, sb x < 8) (hl : ln ≤ 40) (ht : ∀ j, tx j < 127) {n2 : Nat} {A2 : Nat → MA} {bm2 : Nat → Nat} (hm : sm_rd tx ln false 40 none 0 0 A bm (sp_none oa 10) ol bk 0 = some (n2, A2, bm2)) (hn : n2 ≤ 10) (hgd : sm_good n2 A2 bm2 = false) : jZ (d + 8) 73 0 [some (.ref 92), none, none, none] [] M (jV (some (.int (jn 0))) fun M' => mI M' (4, ct, li, fl, false, lg, li2, dn2, ss, fd) tx ln ids szs E al S sb fnd ∧ sm 92 118 M M') := by
  have hI0 : mI M (th, ct, li, fl, false, lg, li2, dn2, ss, fd) tx ln ids szs E al S sb fnd := ⟨mSh_of H, hK, hS, hX, h118, hal, hsb⟩
  refine z_go 1 _ [.ref 92] _ c_73_0 rfl ?_
  refine z_getf (v := .int (jb false)) 4 c_73_1 rfl H.1 rfl ?_
  refine z_ifeq 13 7 c_73_4 rfl jb_t (fun _ => ?_) (fun h => absurd rfl h)
  refine z_go 14 _ [.ref 92] _ c_73_13 rfl ?_
  refine z_callvV 17 6 75 0 92 c_73_14 rfl ⟨Nat.le_of_ble_eq_true rfl, Nat.le_of_ble_eq_true rfl⟩ rfl H.1 [.ref 92] rfl rfl [some (.ref 92)] rfl rfl (t_mw3 (d := d) H hK hS hX h118 hal hsb hl ht hm hn hgd) ?_
  intro M1 ⟨g1, g2⟩
  have g1a := g1
  obtain ⟨⟨at1, n1, gd1, A1, bm1, bk1, oa1, ol1, H1⟩, g1b⟩ := g1
  show jZ _ _ _ _ [.int (jn 3)] _ _
  refine z_go 18 [some (.ref 92), some (.int (jn 3)), none, none] [] _ c_73_17 rfl ?_
  refine z_go 19 _ [.int (jn 3)] _ c_73_18 rfl ?_
  refine z_ifle 30 22 c_73_19 rfl (jn_pos (by decide)) (fun _ => ?_) (fun h => absurd (by decide) h)
  refine z_go 23 _ [.ref 92] _ c_73_22 rfl ?_
  refine z_go 24 _ [.int (jn 3), .ref 92] _ c_73_23 rfl ?_
  refine z_go 25 _ [.int (jn 1), .int (jn 3), .ref 92] _ c_73_24 rfl ?_
  refine z_go 26 _ [.int ((jn 3) + (jn 1)), .ref 92] _ c_73_25 rfl ?_
  refine z_v (jn_add _ _) ?_
  refine z_callvV 29 6 74 1 92 c_73_26 rfl ⟨Nat.le_of_ble_eq_true rfl, Nat.le_of_ble_eq_true rfl⟩ rfl H1.1 [.ref 92, .int (jn (3 + 1))] rfl rfl [some (.ref 92), some (.int (jn (3 + 1)))] rfl rfl (t_mraise (d := d + 7) (c := 3 + 1) g1a) ?_
  intro M2 ⟨g3, g4⟩
  show jZ _ _ _ _ [.int (jn 0)] _ _
  refine z_iret c_73_29 ?_
  exact ⟨rfl, g3, g2.tr g4⟩
theorem t_mloo {d : Nat} {th ct li fl lg li2 ss fd : Nat} {dn2 : Bool} {tx : Nat → Nat} {ln at_ n : Nat} {gd : Bool} {A : Nat → MA} {bm bk : Nat → Nat} {oa : Nat → Option Nat} {ol : Nat → Nat} {ids szs : Nat → Nat} {E : Nat → MA} {al : Nat → Nat} {S : Nat → MA} {sb fnd : Nat → Nat} {M : jx_M} (H : mRd M (th, ct, li, fl, false, lg, li2, dn2, ss, fd) tx ln at_ n gd A bm bk oa ol) (hK : mKp M ids szs E al) (hS : mSt M S sb) (hX : mXs M) (h118 : M.1 118 = .inl (0, 12, .inl (ja fnd))) (hal : ∀ x, al x < 8) (hsb : ∀ x, sb x < 8) (hl : ln ≤ 40) (ht : ∀ j, tx j < 127) {n2 : Nat} {A2 : Nat → MA} {bm2 : Nat → Nat} (hm : sm_rd tx ln false 40 none 0 0 A bm (sp_none oa 10) ol bk 0 = some (n2, A2, bm2)) (hn : n2 ≤ 10) (hgd : sm_good n2 A2 bm2 = true) (hct : ct ≤ 12) (hrow : ∀ g, g < ct → szs g ≤ 10 ∧ ∀ k, k < szs g → okM (E (10 * g + k))) (hoM : ∀ j, j < n2 → okM ((sm_vl bm2 n2 n2 0 true A2).2 j)) : jZ (d + 8) 101 0 [some (.ref 92), none, none] [] M (jV (some (.int (jn (match sp_first (mPM true n2 (sm_vl bm2 n2 n2 0 true A2).2 bm2 szs E al) ct 0 with | none => 0 | some s => ids s)))) fun M' => mI M' (0, ct, li, fl, false, lg, li2, dn2, ss, fd) tx 0 ids szs E al S sb fnd ∧ sm 92 118 M M') := by
  obtain ⟨h40, hok, hk5, hbs⟩ := sm_rd_ok hl hm
  have hA : ∀ q, q < n2 → aL (sm_vl bm2 n2 n2 0 true A2).2 q < 64 ∧ aE (sm_vl bm2 n2 n2 0 true A2).2 q < 128 ∧ aH (sm_vl bm2 n2 n2 0 true A2).2 q < 100 ∧ q3 (aQ (sm_vl bm2 n2 n2 0 true A2).2 q) := fun q hq => okM_4 (hoM q hq)
  refine z_go 1 _ [.ref 92] _ c_101_0 rfl ?_
  refine z_getf (v := .int (jb false)) 4 c_101_1 rfl H.1 rfl ?_
  refine z_ifeq 13 7 c_101_4 rfl jb_t (fun _ => ?_) (fun h => absurd rfl h)
  refine z_go 14 _ [.ref 92] _ c_101_13 rfl ?_
  refine z_callvV 17 6 75 0 92 c_101_14 rfl ⟨Nat.le_of_ble_eq_true rfl, Nat.le_of_ble_eq_true rfl⟩ rfl H.1 [.ref 92] rfl rfl [some (.ref 92)] rfl rfl (t_mw0 (d := d) H hK hS hX h118 hal hsb hl ht hm hn hgd) ?_
  intro M1 ⟨⟨at1, bk1, oa1, ol1, H1⟩, hK1, hS1, hX1, h1181, g2⟩
  show jZ _ _ _ _ [.int (jn 0)] _ _
  refine z_go 18 [some (.ref 92), some (.int (jn 0)), none] [] _ c_101_17 rfl ?_
  refine z_go 19 _ [.int (jn 0)] _ c_101_18 rfl ?_
  refine z_ifle 30 22 c_101_19 rfl (jn_pos (by decide)) (fun h => absurd h (by decide)) (fun _ => ?_)
  refine z_go 31 _ [.ref 92] _ c_101_30 rfl ?_
  refine z_go 32 _ [.int (jn 0), .ref 92] _ c_101_31 rfl ?_
  refine z_putf (M' := jm [(92, mO 0 ln at1 n2 true ct li fl false lg li2 dn2 ss fd)] M1) 35 c_101_32 rfl H1.1 (rfl) (Nat.le_of_ble_eq_true rfl) rfl ?_
  refine z_go 36 _ [.ref 92] _ c_101_35 rfl ?_
  refine z_go 37 _ [.int (jn 0), .ref 92] _ c_101_36 rfl ?_
  refine z_putf (M' := jm [(92, mO 0 0 at1 n2 true ct li fl false lg li2 dn2 ss fd)] M1) 40 c_101_37 rfl rfl (rfl) (Nat.le_of_ble_eq_true rfl) (jm_w rfl) ?_
  refine z_go 41 _ [.ref 92] _ c_101_40 rfl ?_
  have H2 : mRd (jm [(92, mO 0 0 at1 n2 true ct li fl false lg li2 dn2 ss fd)] M1) (0, ct, li, fl, false, lg, li2, dn2, ss, fd) tx 0 at1 n2 true (sm_vl bm2 n2 n2 0 true A2).2 bm2 bk1 oa1 ol1 := mRd_w H1 rfl fun k a b => if_neg (by omega)
  have hK2 : mKp (jm [(92, mO 0 0 at1 n2 true ct li fl false lg li2 dn2 ss fd)] M1) ids szs E al := mKp_fr hK1 fun k a b => if_neg (by omega)
  obtain ⟨⟨pu, hpu⟩, tk, htk⟩ := hX1
  refine z_callvV 44 6 92 0 92 c_101_41 rfl ⟨Nat.le_of_ble_eq_true rfl, Nat.le_of_ble_eq_true rfl⟩ rfl rfl [.ref 92] rfl rfl [some (.ref 92), none] rfl rfl (t_msm (d := d + 3) hn hct hA hrow hbs hal H2 hK2 hpu) ?_
  intro M2 g5
  have hf : sm 92 118 M M2 := (g2.tr (sm_jm rfl)).tr (fP_sm g5)
  have hw : ∀ k, k ≠ 92 → k ≠ 111 → M2.1 k = M1.1 k := fun k a b => (g5.1 k b).trans (if_neg a)
  have hI2 : mI M2 (0, ct, li, fl, false, lg, li2, dn2, ss, fd) tx 0 ids szs E al S sb fnd := ⟨⟨at1, n2, true, (sm_vl bm2 n2 n2 0 true A2).2, bm2, bk1, oa1, ol1, mRd_fr H2 fun k a b => g5.1 k (by omega)⟩, mKp_fr hK2 fun k a b => g5.1 k (by omega), mSt_fr hS1 fun k a b => hw k (by omega) (by omega), ⟨g5.2.2, tk, (hw 112 (by decide) (by decide)).trans htk⟩, (hw 118 (by decide) (by decide)).trans h1181, hal, hsb⟩
  show jZ _ _ _ _ [.int (jo (sp_first (mPM true n2 (sm_vl bm2 n2 n2 0 true A2).2 bm2 szs E al) ct 0))] _ _
  cases hsf : sp_first (mPM true n2 (sm_vl bm2 n2 n2 0 true A2).2 bm2 szs E al) ct 0 with
  | none =>
    show jZ _ _ _ _ [.int (jo none)] _ _
    refine z_go 45 [some (.ref 92), some (.int (jn 0)), some (.int (jo none))] [] _ c_101_44 rfl ?_
    refine z_go 46 _ [.int (jo none)] _ c_101_45 rfl ?_
    refine z_ifge 53 49 c_101_46 rfl (jo_lt (by intro k q; cases q)) (fun hz => ?_) (fun hz => ?_)
    · refine z_go 50 _ [.int (jn 0)] _ c_101_49 rfl ?_
      refine z_go 59 _ [.int (jn 0)] _ c_101_50 rfl ?_
      refine z_iret c_101_59 ?_
      exact ⟨rfl, hI2, hf⟩
    · exact absurd rfl hz
  | some s =>
    obtain ⟨-, hs1, -⟩ := sp_first_lt hsf
    show jZ _ _ _ _ [.int (jn s)] _ _
    refine z_go 45 [some (.ref 92), some (.int (jn 0)), some (.int (jn s))] [] _ c_101_44 rfl ?_
    refine z_go 46 _ [.int (jn s)] _ c_101_45 rfl ?_
    refine z_ifge 53 49 c_101_46 rfl (jn_nl (by omega)) (fun hz => ?_) (fun hz => ?_)
    · exact hz.elim
    · refine z_go 54 _ [.ref 92] _ c_101_53 rfl ?_
      refine z_getf (v := .ref 104) 57 c_101_54 rfl ((g5.1 92 (by decide)).trans rfl) rfl ?_
      refine z_go 58 _ [.int (jn s), .ref 104] _ c_101_57 rfl ?_
      refine z_iald 59 c_101_58 rfl ((g5.1 104 (by decide)).trans hK2.1) (Or.inl rfl) (by omega) (by omega) ?_
      show jZ _ _ _ _ ([.int (jn (ids s))]) _ _
      refine z_iret c_101_59 ?_
      exact ⟨rfl, hI2, hf⟩
theorem t_mregF {d : Nat} {th ct li fl lg li2 ss fd : Nat} {dn2 : Bool} {tx : Nat → Nat} {ln at_ n : Nat} {gd : Bool} {A : Nat → MA} {bm bk : Nat → Nat} {oa : Nat → Option Nat} {ol : Nat → Nat} {ids szs : Nat → Nat} {E : Nat → MA} {al : Nat → Nat} {S : Nat → MA} {sb fnd : Nat → Nat} {M : jx_M} (H : mRd M (th, ct, li, fl, false, lg, li2, dn2, ss, fd) tx ln at_ n gd A bm bk oa ol) (hK : mKp M ids szs E al) (hS : mSt M S sb) (hX : mXs M) (h118 : M.1 118 = .inl (0, 12, .inl (ja fnd))) (hal : ∀ x, al x < 8) (hsb : ∀ x, sb x < 8) (hl : ln ≤ 40) (ht : ∀ j, tx j < 127) {n2 : Nat} {A2 : Nat → MA} {bm2 : Nat → Nat} (hm : sm_rd tx ln false 40 none 0 0 A bm (sp_none oa 10) ol bk 0 = some (n2, A2, bm2)) (hn : n2 ≤ 10) (hgd : sm_good n2 A2 bm2 = true) (hct : ct ≤ 12) (hrow : ∀ g, g < ct → szs g ≤ 10 ∧ ∀ k, k < szs g → okM (E (10 * g + k))) (hoM : ∀ j, j < n2 → okM ((sm_vl bm2 n2 n2 0 true A2).2 j)) {s : Nat} (hsf : sp_first (mPM true n2 (sm_vl bm2 n2 n2 0 true A2).2 bm2 szs E al) ct 0 = some s) : jZ (d + 8) 73 0 [some (.ref 92), none, none, none] [] M (jV (some (.int (jn (ids s)))) fun M' => mI M' (0, ct, li, fl, false, lg, li2, dn2, ss, fd) tx 0 ids szs E al S sb fnd ∧ sm 92 118 M M') := by
  obtain ⟨h40, hok, hk5, hbs⟩ := sm_rd_ok hl hm
  have hA : ∀ q, q < n2 → aL (sm_vl bm2 n2 n2 0 true A2).2 q < 64 ∧ aE (sm_vl bm2 n2 n2 0 true A2).2 q < 128 ∧ aH (sm_vl bm2 n2 n2 0 true A2).2 q < 100 ∧ q3 (aQ (sm_vl bm2 n2 n2 0 true A2).2 q) := fun q hq => okM_4 (hoM q hq)
  refine z_go 1 _ [.ref 92] _ c_73_0 rfl ?_
  refine z_getf (v := .int (jb false)) 4 c_73_1 rfl H.1 rfl ?_
  refine z_ifeq 13 7 c_73_4 rfl jb_t (fun _ => ?_) (fun h => absurd rfl h)
  refine z_go 14 _ [.ref 92] _ c_73_13 rfl ?_
  refine z_callvV 17 6 75 0 92 c_73_14 rfl ⟨Nat.le_of_ble_eq_true rfl, Nat.le_of_ble_eq_true rfl⟩ rfl H.1 [.ref 92] rfl rfl [some (.ref 92)] rfl rfl (t_mw0 (d := d) H hK hS hX h118 hal hsb hl ht hm hn hgd) ?_
  intro M1 ⟨⟨at1, bk1, oa1, ol1, H1⟩, hK1, hS1, hX1, h1181, g2⟩
  show jZ _ _ _ _ [.int (jn 0)] _ _
  refine z_go 18 [some (.ref 92), some (.int (jn 0)), none, none] [] _ c_73_17 rfl ?_
  refine z_go 19 _ [.int (jn 0)] _ c_73_18 rfl ?_
  refine z_ifle 30 22 c_73_19 rfl (jn_pos (by decide)) (fun h => absurd h (by decide)) (fun _ => ?_)
  have hX1a := hX1
  obtain ⟨⟨pu, hpu⟩, tk, htk⟩ := hX1
  refine z_go 31 _ [.ref 92] _ c_73_30 rfl ?_
  refine z_callvV 34 6 92 0 92 c_73_31 rfl ⟨Nat.le_of_ble_eq_true rfl, Nat.le_of_ble_eq_true rfl⟩ rfl H1.1 [.ref 92] rfl rfl [some (.ref 92), none] rfl rfl (t_msm (d := d + 3) hn hct hA hrow hbs hal H1 hK1 hpu) ?_
  intro M2 g5
  have hf : sm 92 118 M M2 := g2.tr (fP_sm g5)
  have H2 := mRd_fr H1 (M1 := M2) fun k a b => g5.1 k (by omega)
  have hK2 := mKp_fr hK1 (M1 := M2) fun k a b => g5.1 k (by omega)
  have hS2 := mSt_fr hS1 (M1 := M2) fun k a b => g5.1 k (by omega)
  have hX2 : mXs M2 := ⟨g5.2.2, tk, (g5.1 112 (by decide)).trans htk⟩
  have h1182 : M2.1 118 = .inl (0, 12, .inl (ja fnd)) := (g5.1 118 (by decide)).trans h1181
  show jZ _ _ _ _ [.int (jo (sp_first (mPM true n2 (sm_vl bm2 n2 n2 0 true A2).2 bm2 szs E al) ct 0))] _ _
  rw [hsf]
  obtain ⟨-, hs1, -⟩ := sp_first_lt hsf
  show jZ _ _ _ _ [.int (jn s)] _ _
  refine z_go 35 [some (.ref 92), some (.int (jn 0)), some (.int (jn s)), none] [] _ c_73_34 rfl ?_
  refine z_go 36 _ [.int (jn s)] _ c_73_35 rfl ?_
  refine z_ifge 54 39 c_73_36 rfl (jn_nl (by omega)) (fun hz => ?_) (fun hz => ?_)
  · exact hz.elim
  · refine z_go 55 _ [.ref 92] _ c_73_54 rfl ?_
    refine z_go 56 _ [.int (jn 0), .ref 92] _ c_73_55 rfl ?_
    refine z_putf (M' := jm [(92, mO 0 ln at1 n2 true ct li fl false lg li2 dn2 ss fd)] M2) 59 c_73_56 rfl H2.1 (rfl) (Nat.le_of_ble_eq_true rfl) rfl ?_
    refine z_go 60 _ [.ref 92] _ c_73_59 rfl ?_
    refine z_go 61 _ [.int (jn 0), .ref 92] _ c_73_60 rfl ?_
    refine z_putf (M' := jm [(92, mO 0 0 at1 n2 true ct li fl false lg li2 dn2 ss fd)] M2) 64 c_73_61 rfl rfl (rfl) (Nat.le_of_ble_eq_true rfl) (jm_w rfl) ?_
    refine z_go 65 _ [.int (jn s)] _ c_73_64 rfl ?_
    refine z_iflt 75 68 c_73_65 rfl (jn_nl (by omega)) (fun hz2 => ?_) (fun hz2 => ?_)
    · exact hz2.elim
    · refine z_go 69 _ [.ref 92] _ c_73_68 rfl ?_
      refine z_getf (v := .ref 104) 72 c_73_69 rfl rfl rfl ?_
      refine z_go 73 _ [.int (jn s), .ref 104] _ c_73_72 rfl ?_
      refine z_iald 74 c_73_73 rfl hK2.1 (Or.inl rfl) (by omega) (by omega) ?_
      show jZ _ _ _ _ ([.int (jn (ids s))]) _ _
      refine z_iret c_73_74 ?_
      exact ⟨rfl, mI_x H2 hK2 hS2 hX2 h1182 hal hsb (sm_jm rfl) rfl, hf.tr (sm_jm rfl)⟩
theorem t_mregU {d : Nat} {th ct li fl lg li2 ss fd : Nat} {dn2 : Bool} {tx : Nat → Nat} {ln at_ n : Nat} {gd : Bool} {A : Nat → MA} {bm bk : Nat → Nat} {oa : Nat → Option Nat} {ol : Nat → Nat} {ids szs : Nat → Nat} {E : Nat → MA} {al : Nat → Nat} {S : Nat → MA} {sb fnd : Nat → Nat} {M : jx_M} (H : mRd M (th, ct, li, fl, false, lg, li2, dn2, ss, fd) tx ln at_ n gd A bm bk oa ol) (hK : mKp M ids szs E al) (hS : mSt M S sb) (hX : mXs M) (h118 : M.1 118 = .inl (0, 12, .inl (ja fnd))) (hal : ∀ x, al x < 8) (hsb : ∀ x, sb x < 8) (hl : ln ≤ 40) (ht : ∀ j, tx j < 127) {n2 : Nat} {A2 : Nat → MA} {bm2 : Nat → Nat} (hm : sm_rd tx ln false 40 none 0 0 A bm (sp_none oa 10) ol bk 0 = some (n2, A2, bm2)) (hn : n2 ≤ 10) (hgd : sm_good n2 A2 bm2 = true) (hct : ct ≤ 12) (hrow : ∀ g, g < ct → szs g ≤ 10 ∧ ∀ k, k < szs g → okM (E (10 * g + k))) (hoM : ∀ j, j < n2 → okM ((sm_vl bm2 n2 n2 0 true A2).2 j)) (hsf : sp_first (mPM true n2 (sm_vl bm2 n2 n2 0 true A2).2 bm2 szs E al) ct 0 = none) (hu : ct = 12) : jZ (d + 8) 73 0 [some (.ref 92), none, none, none] [] M (jV (some (.int (jn 0))) fun M' => mI M' (5, ct, li, fl, false, lg, li2, dn2, ss, fd) tx ln ids szs E al S sb fnd ∧ sm 92 118 M M') := by
  obtain ⟨h40, hok, hk5, hbs⟩ := sm_rd_ok hl hm
  have hA : ∀ q, q < n2 → aL (sm_vl bm2 n2 n2 0 true A2).2 q < 64 ∧ aE (sm_vl bm2 n2 n2 0 true A2).2 q < 128 ∧ aH (sm_vl bm2 n2 n2 0 true A2).2 q < 100 ∧ q3 (aQ (sm_vl bm2 n2 n2 0 true A2).2 q) := fun q hq => okM_4 (hoM q hq)
  refine z_go 1 _ [.ref 92] _ c_73_0 rfl ?_
  refine z_getf (v := .int (jb false)) 4 c_73_1 rfl H.1 rfl ?_
  refine z_ifeq 13 7 c_73_4 rfl jb_t (fun _ => ?_) (fun h => absurd rfl h)
  refine z_go 14 _ [.ref 92] _ c_73_13 rfl ?_
  refine z_callvV 17 6 75 0 92 c_73_14 rfl ⟨Nat.le_of_ble_eq_true rfl, Nat.le_of_ble_eq_true rfl⟩ rfl H.1 [.ref 92] rfl rfl [some (.ref 92)] rfl rfl (t_mw0 (d := d) H hK hS hX h118 hal hsb hl ht hm hn hgd) ?_
  intro M1 ⟨⟨at1, bk1, oa1, ol1, H1⟩, hK1, hS1, hX1, h1181, g2⟩
  show jZ _ _ _ _ [.int (jn 0)] _ _
  refine z_go 18 [some (.ref 92), some (.int (jn 0)), none, none] [] _ c_73_17 rfl ?_
  refine z_go 19 _ [.int (jn 0)] _ c_73_18 rfl ?_
  refine z_ifle 30 22 c_73_19 rfl (jn_pos (by decide)) (fun h => absurd h (by decide)) (fun _ => ?_)
  have hX1a := hX1
  obtain ⟨⟨pu, hpu⟩, tk, htk⟩ := hX1
  refine z_go 31 _ [.ref 92] _ c_73_30 rfl ?_
  refine z_callvV 34 6 92 0 92 c_73_31 rfl ⟨Nat.le_of_ble_eq_true rfl, Nat.le_of_ble_eq_true rfl⟩ rfl H1.1 [.ref 92] rfl rfl [some (.ref 92), none] rfl rfl (t_msm (d := d + 3) hn hct hA hrow hbs hal H1 hK1 hpu) ?_
  intro M2 g5
  have hf : sm 92 118 M M2 := g2.tr (fP_sm g5)
  have H2 := mRd_fr H1 (M1 := M2) fun k a b => g5.1 k (by omega)
  have hK2 := mKp_fr hK1 (M1 := M2) fun k a b => g5.1 k (by omega)
  have hS2 := mSt_fr hS1 (M1 := M2) fun k a b => g5.1 k (by omega)
  have hX2 : mXs M2 := ⟨g5.2.2, tk, (g5.1 112 (by decide)).trans htk⟩
  have h1182 : M2.1 118 = .inl (0, 12, .inl (ja fnd)) := (g5.1 118 (by decide)).trans h1181
  show jZ _ _ _ _ [.int (jo (sp_first (mPM true n2 (sm_vl bm2 n2 n2 0 true A2).2 bm2 szs E al) ct 0))] _ _
  rw [hsf]
  show jZ _ _ _ _ [.int (jo none)] _ _
  refine z_go 35 [some (.ref 92), some (.int (jn 0)), some (.int (jo none)), none] [] _ c_73_34 rfl ?_
  refine z_go 36 _ [.int (jo none)] _ c_73_35 rfl ?_
  refine z_ifge 54 39 c_73_36 rfl (jo_lt (by intro k q; cases q)) (fun hz => ?_) (fun hz => ?_)
  · refine z_go 40 _ [.ref 92] _ c_73_39 rfl ?_
    refine z_getf (v := .int (jn ct)) 43 c_73_40 rfl H2.1 rfl ?_
    refine z_go 45 _ [.int (jn 12), .int (jn ct)] _ c_73_43 rfl ?_
    refine z_ine 54 48 c_73_45 rfl (jn_inj (by omega) (by omega)) (fun h12 => ?_) (fun h12 => ?_)
    · refine z_go 49 _ [.ref 92] _ c_73_48 rfl ?_
      refine z_go 50 _ [.int (jn 5), .ref 92] _ c_73_49 rfl ?_
      refine z_callvV 53 6 74 1 92 c_73_50 rfl ⟨Nat.le_of_ble_eq_true rfl, Nat.le_of_ble_eq_true rfl⟩ rfl H2.1 [.ref 92, .int (jn 5)] rfl rfl [some (.ref 92), some (.int (jn 5))] rfl rfl (t_mraise (d := d + 7) (c := 5) ⟨mSh_of H2, hK2, hS2, hX2, h1182, hal, hsb⟩) ?_
      intro M3 ⟨g7, g8⟩
      show jZ _ _ _ _ [.int (jn 0)] _ _
      refine z_iret c_73_53 ?_
      exact ⟨rfl, g7, hf.tr g8⟩
    · exact absurd hu h12
  · exact absurd rfl hz
theorem t_mregN0 {d : Nat} {th ct li lg li2 ss fd : Nat} {dn2 : Bool} {tx : Nat → Nat} {ln at_ n : Nat} {gd : Bool} {A : Nat → MA} {bm bk : Nat → Nat} {oa : Nat → Option Nat} {ol : Nat → Nat} {ids szs : Nat → Nat} {E : Nat → MA} {al : Nat → Nat} {S : Nat → MA} {sb fnd : Nat → Nat} {M : jx_M} (H : mRd M (th, ct, li, 0, false, lg, li2, dn2, ss, fd) tx ln at_ n gd A bm bk oa ol) (hK : mKp M ids szs E al) (hS : mSt M S sb) (hX : mXs M) (h118 : M.1 118 = .inl (0, 12, .inl (ja fnd))) (hal : ∀ x, al x < 8) (hsb : ∀ x, sb x < 8) (hl : ln ≤ 40) (ht : ∀ j, tx j < 127) {n2 : Nat} {A2 : Nat → MA} {bm2 : Nat → Nat} (hm : sm_rd tx ln false 40 none 0 0 A bm (sp_none oa 10) ol bk 0 = some (n2, A2, bm2)) (hn : n2 ≤ 10) (hgd : sm_good n2 A2 bm2 = true) (hct : ct ≤ 12) (hrow : ∀ g, g < ct → szs g ≤ 10 ∧ ∀ k, k < szs g → okM (E (10 * g + k))) (hoM : ∀ j, j < n2 → okM ((sm_vl bm2 n2 n2 0 true A2).2 j)) (hsf : sp_first (mPM true n2 (sm_vl bm2 n2 n2 0 true A2).2 bm2 szs E al) ct 0 = none) (hu : ct < 12) (hli : li < 1000000) : jZ (d + 8) 73 0 [some (.ref 92), none, none, none] [] M (jV (some (.int (jn (li + 1)))) fun M' => (∃ S' sb', (∀ t, t < n2 → S' t = (sm_vl bm2 n2 n2 0 true A2).2 t) ∧ (∀ t u, t < n2 → u < n2 → sb' (10 * t + u) = bm2 (40 * t + u)) ∧ ∃ E' al', mI M' (0, (ct + 1), (li + 1), 0, false, 0, (li + 1), true, n2, 0) tx 0 (nu ids ct (li + 1)) (nu szs ct n2) E' al' S' sb' fnd ∧ (∀ t, t < n2 → E' (10 * ct + t) = S' t) ∧ (∀ t u, t < n2 → u < n2 → al' (100 * ct + 10 * t + u) = sb' (10 * t + u)) ∧ ∀ s, s ≠ ct → rowE E' al' s E al s) ∧ sm 92 118 M M') := by
  obtain ⟨h40, hok, hk5, hbs⟩ := sm_rd_ok hl hm
  have hA : ∀ q, q < n2 → aL (sm_vl bm2 n2 n2 0 true A2).2 q < 64 ∧ aE (sm_vl bm2 n2 n2 0 true A2).2 q < 128 ∧ aH (sm_vl bm2 n2 n2 0 true A2).2 q < 100 ∧ q3 (aQ (sm_vl bm2 n2 n2 0 true A2).2 q) := fun q hq => okM_4 (hoM q hq)
  refine z_go 1 _ [.ref 92] _ c_73_0 rfl ?_
  refine z_getf (v := .int (jb false)) 4 c_73_1 rfl H.1 rfl ?_
  refine z_ifeq 13 7 c_73_4 rfl jb_t (fun _ => ?_) (fun h => absurd rfl h)
  refine z_go 14 _ [.ref 92] _ c_73_13 rfl ?_
  refine z_callvV 17 6 75 0 92 c_73_14 rfl ⟨Nat.le_of_ble_eq_true rfl, Nat.le_of_ble_eq_true rfl⟩ rfl H.1 [.ref 92] rfl rfl [some (.ref 92)] rfl rfl (t_mw0 (d := d) H hK hS hX h118 hal hsb hl ht hm hn hgd) ?_
  intro M1 ⟨⟨at1, bk1, oa1, ol1, H1⟩, hK1, hS1, hX1, h1181, g2⟩
  show jZ _ _ _ _ [.int (jn 0)] _ _
  refine z_go 18 [some (.ref 92), some (.int (jn 0)), none, none] [] _ c_73_17 rfl ?_
  refine z_go 19 _ [.int (jn 0)] _ c_73_18 rfl ?_
  refine z_ifle 30 22 c_73_19 rfl (jn_pos (by decide)) (fun h => absurd h (by decide)) (fun _ => ?_)
  have hX1a := hX1
  obtain ⟨⟨pu, hpu⟩, tk, htk⟩ := hX1
  refine z_go 31 _ [.ref 92] _ c_73_30 rfl ?_
  refine z_callvV 34 6 92 0 92 c_73_31 rfl ⟨Nat.le_of_ble_eq_true rfl, Nat.le_of_ble_eq_true rfl⟩ rfl H1.1 [.ref 92] rfl rfl [some (.ref 92), none] rfl rfl (t_msm (d := d + 3) hn hct hA hrow hbs hal H1 hK1 hpu) ?_
  intro M2 g5
  have hf : sm 92 118 M M2 := g2.tr (fP_sm g5)
  have H2 := mRd_fr H1 (M1 := M2) fun k a b => g5.1 k (by omega)
  have hK2 := mKp_fr hK1 (M1 := M2) fun k a b => g5.1 k (by omega)
  have hS2 := mSt_fr hS1 (M1 := M2) fun k a b => g5.1 k (by omega)
  have hX2 : mXs M2 := ⟨g5.2.2, tk, (g5.1 112 (by decide)).trans htk⟩
  have h1182 : M2.1 118 = .inl (0, 12, .inl (ja fnd)) := (g5.1 118 (by decide)).trans h1181
  show jZ _ _ _ _ [.int (jo (sp_first (mPM true n2 (sm_vl bm2 n2 n2 0 true A2).2 bm2 szs E al) ct 0))] _ _
  rw [hsf]
  show jZ _ _ _ _ [.int (jo none)] _ _
  refine z_go 35 [some (.ref 92), some (.int (jn 0)), some (.int (jo none)), none] [] _ c_73_34 rfl ?_
  refine z_go 36 _ [.int (jo none)] _ c_73_35 rfl ?_
  refine z_ifge 54 39 c_73_36 rfl (jo_lt (by intro k q; cases q)) (fun hz => ?_) (fun hz => ?_)
  · refine z_go 40 _ [.ref 92] _ c_73_39 rfl ?_
    refine z_getf (v := .int (jn ct)) 43 c_73_40 rfl H2.1 rfl ?_
    refine z_go 45 _ [.int (jn 12), .int (jn ct)] _ c_73_43 rfl ?_
    refine z_ine 54 48 c_73_45 rfl (jn_inj (by omega) (by omega)) (fun h12 => ?_) (fun h12 => ?_)
    · omega
    · refine z_go 55 _ [.ref 92] _ c_73_54 rfl ?_
      refine z_go 56 _ [.int (jn 0), .ref 92] _ c_73_55 rfl ?_
      refine z_putf (M' := jm [(92, mO 0 ln at1 n2 true ct li 0 false lg li2 dn2 ss fd)] M2) 59 c_73_56 rfl H2.1 (rfl) (Nat.le_of_ble_eq_true rfl) rfl ?_
      refine z_go 60 _ [.ref 92] _ c_73_59 rfl ?_
      refine z_go 61 _ [.int (jn 0), .ref 92] _ c_73_60 rfl ?_
      refine z_putf (M' := jm [(92, mO 0 0 at1 n2 true ct li 0 false lg li2 dn2 ss fd)] M2) 64 c_73_61 rfl rfl (rfl) (Nat.le_of_ble_eq_true rfl) (jm_w rfl) ?_
      refine z_go 65 _ [.int (jo none)] _ c_73_64 rfl ?_
      refine z_iflt 75 68 c_73_65 rfl (jo_lt (by intro k q; cases q)) (fun hz2 => ?_) (fun hz2 => ?_)
      · refine z_go 76 _ [.ref 92] _ c_73_75 rfl ?_
        have H3 : mRd (jm [(92, mO 0 0 at1 n2 true ct li 0 false lg li2 dn2 ss fd)] M2) (0, ct, li, 0, false, lg, li2, dn2, ss, fd) tx 0 at1 n2 true (sm_vl bm2 n2 n2 0 true A2).2 bm2 bk1 oa1 ol1 := mRd_w H2 rfl fun k a b => if_neg (by omega)
        have hS3 : mSt (jm [(92, mO 0 0 at1 n2 true ct li 0 false lg li2 dn2 ss fd)] M2) S sb := mSt_fr hS2 fun k a b => if_neg (by omega)
        refine z_callvV 79 6 96 0 92 c_73_76 rfl ⟨Nat.le_of_ble_eq_true rfl, Nat.le_of_ble_eq_true rfl⟩ rfl rfl [.ref 92] rfl rfl [some (.ref 92), none, none] rfl rfl (t_mkt (d := d + 7) H3 hS3 hsb hn hbs) ?_
        intro M4 ⟨H4, ⟨S4, sb4, hS4, y1, y2, hsb4⟩, g6, g7⟩
        have hw4 : ∀ k, k ≠ 92 → k < 113 ∨ 117 < k → M4.1 k = M2.1 k := fun k a b => (g6 k a b trivial).trans (if_neg a)
        have hs4 : sm 92 118 M M4 := hf.tr ⟨fun k hk => hw4 k (by omega) (by omega), g7⟩
        have hK4 : mKp M4 ids szs E al := mKp_fr hK2 fun k a b => hw4 k (by omega) (by omega)
        have hX4 : mXs M4 := mXs_fr hX2 fun k a b => hw4 k (by omega) (by omega)
        have h1184 : M4.1 118 = .inl (0, 12, .inl (ja fnd)) := (hw4 118 (by decide) (by decide)).trans h1182
        show jZ _ _ _ _ [] _ _
        refine z_go 80 _ [.ref 92] _ c_73_79 rfl ?_
        refine z_getf (v := .int (jn li)) 83 c_73_80 rfl H4.1 rfl ?_
        refine z_go 84 _ [.int (jn 1), .int (jn li)] _ c_73_83 rfl ?_
        refine z_go 85 _ [.int ((jn li) + (jn 1))] _ c_73_84 rfl ?_
        refine z_v (jn_add _ _) ?_
        refine z_go 86 [some (.ref 92), some (.int (jn 0)), some (.int (jo none)), some (.int (jn (li + 1)))] [] _ c_73_85 rfl ?_
        refine z_go 87 _ [.ref 92] _ c_73_86 rfl ?_
        refine z_go 88 _ [.int (jn 1), .ref 92] _ c_73_87 rfl ?_
        refine z_go 89 _ [.int (jn (li + 1)), .int (jn 1), .ref 92] _ c_73_88 rfl ?_
        refine z_callvV 92 6 97 2 92 c_73_89 rfl ⟨Nat.le_of_ble_eq_true rfl, Nat.le_of_ble_eq_true rfl⟩ rfl H4.1 [.ref 92, .int (jn 1), .int (jn (li + 1))] rfl rfl [some (.ref 92), some (.int (jn 1)), some (.int (jn (li + 1))), none] rfl rfl (t_mchP0 (d := d + 5) (ln := 0) (at_ := at1) (n := n2) (gd := true) (th := 0) (ct := ct) (li := li) (dn := false) (lg := lg) (li2 := li2) (dn2 := dn2) (ss := n2) (fd := fd) (S := S4) (sb := sb4) (id := li + 1) hK4 hal H4.1 hS4 hsb4 hn hu) ?_
        intro M5 ⟨g8, g9, g10⟩
        have hs5 : sm 92 118 M M5 := hs4.tr (fQ_sm g10)
        show jZ _ _ _ _ [.int (jb true)] _ _
        refine z_ifeq 99 95 c_73_92 rfl jb_t (fun h => absurd h (by decide)) (fun _ => ?_)
        refine z_go 96 _ [.int (jn (li + 1))] _ c_73_95 rfl ?_
        refine z_go 101 _ [.int (jn (li + 1))] _ c_73_96 rfl ?_
        refine z_iret c_73_101 ?_
        obtain ⟨E9, al9, z1, z2, z3, z4, z5⟩ := g9
        exact ⟨rfl, ⟨S4, sb4, y1, y2, E9, al9, mI_Q H4 hS4 hX4 h1184 hsb4 g10 g8 z1 z5, z2, z3, z4⟩, hs5⟩
      · exact absurd rfl hz2
  · exact absurd rfl hz
theorem t_mregN1 {d : Nat} {th ct li lg li2 ss fd : Nat} {dn2 : Bool} {tx : Nat → Nat} {ln at_ n : Nat} {gd : Bool} {A : Nat → MA} {bm bk : Nat → Nat} {oa : Nat → Option Nat} {ol : Nat → Nat} {ids szs : Nat → Nat} {E : Nat → MA} {al : Nat → Nat} {S : Nat → MA} {sb fnd : Nat → Nat} {M : jx_M} (H : mRd M (th, ct, li, 1, false, lg, li2, dn2, ss, fd) tx ln at_ n gd A bm bk oa ol) (hK : mKp M ids szs E al) (hS : mSt M S sb) (hX : mXs M) (h118 : M.1 118 = .inl (0, 12, .inl (ja fnd))) (hal : ∀ x, al x < 8) (hsb : ∀ x, sb x < 8) (hl : ln ≤ 40) (ht : ∀ j, tx j < 127) {n2 : Nat} {A2 : Nat → MA} {bm2 : Nat → Nat} (hm : sm_rd tx ln false 40 none 0 0 A bm (sp_none oa 10) ol bk 0 = some (n2, A2, bm2)) (hn : n2 ≤ 10) (hgd : sm_good n2 A2 bm2 = true) (hct : ct ≤ 12) (hrow : ∀ g, g < ct → szs g ≤ 10 ∧ ∀ k, k < szs g → okM (E (10 * g + k))) (hoM : ∀ j, j < n2 → okM ((sm_vl bm2 n2 n2 0 true A2).2 j)) (hsf : sp_first (mPM true n2 (sm_vl bm2 n2 n2 0 true A2).2 bm2 szs E al) ct 0 = none) (hu : ct < 12) (hli : li < 1000000) : jZ (d + 8) 73 0 [some (.ref 92), none, none, none] [] M (jV (some (.int (-2))) fun M' => (∃ S' sb', (∀ t, t < n2 → S' t = (sm_vl bm2 n2 n2 0 true A2).2 t) ∧ (∀ t u, t < n2 → u < n2 → sb' (10 * t + u) = bm2 (40 * t + u)) ∧ mI M' (0, ct, li, 0, true, 0, li2, dn2, n2, 0) tx 0 ids szs E al S' sb' fnd) ∧ sm 92 118 M M') := by
  obtain ⟨h40, hok, hk5, hbs⟩ := sm_rd_ok hl hm
  have hA : ∀ q, q < n2 → aL (sm_vl bm2 n2 n2 0 true A2).2 q < 64 ∧ aE (sm_vl bm2 n2 n2 0 true A2).2 q < 128 ∧ aH (sm_vl bm2 n2 n2 0 true A2).2 q < 100 ∧ q3 (aQ (sm_vl bm2 n2 n2 0 true A2).2 q) := fun q hq => okM_4 (hoM q hq)
  refine z_go 1 _ [.ref 92] _ c_73_0 rfl ?_
  refine z_getf (v := .int (jb false)) 4 c_73_1 rfl H.1 rfl ?_
  refine z_ifeq 13 7 c_73_4 rfl jb_t (fun _ => ?_) (fun h => absurd rfl h)
  refine z_go 14 _ [.ref 92] _ c_73_13 rfl ?_
  refine z_callvV 17 6 75 0 92 c_73_14 rfl ⟨Nat.le_of_ble_eq_true rfl, Nat.le_of_ble_eq_true rfl⟩ rfl H.1 [.ref 92] rfl rfl [some (.ref 92)] rfl rfl (t_mw0 (d := d) H hK hS hX h118 hal hsb hl ht hm hn hgd) ?_
  intro M1 ⟨⟨at1, bk1, oa1, ol1, H1⟩, hK1, hS1, hX1, h1181, g2⟩
  show jZ _ _ _ _ [.int (jn 0)] _ _
  refine z_go 18 [some (.ref 92), some (.int (jn 0)), none, none] [] _ c_73_17 rfl ?_
  refine z_go 19 _ [.int (jn 0)] _ c_73_18 rfl ?_
  refine z_ifle 30 22 c_73_19 rfl (jn_pos (by decide)) (fun h => absurd h (by decide)) (fun _ => ?_)
  have hX1a := hX1
  obtain ⟨⟨pu, hpu⟩, tk, htk⟩ := hX1
  refine z_go 31 _ [.ref 92] _ c_73_30 rfl ?_
  refine z_callvV 34 6 92 0 92 c_73_31 rfl ⟨Nat.le_of_ble_eq_true rfl, Nat.le_of_ble_eq_true rfl⟩ rfl H1.1 [.ref 92] rfl rfl [some (.ref 92), none] rfl rfl (t_msm (d := d + 3) hn hct hA hrow hbs hal H1 hK1 hpu) ?_
  intro M2 g5
  have hf : sm 92 118 M M2 := g2.tr (fP_sm g5)
  have H2 := mRd_fr H1 (M1 := M2) fun k a b => g5.1 k (by omega)
  have hK2 := mKp_fr hK1 (M1 := M2) fun k a b => g5.1 k (by omega)
  have hS2 := mSt_fr hS1 (M1 := M2) fun k a b => g5.1 k (by omega)
  have hX2 : mXs M2 := ⟨g5.2.2, tk, (g5.1 112 (by decide)).trans htk⟩
  have h1182 : M2.1 118 = .inl (0, 12, .inl (ja fnd)) := (g5.1 118 (by decide)).trans h1181
  show jZ _ _ _ _ [.int (jo (sp_first (mPM true n2 (sm_vl bm2 n2 n2 0 true A2).2 bm2 szs E al) ct 0))] _ _
  rw [hsf]
  show jZ _ _ _ _ [.int (jo none)] _ _
  refine z_go 35 [some (.ref 92), some (.int (jn 0)), some (.int (jo none)), none] [] _ c_73_34 rfl ?_
  refine z_go 36 _ [.int (jo none)] _ c_73_35 rfl ?_
  refine z_ifge 54 39 c_73_36 rfl (jo_lt (by intro k q; cases q)) (fun hz => ?_) (fun hz => ?_)
  · refine z_go 40 _ [.ref 92] _ c_73_39 rfl ?_
    refine z_getf (v := .int (jn ct)) 43 c_73_40 rfl H2.1 rfl ?_
    refine z_go 45 _ [.int (jn 12), .int (jn ct)] _ c_73_43 rfl ?_
    refine z_ine 54 48 c_73_45 rfl (jn_inj (by omega) (by omega)) (fun h12 => ?_) (fun h12 => ?_)
    · omega
    · refine z_go 55 _ [.ref 92] _ c_73_54 rfl ?_
      refine z_go 56 _ [.int (jn 0), .ref 92] _ c_73_55 rfl ?_
      refine z_putf (M' := jm [(92, mO 0 ln at1 n2 true ct li 1 false lg li2 dn2 ss fd)] M2) 59 c_73_56 rfl H2.1 (rfl) (Nat.le_of_ble_eq_true rfl) rfl ?_
      refine z_go 60 _ [.ref 92] _ c_73_59 rfl ?_
      refine z_go 61 _ [.int (jn 0), .ref 92] _ c_73_60 rfl ?_
      refine z_putf (M' := jm [(92, mO 0 0 at1 n2 true ct li 1 false lg li2 dn2 ss fd)] M2) 64 c_73_61 rfl rfl (rfl) (Nat.le_of_ble_eq_true rfl) (jm_w rfl) ?_
      refine z_go 65 _ [.int (jo none)] _ c_73_64 rfl ?_
      refine z_iflt 75 68 c_73_65 rfl (jo_lt (by intro k q; cases q)) (fun hz2 => ?_) (fun hz2 => ?_)
      · refine z_go 76 _ [.ref 92] _ c_73_75 rfl ?_
        have H3 : mRd (jm [(92, mO 0 0 at1 n2 true ct li 1 false lg li2 dn2 ss fd)] M2) (0, ct, li, 1, false, lg, li2, dn2, ss, fd) tx 0 at1 n2 true (sm_vl bm2 n2 n2 0 true A2).2 bm2 bk1 oa1 ol1 := mRd_w H2 rfl fun k a b => if_neg (by omega)
        have hS3 : mSt (jm [(92, mO 0 0 at1 n2 true ct li 1 false lg li2 dn2 ss fd)] M2) S sb := mSt_fr hS2 fun k a b => if_neg (by omega)
        refine z_callvV 79 6 96 0 92 c_73_76 rfl ⟨Nat.le_of_ble_eq_true rfl, Nat.le_of_ble_eq_true rfl⟩ rfl rfl [.ref 92] rfl rfl [some (.ref 92), none, none] rfl rfl (t_mkt (d := d + 7) H3 hS3 hsb hn hbs) ?_
        intro M4 ⟨H4, ⟨S4, sb4, hS4, y1, y2, hsb4⟩, g6, g7⟩
        have hw4 : ∀ k, k ≠ 92 → k < 113 ∨ 117 < k → M4.1 k = M2.1 k := fun k a b => (g6 k a b trivial).trans (if_neg a)
        have hs4 : sm 92 118 M M4 := hf.tr ⟨fun k hk => hw4 k (by omega) (by omega), g7⟩
        have hK4 : mKp M4 ids szs E al := mKp_fr hK2 fun k a b => hw4 k (by omega) (by omega)
        have hX4 : mXs M4 := mXs_fr hX2 fun k a b => hw4 k (by omega) (by omega)
        have h1184 : M4.1 118 = .inl (0, 12, .inl (ja fnd)) := (hw4 118 (by decide) (by decide)).trans h1182
        show jZ _ _ _ _ [] _ _
        refine z_go 80 _ [.ref 92] _ c_73_79 rfl ?_
        refine z_getf (v := .int (jn li)) 83 c_73_80 rfl H4.1 rfl ?_
        refine z_go 84 _ [.int (jn 1), .int (jn li)] _ c_73_83 rfl ?_
        refine z_go 85 _ [.int ((jn li) + (jn 1))] _ c_73_84 rfl ?_
        refine z_v (jn_add _ _) ?_
        refine z_go 86 [some (.ref 92), some (.int (jn 0)), some (.int (jo none)), some (.int (jn (li + 1)))] [] _ c_73_85 rfl ?_
        refine z_go 87 _ [.ref 92] _ c_73_86 rfl ?_
        refine z_go 88 _ [.int (jn 1), .ref 92] _ c_73_87 rfl ?_
        refine z_go 89 _ [.int (jn (li + 1)), .int (jn 1), .ref 92] _ c_73_88 rfl ?_
        refine z_callvV 92 6 97 2 92 c_73_89 rfl ⟨Nat.le_of_ble_eq_true rfl, Nat.le_of_ble_eq_true rfl⟩ rfl H4.1 [.ref 92, .int (jn 1), .int (jn (li + 1))] rfl rfl [some (.ref 92), some (.int (jn 1)), some (.int (jn (li + 1))), none] rfl rfl (t_mchP1 (d := d + 5) (ln := 0) (at_ := at1) (n := n2) (gd := true) (th := 0) (ct := ct) (li := li) (dn := false) (lg := lg) (li2 := li2) (dn2 := dn2) (ss := n2) (fd := fd) (S := S4) (sb := sb4) (id := li + 1) hK4 hal H4.1 hS4 hsb4 hn hu) ?_
        intro M5 ⟨g8, g9, g10⟩
        have hs5 : sm 92 118 M M5 := hs4.tr (fQ_sm g10)
        show jZ _ _ _ _ [.int (jb false)] _ _
        refine z_ifeq 99 95 c_73_92 rfl jb_t (fun _ => ?_) (fun h => absurd rfl h)
        refine z_go 101 _ [.int ((-2))] _ c_73_99 rfl ?_
        refine z_iret c_73_101 ?_
        exact ⟨rfl, ⟨S4, sb4, y1, y2, mI_Q H4 hS4 hX4 h1184 hsb4 g10 g8 g9 hal⟩, hs5⟩
      · exact absurd rfl hz2
  · exact absurd rfl hz
theorem t_mregN2 {d : Nat} {th ct li lg li2 ss fd : Nat} {dn2 : Bool} {tx : Nat → Nat} {ln at_ n : Nat} {gd : Bool} {A : Nat → MA} {bm bk : Nat → Nat} {oa : Nat → Option Nat} {ol : Nat → Nat} {ids szs : Nat → Nat} {E : Nat → MA} {al : Nat → Nat} {S : Nat → MA} {sb fnd : Nat → Nat} {M : jx_M} (H : mRd M (th, ct, li, 2, false, lg, li2, dn2, ss, fd) tx ln at_ n gd A bm bk oa ol) (hK : mKp M ids szs E al) (hS : mSt M S sb) (hX : mXs M) (h118 : M.1 118 = .inl (0, 12, .inl (ja fnd))) (hal : ∀ x, al x < 8) (hsb : ∀ x, sb x < 8) (hl : ln ≤ 40) (ht : ∀ j, tx j < 127) {n2 : Nat} {A2 : Nat → MA} {bm2 : Nat → Nat} (hm : sm_rd tx ln false 40 none 0 0 A bm (sp_none oa 10) ol bk 0 = some (n2, A2, bm2)) (hn : n2 ≤ 10) (hgd : sm_good n2 A2 bm2 = true) (hct : ct ≤ 12) (hrow : ∀ g, g < ct → szs g ≤ 10 ∧ ∀ k, k < szs g → okM (E (10 * g + k))) (hoM : ∀ j, j < n2 → okM ((sm_vl bm2 n2 n2 0 true A2).2 j)) (hsf : sp_first (mPM true n2 (sm_vl bm2 n2 n2 0 true A2).2 bm2 szs E al) ct 0 = none) (hu : ct < 12) (hli : li < 1000000) : jZ (d + 8) 73 0 [some (.ref 92), none, none, none] [] M (jV (some (.int (-2))) fun M' => (∃ S' sb', (∀ t, t < n2 → S' t = (sm_vl bm2 n2 n2 0 true A2).2 t) ∧ (∀ t u, t < n2 → u < n2 → sb' (10 * t + u) = bm2 (40 * t + u)) ∧ mI M' (0, ct, li, 0, true, 0, li2, dn2, n2, 0) tx 0 ids szs E al S' sb' fnd) ∧ sm 92 118 M M') := by
  obtain ⟨h40, hok, hk5, hbs⟩ := sm_rd_ok hl hm
  have hA : ∀ q, q < n2 → aL (sm_vl bm2 n2 n2 0 true A2).2 q < 64 ∧ aE (sm_vl bm2 n2 n2 0 true A2).2 q < 128 ∧ aH (sm_vl bm2 n2 n2 0 true A2).2 q < 100 ∧ q3 (aQ (sm_vl bm2 n2 n2 0 true A2).2 q) := fun q hq => okM_4 (hoM q hq)
  refine z_go 1 _ [.ref 92] _ c_73_0 rfl ?_
  refine z_getf (v := .int (jb false)) 4 c_73_1 rfl H.1 rfl ?_
  refine z_ifeq 13 7 c_73_4 rfl jb_t (fun _ => ?_) (fun h => absurd rfl h)
  refine z_go 14 _ [.ref 92] _ c_73_13 rfl ?_
  refine z_callvV 17 6 75 0 92 c_73_14 rfl ⟨Nat.le_of_ble_eq_true rfl, Nat.le_of_ble_eq_true rfl⟩ rfl H.1 [.ref 92] rfl rfl [some (.ref 92)] rfl rfl (t_mw0 (d := d) H hK hS hX h118 hal hsb hl ht hm hn hgd) ?_
  intro M1 ⟨⟨at1, bk1, oa1, ol1, H1⟩, hK1, hS1, hX1, h1181, g2⟩
  show jZ _ _ _ _ [.int (jn 0)] _ _
  refine z_go 18 [some (.ref 92), some (.int (jn 0)), none, none] [] _ c_73_17 rfl ?_
  refine z_go 19 _ [.int (jn 0)] _ c_73_18 rfl ?_
  refine z_ifle 30 22 c_73_19 rfl (jn_pos (by decide)) (fun h => absurd h (by decide)) (fun _ => ?_)
  have hX1a := hX1
  obtain ⟨⟨pu, hpu⟩, tk, htk⟩ := hX1
  refine z_go 31 _ [.ref 92] _ c_73_30 rfl ?_
  refine z_callvV 34 6 92 0 92 c_73_31 rfl ⟨Nat.le_of_ble_eq_true rfl, Nat.le_of_ble_eq_true rfl⟩ rfl H1.1 [.ref 92] rfl rfl [some (.ref 92), none] rfl rfl (t_msm (d := d + 3) hn hct hA hrow hbs hal H1 hK1 hpu) ?_
  intro M2 g5
  have hf : sm 92 118 M M2 := g2.tr (fP_sm g5)
  have H2 := mRd_fr H1 (M1 := M2) fun k a b => g5.1 k (by omega)
  have hK2 := mKp_fr hK1 (M1 := M2) fun k a b => g5.1 k (by omega)
  have hS2 := mSt_fr hS1 (M1 := M2) fun k a b => g5.1 k (by omega)
  have hX2 : mXs M2 := ⟨g5.2.2, tk, (g5.1 112 (by decide)).trans htk⟩
  have h1182 : M2.1 118 = .inl (0, 12, .inl (ja fnd)) := (g5.1 118 (by decide)).trans h1181
  show jZ _ _ _ _ [.int (jo (sp_first (mPM true n2 (sm_vl bm2 n2 n2 0 true A2).2 bm2 szs E al) ct 0))] _ _
  rw [hsf]
  show jZ _ _ _ _ [.int (jo none)] _ _
  refine z_go 35 [some (.ref 92), some (.int (jn 0)), some (.int (jo none)), none] [] _ c_73_34 rfl ?_
  refine z_go 36 _ [.int (jo none)] _ c_73_35 rfl ?_
  refine z_ifge 54 39 c_73_36 rfl (jo_lt (by intro k q; cases q)) (fun hz => ?_) (fun hz => ?_)
  · refine z_go 40 _ [.ref 92] _ c_73_39 rfl ?_
    refine z_getf (v := .int (jn ct)) 43 c_73_40 rfl H2.1 rfl ?_
    refine z_go 45 _ [.int (jn 12), .int (jn ct)] _ c_73_43 rfl ?_
    refine z_ine 54 48 c_73_45 rfl (jn_inj (by omega) (by omega)) (fun h12 => ?_) (fun h12 => ?_)
    · omega
    · refine z_go 55 _ [.ref 92] _ c_73_54 rfl ?_
      refine z_go 56 _ [.int (jn 0), .ref 92] _ c_73_55 rfl ?_
      refine z_putf (M' := jm [(92, mO 0 ln at1 n2 true ct li 2 false lg li2 dn2 ss fd)] M2) 59 c_73_56 rfl H2.1 (rfl) (Nat.le_of_ble_eq_true rfl) rfl ?_
      refine z_go 60 _ [.ref 92] _ c_73_59 rfl ?_
      refine z_go 61 _ [.int (jn 0), .ref 92] _ c_73_60 rfl ?_
      refine z_putf (M' := jm [(92, mO 0 0 at1 n2 true ct li 2 false lg li2 dn2 ss fd)] M2) 64 c_73_61 rfl rfl (rfl) (Nat.le_of_ble_eq_true rfl) (jm_w rfl) ?_
      refine z_go 65 _ [.int (jo none)] _ c_73_64 rfl ?_
      refine z_iflt 75 68 c_73_65 rfl (jo_lt (by intro k q; cases q)) (fun hz2 => ?_) (fun hz2 => ?_)
      · refine z_go 76 _ [.ref 92] _ c_73_75 rfl ?_
        have H3 : mRd (jm [(92, mO 0 0 at1 n2 true ct li 2 false lg li2 dn2 ss fd)] M2) (0, ct, li, 2, false, lg, li2, dn2, ss, fd) tx 0 at1 n2 true (sm_vl bm2 n2 n2 0 true A2).2 bm2 bk1 oa1 ol1 := mRd_w H2 rfl fun k a b => if_neg (by omega)
        have hS3 : mSt (jm [(92, mO 0 0 at1 n2 true ct li 2 false lg li2 dn2 ss fd)] M2) S sb := mSt_fr hS2 fun k a b => if_neg (by omega)
        refine z_callvV 79 6 96 0 92 c_73_76 rfl ⟨Nat.le_of_ble_eq_true rfl, Nat.le_of_ble_eq_true rfl⟩ rfl rfl [.ref 92] rfl rfl [some (.ref 92), none, none] rfl rfl (t_mkt (d := d + 7) H3 hS3 hsb hn hbs) ?_
        intro M4 ⟨H4, ⟨S4, sb4, hS4, y1, y2, hsb4⟩, g6, g7⟩
        have hw4 : ∀ k, k ≠ 92 → k < 113 ∨ 117 < k → M4.1 k = M2.1 k := fun k a b => (g6 k a b trivial).trans (if_neg a)
        have hs4 : sm 92 118 M M4 := hf.tr ⟨fun k hk => hw4 k (by omega) (by omega), g7⟩
        have hK4 : mKp M4 ids szs E al := mKp_fr hK2 fun k a b => hw4 k (by omega) (by omega)
        have hX4 : mXs M4 := mXs_fr hX2 fun k a b => hw4 k (by omega) (by omega)
        have h1184 : M4.1 118 = .inl (0, 12, .inl (ja fnd)) := (hw4 118 (by decide) (by decide)).trans h1182
        show jZ _ _ _ _ [] _ _
        refine z_go 80 _ [.ref 92] _ c_73_79 rfl ?_
        refine z_getf (v := .int (jn li)) 83 c_73_80 rfl H4.1 rfl ?_
        refine z_go 84 _ [.int (jn 1), .int (jn li)] _ c_73_83 rfl ?_
        refine z_go 85 _ [.int ((jn li) + (jn 1))] _ c_73_84 rfl ?_
        refine z_v (jn_add _ _) ?_
        refine z_go 86 [some (.ref 92), some (.int (jn 0)), some (.int (jo none)), some (.int (jn (li + 1)))] [] _ c_73_85 rfl ?_
        refine z_go 87 _ [.ref 92] _ c_73_86 rfl ?_
        refine z_go 88 _ [.int (jn 1), .ref 92] _ c_73_87 rfl ?_
        refine z_go 89 _ [.int (jn (li + 1)), .int (jn 1), .ref 92] _ c_73_88 rfl ?_
        refine z_callvV 92 6 97 2 92 c_73_89 rfl ⟨Nat.le_of_ble_eq_true rfl, Nat.le_of_ble_eq_true rfl⟩ rfl H4.1 [.ref 92, .int (jn 1), .int (jn (li + 1))] rfl rfl [some (.ref 92), some (.int (jn 1)), some (.int (jn (li + 1))), none] rfl rfl (t_mchP2 (d := d + 5) (ln := 0) (at_ := at1) (n := n2) (gd := true) (th := 0) (ct := ct) (li := li) (dn := false) (lg := lg) (li2 := li2) (dn2 := dn2) (ss := n2) (fd := fd) (S := S4) (sb := sb4) (id := li + 1) hK4 hal H4.1 hS4 hsb4 hn hu) ?_
        intro M5 ⟨g8, g9, g10⟩
        have hs5 : sm 92 118 M M5 := hs4.tr (fQ_sm g10)
        show jZ _ _ _ _ [.int (jb false)] _ _
        refine z_ifeq 99 95 c_73_92 rfl jb_t (fun _ => ?_) (fun h => absurd rfl h)
        refine z_go 101 _ [.int ((-2))] _ c_73_99 rfl ?_
        refine z_iret c_73_101 ?_
        exact ⟨rfl, ⟨S4, sb4, y1, y2, mI_Q H4 hS4 hX4 h1184 hsb4 g10 g8 g9 hal⟩, hs5⟩
      · exact absurd rfl hz2
  · exact absurd rfl hz
theorem t_mregN3 {d : Nat} {th ct li lg li2 ss fd : Nat} {dn2 : Bool} {tx : Nat → Nat} {ln at_ n : Nat} {gd : Bool} {A : Nat → MA} {bm bk : Nat → Nat} {oa : Nat → Option Nat} {ol : Nat → Nat} {ids szs : Nat → Nat} {E : Nat → MA} {al : Nat → Nat} {S : Nat → MA} {sb fnd : Nat → Nat} {M : jx_M} (H : mRd M (th, ct, li, 3, false, lg, li2, dn2, ss, fd) tx ln at_ n gd A bm bk oa ol) (hK : mKp M ids szs E al) (hS : mSt M S sb) (hX : mXs M) (h118 : M.1 118 = .inl (0, 12, .inl (ja fnd))) (hal : ∀ x, al x < 8) (hsb : ∀ x, sb x < 8) (hl : ln ≤ 40) (ht : ∀ j, tx j < 127) {n2 : Nat} {A2 : Nat → MA} {bm2 : Nat → Nat} (hm : sm_rd tx ln false 40 none 0 0 A bm (sp_none oa 10) ol bk 0 = some (n2, A2, bm2)) (hn : n2 ≤ 10) (hgd : sm_good n2 A2 bm2 = true) (hct : ct ≤ 12) (hrow : ∀ g, g < ct → szs g ≤ 10 ∧ ∀ k, k < szs g → okM (E (10 * g + k))) (hoM : ∀ j, j < n2 → okM ((sm_vl bm2 n2 n2 0 true A2).2 j)) (hsf : sp_first (mPM true n2 (sm_vl bm2 n2 n2 0 true A2).2 bm2 szs E al) ct 0 = none) (hu : ct < 12) (hli : li < 1000000) : jZ (d + 8) 73 0 [some (.ref 92), none, none, none] [] M (jV (some (.int (-2))) fun M' => (∃ S' sb', (∀ t, t < n2 → S' t = (sm_vl bm2 n2 n2 0 true A2).2 t) ∧ (∀ t u, t < n2 → u < n2 → sb' (10 * t + u) = bm2 (40 * t + u)) ∧ mI M' (0, ct, li, 0, true, 1, (li + 1), false, n2, 0) tx 0 ids szs E al S' sb' fnd) ∧ sm 92 118 M M') := by
  obtain ⟨h40, hok, hk5, hbs⟩ := sm_rd_ok hl hm
  have hA : ∀ q, q < n2 → aL (sm_vl bm2 n2 n2 0 true A2).2 q < 64 ∧ aE (sm_vl bm2 n2 n2 0 true A2).2 q < 128 ∧ aH (sm_vl bm2 n2 n2 0 true A2).2 q < 100 ∧ q3 (aQ (sm_vl bm2 n2 n2 0 true A2).2 q) := fun q hq => okM_4 (hoM q hq)
  refine z_go 1 _ [.ref 92] _ c_73_0 rfl ?_
  refine z_getf (v := .int (jb false)) 4 c_73_1 rfl H.1 rfl ?_
  refine z_ifeq 13 7 c_73_4 rfl jb_t (fun _ => ?_) (fun h => absurd rfl h)
  refine z_go 14 _ [.ref 92] _ c_73_13 rfl ?_
  refine z_callvV 17 6 75 0 92 c_73_14 rfl ⟨Nat.le_of_ble_eq_true rfl, Nat.le_of_ble_eq_true rfl⟩ rfl H.1 [.ref 92] rfl rfl [some (.ref 92)] rfl rfl (t_mw0 (d := d) H hK hS hX h118 hal hsb hl ht hm hn hgd) ?_
  intro M1 ⟨⟨at1, bk1, oa1, ol1, H1⟩, hK1, hS1, hX1, h1181, g2⟩
  show jZ _ _ _ _ [.int (jn 0)] _ _
  refine z_go 18 [some (.ref 92), some (.int (jn 0)), none, none] [] _ c_73_17 rfl ?_
  refine z_go 19 _ [.int (jn 0)] _ c_73_18 rfl ?_
  refine z_ifle 30 22 c_73_19 rfl (jn_pos (by decide)) (fun h => absurd h (by decide)) (fun _ => ?_)
  have hX1a := hX1
  obtain ⟨⟨pu, hpu⟩, tk, htk⟩ := hX1
  refine z_go 31 _ [.ref 92] _ c_73_30 rfl ?_
  refine z_callvV 34 6 92 0 92 c_73_31 rfl ⟨Nat.le_of_ble_eq_true rfl, Nat.le_of_ble_eq_true rfl⟩ rfl H1.1 [.ref 92] rfl rfl [some (.ref 92), none] rfl rfl (t_msm (d := d + 3) hn hct hA hrow hbs hal H1 hK1 hpu) ?_
  intro M2 g5
  have hf : sm 92 118 M M2 := g2.tr (fP_sm g5)
  have H2 := mRd_fr H1 (M1 := M2) fun k a b => g5.1 k (by omega)
  have hK2 := mKp_fr hK1 (M1 := M2) fun k a b => g5.1 k (by omega)
  have hS2 := mSt_fr hS1 (M1 := M2) fun k a b => g5.1 k (by omega)
  have hX2 : mXs M2 := ⟨g5.2.2, tk, (g5.1 112 (by decide)).trans htk⟩
  have h1182 : M2.1 118 = .inl (0, 12, .inl (ja fnd)) := (g5.1 118 (by decide)).trans h1181
  show jZ _ _ _ _ [.int (jo (sp_first (mPM true n2 (sm_vl bm2 n2 n2 0 true A2).2 bm2 szs E al) ct 0))] _ _
  rw [hsf]
  show jZ _ _ _ _ [.int (jo none)] _ _
  refine z_go 35 [some (.ref 92), some (.int (jn 0)), some (.int (jo none)), none] [] _ c_73_34 rfl ?_
  refine z_go 36 _ [.int (jo none)] _ c_73_35 rfl ?_
  refine z_ifge 54 39 c_73_36 rfl (jo_lt (by intro k q; cases q)) (fun hz => ?_) (fun hz => ?_)
  · refine z_go 40 _ [.ref 92] _ c_73_39 rfl ?_
    refine z_getf (v := .int (jn ct)) 43 c_73_40 rfl H2.1 rfl ?_
    refine z_go 45 _ [.int (jn 12), .int (jn ct)] _ c_73_43 rfl ?_
    refine z_ine 54 48 c_73_45 rfl (jn_inj (by omega) (by omega)) (fun h12 => ?_) (fun h12 => ?_)
    · omega
    · refine z_go 55 _ [.ref 92] _ c_73_54 rfl ?_
      refine z_go 56 _ [.int (jn 0), .ref 92] _ c_73_55 rfl ?_
      refine z_putf (M' := jm [(92, mO 0 ln at1 n2 true ct li 3 false lg li2 dn2 ss fd)] M2) 59 c_73_56 rfl H2.1 (rfl) (Nat.le_of_ble_eq_true rfl) rfl ?_
      refine z_go 60 _ [.ref 92] _ c_73_59 rfl ?_
      refine z_go 61 _ [.int (jn 0), .ref 92] _ c_73_60 rfl ?_
      refine z_putf (M' := jm [(92, mO 0 0 at1 n2 true ct li 3 false lg li2 dn2 ss fd)] M2) 64 c_73_61 rfl rfl (rfl) (Nat.le_of_ble_eq_true rfl) (jm_w rfl) ?_
      refine z_go 65 _ [.int (jo none)] _ c_73_64 rfl ?_
      refine z_iflt 75 68 c_73_65 rfl (jo_lt (by intro k q; cases q)) (fun hz2 => ?_) (fun hz2 => ?_)
      · refine z_go 76 _ [.ref 92] _ c_73_75 rfl ?_
        have H3 : mRd (jm [(92, mO 0 0 at1 n2 true ct li 3 false lg li2 dn2 ss fd)] M2) (0, ct, li, 3, false, lg, li2, dn2, ss, fd) tx 0 at1 n2 true (sm_vl bm2 n2 n2 0 true A2).2 bm2 bk1 oa1 ol1 := mRd_w H2 rfl fun k a b => if_neg (by omega)
        have hS3 : mSt (jm [(92, mO 0 0 at1 n2 true ct li 3 false lg li2 dn2 ss fd)] M2) S sb := mSt_fr hS2 fun k a b => if_neg (by omega)
        refine z_callvV 79 6 96 0 92 c_73_76 rfl ⟨Nat.le_of_ble_eq_true rfl, Nat.le_of_ble_eq_true rfl⟩ rfl rfl [.ref 92] rfl rfl [some (.ref 92), none, none] rfl rfl (t_mkt (d := d + 7) H3 hS3 hsb hn hbs) ?_
        intro M4 ⟨H4, ⟨S4, sb4, hS4, y1, y2, hsb4⟩, g6, g7⟩
        have hw4 : ∀ k, k ≠ 92 → k < 113 ∨ 117 < k → M4.1 k = M2.1 k := fun k a b => (g6 k a b trivial).trans (if_neg a)
        have hs4 : sm 92 118 M M4 := hf.tr ⟨fun k hk => hw4 k (by omega) (by omega), g7⟩
        have hK4 : mKp M4 ids szs E al := mKp_fr hK2 fun k a b => hw4 k (by omega) (by omega)
        have hX4 : mXs M4 := mXs_fr hX2 fun k a b => hw4 k (by omega) (by omega)
        have h1184 : M4.1 118 = .inl (0, 12, .inl (ja fnd)) := (hw4 118 (by decide) (by decide)).trans h1182
        show jZ _ _ _ _ [] _ _
        refine z_go 80 _ [.ref 92] _ c_73_79 rfl ?_
        refine z_getf (v := .int (jn li)) 83 c_73_80 rfl H4.1 rfl ?_
        refine z_go 84 _ [.int (jn 1), .int (jn li)] _ c_73_83 rfl ?_
        refine z_go 85 _ [.int ((jn li) + (jn 1))] _ c_73_84 rfl ?_
        refine z_v (jn_add _ _) ?_
        refine z_go 86 [some (.ref 92), some (.int (jn 0)), some (.int (jo none)), some (.int (jn (li + 1)))] [] _ c_73_85 rfl ?_
        refine z_go 87 _ [.ref 92] _ c_73_86 rfl ?_
        refine z_go 88 _ [.int (jn 1), .ref 92] _ c_73_87 rfl ?_
        refine z_go 89 _ [.int (jn (li + 1)), .int (jn 1), .ref 92] _ c_73_88 rfl ?_
        refine z_callvV 92 6 97 2 92 c_73_89 rfl ⟨Nat.le_of_ble_eq_true rfl, Nat.le_of_ble_eq_true rfl⟩ rfl H4.1 [.ref 92, .int (jn 1), .int (jn (li + 1))] rfl rfl [some (.ref 92), some (.int (jn 1)), some (.int (jn (li + 1))), none] rfl rfl (t_mchP3 (d := d + 5) (ln := 0) (at_ := at1) (n := n2) (gd := true) (th := 0) (ct := ct) (li := li) (dn := false) (lg := lg) (li2 := li2) (dn2 := dn2) (ss := n2) (fd := fd) (S := S4) (sb := sb4) (id := li + 1) hK4 hal H4.1 hS4 hsb4 hn hu) ?_
        intro M5 ⟨g8, g9, g10⟩
        have hs5 : sm 92 118 M M5 := hs4.tr (fQ_sm g10)
        show jZ _ _ _ _ [.int (jb false)] _ _
        refine z_ifeq 99 95 c_73_92 rfl jb_t (fun _ => ?_) (fun h => absurd rfl h)
        refine z_go 101 _ [.int ((-2))] _ c_73_99 rfl ?_
        refine z_iret c_73_101 ?_
        exact ⟨rfl, ⟨S4, sb4, y1, y2, mI_Q H4 hS4 hX4 h1184 hsb4 g10 g8 g9 hal⟩, hs5⟩
      · exact absurd rfl hz2
  · exact absurd rfl hz
theorem t_mregN4 {d : Nat} {th ct li lg li2 ss fd : Nat} {dn2 : Bool} {tx : Nat → Nat} {ln at_ n : Nat} {gd : Bool} {A : Nat → MA} {bm bk : Nat → Nat} {oa : Nat → Option Nat} {ol : Nat → Nat} {ids szs : Nat → Nat} {E : Nat → MA} {al : Nat → Nat} {S : Nat → MA} {sb fnd : Nat → Nat} {M : jx_M} (H : mRd M (th, ct, li, 4, false, lg, li2, dn2, ss, fd) tx ln at_ n gd A bm bk oa ol) (hK : mKp M ids szs E al) (hS : mSt M S sb) (hX : mXs M) (h118 : M.1 118 = .inl (0, 12, .inl (ja fnd))) (hal : ∀ x, al x < 8) (hsb : ∀ x, sb x < 8) (hl : ln ≤ 40) (ht : ∀ j, tx j < 127) {n2 : Nat} {A2 : Nat → MA} {bm2 : Nat → Nat} (hm : sm_rd tx ln false 40 none 0 0 A bm (sp_none oa 10) ol bk 0 = some (n2, A2, bm2)) (hn : n2 ≤ 10) (hgd : sm_good n2 A2 bm2 = true) (hct : ct ≤ 12) (hrow : ∀ g, g < ct → szs g ≤ 10 ∧ ∀ k, k < szs g → okM (E (10 * g + k))) (hoM : ∀ j, j < n2 → okM ((sm_vl bm2 n2 n2 0 true A2).2 j)) (hsf : sp_first (mPM true n2 (sm_vl bm2 n2 n2 0 true A2).2 bm2 szs E al) ct 0 = none) (hu : ct < 12) (hli : li < 1000000) : jZ (d + 8) 73 0 [some (.ref 92), none, none, none] [] M (jV (some (.int (-2))) fun M' => (∃ S' sb', (∀ t, t < n2 → S' t = (sm_vl bm2 n2 n2 0 true A2).2 t) ∧ (∀ t u, t < n2 → u < n2 → sb' (10 * t + u) = bm2 (40 * t + u)) ∧ ∃ E' al', mI M' (0, (ct + 1), (li + 1), 0, true, 1, (li + 1), true, n2, 0) tx 0 (nu ids ct (li + 1)) (nu szs ct n2) E' al' S' sb' fnd ∧ (∀ t, t < n2 → E' (10 * ct + t) = S' t) ∧ (∀ t u, t < n2 → u < n2 → al' (100 * ct + 10 * t + u) = sb' (10 * t + u)) ∧ ∀ s, s ≠ ct → rowE E' al' s E al s) ∧ sm 92 118 M M') := by
  obtain ⟨h40, hok, hk5, hbs⟩ := sm_rd_ok hl hm
  have hA : ∀ q, q < n2 → aL (sm_vl bm2 n2 n2 0 true A2).2 q < 64 ∧ aE (sm_vl bm2 n2 n2 0 true A2).2 q < 128 ∧ aH (sm_vl bm2 n2 n2 0 true A2).2 q < 100 ∧ q3 (aQ (sm_vl bm2 n2 n2 0 true A2).2 q) := fun q hq => okM_4 (hoM q hq)
  refine z_go 1 _ [.ref 92] _ c_73_0 rfl ?_
  refine z_getf (v := .int (jb false)) 4 c_73_1 rfl H.1 rfl ?_
  refine z_ifeq 13 7 c_73_4 rfl jb_t (fun _ => ?_) (fun h => absurd rfl h)
  refine z_go 14 _ [.ref 92] _ c_73_13 rfl ?_
  refine z_callvV 17 6 75 0 92 c_73_14 rfl ⟨Nat.le_of_ble_eq_true rfl, Nat.le_of_ble_eq_true rfl⟩ rfl H.1 [.ref 92] rfl rfl [some (.ref 92)] rfl rfl (t_mw0 (d := d) H hK hS hX h118 hal hsb hl ht hm hn hgd) ?_
  intro M1 ⟨⟨at1, bk1, oa1, ol1, H1⟩, hK1, hS1, hX1, h1181, g2⟩
  show jZ _ _ _ _ [.int (jn 0)] _ _
  refine z_go 18 [some (.ref 92), some (.int (jn 0)), none, none] [] _ c_73_17 rfl ?_
  refine z_go 19 _ [.int (jn 0)] _ c_73_18 rfl ?_
  refine z_ifle 30 22 c_73_19 rfl (jn_pos (by decide)) (fun h => absurd h (by decide)) (fun _ => ?_)
  have hX1a := hX1
  obtain ⟨⟨pu, hpu⟩, tk, htk⟩ := hX1
  refine z_go 31 _ [.ref 92] _ c_73_30 rfl ?_
  refine z_callvV 34 6 92 0 92 c_73_31 rfl ⟨Nat.le_of_ble_eq_true rfl, Nat.le_of_ble_eq_true rfl⟩ rfl H1.1 [.ref 92] rfl rfl [some (.ref 92), none] rfl rfl (t_msm (d := d + 3) hn hct hA hrow hbs hal H1 hK1 hpu) ?_
  intro M2 g5
  have hf : sm 92 118 M M2 := g2.tr (fP_sm g5)
  have H2 := mRd_fr H1 (M1 := M2) fun k a b => g5.1 k (by omega)
  have hK2 := mKp_fr hK1 (M1 := M2) fun k a b => g5.1 k (by omega)
  have hS2 := mSt_fr hS1 (M1 := M2) fun k a b => g5.1 k (by omega)
  have hX2 : mXs M2 := ⟨g5.2.2, tk, (g5.1 112 (by decide)).trans htk⟩
  have h1182 : M2.1 118 = .inl (0, 12, .inl (ja fnd)) := (g5.1 118 (by decide)).trans h1181
  show jZ _ _ _ _ [.int (jo (sp_first (mPM true n2 (sm_vl bm2 n2 n2 0 true A2).2 bm2 szs E al) ct 0))] _ _
  rw [hsf]
  show jZ _ _ _ _ [.int (jo none)] _ _
  refine z_go 35 [some (.ref 92), some (.int (jn 0)), some (.int (jo none)), none] [] _ c_73_34 rfl ?_
  refine z_go 36 _ [.int (jo none)] _ c_73_35 rfl ?_
  refine z_ifge 54 39 c_73_36 rfl (jo_lt (by intro k q; cases q)) (fun hz => ?_) (fun hz => ?_)
  · refine z_go 40 _ [.ref 92] _ c_73_39 rfl ?_
    refine z_getf (v := .int (jn ct)) 43 c_73_40 rfl H2.1 rfl ?_
    refine z_go 45 _ [.int (jn 12), .int (jn ct)] _ c_73_43 rfl ?_
    refine z_ine 54 48 c_73_45 rfl (jn_inj (by omega) (by omega)) (fun h12 => ?_) (fun h12 => ?_)
    · omega
    · refine z_go 55 _ [.ref 92] _ c_73_54 rfl ?_
      refine z_go 56 _ [.int (jn 0), .ref 92] _ c_73_55 rfl ?_
      refine z_putf (M' := jm [(92, mO 0 ln at1 n2 true ct li 4 false lg li2 dn2 ss fd)] M2) 59 c_73_56 rfl H2.1 (rfl) (Nat.le_of_ble_eq_true rfl) rfl ?_
      refine z_go 60 _ [.ref 92] _ c_73_59 rfl ?_
      refine z_go 61 _ [.int (jn 0), .ref 92] _ c_73_60 rfl ?_
      refine z_putf (M' := jm [(92, mO 0 0 at1 n2 true ct li 4 false lg li2 dn2 ss fd)] M2) 64 c_73_61 rfl rfl (rfl) (Nat.le_of_ble_eq_true rfl) (jm_w rfl) ?_
      refine z_go 65 _ [.int (jo none)] _ c_73_64 rfl ?_
      refine z_iflt 75 68 c_73_65 rfl (jo_lt (by intro k q; cases q)) (fun hz2 => ?_) (fun hz2 => ?_)
      · refine z_go 76 _ [.ref 92] _ c_73_75 rfl ?_
        have H3 : mRd (jm [(92, mO 0 0 at1 n2 true ct li 4 false lg li2 dn2 ss fd)] M2) (0, ct, li, 4, false, lg, li2, dn2, ss, fd) tx 0 at1 n2 true (sm_vl bm2 n2 n2 0 true A2).2 bm2 bk1 oa1 ol1 := mRd_w H2 rfl fun k a b => if_neg (by omega)
        have hS3 : mSt (jm [(92, mO 0 0 at1 n2 true ct li 4 false lg li2 dn2 ss fd)] M2) S sb := mSt_fr hS2 fun k a b => if_neg (by omega)
        refine z_callvV 79 6 96 0 92 c_73_76 rfl ⟨Nat.le_of_ble_eq_true rfl, Nat.le_of_ble_eq_true rfl⟩ rfl rfl [.ref 92] rfl rfl [some (.ref 92), none, none] rfl rfl (t_mkt (d := d + 7) H3 hS3 hsb hn hbs) ?_
        intro M4 ⟨H4, ⟨S4, sb4, hS4, y1, y2, hsb4⟩, g6, g7⟩
        have hw4 : ∀ k, k ≠ 92 → k < 113 ∨ 117 < k → M4.1 k = M2.1 k := fun k a b => (g6 k a b trivial).trans (if_neg a)
        have hs4 : sm 92 118 M M4 := hf.tr ⟨fun k hk => hw4 k (by omega) (by omega), g7⟩
        have hK4 : mKp M4 ids szs E al := mKp_fr hK2 fun k a b => hw4 k (by omega) (by omega)
        have hX4 : mXs M4 := mXs_fr hX2 fun k a b => hw4 k (by omega) (by omega)
        have h1184 : M4.1 118 = .inl (0, 12, .inl (ja fnd)) := (hw4 118 (by decide) (by decide)).trans h1182
        show jZ _ _ _ _ [] _ _
        refine z_go 80 _ [.ref 92] _ c_73_79 rfl ?_
        refine z_getf (v := .int (jn li)) 83 c_73_80 rfl H4.1 rfl ?_
        refine z_go 84 _ [.int (jn 1), .int (jn li)] _ c_73_83 rfl ?_
        refine z_go 85 _ [.int ((jn li) + (jn 1))] _ c_73_84 rfl ?_
        refine z_v (jn_add _ _) ?_
        refine z_go 86 [some (.ref 92), some (.int (jn 0)), some (.int (jo none)), some (.int (jn (li + 1)))] [] _ c_73_85 rfl ?_
        refine z_go 87 _ [.ref 92] _ c_73_86 rfl ?_
        refine z_go 88 _ [.int (jn 1), .ref 92] _ c_73_87 rfl ?_
        refine z_go 89 _ [.int (jn (li + 1)), .int (jn 1), .ref 92] _ c_73_88 rfl ?_
        refine z_callvV 92 6 97 2 92 c_73_89 rfl ⟨Nat.le_of_ble_eq_true rfl, Nat.le_of_ble_eq_true rfl⟩ rfl H4.1 [.ref 92, .int (jn 1), .int (jn (li + 1))] rfl rfl [some (.ref 92), some (.int (jn 1)), some (.int (jn (li + 1))), none] rfl rfl (t_mchP4 (d := d + 5) (ln := 0) (at_ := at1) (n := n2) (gd := true) (th := 0) (ct := ct) (li := li) (dn := false) (lg := lg) (li2 := li2) (dn2 := dn2) (ss := n2) (fd := fd) (S := S4) (sb := sb4) (id := li + 1) hK4 hal H4.1 hS4 hsb4 hn hu) ?_
        intro M5 ⟨g8, g9, g10⟩
        have hs5 : sm 92 118 M M5 := hs4.tr (fQ_sm g10)
        show jZ _ _ _ _ [.int (jb false)] _ _
        refine z_ifeq 99 95 c_73_92 rfl jb_t (fun _ => ?_) (fun h => absurd rfl h)
        refine z_go 101 _ [.int ((-2))] _ c_73_99 rfl ?_
        refine z_iret c_73_101 ?_
        obtain ⟨E9, al9, z1, z2, z3, z4, z5⟩ := g9
        exact ⟨rfl, ⟨S4, sb4, y1, y2, E9, al9, mI_Q H4 hS4 hX4 h1184 hsb4 g10 g8 z1 z5, z2, z3, z4⟩, hs5⟩
      · exact absurd rfl hz2
  · exact absurd rfl hz
