/-! THE REFERENCE: its calls without a text; printed by wip/whole/p74.py -/
theorem c_70_0 : jx_cd 70 0 = some (o_ald 0 1) := rfl
theorem c_70_1 : jx_cd 70 1 = some (o_getf 6 0) := rfl
theorem c_70_4 : jx_cd 70 4 = some (o_iret) := rfl
theorem c_72_0 : jx_cd 72 0 = some (o_ald 0 1) := rfl
theorem c_72_1 : jx_cd 72 1 = some (o_push (.int 0) 1) := rfl
theorem c_72_2 : jx_cd 72 2 = some (o_putf 6 0 jx_okI) := rfl
theorem c_72_5 : jx_cd 72 5 = some (o_ald 0 1) := rfl
theorem c_72_6 : jx_cd 72 6 = some (o_push (.int 0) 1) := rfl
theorem c_72_7 : jx_cd 72 7 = some (o_putf 6 1 jx_okI) := rfl
theorem c_72_10 : jx_cd 72 10 = some (o_ret) := rfl
theorem c_103_0 : jx_cd 103 0 = some (o_ald 0 1) := rfl
theorem c_103_1 : jx_cd 103 1 = some (o_push (.int 0) 1) := rfl
theorem c_103_2 : jx_cd 103 2 = some (o_putf 6 0 jx_okI) := rfl
theorem c_103_5 : jx_cd 103 5 = some (o_ald 0 1) := rfl
theorem c_103_6 : jx_cd 103 6 = some (o_getf 6 28) := rfl
theorem c_103_9 : jx_cd 103 9 = some (o_ifne 33) := rfl
theorem c_103_12 : jx_cd 103 12 = some (o_ild 1 1) := rfl
theorem c_103_13 : jx_cd 103 13 = some (o_iflt 33) := rfl
theorem c_103_16 : jx_cd 103 16 = some (o_ild 1 1) := rfl
theorem c_103_17 : jx_cd 103 17 = some (o_ald 0 1) := rfl
theorem c_103_18 : jx_cd 103 18 = some (o_getf 6 38) := rfl
theorem c_103_21 : jx_cd 103 21 = some (o_ige 33) := rfl
theorem c_103_24 : jx_cd 103 24 = some (o_ald 0 1) := rfl
theorem c_103_25 : jx_cd 103 25 = some (o_getf 6 39) := rfl
theorem c_103_28 : jx_cd 103 28 = some (o_ild 1 1) := rfl
theorem c_103_29 : jx_cd 103 29 = some (o_iald) := rfl
theorem c_103_30 : jx_cd 103 30 = some (o_goto 34) := rfl
theorem c_103_33 : jx_cd 103 33 = some (o_push (.int 0) 1) := rfl
theorem c_103_34 : jx_cd 103 34 = some (o_iret) := rfl
theorem c_105_0 : jx_cd 105 0 = some (o_ald 0 1) := rfl
theorem c_105_1 : jx_cd 105 1 = some (o_push (.int 0) 1) := rfl
theorem c_105_2 : jx_cd 105 2 = some (o_putf 6 0 jx_okI) := rfl
theorem c_105_5 : jx_cd 105 5 = some (o_ald 0 1) := rfl
theorem c_105_6 : jx_cd 105 6 = some (o_getf 6 28) := rfl
theorem c_105_9 : jx_cd 105 9 = some (o_ifne 21) := rfl
theorem c_105_12 : jx_cd 105 12 = some (o_ild 1 1) := rfl
theorem c_105_13 : jx_cd 105 13 = some (o_iflt 21) := rfl
theorem c_105_16 : jx_cd 105 16 = some (o_ild 1 1) := rfl
theorem c_105_17 : jx_cd 105 17 = some (o_push (.int 4) 1) := rfl
theorem c_105_18 : jx_cd 105 18 = some (o_ile 23) := rfl
theorem c_105_21 : jx_cd 105 21 = some (o_push (.int 0) 1) := rfl
theorem c_105_22 : jx_cd 105 22 = some (o_zret) := rfl
theorem c_105_23 : jx_cd 105 23 = some (o_ald 0 1) := rfl
theorem c_105_24 : jx_cd 105 24 = some (o_ild 1 1) := rfl
theorem c_105_25 : jx_cd 105 25 = some (o_putf 6 27 jx_okI) := rfl
theorem c_105_28 : jx_cd 105 28 = some (o_push (.int 1) 1) := rfl
theorem c_105_29 : jx_cd 105 29 = some (o_zret) := rfl
theorem c_107_0 : jx_cd 107 0 = some (o_ald 0 1) := rfl
theorem c_107_1 : jx_cd 107 1 = some (o_push (.int 0) 1) := rfl
theorem c_107_2 : jx_cd 107 2 = some (o_putf 6 0 jx_okI) := rfl
theorem c_107_5 : jx_cd 107 5 = some (o_ald 0 1) := rfl
theorem c_107_6 : jx_cd 107 6 = some (o_getf 6 28) := rfl
theorem c_107_9 : jx_cd 107 9 = some (o_ifeq 16) := rfl
theorem c_107_12 : jx_cd 107 12 = some (o_push (.int (-1)) 1) := rfl
theorem c_107_13 : jx_cd 107 13 = some (o_goto 20) := rfl
theorem c_107_16 : jx_cd 107 16 = some (o_ald 0 1) := rfl
theorem c_107_17 : jx_cd 107 17 = some (o_getf 6 16) := rfl
theorem c_107_20 : jx_cd 107 20 = some (o_iret) := rfl
theorem c_108_0 : jx_cd 108 0 = some (o_ald 0 1) := rfl
theorem c_108_1 : jx_cd 108 1 = some (o_push (.int 0) 1) := rfl
theorem c_108_2 : jx_cd 108 2 = some (o_putf 6 0 jx_okI) := rfl
theorem c_108_5 : jx_cd 108 5 = some (o_ald 0 1) := rfl
theorem c_108_6 : jx_cd 108 6 = some (o_ild 1 1) := rfl
theorem c_108_7 : jx_cd 108 7 = some (o_callv 6 99 1) := rfl
theorem c_108_10 : jx_cd 108 10 = some (o_ist 2 1) := rfl
theorem c_108_11 : jx_cd 108 11 = some (o_ald 0 1) := rfl
theorem c_108_12 : jx_cd 108 12 = some (o_getf 6 28) := rfl
theorem c_108_15 : jx_cd 108 15 = some (o_ifne 22) := rfl
theorem c_108_18 : jx_cd 108 18 = some (o_ild 2 1) := rfl
theorem c_108_19 : jx_cd 108 19 = some (o_ifge 26) := rfl
theorem c_108_22 : jx_cd 108 22 = some (o_push (.int 0) 1) := rfl
theorem c_108_23 : jx_cd 108 23 = some (o_goto 32) := rfl
theorem c_108_26 : jx_cd 108 26 = some (o_ald 0 1) := rfl
theorem c_108_27 : jx_cd 108 27 = some (o_getf 6 19) := rfl
theorem c_108_30 : jx_cd 108 30 = some (o_ild 2 1) := rfl
theorem c_108_31 : jx_cd 108 31 = some (o_iald) := rfl
theorem c_108_32 : jx_cd 108 32 = some (o_iret) := rfl
theorem c_109_0 : jx_cd 109 0 = some (o_ald 0 1) := rfl
theorem c_109_1 : jx_cd 109 1 = some (o_push (.int 0) 1) := rfl
theorem c_109_2 : jx_cd 109 2 = some (o_putf 6 0 jx_okI) := rfl
theorem c_109_5 : jx_cd 109 5 = some (o_ald 0 1) := rfl
theorem c_109_6 : jx_cd 109 6 = some (o_ild 1 1) := rfl
theorem c_109_7 : jx_cd 109 7 = some (o_callv 6 99 1) := rfl
theorem c_109_10 : jx_cd 109 10 = some (o_ist 3 1) := rfl
theorem c_109_11 : jx_cd 109 11 = some (o_ald 0 1) := rfl
theorem c_109_12 : jx_cd 109 12 = some (o_getf 6 28) := rfl
theorem c_109_15 : jx_cd 109 15 = some (o_ifne 36) := rfl
theorem c_109_18 : jx_cd 109 18 = some (o_ild 3 1) := rfl
theorem c_109_19 : jx_cd 109 19 = some (o_iflt 36) := rfl
theorem c_109_22 : jx_cd 109 22 = some (o_ild 2 1) := rfl
theorem c_109_23 : jx_cd 109 23 = some (o_iflt 36) := rfl
theorem c_109_26 : jx_cd 109 26 = some (o_ild 2 1) := rfl
theorem c_109_27 : jx_cd 109 27 = some (o_ald 0 1) := rfl
theorem c_109_28 : jx_cd 109 28 = some (o_getf 6 19) := rfl
theorem c_109_31 : jx_cd 109 31 = some (o_ild 3 1) := rfl
theorem c_109_32 : jx_cd 109 32 = some (o_iald) := rfl
theorem c_109_33 : jx_cd 109 33 = some (o_ilt 38) := rfl
theorem c_109_36 : jx_cd 109 36 = some (o_push (.int 0) 1) := rfl
theorem c_109_37 : jx_cd 109 37 = some (o_iret) := rfl
theorem c_109_38 : jx_cd 109 38 = some (o_push (.int 10) 2) := rfl
theorem c_109_40 : jx_cd 109 40 = some (o_ild 3 1) := rfl
theorem c_109_41 : jx_cd 109 41 = some (o_bin fun x y => x * y) := rfl
theorem c_109_42 : jx_cd 109 42 = some (o_ild 2 1) := rfl
theorem c_109_43 : jx_cd 109 43 = some (o_bin fun x y => x + y) := rfl
theorem c_109_44 : jx_cd 109 44 = some (o_ist 4 2) := rfl
theorem c_109_46 : jx_cd 109 46 = some (o_ald 0 1) := rfl
theorem c_109_47 : jx_cd 109 47 = some (o_getf 6 20) := rfl
theorem c_109_50 : jx_cd 109 50 = some (o_ild 4 2) := rfl
theorem c_109_52 : jx_cd 109 52 = some (o_iald) := rfl
theorem c_109_53 : jx_cd 109 53 = some (o_ald 0 1) := rfl
theorem c_109_54 : jx_cd 109 54 = some (o_getf 6 21) := rfl
theorem c_109_57 : jx_cd 109 57 = some (o_ild 4 2) := rfl
theorem c_109_59 : jx_cd 109 59 = some (o_xald 2) := rfl
theorem c_109_60 : jx_cd 109 60 = some (o_ifeq 69) := rfl
theorem c_109_63 : jx_cd 109 63 = some (o_push (.int 128) 3) := rfl
theorem c_109_66 : jx_cd 109 66 = some (o_goto 70) := rfl
theorem c_109_69 : jx_cd 109 69 = some (o_push (.int 0) 1) := rfl
theorem c_109_70 : jx_cd 109 70 = some (o_bin fun x y => x + y) := rfl
theorem c_109_71 : jx_cd 109 71 = some (o_push (.int 256) 3) := rfl
theorem c_109_74 : jx_cd 109 74 = some (o_ald 0 1) := rfl
theorem c_109_75 : jx_cd 109 75 = some (o_getf 6 22) := rfl
theorem c_109_78 : jx_cd 109 78 = some (o_ild 4 2) := rfl
theorem c_109_80 : jx_cd 109 80 = some (o_iald) := rfl
theorem c_109_81 : jx_cd 109 81 = some (o_bin fun x y => x * y) := rfl
theorem c_109_82 : jx_cd 109 82 = some (o_bin fun x y => x + y) := rfl
theorem c_109_83 : jx_cd 109 83 = some (o_push (.int 4096) 3) := rfl
theorem c_109_86 : jx_cd 109 86 = some (o_ald 0 1) := rfl
theorem c_109_87 : jx_cd 109 87 = some (o_getf 6 23) := rfl
theorem c_109_90 : jx_cd 109 90 = some (o_ild 4 2) := rfl
theorem c_109_92 : jx_cd 109 92 = some (o_iald) := rfl
theorem c_109_93 : jx_cd 109 93 = some (o_push (.int 1) 1) := rfl
theorem c_109_94 : jx_cd 109 94 = some (o_bin fun x y => x + y) := rfl
theorem c_109_95 : jx_cd 109 95 = some (o_bin fun x y => x * y) := rfl
theorem c_109_96 : jx_cd 109 96 = some (o_bin fun x y => x + y) := rfl
theorem c_109_97 : jx_cd 109 97 = some (o_iret) := rfl
theorem c_110_0 : jx_cd 110 0 = some (o_ald 0 1) := rfl
theorem c_110_1 : jx_cd 110 1 = some (o_push (.int 0) 1) := rfl
theorem c_110_2 : jx_cd 110 2 = some (o_putf 6 0 jx_okI) := rfl
theorem c_110_5 : jx_cd 110 5 = some (o_ald 0 1) := rfl
theorem c_110_6 : jx_cd 110 6 = some (o_ild 1 1) := rfl
theorem c_110_7 : jx_cd 110 7 = some (o_callv 6 99 1) := rfl
theorem c_110_10 : jx_cd 110 10 = some (o_ist 4 2) := rfl
theorem c_110_12 : jx_cd 110 12 = some (o_ald 0 1) := rfl
theorem c_110_13 : jx_cd 110 13 = some (o_getf 6 28) := rfl
theorem c_110_16 : jx_cd 110 16 = some (o_ifne 54) := rfl
theorem c_110_19 : jx_cd 110 19 = some (o_ild 4 2) := rfl
theorem c_110_21 : jx_cd 110 21 = some (o_iflt 54) := rfl
theorem c_110_24 : jx_cd 110 24 = some (o_ild 2 1) := rfl
theorem c_110_25 : jx_cd 110 25 = some (o_iflt 54) := rfl
theorem c_110_28 : jx_cd 110 28 = some (o_ild 2 1) := rfl
theorem c_110_29 : jx_cd 110 29 = some (o_ald 0 1) := rfl
theorem c_110_30 : jx_cd 110 30 = some (o_getf 6 19) := rfl
theorem c_110_33 : jx_cd 110 33 = some (o_ild 4 2) := rfl
theorem c_110_35 : jx_cd 110 35 = some (o_iald) := rfl
theorem c_110_36 : jx_cd 110 36 = some (o_ige 54) := rfl
theorem c_110_39 : jx_cd 110 39 = some (o_ild 3 1) := rfl
theorem c_110_40 : jx_cd 110 40 = some (o_iflt 54) := rfl
theorem c_110_43 : jx_cd 110 43 = some (o_ild 3 1) := rfl
theorem c_110_44 : jx_cd 110 44 = some (o_ald 0 1) := rfl
theorem c_110_45 : jx_cd 110 45 = some (o_getf 6 19) := rfl
theorem c_110_48 : jx_cd 110 48 = some (o_ild 4 2) := rfl
theorem c_110_50 : jx_cd 110 50 = some (o_iald) := rfl
theorem c_110_51 : jx_cd 110 51 = some (o_ilt 56) := rfl
theorem c_110_54 : jx_cd 110 54 = some (o_push (.int 0) 1) := rfl
theorem c_110_55 : jx_cd 110 55 = some (o_iret) := rfl
theorem c_110_56 : jx_cd 110 56 = some (o_ald 0 1) := rfl
theorem c_110_57 : jx_cd 110 57 = some (o_getf 6 24) := rfl
theorem c_110_60 : jx_cd 110 60 = some (o_push (.int 100) 2) := rfl
theorem c_110_62 : jx_cd 110 62 = some (o_ild 4 2) := rfl
theorem c_110_64 : jx_cd 110 64 = some (o_bin fun x y => x * y) := rfl
theorem c_110_65 : jx_cd 110 65 = some (o_push (.int 10) 2) := rfl
theorem c_110_67 : jx_cd 110 67 = some (o_ild 2 1) := rfl
theorem c_110_68 : jx_cd 110 68 = some (o_bin fun x y => x * y) := rfl
theorem c_110_69 : jx_cd 110 69 = some (o_bin fun x y => x + y) := rfl
theorem c_110_70 : jx_cd 110 70 = some (o_ild 3 1) := rfl
theorem c_110_71 : jx_cd 110 71 = some (o_bin fun x y => x + y) := rfl
theorem c_110_72 : jx_cd 110 72 = some (o_iald) := rfl
theorem c_110_73 : jx_cd 110 73 = some (o_iret) := rfl
def mXs (M : jx_M) : Prop := (∃ pu, M.1 111 = .inl (0, 11, .inl (jao pu))) ∧ ∃ tk, M.1 112 = .inl (2, 40, .inl (jab tk))
/-- all of the reference's cells -/
def mI (M : jx_M) (w : MW) (tx : Nat → Nat) (ln : Nat) (ids szs : Nat → Nat) (E : Nat → MA) (al : Nat → Nat) (S : Nat → MA) (sb fnd : Nat → Nat) : Prop := mSh M w tx ln ∧ mKp M ids szs E al ∧ mSt M S sb ∧ mXs M ∧ M.1 118 = .inl (0, 12, .inl (ja fnd)) ∧ (∀ x, al x < 8) ∧ ∀ x, sb x < 8
theorem mXs_fr {M M1 : jx_M} (h : mXs M) (hs : ∀ k, 111 ≤ k → k ≤ 112 → M1.1 k = M.1 k) : mXs M1 := by
  obtain ⟨⟨pu, h1⟩, tk, h2⟩ := h
  exact ⟨⟨pu, (hs _ (by decide) (by decide)).trans h1⟩, tk, (hs _ (by decide) (by decide)).trans h2⟩
section MI
variable {M M1 : jx_M} {w w' : MW} {tx tx' : Nat → Nat} {ln ln' : Nat} {ids szs : Nat → Nat} {E : Nat → MA} {al : Nat → Nat} {S : Nat → MA} {sb fnd : Nat → Nat}
/-- its own fields have changed -/
theorem mI_9 (h : mI M w tx ln ids szs E al S sb fnd) (hs : sm 92 92 M M1) (h92 : ∀ at_ n gd, M.1 92 = mW w ln at_ n gd → M1.1 92 = mW w' ln' at_ n gd) : mI M1 w' tx ln' ids szs E al S sb fnd := by
  obtain ⟨⟨at_, n, gd, A, bm, bk, oa, ol, H⟩, hK, hS, hX, h118, hal, hsb⟩ := h
  exact ⟨⟨at_, n, gd, A, bm, bk, oa, ol, mRd_w H (h92 _ _ _ H.1) fun k a b => hs.1 k (by omega)⟩, mKp_fr hK fun k a b => hs.1 k (by omega), mSt_fr hS fun k a b => hs.1 k (by omega), mXs_fr hX fun k a b => hs.1 k (by omega), (hs.1 118 (by decide)).trans h118, hal, hsb⟩
/-- the shelf has changed too -/
theorem mI_Q {ids' szs' : Nat → Nat} {E' : Nat → MA} {al' : Nat → Nat} {at_ n : Nat} {gd : Bool} {A : Nat → MA} {bm bk : Nat → Nat} {oa : Nat → Option Nat} {ol : Nat → Nat} (H : mRd M w tx ln at_ n gd A bm bk oa ol) (hS : mSt M S sb) (hX : mXs M) (h118 : M.1 118 = .inl (0, 12, .inl (ja fnd))) (hsb : ∀ x, sb x < 8) (hf : fQ M M1) (h92 : M1.1 92 = mW w' ln at_ n gd) (hK : mKp M1 ids' szs' E' al') (hal : ∀ x, al' x < 8) : mI M1 w' tx ln ids' szs' E' al' S sb fnd := ⟨⟨at_, n, gd, A, bm, bk, oa, ol, mRd_w H h92 fun k a b => hf.1 k (by omega) (by omega)⟩, hK, mSt_fr hS fun k a b => hf.1 k (by omega) (by omega), mXs_fr hX fun k a b => hf.1 k (by omega) (by omega), (hf.1 118 (by decide) (by decide)).trans h118, hal, hsb⟩
end MI
theorem fQ_sm {M M1 : jx_M} (h : fQ M M1) : sm 92 118 M M1 := ⟨fun q hq => h.1 q (by omega) (by omega), h.2⟩
theorem mI_x {M M1 : jx_M} {w w' : MW} {tx : Nat → Nat} {ln ln' : Nat} {ids szs : Nat → Nat} {E : Nat → MA} {al : Nat → Nat} {S : Nat → MA} {sb fnd : Nat → Nat} {at_ n : Nat} {gd : Bool} {A : Nat → MA} {bm bk : Nat → Nat} {oa : Nat → Option Nat} {ol : Nat → Nat} (H : mRd M w tx ln at_ n gd A bm bk oa ol) (hK : mKp M ids szs E al) (hS : mSt M S sb) (hX : mXs M) (h118 : M.1 118 = .inl (0, 12, .inl (ja fnd))) (hal : ∀ x, al x < 8) (hsb : ∀ x, sb x < 8) (hs : sm 92 92 M M1) (h92 : M1.1 92 = mW w' ln' at_ n gd) : mI M1 w' tx ln' ids szs E al S sb fnd := ⟨⟨at_, n, gd, A, bm, bk, oa, ol, mRd_w H h92 fun k a b => hs.1 k (by omega)⟩, mKp_fr hK fun k a b => hs.1 k (by omega), mSt_fr hS fun k a b => hs.1 k (by omega), mXs_fr hX fun k a b => hs.1 k (by omega), (hs.1 118 (by decide)).trans h118, hal, hsb⟩
theorem t_mthr {d : Nat} {th ct li fl lg li2 ss fd : Nat} {dn dn2 : Bool} {tx : Nat → Nat} {ln : Nat} {ids szs : Nat → Nat} {E : Nat → MA} {al : Nat → Nat} {S : Nat → MA} {sb fnd : Nat → Nat} {M : jx_M} (hI : mI M (th, ct, li, fl, dn, lg, li2, dn2, ss, fd) tx ln ids szs E al S sb fnd) : jZ d 70 0 [some (.ref 92)] [] M (jR (some (.int (jn th))) M) := by
  have hI0 := hI
  obtain ⟨⟨at_, n, gd, A, bm, bk, oa, ol, H⟩, hK, hS, hX, h118, hal, hsb⟩ := hI
  have h92 := H.1
  have h93 := H.2.1
  refine z_go 1 _ [.ref 92] _ c_70_0 rfl ?_
  refine z_getf (v := .int (jn th)) 4 c_70_1 rfl h92 rfl ?_
  refine z_iret c_70_4 ?_
  exact ⟨rfl, rfl⟩
theorem t_mwipe {d : Nat} {th ct li fl lg li2 ss fd : Nat} {dn dn2 : Bool} {tx : Nat → Nat} {ln : Nat} {ids szs : Nat → Nat} {E : Nat → MA} {al : Nat → Nat} {S : Nat → MA} {sb fnd : Nat → Nat} {M : jx_M} (hI : mI M (th, ct, li, fl, dn, lg, li2, dn2, ss, fd) tx ln ids szs E al S sb fnd) : jZ d 72 0 [some (.ref 92)] [] M (jV none fun M' => mI M' (0, ct, li, fl, dn, lg, li2, dn2, ss, fd) tx 0 ids szs E al S sb fnd ∧ sm 92 118 M M') := by
  have hI0 := hI
  obtain ⟨⟨at_, n, gd, A, bm, bk, oa, ol, H⟩, hK, hS, hX, h118, hal, hsb⟩ := hI
  have h92 := H.1
  have h93 := H.2.1
  refine z_go 1 _ [.ref 92] _ c_72_0 rfl ?_
  refine z_go 2 _ [.int (jn 0), .ref 92] _ c_72_1 rfl ?_
  refine z_putf (M' := jm [(92, mO 0 ln at_ n gd ct li fl dn lg li2 dn2 ss fd)] M) 5 c_72_2 rfl h92 (rfl) (Nat.le_of_ble_eq_true rfl) rfl ?_
  refine z_go 6 _ [.ref 92] _ c_72_5 rfl ?_
  refine z_go 7 _ [.int (jn 0), .ref 92] _ c_72_6 rfl ?_
  refine z_putf (M' := jm [(92, mO 0 0 at_ n gd ct li fl dn lg li2 dn2 ss fd)] M) 10 c_72_7 rfl rfl (rfl) (Nat.le_of_ble_eq_true rfl) (jm_w rfl) ?_
  refine z_ret c_72_10 ?_
  exact ⟨rfl, mI_x H hK hS hX h118 hal hsb (sm_jm rfl) rfl, (sm_jm rfl)⟩
theorem t_mcount {d : Nat} {th ct li fl lg li2 ss fd : Nat} {dn dn2 : Bool} {tx : Nat → Nat} {ln : Nat} {ids szs : Nat → Nat} {E : Nat → MA} {al : Nat → Nat} {S : Nat → MA} {sb fnd : Nat → Nat} {M : jx_M} (hI : mI M (th, ct, li, fl, dn, lg, li2, dn2, ss, fd) tx ln ids szs E al S sb fnd) : jZ d 107 0 [some (.ref 92)] [] M (jV (some (.int (if dn = true then -1 else jn ct))) fun M' => mI M' (0, ct, li, fl, dn, lg, li2, dn2, ss, fd) tx ln ids szs E al S sb fnd ∧ sm 92 118 M M') := by
  have hI0 := hI
  obtain ⟨⟨at_, n, gd, A, bm, bk, oa, ol, H⟩, hK, hS, hX, h118, hal, hsb⟩ := hI
  have h92 := H.1
  have h93 := H.2.1
  refine z_go 1 _ [.ref 92] _ c_107_0 rfl ?_
  refine z_go 2 _ [.int (jn 0), .ref 92] _ c_107_1 rfl ?_
  refine z_putf (M' := jm [(92, mO 0 ln at_ n gd ct li fl dn lg li2 dn2 ss fd)] M) 5 c_107_2 rfl h92 (rfl) (Nat.le_of_ble_eq_true rfl) rfl ?_
  refine z_go 6 _ [.ref 92] _ c_107_5 rfl ?_
  refine z_getf (v := .int (jb dn)) 9 c_107_6 rfl rfl rfl ?_
  refine z_ifeq 16 12 c_107_9 rfl jb_t (fun h1 => ?_) (fun h1 => ?_)
  · refine z_go 17 _ [.ref 92] _ c_107_16 rfl ?_
    refine z_getf (v := .int (jn ct)) 20 c_107_17 rfl rfl rfl ?_
    refine z_iret c_107_20 ?_
    exact ⟨by rw [if_neg (by rw [h1]; decide)], mI_x H hK hS hX h118 hal hsb (sm_jm rfl) rfl, (sm_jm rfl)⟩
  · refine z_go 13 _ [.int (jo none)] _ c_107_12 rfl ?_
    refine z_go 20 _ [.int (jo none)] _ c_107_13 rfl ?_
    refine z_iret c_107_20 ?_
    exact ⟨by rw [if_pos (by cases dn <;> simp_all)]; rfl, mI_x H hK hS hX h118 hal hsb (sm_jm rfl) rfl, (sm_jm rfl)⟩
theorem t_mfound {d : Nat} {th ct li fl lg li2 ss fd : Nat} {dn dn2 : Bool} {tx : Nat → Nat} {ln : Nat} {ids szs : Nat → Nat} {E : Nat → MA} {al : Nat → Nat} {S : Nat → MA} {sb fnd : Nat → Nat} {M : jx_M} {x : Int32} (hI : mI M (th, ct, li, fl, dn, lg, li2, dn2, ss, fd) tx ln ids szs E al S sb fnd) (hfd : fd ≤ 12) : jZ d 103 0 [some (.ref 92), some (.int x)] [] M (jV (some (.int (if dn = true then 0 else sp_fd fd fnd x))) fun M' => mI M' (0, ct, li, fl, dn, lg, li2, dn2, ss, fd) tx ln ids szs E al S sb fnd ∧ sm 92 118 M M') := by
  have hI0 := hI
  obtain ⟨⟨at_, n, gd, A, bm, bk, oa, ol, H⟩, hK, hS, hX, h118, hal, hsb⟩ := hI
  have h92 := H.1
  have h93 := H.2.1
  refine z_go 1 _ [.ref 92] _ c_103_0 rfl ?_
  refine z_go 2 _ [.int (jn 0), .ref 92] _ c_103_1 rfl ?_
  refine z_putf (M' := jm [(92, mO 0 ln at_ n gd ct li fl dn lg li2 dn2 ss fd)] M) 5 c_103_2 rfl h92 (rfl) (Nat.le_of_ble_eq_true rfl) rfl ?_
  refine z_go 6 _ [.ref 92] _ c_103_5 rfl ?_
  refine z_getf (v := .int (jb dn)) 9 c_103_6 rfl rfl rfl ?_
  refine z_ifne 33 12 c_103_9 rfl jb_t (fun h0 => ?_) (fun h0 => ?_)
  · refine z_go 13 _ [.int x] _ c_103_12 rfl ?_
    refine z_iflt 33 16 c_103_13 rfl Iff.rfl (fun h1 => ?_) (fun h1 => ?_)
    · refine z_go 34 _ [.int (jn 0)] _ c_103_33 rfl ?_
      refine z_iret c_103_34 ?_
      exact ⟨by rw [if_neg (by rw [h0]; decide), sp_fd, if_neg (fun q => q.1 h1)]; rfl, mI_x H hK hS hX h118 hal hsb (sm_jm rfl) rfl, (sm_jm rfl)⟩
    · refine z_go 17 _ [.int x] _ c_103_16 rfl ?_
      refine z_go 18 _ [.ref 92, .int x] _ c_103_17 rfl ?_
      refine z_getf (v := .int (jn fd)) 21 c_103_18 rfl rfl rfl ?_
      refine z_igeR 33 24 c_103_21 rfl Iff.rfl (fun h2 => ?_) (fun h2 => ?_)
      · obtain ⟨k, hk, rfl⟩ := jn_nn h1
        have h2n := (jn_lt hk (by omega)).mp h2
        refine z_go 25 _ [.ref 92] _ c_103_24 rfl ?_
        refine z_getf (v := .ref 118) 28 c_103_25 rfl rfl rfl ?_
        refine z_go 29 _ [.int (jn k), .ref 118] _ c_103_28 rfl ?_
        refine z_iald 30 c_103_29 rfl h118 (Or.inl rfl) (by omega) (by omega) ?_
        show jZ _ _ _ _ ([.int (jn (fnd k))]) _ _
        refine z_go 34 _ [.int (jn (fnd k))] _ c_103_30 rfl ?_
        refine z_iret c_103_34 ?_
        exact ⟨by rw [if_neg (by rw [h0]; decide), sp_fd, if_pos ⟨h1, h2⟩, jn_cl hk], mI_x H hK hS hX h118 hal hsb (sm_jm rfl) rfl, (sm_jm rfl)⟩
      · refine z_go 34 _ [.int (jn 0)] _ c_103_33 rfl ?_
        refine z_iret c_103_34 ?_
        exact ⟨by rw [if_neg (by rw [h0]; decide), sp_fd, if_neg (fun q => h2 q.2)]; rfl, mI_x H hK hS hX h118 hal hsb (sm_jm rfl) rfl, (sm_jm rfl)⟩
  · refine z_go 34 _ [.int (jn 0)] _ c_103_33 rfl ?_
    refine z_iret c_103_34 ?_
    exact ⟨by rw [if_pos (by cases dn <;> simp_all)]; rfl, mI_x H hK hS hX h118 hal hsb (sm_jm rfl) rfl, (sm_jm rfl)⟩
theorem t_mfail {d : Nat} {th ct li fl lg li2 ss fd : Nat} {dn dn2 : Bool} {tx : Nat → Nat} {ln : Nat} {ids szs : Nat → Nat} {E : Nat → MA} {al : Nat → Nat} {S : Nat → MA} {sb fnd : Nat → Nat} {M : jx_M} {x : Int32} (hI : mI M (th, ct, li, fl, dn, lg, li2, dn2, ss, fd) tx ln ids szs E al S sb fnd) : jZ d 105 0 [some (.ref 92), some (.int x)] [] M (jV (some (.int (jb (sp_fl dn x)))) fun M' => mI M' (0, ct, li, if sp_fl dn x = true then x.toNatClampNeg else fl, dn, lg, li2, dn2, ss, fd) tx ln ids szs E al S sb fnd ∧ sm 92 118 M M') := by
  have hI0 := hI
  obtain ⟨⟨at_, n, gd, A, bm, bk, oa, ol, H⟩, hK, hS, hX, h118, hal, hsb⟩ := hI
  have h92 := H.1
  have h93 := H.2.1
  refine z_go 1 _ [.ref 92] _ c_105_0 rfl ?_
  refine z_go 2 _ [.int (jn 0), .ref 92] _ c_105_1 rfl ?_
  refine z_putf (M' := jm [(92, mO 0 ln at_ n gd ct li fl dn lg li2 dn2 ss fd)] M) 5 c_105_2 rfl h92 (rfl) (Nat.le_of_ble_eq_true rfl) rfl ?_
  refine z_go 6 _ [.ref 92] _ c_105_5 rfl ?_
  refine z_getf (v := .int (jb dn)) 9 c_105_6 rfl rfl rfl ?_
  refine z_ifne 21 12 c_105_9 rfl jb_t (fun h1 => ?_) (fun h1 => ?_)
  · refine z_go 13 _ [.int x] _ c_105_12 rfl ?_
    refine z_iflt 21 16 c_105_13 rfl Iff.rfl (fun h2 => ?_) (fun h2 => ?_)
    · refine z_go 22 _ [.int (jn 0)] _ c_105_21 rfl ?_
      refine z_zret (b := false) c_105_22 ?_
      have e1 : sp_fl dn x = false := decide_eq_false (fun q => q.2.1 h2)
      rw [e1]
      exact ⟨rfl, mI_x H hK hS hX h118 hal hsb (sm_jm rfl) rfl, (sm_jm rfl)⟩
    · refine z_go 17 _ [.int x] _ c_105_16 rfl ?_
      refine z_go 18 _ [.int (jn 4), .int x] _ c_105_17 rfl ?_
      refine z_ileR 23 21 c_105_18 rfl Iff.rfl (fun h3 => ?_) (fun h3 => ?_)
      · refine z_go 22 _ [.int (jn 0)] _ c_105_21 rfl ?_
        refine z_zret (b := false) c_105_22 ?_
        have e1 : sp_fl dn x = false := decide_eq_false (fun q => q.2.2 h3)
        rw [e1]
        exact ⟨rfl, mI_x H hK hS hX h118 hal hsb (sm_jm rfl) rfl, (sm_jm rfl)⟩
      · have e1 : sp_fl dn x = true := decide_eq_true ⟨h1, h2, h3⟩
        rw [e1]
        obtain ⟨k, hk, rfl⟩ := jn_nn h2
        refine z_go 24 _ [.ref 92] _ c_105_23 rfl ?_
        refine z_go 25 _ [.int (jn k), .ref 92] _ c_105_24 rfl ?_
        refine z_putf (M' := jm [(92, mO 0 ln at_ n gd ct li k dn lg li2 dn2 ss fd)] M) 28 c_105_25 rfl rfl (rfl) (Nat.le_of_ble_eq_true rfl) (jm_w rfl) ?_
        refine z_go 29 _ [.int (jn 1)] _ c_105_28 rfl ?_
        refine z_zret (b := true) c_105_29 ?_
        rw [jn_cl hk]
        exact ⟨rfl, mI_x H hK hS hX h118 hal hsb (sm_jm rfl) rfl, (sm_jm rfl)⟩
  · refine z_go 22 _ [.int (jn 0)] _ c_105_21 rfl ?_
    refine z_zret (b := false) c_105_22 ?_
    have e1 : sp_fl dn x = false := decide_eq_false (fun q => h1 q.1)
    rw [e1]
    exact ⟨rfl, mI_x H hK hS hX h118 hal hsb (sm_jm rfl) rfl, (sm_jm rfl)⟩
def mvis (dn : Bool) (ids : Nat → Nat) (x : Int32) (ct : Nat) : Option Nat := if dn = true then none else sp_sl ids x ct 0
theorem t_matoms {d : Nat} {th ct li fl lg li2 ss fd : Nat} {dn dn2 : Bool} {tx : Nat → Nat} {ln : Nat} {ids szs : Nat → Nat} {E : Nat → MA} {al : Nat → Nat} {S : Nat → MA} {sb fnd : Nat → Nat} {M : jx_M} {x : Int32} (hI : mI M (th, ct, li, fl, dn, lg, li2, dn2, ss, fd) tx ln ids szs E al S sb fnd) (hct : ct ≤ 12) : jZ (d + 1) 108 0 [some (.ref 92), some (.int x), none] [] M (jV (some (.int (match sp_vis dn ids x ct with | none => 0 | some g => jn (szs g)))) fun M' => mI M' (0, ct, li, fl, dn, lg, li2, dn2, ss, fd) tx ln ids szs E al S sb fnd ∧ sm 92 118 M M') := by
  have hI0 := hI
  obtain ⟨⟨at_, n, gd, A, bm, bk, oa, ol, H⟩, hK, hS, hX, h118, hal, hsb⟩ := hI
  have h92 := H.1
  have h93 := H.2.1
  refine z_go 1 _ [.ref 92] _ c_108_0 rfl ?_
  refine z_go 2 _ [.int (jn 0), .ref 92] _ c_108_1 rfl ?_
  refine z_putf (M' := jm [(92, mO 0 ln at_ n gd ct li fl dn lg li2 dn2 ss fd)] M) 5 c_108_2 rfl h92 (rfl) (Nat.le_of_ble_eq_true rfl) rfl ?_
  refine z_go 6 _ [.ref 92] _ c_108_5 rfl ?_
  refine z_go 7 _ [.int x, .ref 92] _ c_108_6 rfl ?_
  refine z_callv 10 6 99 1 92 c_108_7 rfl ⟨Nat.le_of_ble_eq_true rfl, Nat.le_of_ble_eq_true rfl⟩ rfl rfl [.ref 92, .int x] rfl rfl [some (.ref 92), some (.int x), none] rfl rfl (t_mpl (w := (0, ct, li, fl, dn, lg, li2, dn2, ss, fd)) (M := jm [(92, mO 0 ln at_ n gd ct li fl dn lg li2 dn2 ss fd)] M) (ids := ids) (ln := ln) (at_ := at_) (n := n) (gd := gd) rfl hK.1 hct) ?_
  show jZ _ _ _ _ [.int (jo (sp_sl ids x ct 0))] _ _
  refine z_go 11 [some (.ref 92), some (.int x), some (.int (jo (sp_sl ids x ct 0)))] [] _ c_108_10 rfl ?_
  refine z_go 12 _ [.ref 92] _ c_108_11 rfl ?_
  refine z_getf (v := .int (jb dn)) 15 c_108_12 rfl rfl rfl ?_
  refine z_ifne 22 18 c_108_15 rfl jb_t (fun h0 => ?_) (fun h0 => ?_)
  · have ev : sp_vis dn ids x ct = sp_sl ids x ct 0 := if_neg (by rw [h0]; decide)
    rw [ev]
    cases hs : sp_sl ids x ct 0 with
    | none =>
      show jZ _ _ _ [some (.ref 92), some (.int x), some (.int (jo none))] _ _ _
      refine z_go 19 _ [.int (jo none)] _ c_108_18 rfl ?_
      refine z_ifge 26 22 c_108_19 rfl (jo_lt (by intro k q; cases q)) (fun hz => ?_) (fun hz => ?_)
      · refine z_go 23 _ [.int (jn 0)] _ c_108_22 rfl ?_
        refine z_go 32 _ [.int (jn 0)] _ c_108_23 rfl ?_
        refine z_iret c_108_32 ?_
        exact ⟨rfl, mI_x H hK hS hX h118 hal hsb (sm_jm rfl) rfl, (sm_jm rfl)⟩
      · exact absurd rfl hz
    | some g =>
      obtain ⟨-, hg, -⟩ := sp_sl_some hs
      dsimp only
      show jZ _ _ _ [some (.ref 92), some (.int x), some (.int (jn g))] _ _ _
      refine z_go 19 _ [.int (jn g)] _ c_108_18 rfl ?_
      refine z_ifge 26 22 c_108_19 rfl (jn_nl (by omega)) (fun hz => ?_) (fun hz => ?_)
      · exact hz.elim
      · refine z_go 27 _ [.ref 92] _ c_108_26 rfl ?_
        refine z_getf (v := .ref 105) 30 c_108_27 rfl rfl rfl ?_
        refine z_go 31 _ [.int (jn g), .ref 105] _ c_108_30 rfl ?_
        refine z_iald 32 c_108_31 rfl hK.2.1 (Or.inl rfl) (by omega) (by omega) ?_
        show jZ _ _ _ _ ([.int (jn (szs g))]) _ _
        refine z_iret c_108_32 ?_
        exact ⟨rfl, mI_x H hK hS hX h118 hal hsb (sm_jm rfl) rfl, (sm_jm rfl)⟩
  · have hv : sp_vis dn ids x ct = none := if_pos (by cases dn <;> simp_all)
    rw [hv]
    refine z_go 23 _ [.int (jn 0)] _ c_108_22 rfl ?_
    refine z_go 32 _ [.int (jn 0)] _ c_108_23 rfl ?_
    refine z_iret c_108_32 ?_
    exact ⟨rfl, mI_x H hK hS hX h118 hal hsb (sm_jm rfl) rfl, (sm_jm rfl)⟩
theorem encH_v {m : MA} (h : okM m) {b : Bool} {c : Option Nat} (hb : m.2.1 = b) (hc : m.2.2.2.1 = c) : encH m = m.1 + (if b = true then 128 else 0) + 256 * m.2.2.1 + encQ c := by
  unfold encH encC
  rw [if_pos h.2.2.1, hb, hc]
  omega
theorem t_matom {d : Nat} {th ct li fl lg li2 ss fd : Nat} {dn dn2 : Bool} {tx : Nat → Nat} {ln : Nat} {ids szs : Nat → Nat} {E : Nat → MA} {al : Nat → Nat} {S : Nat → MA} {sb fnd : Nat → Nat} {M : jx_M} {x y : Int32} (hI : mI M (th, ct, li, fl, dn, lg, li2, dn2, ss, fd) tx ln ids szs E al S sb fnd) (hct : ct ≤ 12) (hrow : ∀ g, g < ct → szs g ≤ 10 ∧ ∀ k, k < szs g → okM (E (10 * g + k))) : jZ (d + 1) 109 0 [some (.ref 92), some (.int x), some (.int y), none, none] [] M (jV (some (.int (match sp_vis dn ids x ct with | none => 0 | some g => if sp_has y (szs g) = true then jn (encH (E (10 * g + y.toNatClampNeg))) else 0))) fun M' => mI M' (0, ct, li, fl, dn, lg, li2, dn2, ss, fd) tx ln ids szs E al S sb fnd ∧ sm 92 118 M M') := by
  have hI0 := hI
  obtain ⟨⟨at_, n, gd, A, bm, bk, oa, ol, H⟩, hK, hS, hX, h118, hal, hsb⟩ := hI
  have h92 := H.1
  have h93 := H.2.1
  refine z_go 1 _ [.ref 92] _ c_109_0 rfl ?_
  refine z_go 2 _ [.int (jn 0), .ref 92] _ c_109_1 rfl ?_
  refine z_putf (M' := jm [(92, mO 0 ln at_ n gd ct li fl dn lg li2 dn2 ss fd)] M) 5 c_109_2 rfl h92 (rfl) (Nat.le_of_ble_eq_true rfl) rfl ?_
  refine z_go 6 _ [.ref 92] _ c_109_5 rfl ?_
  refine z_go 7 _ [.int x, .ref 92] _ c_109_6 rfl ?_
  refine z_callv 10 6 99 1 92 c_109_7 rfl ⟨Nat.le_of_ble_eq_true rfl, Nat.le_of_ble_eq_true rfl⟩ rfl rfl [.ref 92, .int x] rfl rfl [some (.ref 92), some (.int x), none] rfl rfl (t_mpl (w := (0, ct, li, fl, dn, lg, li2, dn2, ss, fd)) (M := jm [(92, mO 0 ln at_ n gd ct li fl dn lg li2 dn2 ss fd)] M) (ids := ids) (ln := ln) (at_ := at_) (n := n) (gd := gd) rfl hK.1 hct) ?_
  show jZ _ _ _ _ [.int (jo (sp_sl ids x ct 0))] _ _
  refine z_go 11 [some (.ref 92), some (.int x), some (.int y), some (.int (jo (sp_sl ids x ct 0))), none] [] _ c_109_10 rfl ?_
  refine z_go 12 _ [.ref 92] _ c_109_11 rfl ?_
  refine z_getf (v := .int (jb dn)) 15 c_109_12 rfl rfl rfl ?_
  refine z_ifne 36 18 c_109_15 rfl jb_t (fun h0 => ?_) (fun h0 => ?_)
  · have ev : sp_vis dn ids x ct = sp_sl ids x ct 0 := if_neg (by rw [h0]; decide)
    rw [ev]
    cases hs : sp_sl ids x ct 0 with
    | none =>
      show jZ _ _ _ [some (.ref 92), some (.int x), some (.int y), some (.int (jo none)), none] _ _ _
      refine z_go 19 _ [.int (jo none)] _ c_109_18 rfl ?_
      refine z_iflt 36 22 c_109_19 rfl (jo_lt (by intro k q; cases q)) (fun hz => ?_) (fun hz => ?_)
      · refine z_go 37 _ [.int (jn 0)] _ c_109_36 rfl ?_
        refine z_iret c_109_37 ?_
        exact ⟨rfl, mI_x H hK hS hX h118 hal hsb (sm_jm rfl) rfl, (sm_jm rfl)⟩
      · exact absurd rfl hz
    | some g =>
      obtain ⟨-, hg, -⟩ := sp_sl_some hs
      dsimp only
      show jZ _ _ _ [some (.ref 92), some (.int x), some (.int y), some (.int (jn g)), none] _ _ _
      refine z_go 19 _ [.int (jn g)] _ c_109_18 rfl ?_
      refine z_iflt 36 22 c_109_19 rfl (jn_nl (by omega)) (fun hz => ?_) (fun hz => ?_)
      · exact hz.elim
      · obtain ⟨hsz, hEk⟩ := hrow g (by omega)
        refine z_go 23 _ [.int y] _ c_109_22 rfl ?_
        refine z_iflt 36 26 c_109_23 rfl Iff.rfl (fun h2 => ?_) (fun h2 => ?_)
        · refine z_go 37 _ [.int (jn 0)] _ c_109_36 rfl ?_
          refine z_iret c_109_37 ?_
          exact ⟨by rw [if_neg (fun q => by have := of_decide_eq_true q; exact this.1 h2)]; rfl, mI_x H hK hS hX h118 hal hsb (sm_jm rfl) rfl, (sm_jm rfl)⟩
        · refine z_go 27 _ [.int y] _ c_109_26 rfl ?_
          refine z_go 28 _ [.ref 92, .int y] _ c_109_27 rfl ?_
          refine z_getf (v := .ref 105) 31 c_109_28 rfl rfl rfl ?_
          refine z_go 32 _ [.int (jn g), .ref 105, .int y] _ c_109_31 rfl ?_
          refine z_iald 33 c_109_32 rfl hK.2.1 (Or.inl rfl) (by omega) (by omega) ?_
          show jZ _ _ _ _ ([.int (jn (szs g)), .int y]) _ _
          refine z_iltR 38 36 c_109_33 rfl Iff.rfl (fun h3 => ?_) (fun h3 => ?_)
          · have hh : sp_has y (szs g) = true := decide_eq_true ⟨h2, h3⟩
            rw [if_pos hh]
            obtain ⟨k, hk, rfl⟩ := jn_nn h2
            have h3n := (jn_lt hk (by omega)).mp h3
            rw [jn_cl hk]
            obtain ⟨o1, o2, o3, o4⟩ := hEk k h3n
            have okk := hEk k h3n
            have ho1 : aH E (10 * g + k) ≤ 4 := o1
            have hEe : aE E (10 * g + k) < 128 := by rcases o4 with q | q | q | q | q <;> (have q : aE E (10 * g + k) = _ := q; omega)
            refine z_go 40 _ [.int (jn 10)] _ c_109_38 rfl ?_
            refine z_go 41 _ [.int (jn g), .int (jn 10)] _ c_109_40 rfl ?_
            refine z_go 42 _ [.int ((jn 10) * (jn g))] _ c_109_41 rfl ?_
            refine z_v (jn_mul _ _) ?_
            refine z_go 43 _ [.int (jn k), .int (jn (10 * g))] _ c_109_42 rfl ?_
            refine z_go 44 _ [.int ((jn (10 * g)) + (jn k))] _ c_109_43 rfl ?_
            refine z_v (jn_add _ _) ?_
            refine z_go 46 [some (.ref 92), some (.int x), some (.int (jn k)), some (.int (jn g)), some (.int (jn ((10 * g) + k)))] [] _ c_109_44 rfl ?_
            refine z_go 47 _ [.ref 92] _ c_109_46 rfl ?_
            refine z_getf (v := .ref 106) 50 c_109_47 rfl rfl rfl ?_
            refine z_go 52 _ [.int (jn ((10 * g) + k)), .ref 106] _ c_109_50 rfl ?_
            refine z_iald 53 c_109_52 rfl hK.2.2.1 (Or.inl rfl) (by omega) (by omega) ?_
            show jZ _ _ _ _ ([.int (jn ((aE E) ((10 * g) + k)))]) _ _
            refine z_go 54 _ [.ref 92, .int (jn ((aE E) ((10 * g) + k)))] _ c_109_53 rfl ?_
            refine z_getf (v := .ref 107) 57 c_109_54 rfl rfl rfl ?_
            refine z_go 59 _ [.int (jn ((10 * g) + k)), .ref 107, .int (jn ((aE E) ((10 * g) + k)))] _ c_109_57 rfl ?_
            refine z_xald 60 c_109_59 rfl hK.2.2.2.1 (by omega) (by omega) ?_
            show jZ _ _ _ _ ([.int (jb ((aR E) ((10 * g) + k))), .int (jn ((aE E) ((10 * g) + k)))]) _ _
            refine z_ifeq 69 63 c_109_60 rfl jb_t (fun hr => ?_) (fun hr => ?_)
            · have hb : (E (10 * g + k)).2.1 = false := hr
              refine z_go 70 _ [.int (jn 0), .int (jn ((aE E) ((10 * g) + k)))] _ c_109_69 rfl ?_
              refine z_go 71 _ [.int ((jn ((aE E) ((10 * g) + k))) + (jn 0))] _ c_109_70 rfl ?_
              refine z_v (jn_add _ _) ?_
              refine z_go 74 _ [.int (jn 256), .int (jn (((aE E) ((10 * g) + k)) + 0))] _ c_109_71 rfl ?_
              refine z_go 75 _ [.ref 92, .int (jn 256), .int (jn (((aE E) ((10 * g) + k)) + 0))] _ c_109_74 rfl ?_
              refine z_getf (v := .ref 108) 78 c_109_75 rfl rfl rfl ?_
              refine z_go 80 _ [.int (jn ((10 * g) + k)), .ref 108, .int (jn 256), .int (jn (((aE E) ((10 * g) + k)) + 0))] _ c_109_78 rfl ?_
              refine z_iald 81 c_109_80 rfl hK.2.2.2.2.1 (Or.inl rfl) (by omega) (by omega) ?_
              show jZ _ _ _ _ ([.int (jn ((aH E) ((10 * g) + k))), .int (jn 256), .int (jn (((aE E) ((10 * g) + k)) + 0))]) _ _
              refine z_go 82 _ [.int ((jn 256) * (jn ((aH E) ((10 * g) + k)))), .int (jn (((aE E) ((10 * g) + k)) + 0))] _ c_109_81 rfl ?_
              refine z_v (jn_mul _ _) ?_
              refine z_go 83 _ [.int ((jn (((aE E) ((10 * g) + k)) + 0)) + (jn (256 * ((aH E) ((10 * g) + k)))))] _ c_109_82 rfl ?_
              refine z_v (jn_add _ _) ?_
              refine z_go 86 _ [.int (jn 4096), .int (jn ((((aE E) ((10 * g) + k)) + 0) + (256 * ((aH E) ((10 * g) + k)))))] _ c_109_83 rfl ?_
              refine z_go 87 _ [.ref 92, .int (jn 4096), .int (jn ((((aE E) ((10 * g) + k)) + 0) + (256 * ((aH E) ((10 * g) + k)))))] _ c_109_86 rfl ?_
              refine z_getf (v := .ref 109) 90 c_109_87 rfl rfl rfl ?_
              refine z_go 92 _ [.int (jn ((10 * g) + k)), .ref 109, .int (jn 4096), .int (jn ((((aE E) ((10 * g) + k)) + 0) + (256 * ((aH E) ((10 * g) + k)))))] _ c_109_90 rfl ?_
              refine z_iald 93 c_109_92 rfl hK.2.2.2.2.2.1 (Or.inl rfl) (by omega) (by omega) ?_
              show jZ _ _ _ _ ([.int (jo ((aQ E) ((10 * g) + k))), .int (jn 4096), .int (jn ((((aE E) ((10 * g) + k)) + 0) + (256 * ((aH E) ((10 * g) + k)))))]) _ _
              rcases o2 with hq | hq | hq
              · have hq : aQ E (10 * g + k) = none := hq
                rw [hq]
                show jZ _ _ _ _ [.int (jo none), .int (jn 4096), .int (jn ((((aE E) ((10 * g) + k)) + 0) + (256 * ((aH E) ((10 * g) + k)))))] _ _
                refine z_go 94 _ [.int (jn 1), .int (jo none), .int (jn 4096), .int (jn ((((aE E) ((10 * g) + k)) + 0) + (256 * ((aH E) ((10 * g) + k)))))] _ c_109_93 rfl ?_
                refine z_go 95 _ [.int (((jo none)) + (jn 1)), .int (jn 4096), .int (jn ((((aE E) ((10 * g) + k)) + 0) + (256 * ((aH E) ((10 * g) + k)))))] _ c_109_94 rfl ?_
                refine z_v (show jo none + jn 1 = jn 0 by decide) ?_
                refine z_go 96 _ [.int ((jn 4096) * (jn 0)), .int (jn ((((aE E) ((10 * g) + k)) + 0) + (256 * ((aH E) ((10 * g) + k)))))] _ c_109_95 rfl ?_
                refine z_v (jn_mul _ _) ?_
                refine z_go 97 _ [.int ((jn ((((aE E) ((10 * g) + k)) + 0) + (256 * ((aH E) ((10 * g) + k))))) + (jn (4096 * 0)))] _ c_109_96 rfl ?_
                refine z_v (jn_add _ _) ?_
                refine z_iret c_109_97 ?_
                refine ⟨?_, mI_x H hK hS hX h118 hal hsb (sm_jm rfl) rfl, (sm_jm rfl)⟩
                have e9 := encH_v okk hb (show (E (10 * g + k)).2.2.2.1 = none from hq)
                rw [e9]
                exact congrArg (fun t => (Sum.inl (some (Value.int (jn t))) : jx_R)) (by show aE E (10 * g + k) + 0 + 256 * aH E (10 * g + k) + 4096 * 0 = aE E (10 * g + k) + 0 + 256 * aH E (10 * g + k) + 0; rfl)
              · have hq : aQ E (10 * g + k) = some 0 := hq
                rw [hq]
                show jZ _ _ _ _ [.int (jn 0), .int (jn 4096), .int (jn ((((aE E) ((10 * g) + k)) + 0) + (256 * ((aH E) ((10 * g) + k)))))] _ _
                refine z_go 94 _ [.int (jn 1), .int (jn 0), .int (jn 4096), .int (jn ((((aE E) ((10 * g) + k)) + 0) + (256 * ((aH E) ((10 * g) + k)))))] _ c_109_93 rfl ?_
                refine z_go 95 _ [.int ((jn 0) + (jn 1)), .int (jn 4096), .int (jn ((((aE E) ((10 * g) + k)) + 0) + (256 * ((aH E) ((10 * g) + k)))))] _ c_109_94 rfl ?_
                refine z_v (jn_add _ _) ?_
                refine z_go 96 _ [.int ((jn 4096) * (jn (0 + 1))), .int (jn ((((aE E) ((10 * g) + k)) + 0) + (256 * ((aH E) ((10 * g) + k)))))] _ c_109_95 rfl ?_
                refine z_v (jn_mul _ _) ?_
                refine z_go 97 _ [.int ((jn ((((aE E) ((10 * g) + k)) + 0) + (256 * ((aH E) ((10 * g) + k))))) + (jn (4096 * (0 + 1))))] _ c_109_96 rfl ?_
                refine z_v (jn_add _ _) ?_
                refine z_iret c_109_97 ?_
                refine ⟨?_, mI_x H hK hS hX h118 hal hsb (sm_jm rfl) rfl, (sm_jm rfl)⟩
                have e9 := encH_v okk hb (show (E (10 * g + k)).2.2.2.1 = some 0 from hq)
                rw [e9]
                exact congrArg (fun t => (Sum.inl (some (Value.int (jn t))) : jx_R)) (by show aE E (10 * g + k) + 0 + 256 * aH E (10 * g + k) + 4096 * (0 + 1) = aE E (10 * g + k) + 0 + 256 * aH E (10 * g + k) + 4096 * (0 + 1); rfl)
              · have hq : aQ E (10 * g + k) = some 1 := hq
                rw [hq]
                show jZ _ _ _ _ [.int (jn 1), .int (jn 4096), .int (jn ((((aE E) ((10 * g) + k)) + 0) + (256 * ((aH E) ((10 * g) + k)))))] _ _
                refine z_go 94 _ [.int (jn 1), .int (jn 1), .int (jn 4096), .int (jn ((((aE E) ((10 * g) + k)) + 0) + (256 * ((aH E) ((10 * g) + k)))))] _ c_109_93 rfl ?_
                refine z_go 95 _ [.int ((jn 1) + (jn 1)), .int (jn 4096), .int (jn ((((aE E) ((10 * g) + k)) + 0) + (256 * ((aH E) ((10 * g) + k)))))] _ c_109_94 rfl ?_
                refine z_v (jn_add _ _) ?_
                refine z_go 96 _ [.int ((jn 4096) * (jn (1 + 1))), .int (jn ((((aE E) ((10 * g) + k)) + 0) + (256 * ((aH E) ((10 * g) + k)))))] _ c_109_95 rfl ?_
                refine z_v (jn_mul _ _) ?_
                refine z_go 97 _ [.int ((jn ((((aE E) ((10 * g) + k)) + 0) + (256 * ((aH E) ((10 * g) + k))))) + (jn (4096 * (1 + 1))))] _ c_109_96 rfl ?_
                refine z_v (jn_add _ _) ?_
                refine z_iret c_109_97 ?_
                refine ⟨?_, mI_x H hK hS hX h118 hal hsb (sm_jm rfl) rfl, (sm_jm rfl)⟩
                have e9 := encH_v okk hb (show (E (10 * g + k)).2.2.2.1 = some 1 from hq)
                rw [e9]
                exact congrArg (fun t => (Sum.inl (some (Value.int (jn t))) : jx_R)) (by show aE E (10 * g + k) + 0 + 256 * aH E (10 * g + k) + 4096 * (1 + 1) = aE E (10 * g + k) + 0 + 256 * aH E (10 * g + k) + 4096 * (1 + 1); rfl)
            · have hb : (E (10 * g + k)).2.1 = true := (by have : aR E (10 * g + k) = true := by { cases h : aR E (10 * g + k) <;> simp_all }; exact this)
              refine z_go 66 _ [.int (jn 128), .int (jn ((aE E) ((10 * g) + k)))] _ c_109_63 rfl ?_
              refine z_go 70 _ [.int (jn 128), .int (jn ((aE E) ((10 * g) + k)))] _ c_109_66 rfl ?_
              refine z_go 71 _ [.int ((jn ((aE E) ((10 * g) + k))) + (jn 128))] _ c_109_70 rfl ?_
              refine z_v (jn_add _ _) ?_
              refine z_go 74 _ [.int (jn 256), .int (jn (((aE E) ((10 * g) + k)) + 128))] _ c_109_71 rfl ?_
              refine z_go 75 _ [.ref 92, .int (jn 256), .int (jn (((aE E) ((10 * g) + k)) + 128))] _ c_109_74 rfl ?_
              refine z_getf (v := .ref 108) 78 c_109_75 rfl rfl rfl ?_
              refine z_go 80 _ [.int (jn ((10 * g) + k)), .ref 108, .int (jn 256), .int (jn (((aE E) ((10 * g) + k)) + 128))] _ c_109_78 rfl ?_
              refine z_iald 81 c_109_80 rfl hK.2.2.2.2.1 (Or.inl rfl) (by omega) (by omega) ?_
              show jZ _ _ _ _ ([.int (jn ((aH E) ((10 * g) + k))), .int (jn 256), .int (jn (((aE E) ((10 * g) + k)) + 128))]) _ _
              refine z_go 82 _ [.int ((jn 256) * (jn ((aH E) ((10 * g) + k)))), .int (jn (((aE E) ((10 * g) + k)) + 128))] _ c_109_81 rfl ?_
              refine z_v (jn_mul _ _) ?_
              refine z_go 83 _ [.int ((jn (((aE E) ((10 * g) + k)) + 128)) + (jn (256 * ((aH E) ((10 * g) + k)))))] _ c_109_82 rfl ?_
              refine z_v (jn_add _ _) ?_
              refine z_go 86 _ [.int (jn 4096), .int (jn ((((aE E) ((10 * g) + k)) + 128) + (256 * ((aH E) ((10 * g) + k)))))] _ c_109_83 rfl ?_
              refine z_go 87 _ [.ref 92, .int (jn 4096), .int (jn ((((aE E) ((10 * g) + k)) + 128) + (256 * ((aH E) ((10 * g) + k)))))] _ c_109_86 rfl ?_
              refine z_getf (v := .ref 109) 90 c_109_87 rfl rfl rfl ?_
              refine z_go 92 _ [.int (jn ((10 * g) + k)), .ref 109, .int (jn 4096), .int (jn ((((aE E) ((10 * g) + k)) + 128) + (256 * ((aH E) ((10 * g) + k)))))] _ c_109_90 rfl ?_
              refine z_iald 93 c_109_92 rfl hK.2.2.2.2.2.1 (Or.inl rfl) (by omega) (by omega) ?_
              show jZ _ _ _ _ ([.int (jo ((aQ E) ((10 * g) + k))), .int (jn 4096), .int (jn ((((aE E) ((10 * g) + k)) + 128) + (256 * ((aH E) ((10 * g) + k)))))]) _ _
              rcases o2 with hq | hq | hq
              · have hq : aQ E (10 * g + k) = none := hq
                rw [hq]
                show jZ _ _ _ _ [.int (jo none), .int (jn 4096), .int (jn ((((aE E) ((10 * g) + k)) + 128) + (256 * ((aH E) ((10 * g) + k)))))] _ _
                refine z_go 94 _ [.int (jn 1), .int (jo none), .int (jn 4096), .int (jn ((((aE E) ((10 * g) + k)) + 128) + (256 * ((aH E) ((10 * g) + k)))))] _ c_109_93 rfl ?_
                refine z_go 95 _ [.int (((jo none)) + (jn 1)), .int (jn 4096), .int (jn ((((aE E) ((10 * g) + k)) + 128) + (256 * ((aH E) ((10 * g) + k)))))] _ c_109_94 rfl ?_
                refine z_v (show jo none + jn 1 = jn 0 by decide) ?_
                refine z_go 96 _ [.int ((jn 4096) * (jn 0)), .int (jn ((((aE E) ((10 * g) + k)) + 128) + (256 * ((aH E) ((10 * g) + k)))))] _ c_109_95 rfl ?_
                refine z_v (jn_mul _ _) ?_
                refine z_go 97 _ [.int ((jn ((((aE E) ((10 * g) + k)) + 128) + (256 * ((aH E) ((10 * g) + k))))) + (jn (4096 * 0)))] _ c_109_96 rfl ?_
                refine z_v (jn_add _ _) ?_
                refine z_iret c_109_97 ?_
                refine ⟨?_, mI_x H hK hS hX h118 hal hsb (sm_jm rfl) rfl, (sm_jm rfl)⟩
                have e9 := encH_v okk hb (show (E (10 * g + k)).2.2.2.1 = none from hq)
                rw [e9]
                exact congrArg (fun t => (Sum.inl (some (Value.int (jn t))) : jx_R)) (by show aE E (10 * g + k) + 128 + 256 * aH E (10 * g + k) + 4096 * 0 = aE E (10 * g + k) + 128 + 256 * aH E (10 * g + k) + 0; rfl)
              · have hq : aQ E (10 * g + k) = some 0 := hq
                rw [hq]
                show jZ _ _ _ _ [.int (jn 0), .int (jn 4096), .int (jn ((((aE E) ((10 * g) + k)) + 128) + (256 * ((aH E) ((10 * g) + k)))))] _ _
                refine z_go 94 _ [.int (jn 1), .int (jn 0), .int (jn 4096), .int (jn ((((aE E) ((10 * g) + k)) + 128) + (256 * ((aH E) ((10 * g) + k)))))] _ c_109_93 rfl ?_
                refine z_go 95 _ [.int ((jn 0) + (jn 1)), .int (jn 4096), .int (jn ((((aE E) ((10 * g) + k)) + 128) + (256 * ((aH E) ((10 * g) + k)))))] _ c_109_94 rfl ?_
                refine z_v (jn_add _ _) ?_
                refine z_go 96 _ [.int ((jn 4096) * (jn (0 + 1))), .int (jn ((((aE E) ((10 * g) + k)) + 128) + (256 * ((aH E) ((10 * g) + k)))))] _ c_109_95 rfl ?_
                refine z_v (jn_mul _ _) ?_
                refine z_go 97 _ [.int ((jn ((((aE E) ((10 * g) + k)) + 128) + (256 * ((aH E) ((10 * g) + k))))) + (jn (4096 * (0 + 1))))] _ c_109_96 rfl ?_
                refine z_v (jn_add _ _) ?_
                refine z_iret c_109_97 ?_
                refine ⟨?_, mI_x H hK hS hX h118 hal hsb (sm_jm rfl) rfl, (sm_jm rfl)⟩
                have e9 := encH_v okk hb (show (E (10 * g + k)).2.2.2.1 = some 0 from hq)
                rw [e9]
                exact congrArg (fun t => (Sum.inl (some (Value.int (jn t))) : jx_R)) (by show aE E (10 * g + k) + 128 + 256 * aH E (10 * g + k) + 4096 * (0 + 1) = aE E (10 * g + k) + 128 + 256 * aH E (10 * g + k) + 4096 * (0 + 1); rfl)
              · have hq : aQ E (10 * g + k) = some 1 := hq
                rw [hq]
                show jZ _ _ _ _ [.int (jn 1), .int (jn 4096), .int (jn ((((aE E) ((10 * g) + k)) + 128) + (256 * ((aH E) ((10 * g) + k)))))] _ _
                refine z_go 94 _ [.int (jn 1), .int (jn 1), .int (jn 4096), .int (jn ((((aE E) ((10 * g) + k)) + 128) + (256 * ((aH E) ((10 * g) + k)))))] _ c_109_93 rfl ?_
                refine z_go 95 _ [.int ((jn 1) + (jn 1)), .int (jn 4096), .int (jn ((((aE E) ((10 * g) + k)) + 128) + (256 * ((aH E) ((10 * g) + k)))))] _ c_109_94 rfl ?_
                refine z_v (jn_add _ _) ?_
                refine z_go 96 _ [.int ((jn 4096) * (jn (1 + 1))), .int (jn ((((aE E) ((10 * g) + k)) + 128) + (256 * ((aH E) ((10 * g) + k)))))] _ c_109_95 rfl ?_
                refine z_v (jn_mul _ _) ?_
                refine z_go 97 _ [.int ((jn ((((aE E) ((10 * g) + k)) + 128) + (256 * ((aH E) ((10 * g) + k))))) + (jn (4096 * (1 + 1))))] _ c_109_96 rfl ?_
                refine z_v (jn_add _ _) ?_
                refine z_iret c_109_97 ?_
                refine ⟨?_, mI_x H hK hS hX h118 hal hsb (sm_jm rfl) rfl, (sm_jm rfl)⟩
                have e9 := encH_v okk hb (show (E (10 * g + k)).2.2.2.1 = some 1 from hq)
                rw [e9]
                exact congrArg (fun t => (Sum.inl (some (Value.int (jn t))) : jx_R)) (by show aE E (10 * g + k) + 128 + 256 * aH E (10 * g + k) + 4096 * (1 + 1) = aE E (10 * g + k) + 128 + 256 * aH E (10 * g + k) + 4096 * (1 + 1); rfl)
          · refine z_go 37 _ [.int (jn 0)] _ c_109_36 rfl ?_
            refine z_iret c_109_37 ?_
            exact ⟨by rw [if_neg (fun q => by have := of_decide_eq_true q; exact h3 this.2)]; rfl, mI_x H hK hS hX h118 hal hsb (sm_jm rfl) rfl, (sm_jm rfl)⟩
  · have hv : sp_vis dn ids x ct = none := if_pos (by cases dn <;> simp_all)
    rw [hv]
    refine z_go 37 _ [.int (jn 0)] _ c_109_36 rfl ?_
    refine z_iret c_109_37 ?_
    exact ⟨rfl, mI_x H hK hS hX h118 hal hsb (sm_jm rfl) rfl, (sm_jm rfl)⟩
theorem t_mbond {d : Nat} {th ct li fl lg li2 ss fd : Nat} {dn dn2 : Bool} {tx : Nat → Nat} {ln : Nat} {ids szs : Nat → Nat} {E : Nat → MA} {al : Nat → Nat} {S : Nat → MA} {sb fnd : Nat → Nat} {M : jx_M} {x y z : Int32} (hI : mI M (th, ct, li, fl, dn, lg, li2, dn2, ss, fd) tx ln ids szs E al S sb fnd) (hct : ct ≤ 12) (hrow : ∀ g, g < ct → szs g ≤ 10 ∧ ∀ k, k < szs g → okM (E (10 * g + k))) : jZ (d + 1) 110 0 [some (.ref 92), some (.int x), some (.int y), some (.int z), none] [] M (jV (some (.int (match sp_vis dn ids x ct with | none => 0 | some g => if sp_has y (szs g) = true ∧ sp_has z (szs g) = true then jn (al (100 * g + 10 * y.toNatClampNeg + z.toNatClampNeg)) else 0))) fun M' => mI M' (0, ct, li, fl, dn, lg, li2, dn2, ss, fd) tx ln ids szs E al S sb fnd ∧ sm 92 118 M M') := by
  have hI0 := hI
  obtain ⟨⟨at_, n, gd, A, bm, bk, oa, ol, H⟩, hK, hS, hX, h118, hal, hsb⟩ := hI
  have h92 := H.1
  have h93 := H.2.1
  refine z_go 1 _ [.ref 92] _ c_110_0 rfl ?_
  refine z_go 2 _ [.int (jn 0), .ref 92] _ c_110_1 rfl ?_
  refine z_putf (M' := jm [(92, mO 0 ln at_ n gd ct li fl dn lg li2 dn2 ss fd)] M) 5 c_110_2 rfl h92 (rfl) (Nat.le_of_ble_eq_true rfl) rfl ?_
  refine z_go 6 _ [.ref 92] _ c_110_5 rfl ?_
  refine z_go 7 _ [.int x, .ref 92] _ c_110_6 rfl ?_
  refine z_callv 10 6 99 1 92 c_110_7 rfl ⟨Nat.le_of_ble_eq_true rfl, Nat.le_of_ble_eq_true rfl⟩ rfl rfl [.ref 92, .int x] rfl rfl [some (.ref 92), some (.int x), none] rfl rfl (t_mpl (w := (0, ct, li, fl, dn, lg, li2, dn2, ss, fd)) (M := jm [(92, mO 0 ln at_ n gd ct li fl dn lg li2 dn2 ss fd)] M) (ids := ids) (ln := ln) (at_ := at_) (n := n) (gd := gd) rfl hK.1 hct) ?_
  show jZ _ _ _ _ [.int (jo (sp_sl ids x ct 0))] _ _
  refine z_go 12 [some (.ref 92), some (.int x), some (.int y), some (.int z), some (.int (jo (sp_sl ids x ct 0)))] [] _ c_110_10 rfl ?_
  refine z_go 13 _ [.ref 92] _ c_110_12 rfl ?_
  refine z_getf (v := .int (jb dn)) 16 c_110_13 rfl rfl rfl ?_
  refine z_ifne 54 19 c_110_16 rfl jb_t (fun h0 => ?_) (fun h0 => ?_)
  · have ev : sp_vis dn ids x ct = sp_sl ids x ct 0 := if_neg (by rw [h0]; decide)
    rw [ev]
    cases hs : sp_sl ids x ct 0 with
    | none =>
      show jZ _ _ _ [some (.ref 92), some (.int x), some (.int y), some (.int z), some (.int (jo none))] _ _ _
      refine z_go 21 _ [.int (jo none)] _ c_110_19 rfl ?_
      refine z_iflt 54 24 c_110_21 rfl (jo_lt (by intro k q; cases q)) (fun hz => ?_) (fun hz => ?_)
      · refine z_go 55 _ [.int (jn 0)] _ c_110_54 rfl ?_
        refine z_iret c_110_55 ?_
        exact ⟨rfl, mI_x H hK hS hX h118 hal hsb (sm_jm rfl) rfl, (sm_jm rfl)⟩
      · exact absurd rfl hz
    | some g =>
      obtain ⟨-, hg, -⟩ := sp_sl_some hs
      dsimp only
      show jZ _ _ _ [some (.ref 92), some (.int x), some (.int y), some (.int z), some (.int (jn g))] _ _ _
      refine z_go 21 _ [.int (jn g)] _ c_110_19 rfl ?_
      refine z_iflt 54 24 c_110_21 rfl (jn_nl (by omega)) (fun hz => ?_) (fun hz => ?_)
      · exact hz.elim
      · obtain ⟨hsz, hEk⟩ := hrow g (by omega)
        refine z_go 25 _ [.int y] _ c_110_24 rfl ?_
        refine z_iflt 54 28 c_110_25 rfl Iff.rfl (fun h2 => ?_) (fun h2 => ?_)
        · refine z_go 55 _ [.int (jn 0)] _ c_110_54 rfl ?_
          refine z_iret c_110_55 ?_
          exact ⟨by rw [if_neg (fun q => by have := of_decide_eq_true q.1; exact this.1 h2)]; rfl, mI_x H hK hS hX h118 hal hsb (sm_jm rfl) rfl, (sm_jm rfl)⟩
        · refine z_go 29 _ [.int y] _ c_110_28 rfl ?_
          refine z_go 30 _ [.ref 92, .int y] _ c_110_29 rfl ?_
          refine z_getf (v := .ref 105) 33 c_110_30 rfl rfl rfl ?_
          refine z_go 35 _ [.int (jn g), .ref 105, .int y] _ c_110_33 rfl ?_
          refine z_iald 36 c_110_35 rfl hK.2.1 (Or.inl rfl) (by omega) (by omega) ?_
          show jZ _ _ _ _ ([.int (jn (szs g)), .int y]) _ _
          refine z_igeR 54 39 c_110_36 rfl Iff.rfl (fun h3 => ?_) (fun h3 => ?_)
          · refine z_go 40 _ [.int z] _ c_110_39 rfl ?_
            refine z_iflt 54 43 c_110_40 rfl Iff.rfl (fun h4 => ?_) (fun h4 => ?_)
            · refine z_go 55 _ [.int (jn 0)] _ c_110_54 rfl ?_
              refine z_iret c_110_55 ?_
              exact ⟨by rw [if_neg (fun q => by have := of_decide_eq_true q.2; exact this.1 h4)]; rfl, mI_x H hK hS hX h118 hal hsb (sm_jm rfl) rfl, (sm_jm rfl)⟩
            · refine z_go 44 _ [.int z] _ c_110_43 rfl ?_
              refine z_go 45 _ [.ref 92, .int z] _ c_110_44 rfl ?_
              refine z_getf (v := .ref 105) 48 c_110_45 rfl rfl rfl ?_
              refine z_go 50 _ [.int (jn g), .ref 105, .int z] _ c_110_48 rfl ?_
              refine z_iald 51 c_110_50 rfl hK.2.1 (Or.inl rfl) (by omega) (by omega) ?_
              show jZ _ _ _ _ ([.int (jn (szs g)), .int z]) _ _
              refine z_iltR 56 54 c_110_51 rfl Iff.rfl (fun h5 => ?_) (fun h5 => ?_)
              · rw [if_pos ⟨decide_eq_true ⟨h2, h3⟩, decide_eq_true ⟨h4, h5⟩⟩]
                obtain ⟨k, hk, rfl⟩ := jn_nn h2
                obtain ⟨l, hl, rfl⟩ := jn_nn h4
                have h3n := (jn_lt hk (by omega)).mp h3
                have h5n := (jn_lt hl (by omega)).mp h5
                refine z_go 57 _ [.ref 92] _ c_110_56 rfl ?_
                refine z_getf (v := .ref 110) 60 c_110_57 rfl rfl rfl ?_
                refine z_go 62 _ [.int (jn 100), .ref 110] _ c_110_60 rfl ?_
                refine z_go 64 _ [.int (jn g), .int (jn 100), .ref 110] _ c_110_62 rfl ?_
                refine z_go 65 _ [.int ((jn 100) * (jn g)), .ref 110] _ c_110_64 rfl ?_
                refine z_v (jn_mul _ _) ?_
                refine z_go 67 _ [.int (jn 10), .int (jn (100 * g)), .ref 110] _ c_110_65 rfl ?_
                refine z_go 68 _ [.int (jn k), .int (jn 10), .int (jn (100 * g)), .ref 110] _ c_110_67 rfl ?_
                refine z_go 69 _ [.int ((jn 10) * (jn k)), .int (jn (100 * g)), .ref 110] _ c_110_68 rfl ?_
                refine z_v (jn_mul _ _) ?_
                refine z_go 70 _ [.int ((jn (100 * g)) + (jn (10 * k))), .ref 110] _ c_110_69 rfl ?_
                refine z_v (jn_add _ _) ?_
                refine z_go 71 _ [.int (jn l), .int (jn ((100 * g) + (10 * k))), .ref 110] _ c_110_70 rfl ?_
                refine z_go 72 _ [.int ((jn ((100 * g) + (10 * k))) + (jn l)), .ref 110] _ c_110_71 rfl ?_
                refine z_v (jn_add _ _) ?_
                refine z_iald 73 c_110_72 rfl hK.2.2.2.2.2.2 (Or.inl rfl) (by omega) (by omega) ?_
                show jZ _ _ _ _ ([.int (jn (al (((100 * g) + (10 * k)) + l)))]) _ _
                refine z_iret c_110_73 ?_
                exact ⟨by rw [jn_cl hk, jn_cl hl], mI_x H hK hS hX h118 hal hsb (sm_jm rfl) rfl, (sm_jm rfl)⟩
              · refine z_go 55 _ [.int (jn 0)] _ c_110_54 rfl ?_
                refine z_iret c_110_55 ?_
                exact ⟨by rw [if_neg (fun q => by have := of_decide_eq_true q.2; exact h5 this.2)]; rfl, mI_x H hK hS hX h118 hal hsb (sm_jm rfl) rfl, (sm_jm rfl)⟩
          · refine z_go 55 _ [.int (jn 0)] _ c_110_54 rfl ?_
            refine z_iret c_110_55 ?_
            exact ⟨by rw [if_neg (fun q => by have := of_decide_eq_true q.1; exact h3 this.2)]; rfl, mI_x H hK hS hX h118 hal hsb (sm_jm rfl) rfl, (sm_jm rfl)⟩
  · have hv : sp_vis dn ids x ct = none := if_pos (by cases dn <;> simp_all)
    rw [hv]
    refine z_go 55 _ [.int (jn 0)] _ c_110_54 rfl ?_
    refine z_iret c_110_55 ?_
    exact ⟨rfl, mI_x H hK hS hX h118 hal hsb (sm_jm rfl) rfl, (sm_jm rfl)⟩
