/-! THE REFERENCE: search; printed by wip/whole/p77.py -/
theorem c_102_0 : jx_cd 102 0 = some (o_ald 0 1) := rfl
theorem c_102_1 : jx_cd 102 1 = some (o_getf 6 28) := rfl
theorem c_102_4 : jx_cd 102 4 = some (o_ifeq 13) := rfl
theorem c_102_7 : jx_cd 102 7 = some (o_ald 0 1) := rfl
theorem c_102_8 : jx_cd 102 8 = some (o_push (.int 1) 1) := rfl
theorem c_102_9 : jx_cd 102 9 = some (o_callv 6 74 1) := rfl
theorem c_102_12 : jx_cd 102 12 = some (o_iret) := rfl
theorem c_102_13 : jx_cd 102 13 = some (o_ald 0 1) := rfl
theorem c_102_14 : jx_cd 102 14 = some (o_push (.int 1) 1) := rfl
theorem c_102_15 : jx_cd 102 15 = some (o_callv 6 76 1) := rfl
theorem c_102_18 : jx_cd 102 18 = some (o_ifne 27) := rfl
theorem c_102_21 : jx_cd 102 21 = some (o_ald 0 1) := rfl
theorem c_102_22 : jx_cd 102 22 = some (o_push (.int 2) 1) := rfl
theorem c_102_23 : jx_cd 102 23 = some (o_callv 6 74 1) := rfl
theorem c_102_26 : jx_cd 102 26 = some (o_iret) := rfl
theorem c_102_27 : jx_cd 102 27 = some (o_ald 0 1) := rfl
theorem c_102_28 : jx_cd 102 28 = some (o_getf 6 4) := rfl
theorem c_102_31 : jx_cd 102 31 = some (o_push (.int 10) 2) := rfl
theorem c_102_33 : jx_cd 102 33 = some (o_ile 42) := rfl
theorem c_102_36 : jx_cd 102 36 = some (o_ald 0 1) := rfl
theorem c_102_37 : jx_cd 102 37 = some (o_push (.int 3) 1) := rfl
theorem c_102_38 : jx_cd 102 38 = some (o_callv 6 74 1) := rfl
theorem c_102_41 : jx_cd 102 41 = some (o_iret) := rfl
theorem c_102_42 : jx_cd 102 42 = some (o_ald 0 1) := rfl
theorem c_102_43 : jx_cd 102 43 = some (o_push (.int 0) 1) := rfl
theorem c_102_44 : jx_cd 102 44 = some (o_putf 6 0 jx_okI) := rfl
theorem c_102_47 : jx_cd 102 47 = some (o_ald 0 1) := rfl
theorem c_102_48 : jx_cd 102 48 = some (o_push (.int 0) 1) := rfl
theorem c_102_49 : jx_cd 102 49 = some (o_putf 6 1 jx_okI) := rfl
theorem c_102_52 : jx_cd 102 52 = some (o_ald 0 1) := rfl
theorem c_102_53 : jx_cd 102 53 = some (o_push (.int 0) 1) := rfl
theorem c_102_54 : jx_cd 102 54 = some (o_putf 6 38 jx_okI) := rfl
theorem c_102_57 : jx_cd 102 57 = some (o_push (.int 0) 1) := rfl
theorem c_102_58 : jx_cd 102 58 = some (o_ist 1 1) := rfl
theorem c_102_59 : jx_cd 102 59 = some (o_ild 1 1) := rfl
theorem c_102_60 : jx_cd 102 60 = some (o_ald 0 1) := rfl
theorem c_102_61 : jx_cd 102 61 = some (o_getf 6 16) := rfl
theorem c_102_64 : jx_cd 102 64 = some (o_ige 107) := rfl
theorem c_102_67 : jx_cd 102 67 = some (o_ald 0 1) := rfl
theorem c_102_68 : jx_cd 102 68 = some (o_ild 1 1) := rfl
theorem c_102_69 : jx_cd 102 69 = some (o_push (.int 0) 1) := rfl
theorem c_102_70 : jx_cd 102 70 = some (o_callv 6 93 2) := rfl
theorem c_102_73 : jx_cd 102 73 = some (o_ifeq 101) := rfl
theorem c_102_76 : jx_cd 102 76 = some (o_ald 0 1) := rfl
theorem c_102_77 : jx_cd 102 77 = some (o_getf 6 39) := rfl
theorem c_102_80 : jx_cd 102 80 = some (o_ald 0 1) := rfl
theorem c_102_81 : jx_cd 102 81 = some (o_getf 6 38) := rfl
theorem c_102_84 : jx_cd 102 84 = some (o_ald 0 1) := rfl
theorem c_102_85 : jx_cd 102 85 = some (o_getf 6 18) := rfl
theorem c_102_88 : jx_cd 102 88 = some (o_ild 1 1) := rfl
theorem c_102_89 : jx_cd 102 89 = some (o_iald) := rfl
theorem c_102_90 : jx_cd 102 90 = some (o_iast) := rfl
theorem c_102_91 : jx_cd 102 91 = some (o_ald 0 1) := rfl
theorem c_102_92 : jx_cd 102 92 = some (o_dup) := rfl
theorem c_102_93 : jx_cd 102 93 = some (o_getf 6 38) := rfl
theorem c_102_96 : jx_cd 102 96 = some (o_push (.int 1) 1) := rfl
theorem c_102_97 : jx_cd 102 97 = some (o_bin fun x y => x + y) := rfl
theorem c_102_98 : jx_cd 102 98 = some (o_putf 6 38 jx_okI) := rfl
theorem c_102_101 : jx_cd 102 101 = some (o_iinc 1 1) := rfl
theorem c_102_104 : jx_cd 102 104 = some (o_goto 59) := rfl
theorem c_102_107 : jx_cd 102 107 = some (o_ald 0 1) := rfl
theorem c_102_108 : jx_cd 102 108 = some (o_getf 6 38) := rfl
theorem c_102_111 : jx_cd 102 111 = some (o_iret) := rfl
theorem t_mse_l {d : Nat} {th ct li fl lg li2 ss : Nat} {dn dn2 : Bool} {tx : Nat → Nat} {ln at_ n : Nat} {gd : Bool} {A : Nat → MA} {bm bk : Nat → Nat} {oa : Nat → Option Nat} {ol : Nat → Nat} {ids szs : Nat → Nat} {E : Nat → MA} {al : Nat → Nat} {S : Nat → MA} {sb : Nat → Nat} (hn : n ≤ 10) (hct : ct ≤ 12) (hA : ∀ q, q < n → aL A q < 64 ∧ aE A q < 128 ∧ aH A q < 100 ∧ q3 (aQ A q)) (hrow : ∀ g, g < ct → szs g ≤ 10 ∧ ∀ k, k < szs g → okM (E (10 * g + k))) (hbm : bmS n bm) (hal : ∀ x, al x < 8) (hsb : ∀ x, sb x < 8) : ∀ {k i fd : Nat} {fnd : Nat → Nat} {M : jx_M}, i + k = ct → fd ≤ i → mRd M (th, ct, li, fl, dn, lg, li2, dn2, ss, fd) tx ln at_ n gd A bm bk oa ol → mKp M ids szs E al → mSt M S sb → mXs M → M.1 118 = .inl (0, 12, .inl (ja fnd)) → jZ (d + 4) 102 59 [some (.ref 92), some (.int (jn i))] [] M (jV (some (.int (jn (sp_hits (mPM false n A bm szs E al) ids k i (fd, fnd)).1))) fun M' => mI M' (th, ct, li, fl, dn, lg, li2, dn2, ss, (sp_hits (mPM false n A bm szs E al) ids k i (fd, fnd)).1) tx ln ids szs E al S sb ((sp_hits (mPM false n A bm szs E al) ids k i (fd, fnd)).2) ∧ sm 92 118 M M') := by
  intro k
  induction k with
  | zero =>
    intro i fd fnd M hik hfi H hK hS hX h118
    refine z_go 60 _ [.int (jn i)] _ c_102_59 rfl ?_
    refine z_go 61 _ [.ref 92, .int (jn i)] _ c_102_60 rfl ?_
    refine z_getf (v := .int (jn ct)) 64 c_102_61 rfl H.1 rfl ?_
    refine z_ige 107 67 c_102_64 rfl (by omega) (by omega) (fun hi => ?_) (fun hi => ?_)
    · omega
    · refine z_go 108 _ [.ref 92] _ c_102_107 rfl ?_
      refine z_getf (v := .int (jn fd)) 111 c_102_108 rfl H.1 rfl ?_
      refine z_iret c_102_111 ?_
      exact ⟨rfl, ⟨mSh_of H, hK, hS, hX, h118, hal, hsb⟩, sm_r _ _ M⟩
  | succ k ih =>
    intro i fd fnd M hik hfi H hK hS hX h118
    refine z_go 60 _ [.int (jn i)] _ c_102_59 rfl ?_
    refine z_go 61 _ [.ref 92, .int (jn i)] _ c_102_60 rfl ?_
    refine z_getf (v := .int (jn ct)) 64 c_102_61 rfl H.1 rfl ?_
    refine z_ige 107 67 c_102_64 rfl (by omega) (by omega) (fun hi => ?_) (fun hi => ?_)
    · obtain ⟨r1, r2⟩ := hrow i hi
      obtain ⟨⟨pu, hpu⟩, tk, htk⟩ := hX
      refine z_go 68 _ [.ref 92] _ c_102_67 rfl ?_
      refine z_go 69 _ [.int (jn i), .ref 92] _ c_102_68 rfl ?_
      refine z_go 70 _ [.int (jn 0), .int (jn i), .ref 92] _ c_102_69 rfl ?_
      refine z_callvV 73 6 93 2 92 c_102_70 rfl ⟨Nat.le_of_ble_eq_true rfl, Nat.le_of_ble_eq_true rfl⟩ rfl H.1 [.ref 92, .int (jn i), .int (jb false)] rfl rfl [some (.ref 92), some (.int (jn i)), some (.int (jb false)), none, none] rfl rfl (t_mcp (d := d) (m := i) (ex := false) hK H hpu hn (by omega) r1 hA r2 hbm hal) ?_
      intro M1 g1
      have H1 := mRd_fr H (M1 := M1) fun k a b => g1.1 k (by omega)
      have hK1 := mKp_fr hK (M1 := M1) fun k a b => g1.1 k (by omega)
      have hS1 := mSt_fr hS (M1 := M1) fun k a b => g1.1 k (by omega)
      have hX1 : mXs M1 := ⟨g1.2.2, tk, (g1.1 112 (by decide)).trans htk⟩
      have h1181 : M1.1 118 = .inl (0, 12, .inl (ja fnd)) := (g1.1 118 (by decide)).trans h118
      show jZ _ _ _ _ [.int (jb (mPM false n A bm szs E al i))] _ _
      refine z_ifeq 101 76 c_102_73 rfl jb_t (fun h1 => ?_) (fun h1 => ?_)
      · refine z_iinc 104 [some (.ref 92), some (.int (jn (i + 1)))] c_102_101 rfl rfl (jn_add _ _) rfl ?_
        refine z_go 59 _ [] _ c_102_104 rfl ?_
        have e1 : sp_hits (mPM false n A bm szs E al) ids (k + 1) i (fd, fnd) = sp_hits (mPM false n A bm szs E al) ids k (i + 1) (fd, fnd) := by rw [sp_hits, if_neg (by rw [h1]; decide)]
        rw [e1]
        exact (ih (i := i + 1) (by omega) (by omega) H1 hK1 hS1 hX1 h1181).mono fun r M2 q => ⟨q.1, q.2.1, (fP_sm g1).tr q.2.2⟩
      · have h2 : mPM false n A bm szs E al i = true := by cases hh : mPM false n A bm szs E al i <;> simp_all
        refine z_go 77 _ [.ref 92] _ c_102_76 rfl ?_
        refine z_getf (v := .ref 118) 80 c_102_77 rfl H1.1 rfl ?_
        refine z_go 81 _ [.ref 92, .ref 118] _ c_102_80 rfl ?_
        refine z_getf (v := .int (jn fd)) 84 c_102_81 rfl H1.1 rfl ?_
        refine z_go 85 _ [.ref 92, .int (jn fd), .ref 118] _ c_102_84 rfl ?_
        refine z_getf (v := .ref 104) 88 c_102_85 rfl H1.1 rfl ?_
        refine z_go 89 _ [.int (jn i), .ref 104, .int (jn fd), .ref 118] _ c_102_88 rfl ?_
        refine z_iald 90 c_102_89 rfl hK1.1 (Or.inl rfl) (by omega) (by omega) ?_
        show jZ _ _ _ _ ([.int (jn (ids i)), .int (jn fd), .ref 118]) _ _
        refine z_iast (M' := jm [(118, .inl (0, 12, .inl (ja (nu fnd fd (ids i)))))] M1) 91 c_102_90 rfl h1181 (by omega) (by omega) (by rw [ja_upd]; exact rfl) ?_
        refine z_go 92 _ [.ref 92] _ c_102_91 rfl ?_
        refine z_go 93 _ [.ref 92, .ref 92] _ c_102_92 rfl ?_
        refine z_getf (v := .int (jn fd)) 96 c_102_93 rfl H1.1 rfl ?_
        refine z_go 97 _ [.int (jn 1), .int (jn fd), .ref 92] _ c_102_96 rfl ?_
        refine z_go 98 _ [.int ((jn fd) + (jn 1)), .ref 92] _ c_102_97 rfl ?_
        refine z_v (jn_add _ _) ?_
        refine z_putf (M' := jm [(92, mO th ln at_ n gd ct li fl dn lg li2 dn2 ss (fd + 1)), (118, .inl (0, 12, .inl (ja (nu fnd fd (ids i)))))] M1) 101 c_102_98 rfl H1.1 (rfl) (Nat.le_of_ble_eq_true rfl) rfl ?_
        refine z_iinc 104 [some (.ref 92), some (.int (jn (i + 1)))] c_102_101 rfl rfl (jn_add _ _) rfl ?_
        refine z_go 59 _ [] _ c_102_104 rfl ?_
        have e1 : sp_hits (mPM false n A bm szs E al) ids (k + 1) i (fd, fnd) = sp_hits (mPM false n A bm szs E al) ids k (i + 1) (fd + 1, nu fnd fd (ids i)) := by rw [sp_hits, if_pos h2]
        rw [e1]
        have hw : ∀ k, k ≠ 92 → k ≠ 118 → (jm [(92, mO th ln at_ n gd ct li fl dn lg li2 dn2 ss (fd + 1)), (118, .inl (0, 12, .inl (ja (nu fnd fd (ids i)))))] M1).1 k = M1.1 k := fun k a b => (if_neg (by omega)).trans (if_neg (by omega))
        exact (ih (i := i + 1) (M := jm [(92, mO th ln at_ n gd ct li fl dn lg li2 dn2 ss (fd + 1)), (118, .inl (0, 12, .inl (ja (nu fnd fd (ids i)))))] M1) (by omega) (by omega) (mRd_w H1 rfl fun k a b => hw k (by omega) (by omega)) (mKp_fr hK1 fun k a b => hw k (by omega) (by omega)) (mSt_fr hS1 fun k a b => hw k (by omega) (by omega)) (mXs_fr hX1 fun k a b => hw k (by omega) (by omega)) rfl).mono fun r M2 q => ⟨q.1, q.2.1, (fP_sm g1).tr ((sm_jm rfl).tr q.2.2)⟩
    · omega
theorem t_mseaD {d : Nat} {th ct li fl lg li2 ss fd : Nat} {dn2 : Bool} {tx : Nat → Nat} {ln at_ n : Nat} {gd : Bool} {A : Nat → MA} {bm bk : Nat → Nat} {oa : Nat → Option Nat} {ol : Nat → Nat} {ids szs : Nat → Nat} {E : Nat → MA} {al : Nat → Nat} {S : Nat → MA} {sb fnd : Nat → Nat} {M : jx_M} (H : mRd M (th, ct, li, fl, true, lg, li2, dn2, ss, fd) tx ln at_ n gd A bm bk oa ol) (hK : mKp M ids szs E al) (hS : mSt M S sb) (hX : mXs M) (h118 : M.1 118 = .inl (0, 12, .inl (ja fnd))) (hal : ∀ x, al x < 8) (hsb : ∀ x, sb x < 8) (hl : ln ≤ 40) (ht : ∀ j, tx j < 127) : jZ (d + 8) 102 0 [some (.ref 92), none] [] M (jV (some (.int (jn 0))) fun M' => mI M' (1, ct, li, fl, true, lg, li2, dn2, ss, fd) tx ln ids szs E al S sb fnd ∧ sm 92 118 M M') := by
  have hI0 : mI M (th, ct, li, fl, true, lg, li2, dn2, ss, fd) tx ln ids szs E al S sb fnd := ⟨mSh_of H, hK, hS, hX, h118, hal, hsb⟩
  refine z_go 1 _ [.ref 92] _ c_102_0 rfl ?_
  refine z_getf (v := .int (jb true)) 4 c_102_1 rfl H.1 rfl ?_
  refine z_ifeq 13 7 c_102_4 rfl jb_t (fun h => absurd h (by decide)) (fun _ => ?_)
  refine z_go 8 _ [.ref 92] _ c_102_7 rfl ?_
  refine z_go 9 _ [.int (jn 1), .ref 92] _ c_102_8 rfl ?_
  refine z_callvV 12 6 74 1 92 c_102_9 rfl ⟨Nat.le_of_ble_eq_true rfl, Nat.le_of_ble_eq_true rfl⟩ rfl H.1 [.ref 92, .int (jn 1)] rfl rfl [some (.ref 92), some (.int (jn 1))] rfl rfl (t_mraise (d := d + 7) (c := 1) hI0) ?_
  intro M1 ⟨g1, g2⟩
  show jZ _ _ _ _ [.int (jn 0)] _ _
  refine z_iret c_102_12 ?_
  exact ⟨rfl, g1, g2⟩
theorem t_msea1 {d : Nat} {th ct li fl lg li2 ss fd : Nat} {dn2 : Bool} {tx : Nat → Nat} {ln at_ n : Nat} {gd : Bool} {A : Nat → MA} {bm bk : Nat → Nat} {oa : Nat → Option Nat} {ol : Nat → Nat} {ids szs : Nat → Nat} {E : Nat → MA} {al : Nat → Nat} {S : Nat → MA} {sb fnd : Nat → Nat} {M : jx_M} (H : mRd M (th, ct, li, fl, false, lg, li2, dn2, ss, fd) tx ln at_ n gd A bm bk oa ol) (hK : mKp M ids szs E al) (hS : mSt M S sb) (hX : mXs M) (h118 : M.1 118 = .inl (0, 12, .inl (ja fnd))) (hal : ∀ x, al x < 8) (hsb : ∀ x, sb x < 8) (hl : ln ≤ 40) (ht : ∀ j, tx j < 127) (hm : sm_rd tx ln true 40 none 0 0 A bm (sp_none oa 10) ol bk 0 = none) : jZ (d + 8) 102 0 [some (.ref 92), none] [] M (jV (some (.int (jn 0))) fun M' => mI M' (2, ct, li, fl, false, lg, li2, dn2, ss, fd) tx ln ids szs E al S sb fnd ∧ sm 92 118 M M') := by
  have hI0 : mI M (th, ct, li, fl, false, lg, li2, dn2, ss, fd) tx ln ids szs E al S sb fnd := ⟨mSh_of H, hK, hS, hX, h118, hal, hsb⟩
  refine z_go 1 _ [.ref 92] _ c_102_0 rfl ?_
  refine z_getf (v := .int (jb false)) 4 c_102_1 rfl H.1 rfl ?_
  refine z_ifeq 13 7 c_102_4 rfl jb_t (fun _ => ?_) (fun h => absurd rfl h)
  refine z_go 14 _ [.ref 92] _ c_102_13 rfl ?_
  refine z_go 15 _ [.int (jn 1), .ref 92] _ c_102_14 rfl ?_
  have hrd := t_mrd (d := d + 3) (pt := true) H hl ht
  rw [hm] at hrd
  refine z_callvV 18 6 76 1 92 c_102_15 rfl ⟨Nat.le_of_ble_eq_true rfl, Nat.le_of_ble_eq_true rfl⟩ rfl H.1 [.ref 92, .int (jb true)] rfl rfl [some (.ref 92), some (.int (jb true)), none, none, none, none, none, none] rfl rfl (hrd) ?_
  intro M1 ⟨g1, g2⟩
  have g1a : mI M1 (th, ct, li, fl, false, lg, li2, dn2, ss, fd) tx ln ids szs E al S sb fnd := mSh_sm g1 hK hS hX h118 hal hsb g2
  obtain ⟨at1, n1, gd1, A1, bm1, bk1, oa1, ol1, H1⟩ := g1
  show jZ _ _ _ _ [.int (jb false)] _ _
  refine z_ifne 27 21 c_102_18 rfl jb_t (fun _ => ?_) (fun h => absurd rfl h)
  refine z_go 22 _ [.ref 92] _ c_102_21 rfl ?_
  refine z_go 23 _ [.int (jn 2), .ref 92] _ c_102_22 rfl ?_
  refine z_callvV 26 6 74 1 92 c_102_23 rfl ⟨Nat.le_of_ble_eq_true rfl, Nat.le_of_ble_eq_true rfl⟩ rfl H1.1 [.ref 92, .int (jn 2)] rfl rfl [some (.ref 92), some (.int (jn 2))] rfl rfl (t_mraise (d := d + 7) (c := 2) g1a) ?_
  intro M2 ⟨g3, g4⟩
  show jZ _ _ _ _ [.int (jn 0)] _ _
  refine z_iret c_102_26 ?_
  exact ⟨rfl, g3, (g2.wd (by decide) (by decide)).tr g4⟩
theorem t_msea2 {d : Nat} {th ct li fl lg li2 ss fd : Nat} {dn2 : Bool} {tx : Nat → Nat} {ln at_ n : Nat} {gd : Bool} {A : Nat → MA} {bm bk : Nat → Nat} {oa : Nat → Option Nat} {ol : Nat → Nat} {ids szs : Nat → Nat} {E : Nat → MA} {al : Nat → Nat} {S : Nat → MA} {sb fnd : Nat → Nat} {M : jx_M} (H : mRd M (th, ct, li, fl, false, lg, li2, dn2, ss, fd) tx ln at_ n gd A bm bk oa ol) (hK : mKp M ids szs E al) (hS : mSt M S sb) (hX : mXs M) (h118 : M.1 118 = .inl (0, 12, .inl (ja fnd))) (hal : ∀ x, al x < 8) (hsb : ∀ x, sb x < 8) (hl : ln ≤ 40) (ht : ∀ j, tx j < 127) {n2 : Nat} {A2 : Nat → MA} {bm2 : Nat → Nat} (hm : sm_rd tx ln true 40 none 0 0 A bm (sp_none oa 10) ol bk 0 = some (n2, A2, bm2)) (hn : 10 < n2) : jZ (d + 8) 102 0 [some (.ref 92), none] [] M (jV (some (.int (jn 0))) fun M' => mI M' (3, ct, li, fl, false, lg, li2, dn2, ss, fd) tx ln ids szs E al S sb fnd ∧ sm 92 118 M M') := by
  have hI0 : mI M (th, ct, li, fl, false, lg, li2, dn2, ss, fd) tx ln ids szs E al S sb fnd := ⟨mSh_of H, hK, hS, hX, h118, hal, hsb⟩
  refine z_go 1 _ [.ref 92] _ c_102_0 rfl ?_
  refine z_getf (v := .int (jb false)) 4 c_102_1 rfl H.1 rfl ?_
  refine z_ifeq 13 7 c_102_4 rfl jb_t (fun _ => ?_) (fun h => absurd rfl h)
  refine z_go 14 _ [.ref 92] _ c_102_13 rfl ?_
  refine z_go 15 _ [.int (jn 1), .ref 92] _ c_102_14 rfl ?_
  have hrd := t_mrd (d := d + 3) (pt := true) H hl ht
  rw [hm] at hrd
  obtain ⟨h40, hok, hk5, hbs⟩ := sm_rd_ok hl hm
  refine z_callvV 18 6 76 1 92 c_102_15 rfl ⟨Nat.le_of_ble_eq_true rfl, Nat.le_of_ble_eq_true rfl⟩ rfl H.1 [.ref 92, .int (jb true)] rfl rfl [some (.ref 92), some (.int (jb true)), none, none, none, none, none, none] rfl rfl (hrd) ?_
  intro M1 ⟨⟨at1, bk1, oa1, ol1, H1⟩, g2⟩
  have g1a : mI M1 (th, ct, li, fl, false, lg, li2, dn2, ss, fd) tx ln ids szs E al S sb fnd := mSh_sm (mSh_of H1) hK hS hX h118 hal hsb g2
  show jZ _ _ _ _ [.int (jb true)] _ _
  refine z_ifne 27 21 c_102_18 rfl jb_t (fun h => absurd h (by decide)) (fun _ => ?_)
  refine z_go 28 _ [.ref 92] _ c_102_27 rfl ?_
  refine z_getf (v := .int (jn n2)) 31 c_102_28 rfl H1.1 rfl ?_
  refine z_go 33 _ [.int (jn 10), .int (jn n2)] _ c_102_31 rfl ?_
  refine z_ile 42 36 c_102_33 rfl (by omega) (by omega) (fun h10 => ?_) (fun h10 => ?_)
  · refine z_go 37 _ [.ref 92] _ c_102_36 rfl ?_
    refine z_go 38 _ [.int (jn 3), .ref 92] _ c_102_37 rfl ?_
    refine z_callvV 41 6 74 1 92 c_102_38 rfl ⟨Nat.le_of_ble_eq_true rfl, Nat.le_of_ble_eq_true rfl⟩ rfl H1.1 [.ref 92, .int (jn 3)] rfl rfl [some (.ref 92), some (.int (jn 3))] rfl rfl (t_mraise (d := d + 7) (c := 3) g1a) ?_
    intro M2 ⟨g3, g4⟩
    show jZ _ _ _ _ [.int (jn 0)] _ _
    refine z_iret c_102_41 ?_
    exact ⟨rfl, g3, (g2.wd (by decide) (by decide)).tr g4⟩
  · omega
theorem t_msea0 {d : Nat} {th ct li fl lg li2 ss fd : Nat} {dn2 : Bool} {tx : Nat → Nat} {ln at_ n : Nat} {gd : Bool} {A : Nat → MA} {bm bk : Nat → Nat} {oa : Nat → Option Nat} {ol : Nat → Nat} {ids szs : Nat → Nat} {E : Nat → MA} {al : Nat → Nat} {S : Nat → MA} {sb fnd : Nat → Nat} {M : jx_M} (H : mRd M (th, ct, li, fl, false, lg, li2, dn2, ss, fd) tx ln at_ n gd A bm bk oa ol) (hK : mKp M ids szs E al) (hS : mSt M S sb) (hX : mXs M) (h118 : M.1 118 = .inl (0, 12, .inl (ja fnd))) (hal : ∀ x, al x < 8) (hsb : ∀ x, sb x < 8) (hl : ln ≤ 40) (ht : ∀ j, tx j < 127) {n2 : Nat} {A2 : Nat → MA} {bm2 : Nat → Nat} (hm : sm_rd tx ln true 40 none 0 0 A bm (sp_none oa 10) ol bk 0 = some (n2, A2, bm2)) (hn : n2 ≤ 10) (hct : ct ≤ 12) (hrow : ∀ g, g < ct → szs g ≤ 10 ∧ ∀ k, k < szs g → okM (E (10 * g + k))) : jZ (d + 8) 102 0 [some (.ref 92), none] [] M (jV (some (.int (jn (sp_hits (mPM false n2 A2 bm2 szs E al) ids ct 0 (0, fnd)).1))) fun M' => mI M' (0, ct, li, fl, false, lg, li2, dn2, ss, (sp_hits (mPM false n2 A2 bm2 szs E al) ids ct 0 (0, fnd)).1) tx 0 ids szs E al S sb ((sp_hits (mPM false n2 A2 bm2 szs E al) ids ct 0 (0, fnd)).2) ∧ sm 92 118 M M') := by
  have hI0 : mI M (th, ct, li, fl, false, lg, li2, dn2, ss, fd) tx ln ids szs E al S sb fnd := ⟨mSh_of H, hK, hS, hX, h118, hal, hsb⟩
  refine z_go 1 _ [.ref 92] _ c_102_0 rfl ?_
  refine z_getf (v := .int (jb false)) 4 c_102_1 rfl H.1 rfl ?_
  refine z_ifeq 13 7 c_102_4 rfl jb_t (fun _ => ?_) (fun h => absurd rfl h)
  refine z_go 14 _ [.ref 92] _ c_102_13 rfl ?_
  refine z_go 15 _ [.int (jn 1), .ref 92] _ c_102_14 rfl ?_
  have hrd := t_mrd (d := d + 3) (pt := true) H hl ht
  rw [hm] at hrd
  obtain ⟨h40, hok, hk5, hbs⟩ := sm_rd_ok hl hm
  refine z_callvV 18 6 76 1 92 c_102_15 rfl ⟨Nat.le_of_ble_eq_true rfl, Nat.le_of_ble_eq_true rfl⟩ rfl H.1 [.ref 92, .int (jb true)] rfl rfl [some (.ref 92), some (.int (jb true)), none, none, none, none, none, none] rfl rfl (hrd) ?_
  intro M1 ⟨⟨at1, bk1, oa1, ol1, H1⟩, g2⟩
  have g1a : mI M1 (th, ct, li, fl, false, lg, li2, dn2, ss, fd) tx ln ids szs E al S sb fnd := mSh_sm (mSh_of H1) hK hS hX h118 hal hsb g2
  show jZ _ _ _ _ [.int (jb true)] _ _
  refine z_ifne 27 21 c_102_18 rfl jb_t (fun h => absurd h (by decide)) (fun _ => ?_)
  refine z_go 28 _ [.ref 92] _ c_102_27 rfl ?_
  refine z_getf (v := .int (jn n2)) 31 c_102_28 rfl H1.1 rfl ?_
  refine z_go 33 _ [.int (jn 10), .int (jn n2)] _ c_102_31 rfl ?_
  refine z_ile 42 36 c_102_33 rfl (by omega) (by omega) (fun h10 => ?_) (fun h10 => ?_)
  · omega
  · refine z_go 43 _ [.ref 92] _ c_102_42 rfl ?_
    refine z_go 44 _ [.int (jn 0), .ref 92] _ c_102_43 rfl ?_
    refine z_putf (M' := jm [(92, mO 0 ln at1 n2 true ct li fl false lg li2 dn2 ss fd)] M1) 47 c_102_44 rfl H1.1 (rfl) (Nat.le_of_ble_eq_true rfl) rfl ?_
    refine z_go 48 _ [.ref 92] _ c_102_47 rfl ?_
    refine z_go 49 _ [.int (jn 0), .ref 92] _ c_102_48 rfl ?_
    refine z_putf (M' := jm [(92, mO 0 0 at1 n2 true ct li fl false lg li2 dn2 ss fd)] M1) 52 c_102_49 rfl rfl (rfl) (Nat.le_of_ble_eq_true rfl) (jm_w rfl) ?_
    refine z_go 53 _ [.ref 92] _ c_102_52 rfl ?_
    refine z_go 54 _ [.int (jn 0), .ref 92] _ c_102_53 rfl ?_
    refine z_putf (M' := jm [(92, mO 0 0 at1 n2 true ct li fl false lg li2 dn2 ss 0)] M1) 57 c_102_54 rfl rfl (rfl) (Nat.le_of_ble_eq_true rfl) (jm_w rfl) ?_
    refine z_go 58 _ [.int (jn 0)] _ c_102_57 rfl ?_
    refine z_go 59 [some (.ref 92), some (.int (jn 0))] [] _ c_102_58 rfl ?_
    obtain ⟨-, hK1, hS1, hX1, h1181, -, -⟩ := g1a
    exact (t_mse_l (d := d + 4) (k := ct) (i := 0) (fd := 0) (M := jm [(92, mO 0 0 at1 n2 true ct li fl false lg li2 dn2 ss 0)] M1) hn hct (fun q hq => okA_4 (hok q hq)) hrow hbs hal hsb (by omega) (by omega) (mRd_w (w' := (0, ct, li, fl, false, lg, li2, dn2, ss, 0)) (ln' := 0) H1 rfl fun k a b => if_neg (by omega)) (mKp_fr hK1 fun k a b => if_neg (by omega)) (mSt_fr hS1 fun k a b => if_neg (by omega)) (mXs_fr hX1 fun k a b => if_neg (by omega)) h1181).mono fun r M2 q => ⟨q.1, q.2.1, ((g2.wd (by decide) (by decide)).tr (sm_jm rfl)).tr q.2.2⟩
